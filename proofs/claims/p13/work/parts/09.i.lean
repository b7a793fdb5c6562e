
set_option maxHeartbeats 4000000 in
set_option maxRecDepth 100000 in
theorem S_X7_sumAt_3_v0 (l : Launch) (D : va_G) (K : Nat → ClassId) (a : Nat → Nat) (G : gS) (hI : xI G) (sz : Nat) : Kr l yX7_sumAt wsX7_sumAt 1 40 0 0 D [.ref (a 3), .int 0] (xW K a G) (tK K) sz (fun (_ : Unit) => True) (fun (_ : Unit) => a 14) (fun (_ : Unit) => (xW K a G)) (fun _ => (tK K)) := by
  unfold Kr
  refine g_ofW (cc := cX7_sumAt) (lv := [(0, .ref (a 3)), (1, .int 0)]) (by decide) rfl (Nat.le_of_ble_eq_true rfl) rfl ?_
  intro p e s m args below meth c A Q hA hQ F hr hnm
  have hts := F.2.2.2.2.1
  have w_0 : (Cond.fieldLink RX7 18 "QuietCut$Shop" "force" "LQuietCut$Formula;").before args s = true := hts _ (List.mem_of_getElem? (i := 1) rfl)
  have i_X7 : ∀ w ∈ u_ws RX7 TX7 4, w ∈ wsX7_sumAt := fun _ h => List.mem_cons_of_mem _ (List.mem_append_right _ h)
  refine g_iload_n F 1 dX7_sumAt_0 rfl rfl ?_
  refine v_if_ne F 9 dX7_sumAt_1 (by decide) 0 rfl (fun c1 => absurd c1 (by decide)) (fun c1 => ?_)
  refine g_aload_n F 0 dX7_sumAt_4 rfl rfl ?_
  refine xg_3_1 F i_X7 w_0 dX7_sumAt_5 ?_
  exact u_aret F hA hQ hr (Or.inl ⟨_, rfl⟩) () (trivial) rfl rfl rfl dX7_sumAt_8

theorem dX8_closeClause_0 : decode cX8_closeClause 0 = .ok (.aload_n 0, 1) := by decide +kernel
theorem dX8_closeClause_1 : decode cX8_closeClause 1 = .ok (.iconst (-1), 1) := by decide +kernel
theorem dX8_closeClause_2 : decode cX8_closeClause 2 = .ok (.putfield 31, 3) := by decide +kernel
theorem dX8_closeClause_5 : decode cX8_closeClause 5 = .ok (.aload_n 0, 1) := by decide +kernel
theorem dX8_closeClause_6 : decode cX8_closeClause 6 = .ok (.dup, 1) := by decide +kernel
theorem dX8_closeClause_7 : decode cX8_closeClause 7 = .ok (.getfield 24, 3) := by decide +kernel
theorem dX8_closeClause_10 : decode cX8_closeClause 10 = .ok (.iconst 1, 1) := by decide +kernel
theorem dX8_closeClause_11 : decode cX8_closeClause 11 = .ok (.iadd, 1) := by decide +kernel
theorem dX8_closeClause_12 : decode cX8_closeClause 12 = .ok (.putfield 24, 3) := by decide +kernel
theorem dX8_closeClause_15 : decode cX8_closeClause 15 = .ok (.return_, 1) := by decide +kernel
set_option maxHeartbeats 4000000 in
set_option maxRecDepth 100000 in
theorem S_X8_closeClause (l : Launch) (D : va_G) (K : Nat → ClassId) (a : Nat → Nat) (G : gS) (ck : ((G 4 2).toInt ≤ 1000)) (hI : xI G) (sz : Nat) : Kv l yX8_closeClause wsX8_closeClause 1 40 0 0 D [.ref (a 4)] (xW K a G) (tK K) sz (fun (G' : gS) => (xI G') ∧ (gu_un xcd [403, 405] G G') ∧ (((G' 4 4).toInt = -1)) ∧ (((G' 4 2).toInt = (G 4 2).toInt + 1))) (fun (G' : gS) => (xW K a G')) (fun _ => (tK K)) := by
  unfold Kv
  refine g_ofW (cc := cX8_closeClause) (lv := [(0, .ref (a 4))]) (by decide) rfl (Nat.le_of_ble_eq_true rfl) rfl ?_
  intro p e s m args below meth c A Q hA hQ F hr hnm
  have hts := F.2.2.2.2.1
  have w_0 : (Cond.fieldLink RX8 31 "QuietCut$ShopReader" "open" "I").before args s = true := hts _ (List.mem_of_getElem? (i := 1) rfl)
  have i_X8 : ∀ w ∈ u_ws RX8 TX8 7, w ∈ wsX8_closeClause := fun _ h => List.mem_cons_of_mem _ (List.mem_append_right _ h)
  have w_1 : (Cond.fieldLink RX8 24 "QuietCut$ShopReader" "clauses" "I").before args s = true := hts _ (List.mem_of_getElem? (i := 2) rfl)
  have b1 : (0 : Int) ≤ (G 4 2).toInt ∧ (G 4 2).toInt ≤ 1001 := hI 4 2
  refine g_aload_n F 0 dX8_closeClause_0 rfl rfl ?_
  refine g_iconst F (-1) dX8_closeClause_1 (by decide) ?_
  refine xp_4_4 F i_X8 w_0 dX8_closeClause_2 ?_
  refine g_aload_n F 0 dX8_closeClause_5 rfl rfl ?_
  refine g_dup F dX8_closeClause_6 rfl ?_
  refine xg_4_2 F i_X8 w_1 dX8_closeClause_7 (G 4 2) (rfl) ?_
  refine g_iconst F 1 dX8_closeClause_10 (by decide) ?_
  refine u_iadd F dX8_closeClause_11 (G 4 2).toInt 1 rfl rfl (by omega) (by omega) (fun y2 ey2 => ?_)
  refine xp_4_2 F i_X8 w_1 dX8_closeClause_12 ?_
  exact u_vret F hA hQ hr (gu_up (gu_up G 4 4 (-1)) 4 2 y2) (⟨(gu_I.up (j := 4) (k := 2) (v := y2) (gu_I.up (j := 4) (k := 4) (v := (-1)) hI (show ((-1) : Int) ≤ ((-1) : Int32).toInt by decide) (show ((-1) : Int32).toInt ≤ 12 by decide)) (show (0 : Int) ≤ Int32.toInt y2 by omega) (show Int32.toInt y2 ≤ 1001 by omega)), (gu_un.up (j := 4) (k := 2) (v := y2) (gu_un.up (j := 4) (k := 4) (v := (-1)) gu_un.rf (show (405 : Nat) ∈ ([403, 405] : List Nat) by decide)) (show (403 : Nat) ∈ ([403, 405] : List Nat) by decide)), (by show (((gu_up (gu_up G 4 4 (-1)) 4 2 y2) 4 4).toInt = -1); have e9_4_4 : (gu_up (gu_up G 4 4 (-1)) 4 2 y2) 4 4 = (-1) := rfl; (try simp only [e9_4_4, true_and, and_true]) <;> (first | omega | (simp only [Int32.reduceToInt, true_and, and_true, ne_eq, not_true_eq_false, false_and, or_false, false_or, true_or, or_true, false_implies] <;> omega))), (by show (((gu_up (gu_up G 4 4 (-1)) 4 2 y2) 4 2).toInt = (G 4 2).toInt + 1); have e9_4_2 : (gu_up (gu_up G 4 4 (-1)) 4 2 y2) 4 2 = y2 := rfl; (try simp only [e9_4_2, true_and, and_true]) <;> (first | omega | (simp only [Int32.reduceToInt, true_and, and_true, ne_eq, not_true_eq_false, false_and, or_false, false_or, true_or, or_true, false_implies] <;> omega)))⟩) rfl rfl dX8_closeClause_15

theorem dX8_takeOfSum_0 : decode cX8_takeOfSum 0 = .ok (.aload_n 0, 1) := by decide +kernel
theorem dX8_takeOfSum_1 : decode cX8_takeOfSum 1 = .ok (.getfield 15, 3) := by decide +kernel
theorem dX8_takeOfSum_4 : decode cX8_takeOfSum 4 = .ok (.aload_n 1, 1) := by decide +kernel
theorem dX8_takeOfSum_5 : decode cX8_takeOfSum 5 = .ok (.getfield 80, 3) := by decide +kernel
theorem dX8_takeOfSum_8 : decode cX8_takeOfSum 8 = .ok (.invokevirtual 83, 3) := by decide +kernel
theorem dX8_takeOfSum_11 : decode cX8_takeOfSum 11 = .ok (.astore_n 2, 1) := by decide +kernel
theorem dX8_takeOfSum_12 : decode cX8_takeOfSum 12 = .ok (.aload_n 0, 1) := by decide +kernel
theorem dX8_takeOfSum_13 : decode cX8_takeOfSum 13 = .ok (.getfield 9, 3) := by decide +kernel
theorem dX8_takeOfSum_16 : decode cX8_takeOfSum 16 = .ok (.bipush 59, 2) := by decide +kernel
theorem dX8_takeOfSum_18 : decode cX8_takeOfSum 18 = .ok (.invokevirtual 92, 3) := by decide +kernel
theorem dX8_takeOfSum_21 : decode cX8_takeOfSum 21 = .ok (.ifCond .eq 20, 3) := by decide +kernel
theorem dX8_takeOfSum_24 : decode cX8_takeOfSum 24 = .ok (.aload_n 2, 1) := by decide +kernel
theorem dX8_takeOfSum_25 : decode cX8_takeOfSum 25 = .ok (.invokevirtual 96, 3) := by decide +kernel
theorem dX8_takeOfSum_28 : decode cX8_takeOfSum 28 = .ok (.ifCond .eq 13, 3) := by decide +kernel
theorem dX8_takeOfSum_31 : decode cX8_takeOfSum 31 = .ok (.aload_n 2, 1) := by decide +kernel
theorem dX8_takeOfSum_32 : decode cX8_takeOfSum 32 = .ok (.invokevirtual 99, 3) := by decide +kernel
theorem dX8_takeOfSum_35 : decode cX8_takeOfSum 35 = .ok (.aload_n 0, 1) := by decide +kernel
theorem dX8_takeOfSum_36 : decode cX8_takeOfSum 36 = .ok (.invokevirtual 102, 3) := by decide +kernel
theorem dX8_takeOfSum_39 : decode cX8_takeOfSum 39 = .ok (.iconst 0, 1) := by decide +kernel
theorem dX8_takeOfSum_40 : decode cX8_takeOfSum 40 = .ok (.ireturn, 1) := by decide +kernel
theorem dX8_takeOfSum_41 : decode cX8_takeOfSum 41 = .ok (.aload_n 2, 1) := by decide +kernel
theorem dX8_takeOfSum_42 : decode cX8_takeOfSum 42 = .ok (.aload_n 0, 1) := by decide +kernel
theorem dX8_takeOfSum_43 : decode cX8_takeOfSum 43 = .ok (.getfield 9, 3) := by decide +kernel
theorem dX8_takeOfSum_46 : decode cX8_takeOfSum 46 = .ok (.aload_n 1, 1) := by decide +kernel
theorem dX8_takeOfSum_47 : decode cX8_takeOfSum 47 = .ok (.getfield 105, 3) := by decide +kernel
theorem dX8_takeOfSum_50 : decode cX8_takeOfSum 50 = .ok (.invokevirtual 108, 3) := by decide +kernel
theorem dX8_takeOfSum_53 : decode cX8_takeOfSum 53 = .ok (.ireturn, 1) := by decide +kernel
set_option maxRecDepth 20000 in
theorem ggX8_takeOfSum_X10_isSign : GoodIn wsX8_takeOfSum wsX10_isSign := goodIn_r _ [17, 18, 19, 185, 186, 187, 188, 189, 190] rfl (by decide +kernel)
set_option maxRecDepth 20000 in
theorem gX8_takeOfSum_X10_isSign : GoodIn wsX8_takeOfSum (wsV RX8 92 RX10 yX10_isSign wsX10_isSign) := goodIn_app (goodIn_of _ (by decide +kernel)) ggX8_takeOfSum_X10_isSign
set_option maxRecDepth 20000 in
theorem ggX8_takeOfSum_X3_finish : GoodIn wsX8_takeOfSum wsX3_finish := goodIn_r _ [30, 31, 32, 33, 23, 34, 35, 36, 37, 38, 39, 40, 41, 42, 43, 44, 45, 46, 47, 48, 191, 192, 193, 194, 195, 196, 197, 198, 199] rfl (by decide +kernel)
set_option maxRecDepth 20000 in
theorem gX8_takeOfSum_X3_finish : GoodIn wsX8_takeOfSum (wsV RX8 99 RX3 yX3_finish wsX3_finish) := goodIn_app (goodIn_of _ (by decide +kernel)) ggX8_takeOfSum_X3_finish
set_option maxRecDepth 20000 in
theorem ggX8_takeOfSum_X3_mayEnd : GoodIn wsX8_takeOfSum wsX3_mayEnd := goodIn_r _ [24, 25, 26, 191, 192, 193, 194, 195, 196, 197, 198, 199] rfl (by decide +kernel)
set_option maxRecDepth 20000 in
theorem gX8_takeOfSum_X3_mayEnd : GoodIn wsX8_takeOfSum (wsV RX8 96 RX3 yX3_mayEnd wsX3_mayEnd) := goodIn_app (goodIn_of _ (by decide +kernel)) ggX8_takeOfSum_X3_mayEnd
set_option maxRecDepth 20000 in
theorem ggX8_takeOfSum_X3_takeToken : GoodIn wsX8_takeOfSum wsX3_takeToken := goodIn_r _ [59, 25, 60, 61, 62, 63, 64, 23, 65, 26, 35, 66, 67, 14, 15, 16, 17, 18, 19, 31, 32, 33, 34, 36, 37, 38, 39, 40, 41, 42, 43, 44, 45, 46, 47, 48, 68, 69, 70, 71, 72, 73, 74, 75, 76, 77, 78, 79, 80, 81, 82, 83, 84, 85, 86, 87, 88, 89, 90, 91, 92, 93, 94, 95, 96, 97, 98, 99, 100, 101, 102, 103, 104, 105, 106, 107, 108, 109, 110, 111, 112, 113, 114, 115, 116, 117, 118, 119, 120, 121, 122, 123, 124, 125, 126, 127, 128, 129, 130, 131, 132, 133, 134, 135, 136, 137, 138, 139, 140, 141, 142, 143, 144, 145, 146, 147, 148, 149, 150, 151, 152, 153, 154, 155, 156, 157, 158, 159, 160, 161, 162, 163, 164, 165, 166, 167, 168, 169, 170, 171, 172, 173, 191, 192, 193, 194, 195, 196, 197, 198, 199, 185, 186, 187, 188, 189, 190] rfl (by decide +kernel)
set_option maxRecDepth 20000 in
theorem gX8_takeOfSum_X3_takeToken : GoodIn wsX8_takeOfSum (wsV RX8 108 RX3 yX3_takeToken wsX3_takeToken) := goodIn_app (goodIn_of _ (by decide +kernel)) ggX8_takeOfSum_X3_takeToken
set_option maxRecDepth 20000 in
theorem ggX8_takeOfSum_X7_sumAt : GoodIn wsX8_takeOfSum wsX7_sumAt := goodIn_r _ [9, 10, 11, 12, 181, 182, 183, 184] rfl (by decide +kernel)
set_option maxRecDepth 20000 in
theorem gX8_takeOfSum_X7_sumAt : GoodIn wsX8_takeOfSum (wsV RX8 83 RX7 yX7_sumAt wsX7_sumAt) := goodIn_app (goodIn_of _ (by decide +kernel)) ggX8_takeOfSum_X7_sumAt
set_option maxRecDepth 20000 in
theorem ggX8_takeOfSum_X8_closeClause : GoodIn wsX8_takeOfSum wsX8_closeClause := goodIn_r _ [53, 54, 55, 174, 175, 176, 177, 178, 179, 180] rfl (by decide +kernel)
set_option maxRecDepth 20000 in
theorem gX8_takeOfSum_X8_closeClause : GoodIn wsX8_takeOfSum (wsV RX8 102 RX8 yX8_closeClause wsX8_closeClause) := goodIn_app (goodIn_of _ (by decide +kernel)) ggX8_takeOfSum_X8_closeClause
set_option maxHeartbeats 4000000 in
set_option maxRecDepth 100000 in
theorem S_X8_takeOfSum_c10 (l : Launch) (D : va_G) (K : Nat → ClassId) (a : Nat → Nat) (G : gS) (zf : Nat → Nat) (f3 : xF3 G) (c4 : ((G 4 4).toInt = 10)) (n3 : xN3 G) (vl : ((G 1 3).toInt ≠ 1 ∨ (0 ≤ (G 1 5).toInt ∧ (G 1 5).toInt ≤ 255))) (ck : ((G 4 2).toInt ≤ 1000)) (hI : xI G) (sz : Nat) : KiZ (xZ zf) l yX8_takeOfSum wsX8_takeOfSum 6 154 D [.ref (a 4), .ref (zf 20)] (xW K a G) (tK K) sz (fun (r : Int32) (G' : gS) => (xI G') ∧ (gu_un xcd [403, 405, 1402, 1405, 1406, 1407, 1408, 1409, 2900, 3100] G G') ∧ (0 ≤ r.toInt ∧ r.toInt ≤ 4) ∧ (xF3 G') ∧ ((((G' 4 4).toInt = -1 ∨ (G' 4 4).toInt = (G 4 4).toInt) ∧ (G' 4 5).toInt = (G 4 5).toInt)) ∧ (xN3 G') ∧ (((G' 4 2).toInt ≤ (G 4 2).toInt + 1)) ∧ ((∀ (ts : List hTk) (pl ci : Int), xH (((G 1 3).toInt, pl, (G 1 5).toInt, ci) :: ts) G = if r.toInt = 0 then xH ts G' else hBad r.toInt pl)) ∧ ((r.toInt ≠ 0 ∨ (G 1 3).toInt ≠ 0))) (fun (G' : gS) => (xW K a G')) := by
  unfold KiZ
  refine gz_ofW (cc := cX8_takeOfSum) (lv := [(0, .ref (a 4)), (1, .ref (zf 20))]) (by decide) rfl (Nat.le_of_ble_eq_true rfl) rfl ?_
  intro p e s m args below meth c A Q hA hQ hZ F hr hnm
  have hts := F.2.2.2.2.1
  have w_0 : (Cond.fieldLink RX8 15 "QuietCut$ShopReader" "target" "LQuietCut$Shop;").before args s = true := hts _ (List.mem_of_getElem? (i := 1) rfl)
  have i_X8 : ∀ w ∈ u_ws RX8 TX8 7, w ∈ wsX8_takeOfSum := fun _ h => List.mem_cons_of_mem _ (List.mem_append_left _ (List.mem_append_left _ (List.mem_append_left _ (List.mem_append_right _ h))))
  have w_1 : (Cond.fieldLink RX8 80 "QuietCut$Clause" "slot" "I").before args s = true := hts _ (List.mem_of_getElem? (i := 2) rfl)
  have w_2 : (Cond.fieldLink RX8 9 "QuietCut$ShopReader" "tape" "LQuietCut$Tape;").before args s = true := hts _ (List.mem_of_getElem? (i := 3) rfl)
  have w_3 : (Cond.fieldLink RX8 105 "QuietCut$Clause" "letters" "Ljava/lang/String;").before args s = true := hts _ (List.mem_of_getElem? (i := 4) rfl)
  have b1 : (0 : Int) ≤ (G 14 1).toInt ∧ (G 14 1).toInt ≤ 80 := hI 14 1
  have b2 : (0 : Int) ≤ (G 14 4).toInt ∧ (G 14 4).toInt ≤ 16 := hI 14 4
  have b3 : (0 : Int) ≤ (G 14 5).toInt ∧ (G 14 5).toInt ≤ 12 := hI 14 5
  have b4 : (0 : Int) ≤ (G 14 8).toInt ∧ (G 14 8).toInt ≤ 1 := hI 14 8
  have b5 : (0 : Int) ≤ (G 1 3).toInt ∧ (G 1 3).toInt ≤ 4 := hI 1 3
  have b6 : (0 : Int) ≤ (G 4 2).toInt ∧ (G 4 2).toInt ≤ 1001 := hI 4 2
  have b7 : ((-1) : Int) ≤ (G 4 4).toInt ∧ (G 4 4).toInt ≤ 12 := hI 4 4
  refine g_aload_n F 0 dX8_takeOfSum_0 rfl rfl ?_
  refine xg_4_1 F i_X8 w_0 dX8_takeOfSum_1 ?_
  refine g_aload_n F 1 dX8_takeOfSum_4 rfl rfl ?_
  refine uz_getf F (show va_OF "QuietCut$Clause" "slot" "I" (.int 0) (zf 20) A s s.heap from (hZ.2.2.2.2.2 10 (by decide)).2.2.1) w_1 dX8_takeOfSum_5 ?_
  refine u_callVr (k := 0) (n := 0) (b := a 3) (As := [.int 0]) (st := []) F (fun sz => S_X7_sumAt_3_v0 l D K a G  hI sz) (cwV 1 hts gX8_takeOfSum_X7_sumAt rfl rfl rfl (by decide +kernel) ⟨Nat.le_of_ble_eq_true rfl, Nat.le_of_ble_eq_true rfl⟩) rfl 3 xc_3 rfl (Nat.le_of_ble_eq_true rfl) ⟨Nat.zero_le _, Nat.zero_le _⟩ dX8_takeOfSum_8 (fun _ hw9 => ?_)
  show gG p l e (gR 6 0 0 154) s m args below meth c D A 3 Q 0 0 (xW K a G) (tK K) [(0, .ref (a 4)), (1, .ref (zf 20))] 11 [.ref (a 14)]
  refine g_astore_n F [(2, .ref (a 14)), (0, .ref (a 4)), (1, .ref (zf 20))] dX8_takeOfSum_11 rfl (by decide) rfl ?_
  refine g_aload_n F 1 dX8_takeOfSum_12 rfl rfl ?_
  refine xg_4_0 F i_X8 w_2 dX8_takeOfSum_13 ?_
  refine g_bipush F 59 dX8_takeOfSum_16 (by decide) ?_
  refine u_callVi (k := 0) (n := 0) (b := a 1) (As := [.int 59]) (st := []) F (fun sz => S_X10_isSign l D K a G 59 59 rfl hI sz) (cwV 1 hts gX8_takeOfSum_X10_isSign rfl rfl rfl (by decide +kernel) ⟨Nat.le_of_ble_eq_true rfl, Nat.le_of_ble_eq_true rfl⟩) rfl 1 xc_1 rfl (Nat.le_of_ble_eq_true rfl) ⟨Nat.zero_le _, Nat.zero_le _⟩ dX8_takeOfSum_18 (fun r11 _ hw12 => ?_)
  rcases hw12 with ⟨rfl, q14⟩ | ⟨rfl, q15⟩
  · have q14 : ((G 1 3).toInt = 3 ∧ (G 1 5).toInt = (59 : Int)) := q14
    refine v_if_eq F 41 dX8_takeOfSum_21 (by decide) 1 rfl (fun c16 => absurd c16 (by decide)) (fun c16 => ?_)
    refine g_aload_n F 0 dX8_takeOfSum_24 rfl rfl ?_
    refine u_callVi (k := 0) (n := 0) (b := a 14) (As := []) (st := []) F (fun sz => S_X3_mayEnd_14 l D K a G  hI sz) (cwV 0 hts gX8_takeOfSum_X3_mayEnd rfl rfl rfl (by decide +kernel) ⟨Nat.le_of_ble_eq_true rfl, Nat.le_of_ble_eq_true rfl⟩) rfl 14 xc_14 rfl (Nat.le_of_ble_eq_true rfl) ⟨Nat.zero_le _, Nat.zero_le _⟩ dX8_takeOfSum_25 (fun r17 _ hw18 => ?_)
    have q20 : ((r17.toInt = 1 ∧ (G 14 8).toInt = 0 ∧ (G 14 7).toInt = 0) ∨ (r17.toInt = 0 ∧ ((G 14 8).toInt ≠ 0 ∨ (G 14 7).toInt ≠ 0))) := hw18.2
    have rg21 := hw18.1
    clear hw18
    refine v_if_eq F 41 dX8_takeOfSum_28 (by decide) r17.toInt rfl (fun c22 => ?_) (fun c22 => ?_)
    · refine g_aload_n F 0 dX8_takeOfSum_41 rfl rfl ?_
      refine g_aload_n F 1 dX8_takeOfSum_42 rfl rfl ?_
      refine xg_4_0 F i_X8 w_2 dX8_takeOfSum_43 ?_
      refine g_aload_n F 2 dX8_takeOfSum_46 rfl rfl ?_
      refine uz_getf F (show va_OF "QuietCut$Clause" "letters" "Ljava/lang/String;" (.ref (zf 80)) (zf 20) A s s.heap from (hZ.2.2.2.2.2 10 (by decide)).2.2.2.2.2.2.1) w_3 dX8_takeOfSum_47 ?_
      refine uz_callVi (k := 0) (n := 0) (b := a 14) (As := [.ref (a 1), .ref (zf 80)]) (st := []) F xZ_st hZ (fun sz => S_X3_takeToken_14_1_L10 l D K a G zf  (f3.1) ((show xNl 14 G from n3.1 (by omega))) (vl) hI sz) (cwV 2 hts gX8_takeOfSum_X3_takeToken rfl rfl rfl (by decide +kernel) ⟨Nat.le_of_ble_eq_true rfl, Nat.le_of_ble_eq_true rfl⟩) rfl 14 xc_14 rfl (Nat.le_of_ble_eq_true rfl) ⟨Nat.zero_le _, Nat.zero_le _⟩ dX8_takeOfSum_50 (fun r23 G25 hw24 => ?_)
      have hI26 : xI G25 := hw24.1
      have hU27 : gu_un xcd [1402, 1405, 1406, 1407, 1408, 1409, 2900, 3100] G G25 := hw24.2.1
      have hp28 := hw24.2.2
      have q29 : xFi 14 31 G25 := hp28.2.1
      have q30 : (sR (sT 0 (G 1 3).toInt (G 1 5).toInt (G 14 8).toInt (tkr (G 31) ((G 14 4).toInt).toNat) (G 14 6).toInt (G 14 7).toInt (G 14 5).toInt (tkr (G 29) ((G 14 1).toInt).toNat)) r23.toInt (xS 14 29 31 G25)) := hp28.2.2.1
      have b31 : (0 : Int) ≤ (G25 14 8).toInt ∧ (G25 14 8).toInt ≤ 1 := hI26 14 8
      have b32 : (0 : Int) ≤ (G25 14 1).toInt ∧ (G25 14 1).toInt ≤ 80 := hI26 14 1
      have b33 : (0 : Int) ≤ (G25 14 4).toInt ∧ (G25 14 4).toInt ≤ 16 := hI26 14 4
      have b34 : (0 : Int) ≤ (G25 14 5).toInt ∧ (G25 14 5).toInt ≤ 12 := hI26 14 5
      have q35 : (((G25 14 8).toInt = 0 ∧ (G25 14 1).toInt + (G25 14 4).toInt ≤ 6 * (G25 14 5).toInt) ∨ ((G25 14 8).toInt ≠ 0 ∧ (G25 14 1).toInt + (G25 14 4).toInt ≤ 6 * (G25 14 5).toInt + 1 + (G25 14 6).toInt)) := hp28.2.2.2.1
      have q36 : (r23.toInt ≠ 0 ∨ (G 1 3).toInt ≠ 0) := hp28.2.2.2.2
      have rg37 := hp28.1
      clear hp28 hw24
      have b38 : (0 : Int) ≤ (G 4 5).toInt ∧ (G 4 5).toInt ≤ 6 := hI 4 5
      exact u_iret F hA hQ hr G25 (⟨hI26, (gu_un.tr gu_un.rf (gu_un.su hU27 rfl)), (by have h9 := ti_rng r23; omega), (⟨q29, (xFi.un f3.2.1 (show gu_un xcd [1402, 1405, 1406, 1407, 1408, 1409, 2900, 3100] G G25 from (gu_un.tr gu_un.rf (gu_un.su hU27 rfl))) rfl (fun _ => rfl)), (xFi.un f3.2.2 (show gu_un xcd [1402, 1405, 1406, 1407, 1408, 1409, 2900, 3100] G G25 from (gu_un.tr gu_un.rf (gu_un.su hU27 rfl))) rfl (fun _ => rfl))⟩), (by show (((G25 4 4).toInt = -1 ∨ (G25 4 4).toInt = (G 4 4).toInt) ∧ (G25 4 5).toInt = (G 4 5).toInt); have e9_4_4 : G25 4 4 = (G 4 4) := hU27 4 4 (by decide); have e9_4_5 : G25 4 5 = (G 4 5) := hU27 4 5 (by decide); (try simp only [e9_4_4, e9_4_5, true_and, and_true]) <;> (first | omega | (simp only [Int32.reduceToInt, true_and, and_true, ne_eq, not_true_eq_false, false_and, or_false, false_or, true_or, or_true, false_implies] <;> omega))), (xN3.i0 (Or.inr ⟨by rw [show G25 4 4 = (G 4 4) from hU27 4 4 (by decide)]; omega, show xNl 14 G25 from q35⟩)), (by show ((G25 4 2).toInt ≤ (G 4 2).toInt + 1); have e9_4_2 : G25 4 2 = (G 4 2) := hU27 4 2 (by decide); (try simp only [e9_4_2, true_and, and_true]) <;> (first | omega | (simp only [Int32.reduceToInt, true_and, and_true, ne_eq, not_true_eq_false, false_and, or_false, false_or, true_or, or_true, false_implies] <;> omega))), (xH_tok (i := 0) (show (G 4 4).toInt = 10 + ((0 : Nat) : Int) by omega) (show xSg G 0 = (xS 14 29 31 G) from rfl) (show ¬ ((G 1 3).toInt = 3 ∧ (G 1 5).toInt = 59 ∧ (G 14 8).toInt = 0 ∧ (G 14 7).toInt = 0) by omega) (show sR (sTt ((0 : Nat) : Int) _ _ (xS 14 29 31 G)) _ _ from q30) (xSg_0 (show gu_un xcd [1402, 1405, 1406, 1407, 1408, 1409, 2900, 3100] G G25 from (gu_un.tr gu_un.rf (gu_un.su hU27 rfl))) rfl rfl rfl) (show G25 4 4 = (G 4 4) from hU27 4 4 (by decide)) (show G25 4 5 = (G 4 5) from hU27 4 5 (by decide)) (show G25 4 6 = (G 4 6) from hU27 4 6 (by decide)) (show G25 4 2 = (G 4 2) from hU27 4 2 (by decide)) (show G25 4 3 = (G 4 3) from hU27 4 3 (by decide)) (show G25 19 = G 19 from (show G25 19 = G 19 from funext fun k_ => hU27 19 k_ (show (1900 : Nat) ∉ ([1402, 1405, 1406, 1407, 1408, 1409, 2900, 3100] : List Nat) by decide)))), (by show (r23.toInt ≠ 0 ∨ (G 1 3).toInt ≠ 0); (first | omega | (simp only [Int32.reduceToInt, true_and, and_true, ne_eq, not_true_eq_false, false_and, or_false, false_or, true_or, or_true, false_implies] <;> omega)))⟩) rfl rfl dX8_takeOfSum_53
    · refine g_aload_n F 0 dX8_takeOfSum_31 rfl rfl ?_
      refine u_callVv (k := 0) (n := 0) (b := a 14) (As := []) (st := []) F (fun sz => S_X3_finish_14 l D K a G  (by obtain ⟨⟨t8, h1, h2⟩, -⟩ := (show xFi 14 31 G from f3.1); exact ⟨t8, h1, h2 (by omega)⟩) (by have h9 := (show xNl 14 G from n3.1 (by omega)); unfold xNl at h9; omega) hI sz) (cwV 0 hts gX8_takeOfSum_X3_finish rfl rfl rfl (by decide +kernel) ⟨Nat.le_of_ble_eq_true rfl, Nat.le_of_ble_eq_true rfl⟩) rfl 14 xc_14 rfl (Nat.le_of_ble_eq_true rfl) ⟨Nat.zero_le _, Nat.zero_le _⟩ dX8_takeOfSum_32 (fun G41 hw40 => ?_)
      have hI42 : xI G41 := hw40.1
      have hU43 : gu_un xcd [1402, 1405, 2900] G G41 := hw40.2.1
      have hp44 := hw40.2.2
      have b45 : (0 : Int) ≤ (G41 14 4).toInt ∧ (G41 14 4).toInt ≤ 16 := hI42 14 4
      have q46 : (∃ t, xQ (G 31) (G41 14 4).toInt (G 14 6).toInt (G 14 7).toInt t ∧ 0 ≤ t ∧ t < 1) := hp44.1
      have b47 : (0 : Int) ≤ (G41 14 1).toInt ∧ (G41 14 1).toInt ≤ 80 := hI42 14 1
      have q48 : (sJ 1 (tkr (G 31) ((G 14 4).toInt).toNat) (tkr (G 29) ((G 14 1).toInt).toNat) = (tkr (G 31) ((G41 14 4).toInt).toNat, tkr (G41 29) ((G41 14 1).toInt).toNat)) := hp44.2.1
      have q49 : ((G41 14 1).toInt + (G41 14 4).toInt = (G 14 1).toInt + (G 14 4).toInt) := hp44.2.2
      clear hp44 hw40
      refine g_aload_n F 1 dX8_takeOfSum_35 rfl rfl ?_
      refine u_callVv (k := 0) (n := 0) (b := a 4) (As := []) (st := []) F (fun sz => S_X8_closeClause l D K a G41  (by have e9_4_2 : G41 4 2 = (G 4 2) := hU43 4 2 (by decide); (try simp only [e9_4_2, true_and, and_true]) <;> (first | omega | (simp only [Int32.reduceToInt, true_and, and_true, ne_eq, not_true_eq_false, false_and, or_false, false_or, true_or, or_true, false_implies] <;> omega))) hI42 sz) (cwV 0 hts gX8_takeOfSum_X8_closeClause rfl rfl rfl (by decide +kernel) ⟨Nat.le_of_ble_eq_true rfl, Nat.le_of_ble_eq_true rfl⟩) rfl 4 xc_4 rfl (Nat.le_of_ble_eq_true rfl) ⟨Nat.zero_le _, Nat.zero_le _⟩ dX8_takeOfSum_36 (fun G52 hw51 => ?_)
      have hI53 : xI G52 := hw51.1
      have hU54 : gu_un xcd [403, 405] G41 G52 := hw51.2.1
      have hp55 := hw51.2.2
      have b56 : ((-1) : Int) ≤ (G52 4 4).toInt ∧ (G52 4 4).toInt ≤ 12 := hI53 4 4
      have q57 : ((G52 4 4).toInt = -1) := hp55.1
      have b58 : (0 : Int) ≤ (G52 4 2).toInt ∧ (G52 4 2).toInt ≤ 1001 := hI53 4 2
      have q59 : ((G52 4 2).toInt = (G 4 2).toInt + 1) := by have h9 := hp55.2; (try simp only [(show G41 4 2 = (G 4 2) from hU43 4 2 (by decide))] at h9); first | exact h9 | omega
      clear hp55 hw51
      refine g_iconst F 0 dX8_takeOfSum_39 (by decide) ?_
      have b60 : (0 : Int) ≤ (G 4 5).toInt ∧ (G 4 5).toInt ≤ 6 := hI 4 5
      exact u_iret F hA hQ hr G52 (⟨hI53, (gu_un.tr (gu_un.tr gu_un.rf (gu_un.su hU43 rfl)) (gu_un.su hU54 rfl)), (by decide), (⟨(xFi.mk (w := (G 14 8).toInt) (by obtain ⟨t8, h1, h2, h3⟩ := q46; exact ⟨t8, h1, fun _ => h2⟩) (by have h9 := f3.1.2; exact h9) (show G52 31 = _ from (show G52 31 = G41 31 from funext fun k_ => hU54 31 k_ (show (3100 : Nat) ∉ ([403, 405] : List Nat) by decide)).trans ((show G41 31 = G 31 from funext fun k_ => hU43 31 k_ (show (3100 : Nat) ∉ ([1402, 1405, 2900] : List Nat) by decide)))) (show (G52 14 4).toInt = _ by rw [show G52 14 4 = (G41 14 4) from hU54 14 4 (by decide)]) (show (G52 14 6).toInt = _ by rw [show G52 14 6 = (G 14 6) from (hU54 14 6 (by decide)).trans (hU43 14 6 (by decide))]) (show (G52 14 7).toInt = _ by rw [show G52 14 7 = (G 14 7) from (hU54 14 7 (by decide)).trans (hU43 14 7 (by decide))]) (show (G52 14 8).toInt = _ by rw [show G52 14 8 = (G 14 8) from (hU54 14 8 (by decide)).trans (hU43 14 8 (by decide))])), (xFi.un f3.2.1 (show gu_un xcd [403, 405, 1402, 1405, 2900] G G52 from (gu_un.tr (gu_un.tr gu_un.rf (gu_un.su hU43 rfl)) (gu_un.su hU54 rfl))) rfl (fun _ => rfl)), (xFi.un f3.2.2 (show gu_un xcd [403, 405, 1402, 1405, 2900] G G52 from (gu_un.tr (gu_un.tr gu_un.rf (gu_un.su hU43 rfl)) (gu_un.su hU54 rfl))) rfl (fun _ => rfl))⟩), (by show (((G52 4 4).toInt = -1 ∨ (G52 4 4).toInt = (G 4 4).toInt) ∧ (G52 4 5).toInt = (G 4 5).toInt); have e9_4_5 : G52 4 5 = (G 4 5) := (hU54 4 5 (by decide)).trans (hU43 4 5 (by decide)); (try simp only [e9_4_5, true_and, and_true]) <;> (first | omega | (simp only [Int32.reduceToInt, true_and, and_true, ne_eq, not_true_eq_false, false_and, or_false, false_or, true_or, or_true, false_implies] <;> omega))), (xN3.no (by omega)), (by show ((G52 4 2).toInt ≤ (G 4 2).toInt + 1); (first | omega | (simp only [Int32.reduceToInt, true_and, and_true, ne_eq, not_true_eq_false, false_and, or_false, false_or, true_or, or_true, false_implies] <;> omega))), (xH_fin (i := 0) (by decide) (show (G 4 4).toInt = 10 + ((0 : Nat) : Int) by omega) (show xSg G 0 = (xS 14 29 31 G) from rfl) (by omega) (by omega) (show (G 14 8).toInt = 0 by omega) (show (G 14 7).toInt = 0 by omega) (xSg_0 (show gu_un xcd [403, 405, 1402, 1405, 2900] G G52 from (gu_un.tr (gu_un.tr gu_un.rf (gu_un.su hU43 rfl)) (gu_un.su hU54 rfl))) rfl rfl (by rw [xS_of (rc := 29) (show (G52 14 8).toInt = (G 14 8).toInt from congrArg Int32.toInt (show G52 14 8 = (G 14 8) from (hU54 14 8 (by decide)).trans (hU43 14 8 (by decide)))) (show G52 31 = (G 31) from (show G52 31 = G41 31 from funext fun k_ => hU54 31 k_ (show (3100 : Nat) ∉ ([403, 405] : List Nat) by decide)).trans ((show G41 31 = G 31 from funext fun k_ => hU43 31 k_ (show (3100 : Nat) ∉ ([1402, 1405, 2900] : List Nat) by decide)))) (show (G52 14 4).toInt = (G41 14 4).toInt from congrArg Int32.toInt (show G52 14 4 = (G41 14 4) from hU54 14 4 (by decide))) (show (G52 14 6).toInt = (G 14 6).toInt from congrArg Int32.toInt (show G52 14 6 = (G 14 6) from (hU54 14 6 (by decide)).trans (hU43 14 6 (by decide)))) (show (G52 14 7).toInt = (G 14 7).toInt from congrArg Int32.toInt (show G52 14 7 = (G 14 7) from (hU54 14 7 (by decide)).trans (hU43 14 7 (by decide)))) (show (G52 14 5).toInt = (G 14 5).toInt from congrArg Int32.toInt (show G52 14 5 = (G 14 5) from (hU54 14 5 (by decide)).trans (hU43 14 5 (by decide)))) (show G52 29 = (G41 29) from (show G52 29 = G41 29 from funext fun k_ => hU54 29 k_ (show (2900 : Nat) ∉ ([403, 405] : List Nat) by decide))) (show (G52 14 1).toInt = (G41 14 1).toInt from congrArg Int32.toInt (show G52 14 1 = (G41 14 1) from hU54 14 1 (by decide)))]; show _ = ((G 14 8).toInt, (sJ 1 (tkr (G 31) ((G 14 4).toInt).toNat) (tkr (G 29) ((G 14 1).toInt).toNat)).1, (G 14 6).toInt, (G 14 7).toInt, (G 14 5).toInt, (sJ 1 (tkr (G 31) ((G 14 4).toInt).toNat) (tkr (G 29) ((G 14 1).toInt).toNat)).2); rw [q48])) (show (G52 4 4).toInt = -1 by rw [show G52 4 4 = (G52 4 4) from rfl] <;> first | rfl | omega) (show G52 4 5 = (G 4 5) from (hU54 4 5 (by decide)).trans (hU43 4 5 (by decide))) (show G52 4 6 = (G 4 6) from (hU54 4 6 (by decide)).trans (hU43 4 6 (by decide))) (show (G52 4 2).toInt = (G 4 2).toInt + 1 by rw [show G52 4 2 = (G52 4 2) from rfl] <;> first | rfl | omega) (show G52 4 3 = (G 4 3) from (hU54 4 3 (by decide)).trans (hU43 4 3 (by decide))) (show G52 19 = G 19 from (show G52 19 = G41 19 from funext fun k_ => hU54 19 k_ (show (1900 : Nat) ∉ ([403, 405] : List Nat) by decide)).trans ((show G41 19 = G 19 from funext fun k_ => hU43 19 k_ (show (1900 : Nat) ∉ ([1402, 1405, 2900] : List Nat) by decide))))), (by show (0 ≠ 0 ∨ (G 1 3).toInt ≠ 0); (first | omega | (simp only [Int32.reduceToInt, true_and, and_true, ne_eq, not_true_eq_false, false_and, or_false, false_or, true_or, or_true, false_implies] <;> omega)))⟩) rfl rfl dX8_takeOfSum_40
  · have q15 : ((G 1 3).toInt ≠ 3 ∨ (G 1 5).toInt ≠ (59 : Int)) := q15
    refine v_if_eq F 41 dX8_takeOfSum_21 (by decide) 0 rfl (fun c61 => ?_) (fun c61 => absurd c61 (by decide))
    refine g_aload_n F 0 dX8_takeOfSum_41 rfl rfl ?_
    refine g_aload_n F 1 dX8_takeOfSum_42 rfl rfl ?_
    refine xg_4_0 F i_X8 w_2 dX8_takeOfSum_43 ?_
    refine g_aload_n F 2 dX8_takeOfSum_46 rfl rfl ?_
    refine uz_getf F (show va_OF "QuietCut$Clause" "letters" "Ljava/lang/String;" (.ref (zf 80)) (zf 20) A s s.heap from (hZ.2.2.2.2.2 10 (by decide)).2.2.2.2.2.2.1) w_3 dX8_takeOfSum_47 ?_
    refine uz_callVi (k := 0) (n := 0) (b := a 14) (As := [.ref (a 1), .ref (zf 80)]) (st := []) F xZ_st hZ (fun sz => S_X3_takeToken_14_1_L10 l D K a G zf  (f3.1) ((show xNl 14 G from n3.1 (by omega))) (vl) hI sz) (cwV 2 hts gX8_takeOfSum_X3_takeToken rfl rfl rfl (by decide +kernel) ⟨Nat.le_of_ble_eq_true rfl, Nat.le_of_ble_eq_true rfl⟩) rfl 14 xc_14 rfl (Nat.le_of_ble_eq_true rfl) ⟨Nat.zero_le _, Nat.zero_le _⟩ dX8_takeOfSum_50 (fun r62 G64 hw63 => ?_)
    have hI65 : xI G64 := hw63.1
    have hU66 : gu_un xcd [1402, 1405, 1406, 1407, 1408, 1409, 2900, 3100] G G64 := hw63.2.1
    have hp67 := hw63.2.2
    have q68 : xFi 14 31 G64 := hp67.2.1
    have q69 : (sR (sT 0 (G 1 3).toInt (G 1 5).toInt (G 14 8).toInt (tkr (G 31) ((G 14 4).toInt).toNat) (G 14 6).toInt (G 14 7).toInt (G 14 5).toInt (tkr (G 29) ((G 14 1).toInt).toNat)) r62.toInt (xS 14 29 31 G64)) := hp67.2.2.1
    have b70 : (0 : Int) ≤ (G64 14 8).toInt ∧ (G64 14 8).toInt ≤ 1 := hI65 14 8
    have b71 : (0 : Int) ≤ (G64 14 1).toInt ∧ (G64 14 1).toInt ≤ 80 := hI65 14 1
    have b72 : (0 : Int) ≤ (G64 14 4).toInt ∧ (G64 14 4).toInt ≤ 16 := hI65 14 4
    have b73 : (0 : Int) ≤ (G64 14 5).toInt ∧ (G64 14 5).toInt ≤ 12 := hI65 14 5
    have q74 : (((G64 14 8).toInt = 0 ∧ (G64 14 1).toInt + (G64 14 4).toInt ≤ 6 * (G64 14 5).toInt) ∨ ((G64 14 8).toInt ≠ 0 ∧ (G64 14 1).toInt + (G64 14 4).toInt ≤ 6 * (G64 14 5).toInt + 1 + (G64 14 6).toInt)) := hp67.2.2.2.1
    have q75 : (r62.toInt ≠ 0 ∨ (G 1 3).toInt ≠ 0) := hp67.2.2.2.2
    have rg76 := hp67.1
    clear hp67 hw63
    have b77 : (0 : Int) ≤ (G 4 5).toInt ∧ (G 4 5).toInt ≤ 6 := hI 4 5
    exact u_iret F hA hQ hr G64 (⟨hI65, (gu_un.tr gu_un.rf (gu_un.su hU66 rfl)), (by have h9 := ti_rng r62; omega), (⟨q68, (xFi.un f3.2.1 (show gu_un xcd [1402, 1405, 1406, 1407, 1408, 1409, 2900, 3100] G G64 from (gu_un.tr gu_un.rf (gu_un.su hU66 rfl))) rfl (fun _ => rfl)), (xFi.un f3.2.2 (show gu_un xcd [1402, 1405, 1406, 1407, 1408, 1409, 2900, 3100] G G64 from (gu_un.tr gu_un.rf (gu_un.su hU66 rfl))) rfl (fun _ => rfl))⟩), (by show (((G64 4 4).toInt = -1 ∨ (G64 4 4).toInt = (G 4 4).toInt) ∧ (G64 4 5).toInt = (G 4 5).toInt); have e9_4_4 : G64 4 4 = (G 4 4) := hU66 4 4 (by decide); have e9_4_5 : G64 4 5 = (G 4 5) := hU66 4 5 (by decide); (try simp only [e9_4_4, e9_4_5, true_and, and_true]) <;> (first | omega | (simp only [Int32.reduceToInt, true_and, and_true, ne_eq, not_true_eq_false, false_and, or_false, false_or, true_or, or_true, false_implies] <;> omega))), (xN3.i0 (Or.inr ⟨by rw [show G64 4 4 = (G 4 4) from hU66 4 4 (by decide)]; omega, show xNl 14 G64 from q74⟩)), (by show ((G64 4 2).toInt ≤ (G 4 2).toInt + 1); have e9_4_2 : G64 4 2 = (G 4 2) := hU66 4 2 (by decide); (try simp only [e9_4_2, true_and, and_true]) <;> (first | omega | (simp only [Int32.reduceToInt, true_and, and_true, ne_eq, not_true_eq_false, false_and, or_false, false_or, true_or, or_true, false_implies] <;> omega))), (xH_tok (i := 0) (show (G 4 4).toInt = 10 + ((0 : Nat) : Int) by omega) (show xSg G 0 = (xS 14 29 31 G) from rfl) (show ¬ ((G 1 3).toInt = 3 ∧ (G 1 5).toInt = 59 ∧ (G 14 8).toInt = 0 ∧ (G 14 7).toInt = 0) by omega) (show sR (sTt ((0 : Nat) : Int) _ _ (xS 14 29 31 G)) _ _ from q69) (xSg_0 (show gu_un xcd [1402, 1405, 1406, 1407, 1408, 1409, 2900, 3100] G G64 from (gu_un.tr gu_un.rf (gu_un.su hU66 rfl))) rfl rfl rfl) (show G64 4 4 = (G 4 4) from hU66 4 4 (by decide)) (show G64 4 5 = (G 4 5) from hU66 4 5 (by decide)) (show G64 4 6 = (G 4 6) from hU66 4 6 (by decide)) (show G64 4 2 = (G 4 2) from hU66 4 2 (by decide)) (show G64 4 3 = (G 4 3) from hU66 4 3 (by decide)) (show G64 19 = G 19 from (show G64 19 = G 19 from funext fun k_ => hU66 19 k_ (show (1900 : Nat) ∉ ([1402, 1405, 1406, 1407, 1408, 1409, 2900, 3100] : List Nat) by decide)))), (by show (r62.toInt ≠ 0 ∨ (G 1 3).toInt ≠ 0); (first | omega | (simp only [Int32.reduceToInt, true_and, and_true, ne_eq, not_true_eq_false, false_and, or_false, false_or, true_or, or_true, false_implies] <;> omega)))⟩) rfl rfl dX8_takeOfSum_53


set_option maxHeartbeats 4000000 in
set_option maxRecDepth 100000 in
theorem S_X7_sumAt_3_v1 (l : Launch) (D : va_G) (K : Nat → ClassId) (a : Nat → Nat) (G : gS) (hI : xI G) (sz : Nat) : Kr l yX7_sumAt wsX7_sumAt 1 40 0 0 D [.ref (a 3), .int 1] (xW K a G) (tK K) sz (fun (_ : Unit) => True) (fun (_ : Unit) => a 15) (fun (_ : Unit) => (xW K a G)) (fun _ => (tK K)) := by
  unfold Kr
  refine g_ofW (cc := cX7_sumAt) (lv := [(0, .ref (a 3)), (1, .int 1)]) (by decide) rfl (Nat.le_of_ble_eq_true rfl) rfl ?_
  intro p e s m args below meth c A Q hA hQ F hr hnm
  have hts := F.2.2.2.2.1
  have w_0 : (Cond.fieldLink RX7 22 "QuietCut$Shop" "wall" "LQuietCut$Formula;").before args s = true := hts _ (List.mem_of_getElem? (i := 2) rfl)
  have i_X7 : ∀ w ∈ u_ws RX7 TX7 4, w ∈ wsX7_sumAt := fun _ h => List.mem_cons_of_mem _ (List.mem_append_right _ h)
  refine g_iload_n F 1 dX7_sumAt_0 rfl rfl ?_
  refine v_if_ne F 9 dX7_sumAt_1 (by decide) 1 rfl (fun c1 => ?_) (fun c1 => absurd c1 (by decide))
  refine g_iload_n F 1 dX7_sumAt_9 rfl rfl ?_
  refine g_iconst F 1 dX7_sumAt_10 (by decide) ?_
  refine v_icmp_ne F 21 dX7_sumAt_11 (by decide) 1 1 rfl rfl (fun c2 => absurd c2 (by decide)) (fun c2 => ?_)
  refine g_aload_n F 0 dX7_sumAt_14 rfl rfl ?_
  refine xg_3_2 F i_X7 w_0 dX7_sumAt_15 ?_
  refine g_goto F 25 dX7_sumAt_18 (by decide) ?_
  exact u_aret F hA hQ hr (Or.inl ⟨_, rfl⟩) () (trivial) rfl rfl rfl dX7_sumAt_25


set_option maxHeartbeats 4000000 in
set_option maxRecDepth 100000 in
theorem S_X8_takeOfSum_c11 (l : Launch) (D : va_G) (K : Nat → ClassId) (a : Nat → Nat) (G : gS) (zf : Nat → Nat) (f3 : xF3 G) (c4 : ((G 4 4).toInt = 11)) (n3 : xN3 G) (vl : ((G 1 3).toInt ≠ 1 ∨ (0 ≤ (G 1 5).toInt ∧ (G 1 5).toInt ≤ 255))) (ck : ((G 4 2).toInt ≤ 1000)) (hI : xI G) (sz : Nat) : KiZ (xZ zf) l yX8_takeOfSum wsX8_takeOfSum 6 154 D [.ref (a 4), .ref (zf 21)] (xW K a G) (tK K) sz (fun (r : Int32) (G' : gS) => (xI G') ∧ (gu_un xcd [403, 405, 1502, 1505, 1506, 1507, 1508, 1509, 3200, 3400] G G') ∧ (0 ≤ r.toInt ∧ r.toInt ≤ 4) ∧ (xF3 G') ∧ ((((G' 4 4).toInt = -1 ∨ (G' 4 4).toInt = (G 4 4).toInt) ∧ (G' 4 5).toInt = (G 4 5).toInt)) ∧ (xN3 G') ∧ (((G' 4 2).toInt ≤ (G 4 2).toInt + 1)) ∧ ((∀ (ts : List hTk) (pl ci : Int), xH (((G 1 3).toInt, pl, (G 1 5).toInt, ci) :: ts) G = if r.toInt = 0 then xH ts G' else hBad r.toInt pl)) ∧ ((r.toInt ≠ 0 ∨ (G 1 3).toInt ≠ 0))) (fun (G' : gS) => (xW K a G')) := by
  unfold KiZ
  refine gz_ofW (cc := cX8_takeOfSum) (lv := [(0, .ref (a 4)), (1, .ref (zf 21))]) (by decide) rfl (Nat.le_of_ble_eq_true rfl) rfl ?_
  intro p e s m args below meth c A Q hA hQ hZ F hr hnm
  have hts := F.2.2.2.2.1
  have w_0 : (Cond.fieldLink RX8 15 "QuietCut$ShopReader" "target" "LQuietCut$Shop;").before args s = true := hts _ (List.mem_of_getElem? (i := 1) rfl)
  have i_X8 : ∀ w ∈ u_ws RX8 TX8 7, w ∈ wsX8_takeOfSum := fun _ h => List.mem_cons_of_mem _ (List.mem_append_left _ (List.mem_append_left _ (List.mem_append_left _ (List.mem_append_right _ h))))
  have w_1 : (Cond.fieldLink RX8 80 "QuietCut$Clause" "slot" "I").before args s = true := hts _ (List.mem_of_getElem? (i := 2) rfl)
  have w_2 : (Cond.fieldLink RX8 9 "QuietCut$ShopReader" "tape" "LQuietCut$Tape;").before args s = true := hts _ (List.mem_of_getElem? (i := 3) rfl)
  have w_3 : (Cond.fieldLink RX8 105 "QuietCut$Clause" "letters" "Ljava/lang/String;").before args s = true := hts _ (List.mem_of_getElem? (i := 4) rfl)
  have b1 : (0 : Int) ≤ (G 15 1).toInt ∧ (G 15 1).toInt ≤ 80 := hI 15 1
  have b2 : (0 : Int) ≤ (G 15 4).toInt ∧ (G 15 4).toInt ≤ 16 := hI 15 4
  have b3 : (0 : Int) ≤ (G 15 5).toInt ∧ (G 15 5).toInt ≤ 12 := hI 15 5
  have b4 : (0 : Int) ≤ (G 15 8).toInt ∧ (G 15 8).toInt ≤ 1 := hI 15 8
  have b5 : (0 : Int) ≤ (G 1 3).toInt ∧ (G 1 3).toInt ≤ 4 := hI 1 3
  have b6 : (0 : Int) ≤ (G 4 2).toInt ∧ (G 4 2).toInt ≤ 1001 := hI 4 2
  have b7 : ((-1) : Int) ≤ (G 4 4).toInt ∧ (G 4 4).toInt ≤ 12 := hI 4 4
  refine g_aload_n F 0 dX8_takeOfSum_0 rfl rfl ?_
  refine xg_4_1 F i_X8 w_0 dX8_takeOfSum_1 ?_
  refine g_aload_n F 1 dX8_takeOfSum_4 rfl rfl ?_
  refine uz_getf F (show va_OF "QuietCut$Clause" "slot" "I" (.int 1) (zf 21) A s s.heap from (hZ.2.2.2.2.2 11 (by decide)).2.2.1) w_1 dX8_takeOfSum_5 ?_
  refine u_callVr (k := 0) (n := 0) (b := a 3) (As := [.int 1]) (st := []) F (fun sz => S_X7_sumAt_3_v1 l D K a G  hI sz) (cwV 1 hts gX8_takeOfSum_X7_sumAt rfl rfl rfl (by decide +kernel) ⟨Nat.le_of_ble_eq_true rfl, Nat.le_of_ble_eq_true rfl⟩) rfl 3 xc_3 rfl (Nat.le_of_ble_eq_true rfl) ⟨Nat.zero_le _, Nat.zero_le _⟩ dX8_takeOfSum_8 (fun _ hw9 => ?_)
  show gG p l e (gR 6 0 0 154) s m args below meth c D A 3 Q 0 0 (xW K a G) (tK K) [(0, .ref (a 4)), (1, .ref (zf 21))] 11 [.ref (a 15)]
  refine g_astore_n F [(2, .ref (a 15)), (0, .ref (a 4)), (1, .ref (zf 21))] dX8_takeOfSum_11 rfl (by decide) rfl ?_
  refine g_aload_n F 1 dX8_takeOfSum_12 rfl rfl ?_
  refine xg_4_0 F i_X8 w_2 dX8_takeOfSum_13 ?_
  refine g_bipush F 59 dX8_takeOfSum_16 (by decide) ?_
  refine u_callVi (k := 0) (n := 0) (b := a 1) (As := [.int 59]) (st := []) F (fun sz => S_X10_isSign l D K a G 59 59 rfl hI sz) (cwV 1 hts gX8_takeOfSum_X10_isSign rfl rfl rfl (by decide +kernel) ⟨Nat.le_of_ble_eq_true rfl, Nat.le_of_ble_eq_true rfl⟩) rfl 1 xc_1 rfl (Nat.le_of_ble_eq_true rfl) ⟨Nat.zero_le _, Nat.zero_le _⟩ dX8_takeOfSum_18 (fun r11 _ hw12 => ?_)
  rcases hw12 with ⟨rfl, q14⟩ | ⟨rfl, q15⟩
  · have q14 : ((G 1 3).toInt = 3 ∧ (G 1 5).toInt = (59 : Int)) := q14
    refine v_if_eq F 41 dX8_takeOfSum_21 (by decide) 1 rfl (fun c16 => absurd c16 (by decide)) (fun c16 => ?_)
    refine g_aload_n F 0 dX8_takeOfSum_24 rfl rfl ?_
    refine u_callVi (k := 0) (n := 0) (b := a 15) (As := []) (st := []) F (fun sz => S_X3_mayEnd_15 l D K a G  hI sz) (cwV 0 hts gX8_takeOfSum_X3_mayEnd rfl rfl rfl (by decide +kernel) ⟨Nat.le_of_ble_eq_true rfl, Nat.le_of_ble_eq_true rfl⟩) rfl 15 xc_15 rfl (Nat.le_of_ble_eq_true rfl) ⟨Nat.zero_le _, Nat.zero_le _⟩ dX8_takeOfSum_25 (fun r17 _ hw18 => ?_)
    have q20 : ((r17.toInt = 1 ∧ (G 15 8).toInt = 0 ∧ (G 15 7).toInt = 0) ∨ (r17.toInt = 0 ∧ ((G 15 8).toInt ≠ 0 ∨ (G 15 7).toInt ≠ 0))) := hw18.2
    have rg21 := hw18.1
    clear hw18
    refine v_if_eq F 41 dX8_takeOfSum_28 (by decide) r17.toInt rfl (fun c22 => ?_) (fun c22 => ?_)
    · refine g_aload_n F 0 dX8_takeOfSum_41 rfl rfl ?_
      refine g_aload_n F 1 dX8_takeOfSum_42 rfl rfl ?_
      refine xg_4_0 F i_X8 w_2 dX8_takeOfSum_43 ?_
      refine g_aload_n F 2 dX8_takeOfSum_46 rfl rfl ?_
      refine uz_getf F (show va_OF "QuietCut$Clause" "letters" "Ljava/lang/String;" (.ref (zf 81)) (zf 21) A s s.heap from (hZ.2.2.2.2.2 11 (by decide)).2.2.2.2.2.2.1) w_3 dX8_takeOfSum_47 ?_
      refine uz_callVi (k := 0) (n := 0) (b := a 15) (As := [.ref (a 1), .ref (zf 81)]) (st := []) F xZ_st hZ (fun sz => S_X3_takeToken_15_1_L11 l D K a G zf  (f3.2.1) ((show xNl 15 G from n3.2.1 (by omega))) (vl) hI sz) (cwV 2 hts gX8_takeOfSum_X3_takeToken rfl rfl rfl (by decide +kernel) ⟨Nat.le_of_ble_eq_true rfl, Nat.le_of_ble_eq_true rfl⟩) rfl 15 xc_15 rfl (Nat.le_of_ble_eq_true rfl) ⟨Nat.zero_le _, Nat.zero_le _⟩ dX8_takeOfSum_50 (fun r23 G25 hw24 => ?_)
      have hI26 : xI G25 := hw24.1
      have hU27 : gu_un xcd [1502, 1505, 1506, 1507, 1508, 1509, 3200, 3400] G G25 := hw24.2.1
      have hp28 := hw24.2.2
      have q29 : xFi 15 34 G25 := hp28.2.1
      have q30 : (sR (sT 1 (G 1 3).toInt (G 1 5).toInt (G 15 8).toInt (tkr (G 34) ((G 15 4).toInt).toNat) (G 15 6).toInt (G 15 7).toInt (G 15 5).toInt (tkr (G 32) ((G 15 1).toInt).toNat)) r23.toInt (xS 15 32 34 G25)) := hp28.2.2.1
      have b31 : (0 : Int) ≤ (G25 15 8).toInt ∧ (G25 15 8).toInt ≤ 1 := hI26 15 8
      have b32 : (0 : Int) ≤ (G25 15 1).toInt ∧ (G25 15 1).toInt ≤ 80 := hI26 15 1
      have b33 : (0 : Int) ≤ (G25 15 4).toInt ∧ (G25 15 4).toInt ≤ 16 := hI26 15 4
      have b34 : (0 : Int) ≤ (G25 15 5).toInt ∧ (G25 15 5).toInt ≤ 12 := hI26 15 5
      have q35 : (((G25 15 8).toInt = 0 ∧ (G25 15 1).toInt + (G25 15 4).toInt ≤ 6 * (G25 15 5).toInt) ∨ ((G25 15 8).toInt ≠ 0 ∧ (G25 15 1).toInt + (G25 15 4).toInt ≤ 6 * (G25 15 5).toInt + 1 + (G25 15 6).toInt)) := hp28.2.2.2.1
      have q36 : (r23.toInt ≠ 0 ∨ (G 1 3).toInt ≠ 0) := hp28.2.2.2.2
      have rg37 := hp28.1
      clear hp28 hw24
      have b38 : (0 : Int) ≤ (G 4 5).toInt ∧ (G 4 5).toInt ≤ 6 := hI 4 5
      exact u_iret F hA hQ hr G25 (⟨hI26, (gu_un.tr gu_un.rf (gu_un.su hU27 rfl)), (by have h9 := ti_rng r23; omega), (⟨(xFi.un f3.1 (show gu_un xcd [1502, 1505, 1506, 1507, 1508, 1509, 3200, 3400] G G25 from (gu_un.tr gu_un.rf (gu_un.su hU27 rfl))) rfl (fun _ => rfl)), q29, (xFi.un f3.2.2 (show gu_un xcd [1502, 1505, 1506, 1507, 1508, 1509, 3200, 3400] G G25 from (gu_un.tr gu_un.rf (gu_un.su hU27 rfl))) rfl (fun _ => rfl))⟩), (by show (((G25 4 4).toInt = -1 ∨ (G25 4 4).toInt = (G 4 4).toInt) ∧ (G25 4 5).toInt = (G 4 5).toInt); have e9_4_4 : G25 4 4 = (G 4 4) := hU27 4 4 (by decide); have e9_4_5 : G25 4 5 = (G 4 5) := hU27 4 5 (by decide); (try simp only [e9_4_4, e9_4_5, true_and, and_true]) <;> (first | omega | (simp only [Int32.reduceToInt, true_and, and_true, ne_eq, not_true_eq_false, false_and, or_false, false_or, true_or, or_true, false_implies] <;> omega))), (xN3.i1 (Or.inr ⟨by rw [show G25 4 4 = (G 4 4) from hU27 4 4 (by decide)]; omega, show xNl 15 G25 from q35⟩)), (by show ((G25 4 2).toInt ≤ (G 4 2).toInt + 1); have e9_4_2 : G25 4 2 = (G 4 2) := hU27 4 2 (by decide); (try simp only [e9_4_2, true_and, and_true]) <;> (first | omega | (simp only [Int32.reduceToInt, true_and, and_true, ne_eq, not_true_eq_false, false_and, or_false, false_or, true_or, or_true, false_implies] <;> omega))), (xH_tok (i := 1) (show (G 4 4).toInt = 10 + ((1 : Nat) : Int) by omega) (show xSg G 1 = (xS 15 32 34 G) from rfl) (show ¬ ((G 1 3).toInt = 3 ∧ (G 1 5).toInt = 59 ∧ (G 15 8).toInt = 0 ∧ (G 15 7).toInt = 0) by omega) (show sR (sTt ((1 : Nat) : Int) _ _ (xS 15 32 34 G)) _ _ from q30) (xSg_1 (show gu_un xcd [1502, 1505, 1506, 1507, 1508, 1509, 3200, 3400] G G25 from (gu_un.tr gu_un.rf (gu_un.su hU27 rfl))) rfl rfl rfl) (show G25 4 4 = (G 4 4) from hU27 4 4 (by decide)) (show G25 4 5 = (G 4 5) from hU27 4 5 (by decide)) (show G25 4 6 = (G 4 6) from hU27 4 6 (by decide)) (show G25 4 2 = (G 4 2) from hU27 4 2 (by decide)) (show G25 4 3 = (G 4 3) from hU27 4 3 (by decide)) (show G25 19 = G 19 from (show G25 19 = G 19 from funext fun k_ => hU27 19 k_ (show (1900 : Nat) ∉ ([1502, 1505, 1506, 1507, 1508, 1509, 3200, 3400] : List Nat) by decide)))), (by show (r23.toInt ≠ 0 ∨ (G 1 3).toInt ≠ 0); (first | omega | (simp only [Int32.reduceToInt, true_and, and_true, ne_eq, not_true_eq_false, false_and, or_false, false_or, true_or, or_true, false_implies] <;> omega)))⟩) rfl rfl dX8_takeOfSum_53
    · refine g_aload_n F 0 dX8_takeOfSum_31 rfl rfl ?_
      refine u_callVv (k := 0) (n := 0) (b := a 15) (As := []) (st := []) F (fun sz => S_X3_finish_15 l D K a G  (by obtain ⟨⟨t8, h1, h2⟩, -⟩ := (show xFi 15 34 G from f3.2.1); exact ⟨t8, h1, h2 (by omega)⟩) (by have h9 := (show xNl 15 G from n3.2.1 (by omega)); unfold xNl at h9; omega) hI sz) (cwV 0 hts gX8_takeOfSum_X3_finish rfl rfl rfl (by decide +kernel) ⟨Nat.le_of_ble_eq_true rfl, Nat.le_of_ble_eq_true rfl⟩) rfl 15 xc_15 rfl (Nat.le_of_ble_eq_true rfl) ⟨Nat.zero_le _, Nat.zero_le _⟩ dX8_takeOfSum_32 (fun G41 hw40 => ?_)
      have hI42 : xI G41 := hw40.1
      have hU43 : gu_un xcd [1502, 1505, 3200] G G41 := hw40.2.1
      have hp44 := hw40.2.2
      have b45 : (0 : Int) ≤ (G41 15 4).toInt ∧ (G41 15 4).toInt ≤ 16 := hI42 15 4
      have q46 : (∃ t, xQ (G 34) (G41 15 4).toInt (G 15 6).toInt (G 15 7).toInt t ∧ 0 ≤ t ∧ t < 1) := hp44.1
      have b47 : (0 : Int) ≤ (G41 15 1).toInt ∧ (G41 15 1).toInt ≤ 80 := hI42 15 1
      have q48 : (sJ 1 (tkr (G 34) ((G 15 4).toInt).toNat) (tkr (G 32) ((G 15 1).toInt).toNat) = (tkr (G 34) ((G41 15 4).toInt).toNat, tkr (G41 32) ((G41 15 1).toInt).toNat)) := hp44.2.1
      have q49 : ((G41 15 1).toInt + (G41 15 4).toInt = (G 15 1).toInt + (G 15 4).toInt) := hp44.2.2
      clear hp44 hw40
      refine g_aload_n F 1 dX8_takeOfSum_35 rfl rfl ?_
      refine u_callVv (k := 0) (n := 0) (b := a 4) (As := []) (st := []) F (fun sz => S_X8_closeClause l D K a G41  (by have e9_4_2 : G41 4 2 = (G 4 2) := hU43 4 2 (by decide); (try simp only [e9_4_2, true_and, and_true]) <;> (first | omega | (simp only [Int32.reduceToInt, true_and, and_true, ne_eq, not_true_eq_false, false_and, or_false, false_or, true_or, or_true, false_implies] <;> omega))) hI42 sz) (cwV 0 hts gX8_takeOfSum_X8_closeClause rfl rfl rfl (by decide +kernel) ⟨Nat.le_of_ble_eq_true rfl, Nat.le_of_ble_eq_true rfl⟩) rfl 4 xc_4 rfl (Nat.le_of_ble_eq_true rfl) ⟨Nat.zero_le _, Nat.zero_le _⟩ dX8_takeOfSum_36 (fun G52 hw51 => ?_)
      have hI53 : xI G52 := hw51.1
      have hU54 : gu_un xcd [403, 405] G41 G52 := hw51.2.1
      have hp55 := hw51.2.2
      have b56 : ((-1) : Int) ≤ (G52 4 4).toInt ∧ (G52 4 4).toInt ≤ 12 := hI53 4 4
      have q57 : ((G52 4 4).toInt = -1) := hp55.1
      have b58 : (0 : Int) ≤ (G52 4 2).toInt ∧ (G52 4 2).toInt ≤ 1001 := hI53 4 2
      have q59 : ((G52 4 2).toInt = (G 4 2).toInt + 1) := by have h9 := hp55.2; (try simp only [(show G41 4 2 = (G 4 2) from hU43 4 2 (by decide))] at h9); first | exact h9 | omega
      clear hp55 hw51
      refine g_iconst F 0 dX8_takeOfSum_39 (by decide) ?_
      have b60 : (0 : Int) ≤ (G 4 5).toInt ∧ (G 4 5).toInt ≤ 6 := hI 4 5
      exact u_iret F hA hQ hr G52 (⟨hI53, (gu_un.tr (gu_un.tr gu_un.rf (gu_un.su hU43 rfl)) (gu_un.su hU54 rfl)), (by decide), (⟨(xFi.un f3.1 (show gu_un xcd [403, 405, 1502, 1505, 3200] G G52 from (gu_un.tr (gu_un.tr gu_un.rf (gu_un.su hU43 rfl)) (gu_un.su hU54 rfl))) rfl (fun _ => rfl)), (xFi.mk (w := (G 15 8).toInt) (by obtain ⟨t8, h1, h2, h3⟩ := q46; exact ⟨t8, h1, fun _ => h2⟩) (by have h9 := f3.2.1.2; exact h9) (show G52 34 = _ from (show G52 34 = G41 34 from funext fun k_ => hU54 34 k_ (show (3400 : Nat) ∉ ([403, 405] : List Nat) by decide)).trans ((show G41 34 = G 34 from funext fun k_ => hU43 34 k_ (show (3400 : Nat) ∉ ([1502, 1505, 3200] : List Nat) by decide)))) (show (G52 15 4).toInt = _ by rw [show G52 15 4 = (G41 15 4) from hU54 15 4 (by decide)]) (show (G52 15 6).toInt = _ by rw [show G52 15 6 = (G 15 6) from (hU54 15 6 (by decide)).trans (hU43 15 6 (by decide))]) (show (G52 15 7).toInt = _ by rw [show G52 15 7 = (G 15 7) from (hU54 15 7 (by decide)).trans (hU43 15 7 (by decide))]) (show (G52 15 8).toInt = _ by rw [show G52 15 8 = (G 15 8) from (hU54 15 8 (by decide)).trans (hU43 15 8 (by decide))])), (xFi.un f3.2.2 (show gu_un xcd [403, 405, 1502, 1505, 3200] G G52 from (gu_un.tr (gu_un.tr gu_un.rf (gu_un.su hU43 rfl)) (gu_un.su hU54 rfl))) rfl (fun _ => rfl))⟩), (by show (((G52 4 4).toInt = -1 ∨ (G52 4 4).toInt = (G 4 4).toInt) ∧ (G52 4 5).toInt = (G 4 5).toInt); have e9_4_5 : G52 4 5 = (G 4 5) := (hU54 4 5 (by decide)).trans (hU43 4 5 (by decide)); (try simp only [e9_4_5, true_and, and_true]) <;> (first | omega | (simp only [Int32.reduceToInt, true_and, and_true, ne_eq, not_true_eq_false, false_and, or_false, false_or, true_or, or_true, false_implies] <;> omega))), (xN3.no (by omega)), (by show ((G52 4 2).toInt ≤ (G 4 2).toInt + 1); (first | omega | (simp only [Int32.reduceToInt, true_and, and_true, ne_eq, not_true_eq_false, false_and, or_false, false_or, true_or, or_true, false_implies] <;> omega))), (xH_fin (i := 1) (by decide) (show (G 4 4).toInt = 10 + ((1 : Nat) : Int) by omega) (show xSg G 1 = (xS 15 32 34 G) from rfl) (by omega) (by omega) (show (G 15 8).toInt = 0 by omega) (show (G 15 7).toInt = 0 by omega) (xSg_1 (show gu_un xcd [403, 405, 1502, 1505, 3200] G G52 from (gu_un.tr (gu_un.tr gu_un.rf (gu_un.su hU43 rfl)) (gu_un.su hU54 rfl))) rfl rfl (by rw [xS_of (rc := 32) (show (G52 15 8).toInt = (G 15 8).toInt from congrArg Int32.toInt (show G52 15 8 = (G 15 8) from (hU54 15 8 (by decide)).trans (hU43 15 8 (by decide)))) (show G52 34 = (G 34) from (show G52 34 = G41 34 from funext fun k_ => hU54 34 k_ (show (3400 : Nat) ∉ ([403, 405] : List Nat) by decide)).trans ((show G41 34 = G 34 from funext fun k_ => hU43 34 k_ (show (3400 : Nat) ∉ ([1502, 1505, 3200] : List Nat) by decide)))) (show (G52 15 4).toInt = (G41 15 4).toInt from congrArg Int32.toInt (show G52 15 4 = (G41 15 4) from hU54 15 4 (by decide))) (show (G52 15 6).toInt = (G 15 6).toInt from congrArg Int32.toInt (show G52 15 6 = (G 15 6) from (hU54 15 6 (by decide)).trans (hU43 15 6 (by decide)))) (show (G52 15 7).toInt = (G 15 7).toInt from congrArg Int32.toInt (show G52 15 7 = (G 15 7) from (hU54 15 7 (by decide)).trans (hU43 15 7 (by decide)))) (show (G52 15 5).toInt = (G 15 5).toInt from congrArg Int32.toInt (show G52 15 5 = (G 15 5) from (hU54 15 5 (by decide)).trans (hU43 15 5 (by decide)))) (show G52 32 = (G41 32) from (show G52 32 = G41 32 from funext fun k_ => hU54 32 k_ (show (3200 : Nat) ∉ ([403, 405] : List Nat) by decide))) (show (G52 15 1).toInt = (G41 15 1).toInt from congrArg Int32.toInt (show G52 15 1 = (G41 15 1) from hU54 15 1 (by decide)))]; show _ = ((G 15 8).toInt, (sJ 1 (tkr (G 34) ((G 15 4).toInt).toNat) (tkr (G 32) ((G 15 1).toInt).toNat)).1, (G 15 6).toInt, (G 15 7).toInt, (G 15 5).toInt, (sJ 1 (tkr (G 34) ((G 15 4).toInt).toNat) (tkr (G 32) ((G 15 1).toInt).toNat)).2); rw [q48])) (show (G52 4 4).toInt = -1 by rw [show G52 4 4 = (G52 4 4) from rfl] <;> first | rfl | omega) (show G52 4 5 = (G 4 5) from (hU54 4 5 (by decide)).trans (hU43 4 5 (by decide))) (show G52 4 6 = (G 4 6) from (hU54 4 6 (by decide)).trans (hU43 4 6 (by decide))) (show (G52 4 2).toInt = (G 4 2).toInt + 1 by rw [show G52 4 2 = (G52 4 2) from rfl] <;> first | rfl | omega) (show G52 4 3 = (G 4 3) from (hU54 4 3 (by decide)).trans (hU43 4 3 (by decide))) (show G52 19 = G 19 from (show G52 19 = G41 19 from funext fun k_ => hU54 19 k_ (show (1900 : Nat) ∉ ([403, 405] : List Nat) by decide)).trans ((show G41 19 = G 19 from funext fun k_ => hU43 19 k_ (show (1900 : Nat) ∉ ([1502, 1505, 3200] : List Nat) by decide))))), (by show (0 ≠ 0 ∨ (G 1 3).toInt ≠ 0); (first | omega | (simp only [Int32.reduceToInt, true_and, and_true, ne_eq, not_true_eq_false, false_and, or_false, false_or, true_or, or_true, false_implies] <;> omega)))⟩) rfl rfl dX8_takeOfSum_40
  · have q15 : ((G 1 3).toInt ≠ 3 ∨ (G 1 5).toInt ≠ (59 : Int)) := q15
    refine v_if_eq F 41 dX8_takeOfSum_21 (by decide) 0 rfl (fun c61 => ?_) (fun c61 => absurd c61 (by decide))
    refine g_aload_n F 0 dX8_takeOfSum_41 rfl rfl ?_
    refine g_aload_n F 1 dX8_takeOfSum_42 rfl rfl ?_
    refine xg_4_0 F i_X8 w_2 dX8_takeOfSum_43 ?_
    refine g_aload_n F 2 dX8_takeOfSum_46 rfl rfl ?_
    refine uz_getf F (show va_OF "QuietCut$Clause" "letters" "Ljava/lang/String;" (.ref (zf 81)) (zf 21) A s s.heap from (hZ.2.2.2.2.2 11 (by decide)).2.2.2.2.2.2.1) w_3 dX8_takeOfSum_47 ?_
    refine uz_callVi (k := 0) (n := 0) (b := a 15) (As := [.ref (a 1), .ref (zf 81)]) (st := []) F xZ_st hZ (fun sz => S_X3_takeToken_15_1_L11 l D K a G zf  (f3.2.1) ((show xNl 15 G from n3.2.1 (by omega))) (vl) hI sz) (cwV 2 hts gX8_takeOfSum_X3_takeToken rfl rfl rfl (by decide +kernel) ⟨Nat.le_of_ble_eq_true rfl, Nat.le_of_ble_eq_true rfl⟩) rfl 15 xc_15 rfl (Nat.le_of_ble_eq_true rfl) ⟨Nat.zero_le _, Nat.zero_le _⟩ dX8_takeOfSum_50 (fun r62 G64 hw63 => ?_)
    have hI65 : xI G64 := hw63.1
    have hU66 : gu_un xcd [1502, 1505, 1506, 1507, 1508, 1509, 3200, 3400] G G64 := hw63.2.1
    have hp67 := hw63.2.2
    have q68 : xFi 15 34 G64 := hp67.2.1
    have q69 : (sR (sT 1 (G 1 3).toInt (G 1 5).toInt (G 15 8).toInt (tkr (G 34) ((G 15 4).toInt).toNat) (G 15 6).toInt (G 15 7).toInt (G 15 5).toInt (tkr (G 32) ((G 15 1).toInt).toNat)) r62.toInt (xS 15 32 34 G64)) := hp67.2.2.1
    have b70 : (0 : Int) ≤ (G64 15 8).toInt ∧ (G64 15 8).toInt ≤ 1 := hI65 15 8
    have b71 : (0 : Int) ≤ (G64 15 1).toInt ∧ (G64 15 1).toInt ≤ 80 := hI65 15 1
    have b72 : (0 : Int) ≤ (G64 15 4).toInt ∧ (G64 15 4).toInt ≤ 16 := hI65 15 4
    have b73 : (0 : Int) ≤ (G64 15 5).toInt ∧ (G64 15 5).toInt ≤ 12 := hI65 15 5
    have q74 : (((G64 15 8).toInt = 0 ∧ (G64 15 1).toInt + (G64 15 4).toInt ≤ 6 * (G64 15 5).toInt) ∨ ((G64 15 8).toInt ≠ 0 ∧ (G64 15 1).toInt + (G64 15 4).toInt ≤ 6 * (G64 15 5).toInt + 1 + (G64 15 6).toInt)) := hp67.2.2.2.1
    have q75 : (r62.toInt ≠ 0 ∨ (G 1 3).toInt ≠ 0) := hp67.2.2.2.2
    have rg76 := hp67.1
    clear hp67 hw63
    have b77 : (0 : Int) ≤ (G 4 5).toInt ∧ (G 4 5).toInt ≤ 6 := hI 4 5
    exact u_iret F hA hQ hr G64 (⟨hI65, (gu_un.tr gu_un.rf (gu_un.su hU66 rfl)), (by have h9 := ti_rng r62; omega), (⟨(xFi.un f3.1 (show gu_un xcd [1502, 1505, 1506, 1507, 1508, 1509, 3200, 3400] G G64 from (gu_un.tr gu_un.rf (gu_un.su hU66 rfl))) rfl (fun _ => rfl)), q68, (xFi.un f3.2.2 (show gu_un xcd [1502, 1505, 1506, 1507, 1508, 1509, 3200, 3400] G G64 from (gu_un.tr gu_un.rf (gu_un.su hU66 rfl))) rfl (fun _ => rfl))⟩), (by show (((G64 4 4).toInt = -1 ∨ (G64 4 4).toInt = (G 4 4).toInt) ∧ (G64 4 5).toInt = (G 4 5).toInt); have e9_4_4 : G64 4 4 = (G 4 4) := hU66 4 4 (by decide); have e9_4_5 : G64 4 5 = (G 4 5) := hU66 4 5 (by decide); (try simp only [e9_4_4, e9_4_5, true_and, and_true]) <;> (first | omega | (simp only [Int32.reduceToInt, true_and, and_true, ne_eq, not_true_eq_false, false_and, or_false, false_or, true_or, or_true, false_implies] <;> omega))), (xN3.i1 (Or.inr ⟨by rw [show G64 4 4 = (G 4 4) from hU66 4 4 (by decide)]; omega, show xNl 15 G64 from q74⟩)), (by show ((G64 4 2).toInt ≤ (G 4 2).toInt + 1); have e9_4_2 : G64 4 2 = (G 4 2) := hU66 4 2 (by decide); (try simp only [e9_4_2, true_and, and_true]) <;> (first | omega | (simp only [Int32.reduceToInt, true_and, and_true, ne_eq, not_true_eq_false, false_and, or_false, false_or, true_or, or_true, false_implies] <;> omega))), (xH_tok (i := 1) (show (G 4 4).toInt = 10 + ((1 : Nat) : Int) by omega) (show xSg G 1 = (xS 15 32 34 G) from rfl) (show ¬ ((G 1 3).toInt = 3 ∧ (G 1 5).toInt = 59 ∧ (G 15 8).toInt = 0 ∧ (G 15 7).toInt = 0) by omega) (show sR (sTt ((1 : Nat) : Int) _ _ (xS 15 32 34 G)) _ _ from q69) (xSg_1 (show gu_un xcd [1502, 1505, 1506, 1507, 1508, 1509, 3200, 3400] G G64 from (gu_un.tr gu_un.rf (gu_un.su hU66 rfl))) rfl rfl rfl) (show G64 4 4 = (G 4 4) from hU66 4 4 (by decide)) (show G64 4 5 = (G 4 5) from hU66 4 5 (by decide)) (show G64 4 6 = (G 4 6) from hU66 4 6 (by decide)) (show G64 4 2 = (G 4 2) from hU66 4 2 (by decide)) (show G64 4 3 = (G 4 3) from hU66 4 3 (by decide)) (show G64 19 = G 19 from (show G64 19 = G 19 from funext fun k_ => hU66 19 k_ (show (1900 : Nat) ∉ ([1502, 1505, 1506, 1507, 1508, 1509, 3200, 3400] : List Nat) by decide)))), (by show (r62.toInt ≠ 0 ∨ (G 1 3).toInt ≠ 0); (first | omega | (simp only [Int32.reduceToInt, true_and, and_true, ne_eq, not_true_eq_false, false_and, or_false, false_or, true_or, or_true, false_implies] <;> omega)))⟩) rfl rfl dX8_takeOfSum_53


set_option maxHeartbeats 4000000 in
set_option maxRecDepth 100000 in
theorem S_X7_sumAt_3_v2 (l : Launch) (D : va_G) (K : Nat → ClassId) (a : Nat → Nat) (G : gS) (hI : xI G) (sz : Nat) : Kr l yX7_sumAt wsX7_sumAt 1 40 0 0 D [.ref (a 3), .int 2] (xW K a G) (tK K) sz (fun (_ : Unit) => True) (fun (_ : Unit) => a 16) (fun (_ : Unit) => (xW K a G)) (fun _ => (tK K)) := by
  unfold Kr
  refine g_ofW (cc := cX7_sumAt) (lv := [(0, .ref (a 3)), (1, .int 2)]) (by decide) rfl (Nat.le_of_ble_eq_true rfl) rfl ?_
  intro p e s m args below meth c A Q hA hQ F hr hnm
  have hts := F.2.2.2.2.1
  have w_0 : (Cond.fieldLink RX7 25 "QuietCut$Shop" "wear" "LQuietCut$Formula;").before args s = true := hts _ (List.mem_of_getElem? (i := 3) rfl)
  have i_X7 : ∀ w ∈ u_ws RX7 TX7 4, w ∈ wsX7_sumAt := fun _ h => List.mem_cons_of_mem _ (List.mem_append_right _ h)
  refine g_iload_n F 1 dX7_sumAt_0 rfl rfl ?_
  refine v_if_ne F 9 dX7_sumAt_1 (by decide) 2 rfl (fun c1 => ?_) (fun c1 => absurd c1 (by decide))
  refine g_iload_n F 1 dX7_sumAt_9 rfl rfl ?_
  refine g_iconst F 1 dX7_sumAt_10 (by decide) ?_
  refine v_icmp_ne F 21 dX7_sumAt_11 (by decide) 2 1 rfl rfl (fun c2 => ?_) (fun c2 => absurd c2 (by decide))
  refine g_aload_n F 0 dX7_sumAt_21 rfl rfl ?_
  refine xg_3_3 F i_X7 w_0 dX7_sumAt_22 ?_
  exact u_aret F hA hQ hr (Or.inl ⟨_, rfl⟩) () (trivial) rfl rfl rfl dX7_sumAt_25


set_option maxHeartbeats 4000000 in
set_option maxRecDepth 100000 in
theorem S_X8_takeOfSum_c12 (l : Launch) (D : va_G) (K : Nat → ClassId) (a : Nat → Nat) (G : gS) (zf : Nat → Nat) (f3 : xF3 G) (c4 : ((G 4 4).toInt = 12)) (n3 : xN3 G) (vl : ((G 1 3).toInt ≠ 1 ∨ (0 ≤ (G 1 5).toInt ∧ (G 1 5).toInt ≤ 255))) (ck : ((G 4 2).toInt ≤ 1000)) (hI : xI G) (sz : Nat) : KiZ (xZ zf) l yX8_takeOfSum wsX8_takeOfSum 6 154 D [.ref (a 4), .ref (zf 22)] (xW K a G) (tK K) sz (fun (r : Int32) (G' : gS) => (xI G') ∧ (gu_un xcd [403, 405, 1602, 1605, 1606, 1607, 1608, 1609, 3500, 3700] G G') ∧ (0 ≤ r.toInt ∧ r.toInt ≤ 4) ∧ (xF3 G') ∧ ((((G' 4 4).toInt = -1 ∨ (G' 4 4).toInt = (G 4 4).toInt) ∧ (G' 4 5).toInt = (G 4 5).toInt)) ∧ (xN3 G') ∧ (((G' 4 2).toInt ≤ (G 4 2).toInt + 1)) ∧ ((∀ (ts : List hTk) (pl ci : Int), xH (((G 1 3).toInt, pl, (G 1 5).toInt, ci) :: ts) G = if r.toInt = 0 then xH ts G' else hBad r.toInt pl)) ∧ ((r.toInt ≠ 0 ∨ (G 1 3).toInt ≠ 0))) (fun (G' : gS) => (xW K a G')) := by
  unfold KiZ
  refine gz_ofW (cc := cX8_takeOfSum) (lv := [(0, .ref (a 4)), (1, .ref (zf 22))]) (by decide) rfl (Nat.le_of_ble_eq_true rfl) rfl ?_
  intro p e s m args below meth c A Q hA hQ hZ F hr hnm
  have hts := F.2.2.2.2.1
  have w_0 : (Cond.fieldLink RX8 15 "QuietCut$ShopReader" "target" "LQuietCut$Shop;").before args s = true := hts _ (List.mem_of_getElem? (i := 1) rfl)
  have i_X8 : ∀ w ∈ u_ws RX8 TX8 7, w ∈ wsX8_takeOfSum := fun _ h => List.mem_cons_of_mem _ (List.mem_append_left _ (List.mem_append_left _ (List.mem_append_left _ (List.mem_append_right _ h))))
  have w_1 : (Cond.fieldLink RX8 80 "QuietCut$Clause" "slot" "I").before args s = true := hts _ (List.mem_of_getElem? (i := 2) rfl)
  have w_2 : (Cond.fieldLink RX8 9 "QuietCut$ShopReader" "tape" "LQuietCut$Tape;").before args s = true := hts _ (List.mem_of_getElem? (i := 3) rfl)
  have w_3 : (Cond.fieldLink RX8 105 "QuietCut$Clause" "letters" "Ljava/lang/String;").before args s = true := hts _ (List.mem_of_getElem? (i := 4) rfl)
  have b1 : (0 : Int) ≤ (G 16 1).toInt ∧ (G 16 1).toInt ≤ 80 := hI 16 1
  have b2 : (0 : Int) ≤ (G 16 4).toInt ∧ (G 16 4).toInt ≤ 16 := hI 16 4
  have b3 : (0 : Int) ≤ (G 16 5).toInt ∧ (G 16 5).toInt ≤ 12 := hI 16 5
  have b4 : (0 : Int) ≤ (G 16 8).toInt ∧ (G 16 8).toInt ≤ 1 := hI 16 8
  have b5 : (0 : Int) ≤ (G 1 3).toInt ∧ (G 1 3).toInt ≤ 4 := hI 1 3
  have b6 : (0 : Int) ≤ (G 4 2).toInt ∧ (G 4 2).toInt ≤ 1001 := hI 4 2
  have b7 : ((-1) : Int) ≤ (G 4 4).toInt ∧ (G 4 4).toInt ≤ 12 := hI 4 4
  refine g_aload_n F 0 dX8_takeOfSum_0 rfl rfl ?_
  refine xg_4_1 F i_X8 w_0 dX8_takeOfSum_1 ?_
  refine g_aload_n F 1 dX8_takeOfSum_4 rfl rfl ?_
  refine uz_getf F (show va_OF "QuietCut$Clause" "slot" "I" (.int 2) (zf 22) A s s.heap from (hZ.2.2.2.2.2 12 (by decide)).2.2.1) w_1 dX8_takeOfSum_5 ?_
  refine u_callVr (k := 0) (n := 0) (b := a 3) (As := [.int 2]) (st := []) F (fun sz => S_X7_sumAt_3_v2 l D K a G  hI sz) (cwV 1 hts gX8_takeOfSum_X7_sumAt rfl rfl rfl (by decide +kernel) ⟨Nat.le_of_ble_eq_true rfl, Nat.le_of_ble_eq_true rfl⟩) rfl 3 xc_3 rfl (Nat.le_of_ble_eq_true rfl) ⟨Nat.zero_le _, Nat.zero_le _⟩ dX8_takeOfSum_8 (fun _ hw9 => ?_)
  show gG p l e (gR 6 0 0 154) s m args below meth c D A 3 Q 0 0 (xW K a G) (tK K) [(0, .ref (a 4)), (1, .ref (zf 22))] 11 [.ref (a 16)]
  refine g_astore_n F [(2, .ref (a 16)), (0, .ref (a 4)), (1, .ref (zf 22))] dX8_takeOfSum_11 rfl (by decide) rfl ?_
  refine g_aload_n F 1 dX8_takeOfSum_12 rfl rfl ?_
  refine xg_4_0 F i_X8 w_2 dX8_takeOfSum_13 ?_
  refine g_bipush F 59 dX8_takeOfSum_16 (by decide) ?_
  refine u_callVi (k := 0) (n := 0) (b := a 1) (As := [.int 59]) (st := []) F (fun sz => S_X10_isSign l D K a G 59 59 rfl hI sz) (cwV 1 hts gX8_takeOfSum_X10_isSign rfl rfl rfl (by decide +kernel) ⟨Nat.le_of_ble_eq_true rfl, Nat.le_of_ble_eq_true rfl⟩) rfl 1 xc_1 rfl (Nat.le_of_ble_eq_true rfl) ⟨Nat.zero_le _, Nat.zero_le _⟩ dX8_takeOfSum_18 (fun r11 _ hw12 => ?_)
  rcases hw12 with ⟨rfl, q14⟩ | ⟨rfl, q15⟩
  · have q14 : ((G 1 3).toInt = 3 ∧ (G 1 5).toInt = (59 : Int)) := q14
    refine v_if_eq F 41 dX8_takeOfSum_21 (by decide) 1 rfl (fun c16 => absurd c16 (by decide)) (fun c16 => ?_)
    refine g_aload_n F 0 dX8_takeOfSum_24 rfl rfl ?_
    refine u_callVi (k := 0) (n := 0) (b := a 16) (As := []) (st := []) F (fun sz => S_X3_mayEnd_16 l D K a G  hI sz) (cwV 0 hts gX8_takeOfSum_X3_mayEnd rfl rfl rfl (by decide +kernel) ⟨Nat.le_of_ble_eq_true rfl, Nat.le_of_ble_eq_true rfl⟩) rfl 16 xc_16 rfl (Nat.le_of_ble_eq_true rfl) ⟨Nat.zero_le _, Nat.zero_le _⟩ dX8_takeOfSum_25 (fun r17 _ hw18 => ?_)
    have q20 : ((r17.toInt = 1 ∧ (G 16 8).toInt = 0 ∧ (G 16 7).toInt = 0) ∨ (r17.toInt = 0 ∧ ((G 16 8).toInt ≠ 0 ∨ (G 16 7).toInt ≠ 0))) := hw18.2
    have rg21 := hw18.1
    clear hw18
    refine v_if_eq F 41 dX8_takeOfSum_28 (by decide) r17.toInt rfl (fun c22 => ?_) (fun c22 => ?_)
    · refine g_aload_n F 0 dX8_takeOfSum_41 rfl rfl ?_
      refine g_aload_n F 1 dX8_takeOfSum_42 rfl rfl ?_
      refine xg_4_0 F i_X8 w_2 dX8_takeOfSum_43 ?_
      refine g_aload_n F 2 dX8_takeOfSum_46 rfl rfl ?_
      refine uz_getf F (show va_OF "QuietCut$Clause" "letters" "Ljava/lang/String;" (.ref (zf 82)) (zf 22) A s s.heap from (hZ.2.2.2.2.2 12 (by decide)).2.2.2.2.2.2.1) w_3 dX8_takeOfSum_47 ?_
      refine uz_callVi (k := 0) (n := 0) (b := a 16) (As := [.ref (a 1), .ref (zf 82)]) (st := []) F xZ_st hZ (fun sz => S_X3_takeToken_16_1_L12 l D K a G zf  (f3.2.2) ((show xNl 16 G from n3.2.2 (by omega))) (vl) hI sz) (cwV 2 hts gX8_takeOfSum_X3_takeToken rfl rfl rfl (by decide +kernel) ⟨Nat.le_of_ble_eq_true rfl, Nat.le_of_ble_eq_true rfl⟩) rfl 16 xc_16 rfl (Nat.le_of_ble_eq_true rfl) ⟨Nat.zero_le _, Nat.zero_le _⟩ dX8_takeOfSum_50 (fun r23 G25 hw24 => ?_)
      have hI26 : xI G25 := hw24.1
      have hU27 : gu_un xcd [1602, 1605, 1606, 1607, 1608, 1609, 3500, 3700] G G25 := hw24.2.1
      have hp28 := hw24.2.2
      have q29 : xFi 16 37 G25 := hp28.2.1
      have q30 : (sR (sT 2 (G 1 3).toInt (G 1 5).toInt (G 16 8).toInt (tkr (G 37) ((G 16 4).toInt).toNat) (G 16 6).toInt (G 16 7).toInt (G 16 5).toInt (tkr (G 35) ((G 16 1).toInt).toNat)) r23.toInt (xS 16 35 37 G25)) := hp28.2.2.1
      have b31 : (0 : Int) ≤ (G25 16 8).toInt ∧ (G25 16 8).toInt ≤ 1 := hI26 16 8
      have b32 : (0 : Int) ≤ (G25 16 1).toInt ∧ (G25 16 1).toInt ≤ 80 := hI26 16 1
      have b33 : (0 : Int) ≤ (G25 16 4).toInt ∧ (G25 16 4).toInt ≤ 16 := hI26 16 4
      have b34 : (0 : Int) ≤ (G25 16 5).toInt ∧ (G25 16 5).toInt ≤ 12 := hI26 16 5
      have q35 : (((G25 16 8).toInt = 0 ∧ (G25 16 1).toInt + (G25 16 4).toInt ≤ 6 * (G25 16 5).toInt) ∨ ((G25 16 8).toInt ≠ 0 ∧ (G25 16 1).toInt + (G25 16 4).toInt ≤ 6 * (G25 16 5).toInt + 1 + (G25 16 6).toInt)) := hp28.2.2.2.1
      have q36 : (r23.toInt ≠ 0 ∨ (G 1 3).toInt ≠ 0) := hp28.2.2.2.2
      have rg37 := hp28.1
      clear hp28 hw24
      have b38 : (0 : Int) ≤ (G 4 5).toInt ∧ (G 4 5).toInt ≤ 6 := hI 4 5
      exact u_iret F hA hQ hr G25 (⟨hI26, (gu_un.tr gu_un.rf (gu_un.su hU27 rfl)), (by have h9 := ti_rng r23; omega), (⟨(xFi.un f3.1 (show gu_un xcd [1602, 1605, 1606, 1607, 1608, 1609, 3500, 3700] G G25 from (gu_un.tr gu_un.rf (gu_un.su hU27 rfl))) rfl (fun _ => rfl)), (xFi.un f3.2.1 (show gu_un xcd [1602, 1605, 1606, 1607, 1608, 1609, 3500, 3700] G G25 from (gu_un.tr gu_un.rf (gu_un.su hU27 rfl))) rfl (fun _ => rfl)), q29⟩), (by show (((G25 4 4).toInt = -1 ∨ (G25 4 4).toInt = (G 4 4).toInt) ∧ (G25 4 5).toInt = (G 4 5).toInt); have e9_4_4 : G25 4 4 = (G 4 4) := hU27 4 4 (by decide); have e9_4_5 : G25 4 5 = (G 4 5) := hU27 4 5 (by decide); (try simp only [e9_4_4, e9_4_5, true_and, and_true]) <;> (first | omega | (simp only [Int32.reduceToInt, true_and, and_true, ne_eq, not_true_eq_false, false_and, or_false, false_or, true_or, or_true, false_implies] <;> omega))), (xN3.i2 (Or.inr ⟨by rw [show G25 4 4 = (G 4 4) from hU27 4 4 (by decide)]; omega, show xNl 16 G25 from q35⟩)), (by show ((G25 4 2).toInt ≤ (G 4 2).toInt + 1); have e9_4_2 : G25 4 2 = (G 4 2) := hU27 4 2 (by decide); (try simp only [e9_4_2, true_and, and_true]) <;> (first | omega | (simp only [Int32.reduceToInt, true_and, and_true, ne_eq, not_true_eq_false, false_and, or_false, false_or, true_or, or_true, false_implies] <;> omega))), (xH_tok (i := 2) (show (G 4 4).toInt = 10 + ((2 : Nat) : Int) by omega) (show xSg G 2 = (xS 16 35 37 G) from rfl) (show ¬ ((G 1 3).toInt = 3 ∧ (G 1 5).toInt = 59 ∧ (G 16 8).toInt = 0 ∧ (G 16 7).toInt = 0) by omega) (show sR (sTt ((2 : Nat) : Int) _ _ (xS 16 35 37 G)) _ _ from q30) (xSg_2 (show gu_un xcd [1602, 1605, 1606, 1607, 1608, 1609, 3500, 3700] G G25 from (gu_un.tr gu_un.rf (gu_un.su hU27 rfl))) rfl rfl rfl) (show G25 4 4 = (G 4 4) from hU27 4 4 (by decide)) (show G25 4 5 = (G 4 5) from hU27 4 5 (by decide)) (show G25 4 6 = (G 4 6) from hU27 4 6 (by decide)) (show G25 4 2 = (G 4 2) from hU27 4 2 (by decide)) (show G25 4 3 = (G 4 3) from hU27 4 3 (by decide)) (show G25 19 = G 19 from (show G25 19 = G 19 from funext fun k_ => hU27 19 k_ (show (1900 : Nat) ∉ ([1602, 1605, 1606, 1607, 1608, 1609, 3500, 3700] : List Nat) by decide)))), (by show (r23.toInt ≠ 0 ∨ (G 1 3).toInt ≠ 0); (first | omega | (simp only [Int32.reduceToInt, true_and, and_true, ne_eq, not_true_eq_false, false_and, or_false, false_or, true_or, or_true, false_implies] <;> omega)))⟩) rfl rfl dX8_takeOfSum_53
    · refine g_aload_n F 0 dX8_takeOfSum_31 rfl rfl ?_
      refine u_callVv (k := 0) (n := 0) (b := a 16) (As := []) (st := []) F (fun sz => S_X3_finish_16 l D K a G  (by obtain ⟨⟨t8, h1, h2⟩, -⟩ := (show xFi 16 37 G from f3.2.2); exact ⟨t8, h1, h2 (by omega)⟩) (by have h9 := (show xNl 16 G from n3.2.2 (by omega)); unfold xNl at h9; omega) hI sz) (cwV 0 hts gX8_takeOfSum_X3_finish rfl rfl rfl (by decide +kernel) ⟨Nat.le_of_ble_eq_true rfl, Nat.le_of_ble_eq_true rfl⟩) rfl 16 xc_16 rfl (Nat.le_of_ble_eq_true rfl) ⟨Nat.zero_le _, Nat.zero_le _⟩ dX8_takeOfSum_32 (fun G41 hw40 => ?_)
      have hI42 : xI G41 := hw40.1
      have hU43 : gu_un xcd [1602, 1605, 3500] G G41 := hw40.2.1
      have hp44 := hw40.2.2
      have b45 : (0 : Int) ≤ (G41 16 4).toInt ∧ (G41 16 4).toInt ≤ 16 := hI42 16 4
      have q46 : (∃ t, xQ (G 37) (G41 16 4).toInt (G 16 6).toInt (G 16 7).toInt t ∧ 0 ≤ t ∧ t < 1) := hp44.1
      have b47 : (0 : Int) ≤ (G41 16 1).toInt ∧ (G41 16 1).toInt ≤ 80 := hI42 16 1
      have q48 : (sJ 1 (tkr (G 37) ((G 16 4).toInt).toNat) (tkr (G 35) ((G 16 1).toInt).toNat) = (tkr (G 37) ((G41 16 4).toInt).toNat, tkr (G41 35) ((G41 16 1).toInt).toNat)) := hp44.2.1
      have q49 : ((G41 16 1).toInt + (G41 16 4).toInt = (G 16 1).toInt + (G 16 4).toInt) := hp44.2.2
      clear hp44 hw40
      refine g_aload_n F 1 dX8_takeOfSum_35 rfl rfl ?_
      refine u_callVv (k := 0) (n := 0) (b := a 4) (As := []) (st := []) F (fun sz => S_X8_closeClause l D K a G41  (by have e9_4_2 : G41 4 2 = (G 4 2) := hU43 4 2 (by decide); (try simp only [e9_4_2, true_and, and_true]) <;> (first | omega | (simp only [Int32.reduceToInt, true_and, and_true, ne_eq, not_true_eq_false, false_and, or_false, false_or, true_or, or_true, false_implies] <;> omega))) hI42 sz) (cwV 0 hts gX8_takeOfSum_X8_closeClause rfl rfl rfl (by decide +kernel) ⟨Nat.le_of_ble_eq_true rfl, Nat.le_of_ble_eq_true rfl⟩) rfl 4 xc_4 rfl (Nat.le_of_ble_eq_true rfl) ⟨Nat.zero_le _, Nat.zero_le _⟩ dX8_takeOfSum_36 (fun G52 hw51 => ?_)
      have hI53 : xI G52 := hw51.1
      have hU54 : gu_un xcd [403, 405] G41 G52 := hw51.2.1
      have hp55 := hw51.2.2
      have b56 : ((-1) : Int) ≤ (G52 4 4).toInt ∧ (G52 4 4).toInt ≤ 12 := hI53 4 4
      have q57 : ((G52 4 4).toInt = -1) := hp55.1
      have b58 : (0 : Int) ≤ (G52 4 2).toInt ∧ (G52 4 2).toInt ≤ 1001 := hI53 4 2
      have q59 : ((G52 4 2).toInt = (G 4 2).toInt + 1) := by have h9 := hp55.2; (try simp only [(show G41 4 2 = (G 4 2) from hU43 4 2 (by decide))] at h9); first | exact h9 | omega
      clear hp55 hw51
      refine g_iconst F 0 dX8_takeOfSum_39 (by decide) ?_
      have b60 : (0 : Int) ≤ (G 4 5).toInt ∧ (G 4 5).toInt ≤ 6 := hI 4 5
      exact u_iret F hA hQ hr G52 (⟨hI53, (gu_un.tr (gu_un.tr gu_un.rf (gu_un.su hU43 rfl)) (gu_un.su hU54 rfl)), (by decide), (⟨(xFi.un f3.1 (show gu_un xcd [403, 405, 1602, 1605, 3500] G G52 from (gu_un.tr (gu_un.tr gu_un.rf (gu_un.su hU43 rfl)) (gu_un.su hU54 rfl))) rfl (fun _ => rfl)), (xFi.un f3.2.1 (show gu_un xcd [403, 405, 1602, 1605, 3500] G G52 from (gu_un.tr (gu_un.tr gu_un.rf (gu_un.su hU43 rfl)) (gu_un.su hU54 rfl))) rfl (fun _ => rfl)), (xFi.mk (w := (G 16 8).toInt) (by obtain ⟨t8, h1, h2, h3⟩ := q46; exact ⟨t8, h1, fun _ => h2⟩) (by have h9 := f3.2.2.2; exact h9) (show G52 37 = _ from (show G52 37 = G41 37 from funext fun k_ => hU54 37 k_ (show (3700 : Nat) ∉ ([403, 405] : List Nat) by decide)).trans ((show G41 37 = G 37 from funext fun k_ => hU43 37 k_ (show (3700 : Nat) ∉ ([1602, 1605, 3500] : List Nat) by decide)))) (show (G52 16 4).toInt = _ by rw [show G52 16 4 = (G41 16 4) from hU54 16 4 (by decide)]) (show (G52 16 6).toInt = _ by rw [show G52 16 6 = (G 16 6) from (hU54 16 6 (by decide)).trans (hU43 16 6 (by decide))]) (show (G52 16 7).toInt = _ by rw [show G52 16 7 = (G 16 7) from (hU54 16 7 (by decide)).trans (hU43 16 7 (by decide))]) (show (G52 16 8).toInt = _ by rw [show G52 16 8 = (G 16 8) from (hU54 16 8 (by decide)).trans (hU43 16 8 (by decide))]))⟩), (by show (((G52 4 4).toInt = -1 ∨ (G52 4 4).toInt = (G 4 4).toInt) ∧ (G52 4 5).toInt = (G 4 5).toInt); have e9_4_5 : G52 4 5 = (G 4 5) := (hU54 4 5 (by decide)).trans (hU43 4 5 (by decide)); (try simp only [e9_4_5, true_and, and_true]) <;> (first | omega | (simp only [Int32.reduceToInt, true_and, and_true, ne_eq, not_true_eq_false, false_and, or_false, false_or, true_or, or_true, false_implies] <;> omega))), (xN3.no (by omega)), (by show ((G52 4 2).toInt ≤ (G 4 2).toInt + 1); (first | omega | (simp only [Int32.reduceToInt, true_and, and_true, ne_eq, not_true_eq_false, false_and, or_false, false_or, true_or, or_true, false_implies] <;> omega))), (xH_fin (i := 2) (by decide) (show (G 4 4).toInt = 10 + ((2 : Nat) : Int) by omega) (show xSg G 2 = (xS 16 35 37 G) from rfl) (by omega) (by omega) (show (G 16 8).toInt = 0 by omega) (show (G 16 7).toInt = 0 by omega) (xSg_2 (show gu_un xcd [403, 405, 1602, 1605, 3500] G G52 from (gu_un.tr (gu_un.tr gu_un.rf (gu_un.su hU43 rfl)) (gu_un.su hU54 rfl))) rfl rfl (by rw [xS_of (rc := 35) (show (G52 16 8).toInt = (G 16 8).toInt from congrArg Int32.toInt (show G52 16 8 = (G 16 8) from (hU54 16 8 (by decide)).trans (hU43 16 8 (by decide)))) (show G52 37 = (G 37) from (show G52 37 = G41 37 from funext fun k_ => hU54 37 k_ (show (3700 : Nat) ∉ ([403, 405] : List Nat) by decide)).trans ((show G41 37 = G 37 from funext fun k_ => hU43 37 k_ (show (3700 : Nat) ∉ ([1602, 1605, 3500] : List Nat) by decide)))) (show (G52 16 4).toInt = (G41 16 4).toInt from congrArg Int32.toInt (show G52 16 4 = (G41 16 4) from hU54 16 4 (by decide))) (show (G52 16 6).toInt = (G 16 6).toInt from congrArg Int32.toInt (show G52 16 6 = (G 16 6) from (hU54 16 6 (by decide)).trans (hU43 16 6 (by decide)))) (show (G52 16 7).toInt = (G 16 7).toInt from congrArg Int32.toInt (show G52 16 7 = (G 16 7) from (hU54 16 7 (by decide)).trans (hU43 16 7 (by decide)))) (show (G52 16 5).toInt = (G 16 5).toInt from congrArg Int32.toInt (show G52 16 5 = (G 16 5) from (hU54 16 5 (by decide)).trans (hU43 16 5 (by decide)))) (show G52 35 = (G41 35) from (show G52 35 = G41 35 from funext fun k_ => hU54 35 k_ (show (3500 : Nat) ∉ ([403, 405] : List Nat) by decide))) (show (G52 16 1).toInt = (G41 16 1).toInt from congrArg Int32.toInt (show G52 16 1 = (G41 16 1) from hU54 16 1 (by decide)))]; show _ = ((G 16 8).toInt, (sJ 1 (tkr (G 37) ((G 16 4).toInt).toNat) (tkr (G 35) ((G 16 1).toInt).toNat)).1, (G 16 6).toInt, (G 16 7).toInt, (G 16 5).toInt, (sJ 1 (tkr (G 37) ((G 16 4).toInt).toNat) (tkr (G 35) ((G 16 1).toInt).toNat)).2); rw [q48])) (show (G52 4 4).toInt = -1 by rw [show G52 4 4 = (G52 4 4) from rfl] <;> first | rfl | omega) (show G52 4 5 = (G 4 5) from (hU54 4 5 (by decide)).trans (hU43 4 5 (by decide))) (show G52 4 6 = (G 4 6) from (hU54 4 6 (by decide)).trans (hU43 4 6 (by decide))) (show (G52 4 2).toInt = (G 4 2).toInt + 1 by rw [show G52 4 2 = (G52 4 2) from rfl] <;> first | rfl | omega) (show G52 4 3 = (G 4 3) from (hU54 4 3 (by decide)).trans (hU43 4 3 (by decide))) (show G52 19 = G 19 from (show G52 19 = G41 19 from funext fun k_ => hU54 19 k_ (show (1900 : Nat) ∉ ([403, 405] : List Nat) by decide)).trans ((show G41 19 = G 19 from funext fun k_ => hU43 19 k_ (show (1900 : Nat) ∉ ([1602, 1605, 3500] : List Nat) by decide))))), (by show (0 ≠ 0 ∨ (G 1 3).toInt ≠ 0); (first | omega | (simp only [Int32.reduceToInt, true_and, and_true, ne_eq, not_true_eq_false, false_and, or_false, false_or, true_or, or_true, false_implies] <;> omega)))⟩) rfl rfl dX8_takeOfSum_40
  · have q15 : ((G 1 3).toInt ≠ 3 ∨ (G 1 5).toInt ≠ (59 : Int)) := q15
    refine v_if_eq F 41 dX8_takeOfSum_21 (by decide) 0 rfl (fun c61 => ?_) (fun c61 => absurd c61 (by decide))
    refine g_aload_n F 0 dX8_takeOfSum_41 rfl rfl ?_
    refine g_aload_n F 1 dX8_takeOfSum_42 rfl rfl ?_
    refine xg_4_0 F i_X8 w_2 dX8_takeOfSum_43 ?_
    refine g_aload_n F 2 dX8_takeOfSum_46 rfl rfl ?_
    refine uz_getf F (show va_OF "QuietCut$Clause" "letters" "Ljava/lang/String;" (.ref (zf 82)) (zf 22) A s s.heap from (hZ.2.2.2.2.2 12 (by decide)).2.2.2.2.2.2.1) w_3 dX8_takeOfSum_47 ?_
    refine uz_callVi (k := 0) (n := 0) (b := a 16) (As := [.ref (a 1), .ref (zf 82)]) (st := []) F xZ_st hZ (fun sz => S_X3_takeToken_16_1_L12 l D K a G zf  (f3.2.2) ((show xNl 16 G from n3.2.2 (by omega))) (vl) hI sz) (cwV 2 hts gX8_takeOfSum_X3_takeToken rfl rfl rfl (by decide +kernel) ⟨Nat.le_of_ble_eq_true rfl, Nat.le_of_ble_eq_true rfl⟩) rfl 16 xc_16 rfl (Nat.le_of_ble_eq_true rfl) ⟨Nat.zero_le _, Nat.zero_le _⟩ dX8_takeOfSum_50 (fun r62 G64 hw63 => ?_)
    have hI65 : xI G64 := hw63.1
    have hU66 : gu_un xcd [1602, 1605, 1606, 1607, 1608, 1609, 3500, 3700] G G64 := hw63.2.1
    have hp67 := hw63.2.2
    have q68 : xFi 16 37 G64 := hp67.2.1
    have q69 : (sR (sT 2 (G 1 3).toInt (G 1 5).toInt (G 16 8).toInt (tkr (G 37) ((G 16 4).toInt).toNat) (G 16 6).toInt (G 16 7).toInt (G 16 5).toInt (tkr (G 35) ((G 16 1).toInt).toNat)) r62.toInt (xS 16 35 37 G64)) := hp67.2.2.1
    have b70 : (0 : Int) ≤ (G64 16 8).toInt ∧ (G64 16 8).toInt ≤ 1 := hI65 16 8
    have b71 : (0 : Int) ≤ (G64 16 1).toInt ∧ (G64 16 1).toInt ≤ 80 := hI65 16 1
    have b72 : (0 : Int) ≤ (G64 16 4).toInt ∧ (G64 16 4).toInt ≤ 16 := hI65 16 4
    have b73 : (0 : Int) ≤ (G64 16 5).toInt ∧ (G64 16 5).toInt ≤ 12 := hI65 16 5
    have q74 : (((G64 16 8).toInt = 0 ∧ (G64 16 1).toInt + (G64 16 4).toInt ≤ 6 * (G64 16 5).toInt) ∨ ((G64 16 8).toInt ≠ 0 ∧ (G64 16 1).toInt + (G64 16 4).toInt ≤ 6 * (G64 16 5).toInt + 1 + (G64 16 6).toInt)) := hp67.2.2.2.1
    have q75 : (r62.toInt ≠ 0 ∨ (G 1 3).toInt ≠ 0) := hp67.2.2.2.2
    have rg76 := hp67.1
    clear hp67 hw63
    have b77 : (0 : Int) ≤ (G 4 5).toInt ∧ (G 4 5).toInt ≤ 6 := hI 4 5
    exact u_iret F hA hQ hr G64 (⟨hI65, (gu_un.tr gu_un.rf (gu_un.su hU66 rfl)), (by have h9 := ti_rng r62; omega), (⟨(xFi.un f3.1 (show gu_un xcd [1602, 1605, 1606, 1607, 1608, 1609, 3500, 3700] G G64 from (gu_un.tr gu_un.rf (gu_un.su hU66 rfl))) rfl (fun _ => rfl)), (xFi.un f3.2.1 (show gu_un xcd [1602, 1605, 1606, 1607, 1608, 1609, 3500, 3700] G G64 from (gu_un.tr gu_un.rf (gu_un.su hU66 rfl))) rfl (fun _ => rfl)), q68⟩), (by show (((G64 4 4).toInt = -1 ∨ (G64 4 4).toInt = (G 4 4).toInt) ∧ (G64 4 5).toInt = (G 4 5).toInt); have e9_4_4 : G64 4 4 = (G 4 4) := hU66 4 4 (by decide); have e9_4_5 : G64 4 5 = (G 4 5) := hU66 4 5 (by decide); (try simp only [e9_4_4, e9_4_5, true_and, and_true]) <;> (first | omega | (simp only [Int32.reduceToInt, true_and, and_true, ne_eq, not_true_eq_false, false_and, or_false, false_or, true_or, or_true, false_implies] <;> omega))), (xN3.i2 (Or.inr ⟨by rw [show G64 4 4 = (G 4 4) from hU66 4 4 (by decide)]; omega, show xNl 16 G64 from q74⟩)), (by show ((G64 4 2).toInt ≤ (G 4 2).toInt + 1); have e9_4_2 : G64 4 2 = (G 4 2) := hU66 4 2 (by decide); (try simp only [e9_4_2, true_and, and_true]) <;> (first | omega | (simp only [Int32.reduceToInt, true_and, and_true, ne_eq, not_true_eq_false, false_and, or_false, false_or, true_or, or_true, false_implies] <;> omega))), (xH_tok (i := 2) (show (G 4 4).toInt = 10 + ((2 : Nat) : Int) by omega) (show xSg G 2 = (xS 16 35 37 G) from rfl) (show ¬ ((G 1 3).toInt = 3 ∧ (G 1 5).toInt = 59 ∧ (G 16 8).toInt = 0 ∧ (G 16 7).toInt = 0) by omega) (show sR (sTt ((2 : Nat) : Int) _ _ (xS 16 35 37 G)) _ _ from q69) (xSg_2 (show gu_un xcd [1602, 1605, 1606, 1607, 1608, 1609, 3500, 3700] G G64 from (gu_un.tr gu_un.rf (gu_un.su hU66 rfl))) rfl rfl rfl) (show G64 4 4 = (G 4 4) from hU66 4 4 (by decide)) (show G64 4 5 = (G 4 5) from hU66 4 5 (by decide)) (show G64 4 6 = (G 4 6) from hU66 4 6 (by decide)) (show G64 4 2 = (G 4 2) from hU66 4 2 (by decide)) (show G64 4 3 = (G 4 3) from hU66 4 3 (by decide)) (show G64 19 = G 19 from (show G64 19 = G 19 from funext fun k_ => hU66 19 k_ (show (1900 : Nat) ∉ ([1602, 1605, 1606, 1607, 1608, 1609, 3500, 3700] : List Nat) by decide)))), (by show (r62.toInt ≠ 0 ∨ (G 1 3).toInt ≠ 0); (first | omega | (simp only [Int32.reduceToInt, true_and, and_true, ne_eq, not_true_eq_false, false_and, or_false, false_or, true_or, or_true, false_implies] <;> omega)))⟩) rfl rfl dX8_takeOfSum_53
