theorem dX13_readSpan_0 : decode cX13_readSpan 0 = .ok (.aload_n 0, 1) := by decide +kernel
theorem dX13_readSpan_1 : decode cX13_readSpan 1 = .ok (.getfield 76, 3) := by decide +kernel
theorem dX13_readSpan_4 : decode cX13_readSpan 4 = .ok (.iload_n 1, 1) := by decide +kernel
theorem dX13_readSpan_5 : decode cX13_readSpan 5 = .ok (.aload_n 0, 1) := by decide +kernel
theorem dX13_readSpan_6 : decode cX13_readSpan 6 = .ok (.iconst 0, 1) := by decide +kernel
theorem dX13_readSpan_7 : decode cX13_readSpan 7 = .ok (.sipush 200, 3) := by decide +kernel
theorem dX13_readSpan_10 : decode cX13_readSpan 10 = .ok (.invokevirtual 180, 3) := by decide +kernel
theorem dX13_readSpan_13 : decode cX13_readSpan 13 = .ok (.iastore, 1) := by decide +kernel
theorem dX13_readSpan_14 : decode cX13_readSpan 14 = .ok (.aload_n 0, 1) := by decide +kernel
theorem dX13_readSpan_15 : decode cX13_readSpan 15 = .ok (.getfield 76, 3) := by decide +kernel
theorem dX13_readSpan_18 : decode cX13_readSpan 18 = .ok (.iload_n 1, 1) := by decide +kernel
theorem dX13_readSpan_19 : decode cX13_readSpan 19 = .ok (.iconst 1, 1) := by decide +kernel
theorem dX13_readSpan_20 : decode cX13_readSpan 20 = .ok (.iadd, 1) := by decide +kernel
theorem dX13_readSpan_21 : decode cX13_readSpan 21 = .ok (.aload_n 0, 1) := by decide +kernel
theorem dX13_readSpan_22 : decode cX13_readSpan 22 = .ok (.aload_n 0, 1) := by decide +kernel
theorem dX13_readSpan_23 : decode cX13_readSpan 23 = .ok (.getfield 76, 3) := by decide +kernel
theorem dX13_readSpan_26 : decode cX13_readSpan 26 = .ok (.iload_n 1, 1) := by decide +kernel
theorem dX13_readSpan_27 : decode cX13_readSpan 27 = .ok (.iaload, 1) := by decide +kernel
theorem dX13_readSpan_28 : decode cX13_readSpan 28 = .ok (.sipush 200, 3) := by decide +kernel
theorem dX13_readSpan_31 : decode cX13_readSpan 31 = .ok (.aload_n 0, 1) := by decide +kernel
theorem dX13_readSpan_32 : decode cX13_readSpan 32 = .ok (.getfield 76, 3) := by decide +kernel
theorem dX13_readSpan_35 : decode cX13_readSpan 35 = .ok (.iload_n 1, 1) := by decide +kernel
theorem dX13_readSpan_36 : decode cX13_readSpan 36 = .ok (.iaload, 1) := by decide +kernel
theorem dX13_readSpan_37 : decode cX13_readSpan 37 = .ok (.iconst 3, 1) := by decide +kernel
theorem dX13_readSpan_38 : decode cX13_readSpan 38 = .ok (.iadd, 1) := by decide +kernel
theorem dX13_readSpan_39 : decode cX13_readSpan 39 = .ok (.invokestatic 147, 3) := by decide +kernel
theorem dX13_readSpan_42 : decode cX13_readSpan 42 = .ok (.invokevirtual 180, 3) := by decide +kernel
theorem dX13_readSpan_45 : decode cX13_readSpan 45 = .ok (.iastore, 1) := by decide +kernel
theorem dX13_readSpan_46 : decode cX13_readSpan 46 = .ok (.return_, 1) := by decide +kernel
set_option maxRecDepth 20000 in
theorem ggX13_readSpan_X13_number : GoodIn wsX13_readSpan wsX13_number := goodIn_r _ [10, 11, 12, 13, 9, 14, 15, 16, 17, 18, 19, 20, 21, 22, 23, 24, 25, 26, 27, 28, 29, 30, 31, 32, 33, 34, 35, 36, 37, 38, 39, 40, 41, 42, 43, 44, 45, 46, 47, 48, 49, 50, 51, 52, 53, 54, 55, 56, 57, 58, 59, 60, 61, 62, 63, 64, 65, 66, 67, 68, 69, 70, 71, 72, 73, 74, 75, 76, 77, 78, 79, 80, 81, 82, 83, 84, 85, 86, 87, 88, 89, 90, 91, 92, 93, 94, 95, 96, 97, 98, 99, 100, 101, 102, 103, 104, 105, 106, 107, 108, 109, 110, 111, 112, 113, 114] rfl (by decide +kernel)
set_option maxRecDepth 20000 in
theorem gX13_readSpan_X13_number : GoodIn wsX13_readSpan (wsV RX13 180 RX13 yX13_number wsX13_number) := goodIn_app (goodIn_of _ (by decide +kernel)) ggX13_readSpan_X13_number
def wsT_X13_readSpan : List Cond := wsX13_readSpan ++ wsT_nx
theorem gT_X13_readSpan_X13_number : GoodIn wsT_X13_readSpan (wsV RX13 180 RX13 yX13_number wsT_X13_number) := gT_call gX13_readSpan_X13_number gT_nx
set_option maxHeartbeats 4000000 in
set_option maxRecDepth 100000 in
theorem S_X13_readSpan_v3 (l : Launch) (D : va_G) (K : Nat → ClassId) (a : Nat → Nat) (G : gS) (pb : ((G 0 5).toInt ≤ (G 0 3).toInt)) (hI : yI G) (sz : Nat) : Kxv l yX13_readSpan wsT_X13_readSpan 5 128 D [.ref (a 0), .int 3] (yW K a G) (tK K) sz (fun (G' : gS) => (yI G') ∧ (gu_un ycd [5, 6, 7, 8, 9, 10, 400] G G') ∧ (((G' 0 5).toInt ≤ (G 0 3).toInt ∧ (G 0 5).toInt ≤ (G' 0 5).toInt ∧ ((G' 0 6).toInt = 0 ∨ (G 0 5).toInt < (G' 0 5).toInt)))) (fun (G' : gS) => (yI G') ∧ (gu_un ycd [5, 6, 7, 8, 9, 10, 400] G G')) (a 1) (fun (G' : gS) => (yW K a G')) := by
  unfold Kxv
  refine gx_ofW (cc := cX13_readSpan) (lv := [(0, .ref (a 0)), (1, .int 3)]) (by decide) rfl (Nat.le_of_ble_eq_true rfl) rfl ?_
  intro p e s m args below meth c A Q hA hQ F hr hex
  have hts := F.2.2.2.2.1
  have w_0 : (Cond.fieldLink RX13 76 "QuietCutModel" "readRule" "[I").before args s = true := hts _ (List.mem_of_getElem? (i := 1) rfl)
  have i_X13 : ∀ w ∈ u_ws RX13 TX13 73, w ∈ wsT_X13_readSpan := fun w h => List.mem_append_left _ ((show ∀ w ∈ u_ws RX13 TX13 73, w ∈ wsX13_readSpan from fun _ h => List.mem_cons_of_mem _ (List.mem_append_right _ h)) w h)
  have w_1 : (Cond.methodLink RX13 147 Lib.Math.min.name).before args s = true := hts _ (List.mem_of_getElem? (i := 2) rfl)
  have w_2 : (Cond.static Lib.Math.min.name).before args s = true := hts _ (List.mem_of_getElem? (i := 3) rfl)
  have w_3 : (Cond.initialized "java/lang/Math").before args s = true := hts _ (List.mem_of_getElem? (i := 4) rfl)
  have w_4 : (Cond.code Lib.Math.min.name Lib.Math.min.code 2 (some .int)).before args s = true := hts _ (List.mem_of_getElem? (i := 5) rfl)
  refine g_aload_n F 0 dX13_readSpan_0 rfl rfl ?_
  refine yg_0_11 F i_X13 w_0 dX13_readSpan_1 ?_
  refine g_iload_n F 1 dX13_readSpan_4 rfl rfl ?_
  refine g_aload_n F 0 dX13_readSpan_5 rfl rfl ?_
  refine g_iconst F 0 dX13_readSpan_6 (by decide) ?_
  refine g_sipush F 200 dX13_readSpan_7 (by decide) ?_
  have b1 : (0 : Int) ≤ (G 0 3).toInt ∧ (G 0 3).toInt ≤ 1000 := hI 0 3
  have b2 : (0 : Int) ≤ (G 0 5).toInt ∧ (G 0 5).toInt ≤ 1000 := hI 0 5
  refine ux_calliv (k := 0) (n := 0) (b := a 0) (As := [.int 0, .int 200]) (st := [.int 3, .ref (a 4)]) F (fun sz => S_X13_number l D K a G 0 0 200 200 rfl rfl (by (first | omega | (simp only [Int32.reduceToInt, true_and, and_true, ne_eq, not_true_eq_false, false_and, or_false, false_or, true_or, or_true, false_implies] <;> omega))) hI sz) (cwV 2 hts gT_X13_readSpan_X13_number rfl rfl rfl (by decide +kernel) ⟨Nat.le_of_ble_eq_true rfl, Nat.le_of_ble_eq_true rfl⟩) rfl 0 yc_0 rfl (Nat.le_of_ble_eq_true rfl) ⟨Nat.zero_le _, Nat.zero_le _⟩ dX13_readSpan_10 hex hA hQ (fun u9 h9 => ⟨h9.1, gu_un.tr gu_un.rf (gu_un.su h9.2 rfl)⟩) (fun r3 G5 hw4 => ?_)
  have hI6 : yI G5 := hw4.1
  have hU7 : gu_un ycd [5, 6, 7, 8, 9, 10] G G5 := hw4.2.1
  have hp8 := hw4.2.2
  have q9 : ((0 : Int) ≤ r3.toInt ∧ r3.toInt ≤ (200 : Int)) := hp8.1
  have b10 : (0 : Int) ≤ (G5 0 5).toInt ∧ (G5 0 5).toInt ≤ 1000 := hI6 0 5
  have b11 : (0 : Int) ≤ (G5 0 6).toInt ∧ (G5 0 6).toInt ≤ 4 := hI6 0 6
  have q12 : ((G5 0 5).toInt ≤ (G 0 3).toInt ∧ (G 0 5).toInt ≤ (G5 0 5).toInt ∧ ((G5 0 6).toInt = 0 ∨ (G 0 5).toInt < (G5 0 5).toInt)) := hp8.2
  clear hp8 hw4
  refine u_iast F 4 0 yc_4 rfl 3 rfl (by decide) (by decide) (yW K a (gu_up G5 4 3 r3)) (ys_4 _) dX13_readSpan_13 ?_
  refine g_aload_n F 0 dX13_readSpan_14 rfl rfl ?_
  refine yg_0_11 F i_X13 w_0 dX13_readSpan_15 ?_
  refine g_iload_n F 1 dX13_readSpan_18 rfl rfl ?_
  refine g_iconst F 1 dX13_readSpan_19 (by decide) ?_
  refine g_iadd F dX13_readSpan_20 ?_
  refine g_fold 4 (by decide) ?_
  refine g_aload_n F 0 dX13_readSpan_21 rfl rfl ?_
  refine g_aload_n F 0 dX13_readSpan_22 rfl rfl ?_
  refine yg_0_11 F i_X13 w_0 dX13_readSpan_23 ?_
  refine g_iload_n F 1 dX13_readSpan_26 rfl rfl ?_
  refine u1_iald F 4 0 yc_4 rfl 3 rfl (by decide) (by decide) dX13_readSpan_27 r3 (rfl) ?_
  refine g_sipush F 200 dX13_readSpan_28 (by decide) ?_
  refine g_aload_n F 0 dX13_readSpan_31 rfl rfl ?_
  refine yg_0_11 F i_X13 w_0 dX13_readSpan_32 ?_
  refine g_iload_n F 1 dX13_readSpan_35 rfl rfl ?_
  refine u1_iald F 4 0 yc_4 rfl 3 rfl (by decide) (by decide) dX13_readSpan_36 r3 (rfl) ?_
  refine g_iconst F 3 dX13_readSpan_37 (by decide) ?_
  refine u_iaddc F dX13_readSpan_38 r3.toInt 3 rfl rfl (fun y13 ey13 => ?_)
  refine u_mmin F w_1 w_2 w_3 w_4 (Nat.le_of_ble_eq_true rfl) (Nat.le_of_ble_eq_true rfl) (Nat.le_of_ble_eq_true rfl) (Nat.le_of_ble_eq_true rfl) dX13_readSpan_39 200 y13.toInt rfl rfl (fun y14 ey14 => ?_)
  have b15 := ti_rng y14
  refine ux_calliv (k := 0) (n := 0) (b := a 0) (As := [.int r3, .int y14]) (st := [.int 4, .ref (a 4)]) F (fun sz => S_X13_number l D K a (gu_up G5 4 3 r3) r3 r3.toInt y14 y14.toInt rfl rfl (by have e9_0_3 : (gu_up G5 4 3 r3) 0 3 = (G 0 3) := hU7 0 3 (by decide); have e9_0_5 : (gu_up G5 4 3 r3) 0 5 = (G5 0 5) := rfl; (try simp only [e9_0_3, e9_0_5, true_and, and_true]) <;> (first | omega | (simp only [Int32.reduceToInt, true_and, and_true, ne_eq, not_true_eq_false, false_and, or_false, false_or, true_or, or_true, false_implies] <;> omega))) (gu_I.up (j := 4) (k := 3) (v := r3) hI6 (show (0 : Int) ≤ Int32.toInt r3 by omega) (show Int32.toInt r3 ≤ 200 by omega)) sz) (cwV 2 hts gT_X13_readSpan_X13_number rfl rfl rfl (by decide +kernel) ⟨Nat.le_of_ble_eq_true rfl, Nat.le_of_ble_eq_true rfl⟩) rfl 0 yc_0 rfl (Nat.le_of_ble_eq_true rfl) ⟨Nat.zero_le _, Nat.zero_le _⟩ dX13_readSpan_42 hex hA hQ (fun u9 h9 => ⟨h9.1, gu_un.tr (gu_un.up (j := 4) (k := 3) (v := r3) (gu_un.tr gu_un.rf (gu_un.su hU7 rfl)) (show (400 : Nat) ∈ ([5, 6, 7, 8, 9, 10, 400] : List Nat) by decide)) (gu_un.su h9.2 rfl)⟩) (fun r16 G18 hw17 => ?_)
  have hI19 : yI G18 := hw17.1
  have hU20 : gu_un ycd [5, 6, 7, 8, 9, 10] (gu_up G5 4 3 r3) G18 := hw17.2.1
  have hp21 := hw17.2.2
  have q22 : (r3.toInt ≤ r16.toInt ∧ r16.toInt ≤ y14.toInt) := hp21.1
  have b23 : (0 : Int) ≤ (G18 0 5).toInt ∧ (G18 0 5).toInt ≤ 1000 := hI19 0 5
  have b24 : (0 : Int) ≤ (G18 0 6).toInt ∧ (G18 0 6).toInt ≤ 4 := hI19 0 6
  have q25 : ((G18 0 5).toInt ≤ (G 0 3).toInt ∧ (G5 0 5).toInt ≤ (G18 0 5).toInt ∧ ((G18 0 6).toInt = 0 ∨ (G5 0 5).toInt < (G18 0 5).toInt)) := by have h9 := hp21.2; (try simp only [(show (gu_up G5 4 3 r3) 0 3 = (G 0 3) from hU7 0 3 (by decide))] at h9); first | exact h9 | omega
  clear hp21 hw17
  refine u_iast F 4 0 yc_4 rfl 4 rfl (by decide) (by decide) (yW K a (gu_up G18 4 4 r16)) (ys_4 _) dX13_readSpan_45 ?_
  exact ux_vret F hA hQ hr (gu_up G18 4 4 r16) (⟨(gu_I.up (j := 4) (k := 4) (v := r16) hI19 (show (0 : Int) ≤ Int32.toInt r16 by omega) (show Int32.toInt r16 ≤ 200 by omega)), (gu_un.up (j := 4) (k := 4) (v := r16) (gu_un.tr (gu_un.up (j := 4) (k := 3) (v := r3) (gu_un.tr gu_un.rf (gu_un.su hU7 rfl)) (show (400 : Nat) ∈ ([5, 6, 7, 8, 9, 10, 400] : List Nat) by decide)) (gu_un.su hU20 rfl)) (show (400 : Nat) ∈ ([5, 6, 7, 8, 9, 10, 400] : List Nat) by decide)), (by show (((gu_up G18 4 4 r16) 0 5).toInt ≤ (G 0 3).toInt ∧ (G 0 5).toInt ≤ ((gu_up G18 4 4 r16) 0 5).toInt ∧ (((gu_up G18 4 4 r16) 0 6).toInt = 0 ∨ (G 0 5).toInt < ((gu_up G18 4 4 r16) 0 5).toInt)); have e9_0_5 : (gu_up G18 4 4 r16) 0 5 = (G18 0 5) := rfl; have e9_0_6 : (gu_up G18 4 4 r16) 0 6 = (G18 0 6) := rfl; (try simp only [e9_0_5, e9_0_6, true_and, and_true]) <;> (first | omega | (simp only [Int32.reduceToInt, true_and, and_true, ne_eq, not_true_eq_false, false_and, or_false, false_or, true_or, or_true, false_implies] <;> omega)))⟩) rfl rfl dX13_readSpan_46


set_option maxHeartbeats 4000000 in
set_option maxRecDepth 100000 in
theorem S_X13_readSpan_v5 (l : Launch) (D : va_G) (K : Nat → ClassId) (a : Nat → Nat) (G : gS) (pb : ((G 0 5).toInt ≤ (G 0 3).toInt)) (hI : yI G) (sz : Nat) : Kxv l yX13_readSpan wsT_X13_readSpan 5 128 D [.ref (a 0), .int 5] (yW K a G) (tK K) sz (fun (G' : gS) => (yI G') ∧ (gu_un ycd [5, 6, 7, 8, 9, 10, 400] G G') ∧ (((G' 0 5).toInt ≤ (G 0 3).toInt ∧ (G 0 5).toInt ≤ (G' 0 5).toInt ∧ ((G' 0 6).toInt = 0 ∨ (G 0 5).toInt < (G' 0 5).toInt)))) (fun (G' : gS) => (yI G') ∧ (gu_un ycd [5, 6, 7, 8, 9, 10, 400] G G')) (a 1) (fun (G' : gS) => (yW K a G')) := by
  unfold Kxv
  refine gx_ofW (cc := cX13_readSpan) (lv := [(0, .ref (a 0)), (1, .int 5)]) (by decide) rfl (Nat.le_of_ble_eq_true rfl) rfl ?_
  intro p e s m args below meth c A Q hA hQ F hr hex
  have hts := F.2.2.2.2.1
  have w_0 : (Cond.fieldLink RX13 76 "QuietCutModel" "readRule" "[I").before args s = true := hts _ (List.mem_of_getElem? (i := 1) rfl)
  have i_X13 : ∀ w ∈ u_ws RX13 TX13 73, w ∈ wsT_X13_readSpan := fun w h => List.mem_append_left _ ((show ∀ w ∈ u_ws RX13 TX13 73, w ∈ wsX13_readSpan from fun _ h => List.mem_cons_of_mem _ (List.mem_append_right _ h)) w h)
  have w_1 : (Cond.methodLink RX13 147 Lib.Math.min.name).before args s = true := hts _ (List.mem_of_getElem? (i := 2) rfl)
  have w_2 : (Cond.static Lib.Math.min.name).before args s = true := hts _ (List.mem_of_getElem? (i := 3) rfl)
  have w_3 : (Cond.initialized "java/lang/Math").before args s = true := hts _ (List.mem_of_getElem? (i := 4) rfl)
  have w_4 : (Cond.code Lib.Math.min.name Lib.Math.min.code 2 (some .int)).before args s = true := hts _ (List.mem_of_getElem? (i := 5) rfl)
  refine g_aload_n F 0 dX13_readSpan_0 rfl rfl ?_
  refine yg_0_11 F i_X13 w_0 dX13_readSpan_1 ?_
  refine g_iload_n F 1 dX13_readSpan_4 rfl rfl ?_
  refine g_aload_n F 0 dX13_readSpan_5 rfl rfl ?_
  refine g_iconst F 0 dX13_readSpan_6 (by decide) ?_
  refine g_sipush F 200 dX13_readSpan_7 (by decide) ?_
  have b1 : (0 : Int) ≤ (G 0 3).toInt ∧ (G 0 3).toInt ≤ 1000 := hI 0 3
  have b2 : (0 : Int) ≤ (G 0 5).toInt ∧ (G 0 5).toInt ≤ 1000 := hI 0 5
  refine ux_calliv (k := 0) (n := 0) (b := a 0) (As := [.int 0, .int 200]) (st := [.int 5, .ref (a 4)]) F (fun sz => S_X13_number l D K a G 0 0 200 200 rfl rfl (by (first | omega | (simp only [Int32.reduceToInt, true_and, and_true, ne_eq, not_true_eq_false, false_and, or_false, false_or, true_or, or_true, false_implies] <;> omega))) hI sz) (cwV 2 hts gT_X13_readSpan_X13_number rfl rfl rfl (by decide +kernel) ⟨Nat.le_of_ble_eq_true rfl, Nat.le_of_ble_eq_true rfl⟩) rfl 0 yc_0 rfl (Nat.le_of_ble_eq_true rfl) ⟨Nat.zero_le _, Nat.zero_le _⟩ dX13_readSpan_10 hex hA hQ (fun u9 h9 => ⟨h9.1, gu_un.tr gu_un.rf (gu_un.su h9.2 rfl)⟩) (fun r3 G5 hw4 => ?_)
  have hI6 : yI G5 := hw4.1
  have hU7 : gu_un ycd [5, 6, 7, 8, 9, 10] G G5 := hw4.2.1
  have hp8 := hw4.2.2
  have q9 : ((0 : Int) ≤ r3.toInt ∧ r3.toInt ≤ (200 : Int)) := hp8.1
  have b10 : (0 : Int) ≤ (G5 0 5).toInt ∧ (G5 0 5).toInt ≤ 1000 := hI6 0 5
  have b11 : (0 : Int) ≤ (G5 0 6).toInt ∧ (G5 0 6).toInt ≤ 4 := hI6 0 6
  have q12 : ((G5 0 5).toInt ≤ (G 0 3).toInt ∧ (G 0 5).toInt ≤ (G5 0 5).toInt ∧ ((G5 0 6).toInt = 0 ∨ (G 0 5).toInt < (G5 0 5).toInt)) := hp8.2
  clear hp8 hw4
  refine u_iast F 4 0 yc_4 rfl 5 rfl (by decide) (by decide) (yW K a (gu_up G5 4 5 r3)) (ys_4 _) dX13_readSpan_13 ?_
  refine g_aload_n F 0 dX13_readSpan_14 rfl rfl ?_
  refine yg_0_11 F i_X13 w_0 dX13_readSpan_15 ?_
  refine g_iload_n F 1 dX13_readSpan_18 rfl rfl ?_
  refine g_iconst F 1 dX13_readSpan_19 (by decide) ?_
  refine g_iadd F dX13_readSpan_20 ?_
  refine g_fold 6 (by decide) ?_
  refine g_aload_n F 0 dX13_readSpan_21 rfl rfl ?_
  refine g_aload_n F 0 dX13_readSpan_22 rfl rfl ?_
  refine yg_0_11 F i_X13 w_0 dX13_readSpan_23 ?_
  refine g_iload_n F 1 dX13_readSpan_26 rfl rfl ?_
  refine u1_iald F 4 0 yc_4 rfl 5 rfl (by decide) (by decide) dX13_readSpan_27 r3 (rfl) ?_
  refine g_sipush F 200 dX13_readSpan_28 (by decide) ?_
  refine g_aload_n F 0 dX13_readSpan_31 rfl rfl ?_
  refine yg_0_11 F i_X13 w_0 dX13_readSpan_32 ?_
  refine g_iload_n F 1 dX13_readSpan_35 rfl rfl ?_
  refine u1_iald F 4 0 yc_4 rfl 5 rfl (by decide) (by decide) dX13_readSpan_36 r3 (rfl) ?_
  refine g_iconst F 3 dX13_readSpan_37 (by decide) ?_
  refine u_iaddc F dX13_readSpan_38 r3.toInt 3 rfl rfl (fun y13 ey13 => ?_)
  refine u_mmin F w_1 w_2 w_3 w_4 (Nat.le_of_ble_eq_true rfl) (Nat.le_of_ble_eq_true rfl) (Nat.le_of_ble_eq_true rfl) (Nat.le_of_ble_eq_true rfl) dX13_readSpan_39 200 y13.toInt rfl rfl (fun y14 ey14 => ?_)
  have b15 := ti_rng y14
  refine ux_calliv (k := 0) (n := 0) (b := a 0) (As := [.int r3, .int y14]) (st := [.int 6, .ref (a 4)]) F (fun sz => S_X13_number l D K a (gu_up G5 4 5 r3) r3 r3.toInt y14 y14.toInt rfl rfl (by have e9_0_3 : (gu_up G5 4 5 r3) 0 3 = (G 0 3) := hU7 0 3 (by decide); have e9_0_5 : (gu_up G5 4 5 r3) 0 5 = (G5 0 5) := rfl; (try simp only [e9_0_3, e9_0_5, true_and, and_true]) <;> (first | omega | (simp only [Int32.reduceToInt, true_and, and_true, ne_eq, not_true_eq_false, false_and, or_false, false_or, true_or, or_true, false_implies] <;> omega))) (gu_I.up (j := 4) (k := 5) (v := r3) hI6 (show (0 : Int) ≤ Int32.toInt r3 by omega) (show Int32.toInt r3 ≤ 200 by omega)) sz) (cwV 2 hts gT_X13_readSpan_X13_number rfl rfl rfl (by decide +kernel) ⟨Nat.le_of_ble_eq_true rfl, Nat.le_of_ble_eq_true rfl⟩) rfl 0 yc_0 rfl (Nat.le_of_ble_eq_true rfl) ⟨Nat.zero_le _, Nat.zero_le _⟩ dX13_readSpan_42 hex hA hQ (fun u9 h9 => ⟨h9.1, gu_un.tr (gu_un.up (j := 4) (k := 5) (v := r3) (gu_un.tr gu_un.rf (gu_un.su hU7 rfl)) (show (400 : Nat) ∈ ([5, 6, 7, 8, 9, 10, 400] : List Nat) by decide)) (gu_un.su h9.2 rfl)⟩) (fun r16 G18 hw17 => ?_)
  have hI19 : yI G18 := hw17.1
  have hU20 : gu_un ycd [5, 6, 7, 8, 9, 10] (gu_up G5 4 5 r3) G18 := hw17.2.1
  have hp21 := hw17.2.2
  have q22 : (r3.toInt ≤ r16.toInt ∧ r16.toInt ≤ y14.toInt) := hp21.1
  have b23 : (0 : Int) ≤ (G18 0 5).toInt ∧ (G18 0 5).toInt ≤ 1000 := hI19 0 5
  have b24 : (0 : Int) ≤ (G18 0 6).toInt ∧ (G18 0 6).toInt ≤ 4 := hI19 0 6
  have q25 : ((G18 0 5).toInt ≤ (G 0 3).toInt ∧ (G5 0 5).toInt ≤ (G18 0 5).toInt ∧ ((G18 0 6).toInt = 0 ∨ (G5 0 5).toInt < (G18 0 5).toInt)) := by have h9 := hp21.2; (try simp only [(show (gu_up G5 4 5 r3) 0 3 = (G 0 3) from hU7 0 3 (by decide))] at h9); first | exact h9 | omega
  clear hp21 hw17
  refine u_iast F 4 0 yc_4 rfl 6 rfl (by decide) (by decide) (yW K a (gu_up G18 4 6 r16)) (ys_4 _) dX13_readSpan_45 ?_
  exact ux_vret F hA hQ hr (gu_up G18 4 6 r16) (⟨(gu_I.up (j := 4) (k := 6) (v := r16) hI19 (show (0 : Int) ≤ Int32.toInt r16 by omega) (show Int32.toInt r16 ≤ 200 by omega)), (gu_un.up (j := 4) (k := 6) (v := r16) (gu_un.tr (gu_un.up (j := 4) (k := 5) (v := r3) (gu_un.tr gu_un.rf (gu_un.su hU7 rfl)) (show (400 : Nat) ∈ ([5, 6, 7, 8, 9, 10, 400] : List Nat) by decide)) (gu_un.su hU20 rfl)) (show (400 : Nat) ∈ ([5, 6, 7, 8, 9, 10, 400] : List Nat) by decide)), (by show (((gu_up G18 4 6 r16) 0 5).toInt ≤ (G 0 3).toInt ∧ (G 0 5).toInt ≤ ((gu_up G18 4 6 r16) 0 5).toInt ∧ (((gu_up G18 4 6 r16) 0 6).toInt = 0 ∨ (G 0 5).toInt < ((gu_up G18 4 6 r16) 0 5).toInt)); have e9_0_5 : (gu_up G18 4 6 r16) 0 5 = (G18 0 5) := rfl; have e9_0_6 : (gu_up G18 4 6 r16) 0 6 = (G18 0 6) := rfl; (try simp only [e9_0_5, e9_0_6, true_and, and_true]) <;> (first | omega | (simp only [Int32.reduceToInt, true_and, and_true, ne_eq, not_true_eq_false, false_and, or_false, false_or, true_or, or_true, false_implies] <;> omega)))⟩) rfl rfl dX13_readSpan_46

theorem dX13_readRow_0 : decode cX13_readRow 0 = .ok (.iconst 0, 1) := by decide +kernel
theorem dX13_readRow_1 : decode cX13_readRow 1 = .ok (.istore 4, 2) := by decide +kernel
theorem dX13_readRow_3 : decode cX13_readRow 3 = .ok (.aload_n 0, 1) := by decide +kernel
theorem dX13_readRow_4 : decode cX13_readRow 4 = .ok (.iconst 0, 1) := by decide +kernel
theorem dX13_readRow_5 : decode cX13_readRow 5 = .ok (.iload_n 3, 1) := by decide +kernel
theorem dX13_readRow_6 : decode cX13_readRow 6 = .ok (.invokevirtual 65, 3) := by decide +kernel
theorem dX13_readRow_9 : decode cX13_readRow 9 = .ok (.istore 5, 2) := by decide +kernel
theorem dX13_readRow_11 : decode cX13_readRow 11 = .ok (.aload_n 0, 1) := by decide +kernel
theorem dX13_readRow_12 : decode cX13_readRow 12 = .ok (.iload 4, 2) := by decide +kernel
theorem dX13_readRow_14 : decode cX13_readRow 14 = .ok (.iload_n 2, 1) := by decide +kernel
theorem dX13_readRow_15 : decode cX13_readRow 15 = .ok (.if_icmp .ge 7, 3) := by decide +kernel
theorem dX13_readRow_18 : decode cX13_readRow 18 = .ok (.iconst 1, 1) := by decide +kernel
theorem dX13_readRow_19 : decode cX13_readRow 19 = .ok (.goto 4, 3) := by decide +kernel
theorem dX13_readRow_22 : decode cX13_readRow 22 = .ok (.iconst 0, 1) := by decide +kernel
theorem dX13_readRow_23 : decode cX13_readRow 23 = .ok (.iconst 4, 1) := by decide +kernel
theorem dX13_readRow_24 : decode cX13_readRow 24 = .ok (.invokevirtual 57, 3) := by decide +kernel
theorem dX13_readRow_27 : decode cX13_readRow 27 = .ok (.aload_n 0, 1) := by decide +kernel
theorem dX13_readRow_28 : decode cX13_readRow 28 = .ok (.invokevirtual 69, 3) := by decide +kernel
theorem dX13_readRow_31 : decode cX13_readRow 31 = .ok (.aload_n 1, 1) := by decide +kernel
theorem dX13_readRow_32 : decode cX13_readRow 32 = .ok (.iload 4, 2) := by decide +kernel
theorem dX13_readRow_34 : decode cX13_readRow 34 = .ok (.iload 5, 2) := by decide +kernel
theorem dX13_readRow_36 : decode cX13_readRow 36 = .ok (.iastore, 1) := by decide +kernel
theorem dX13_readRow_37 : decode cX13_readRow 37 = .ok (.iinc 4 1, 3) := by decide +kernel
theorem dX13_readRow_40 : decode cX13_readRow 40 = .ok (.aload_n 0, 1) := by decide +kernel
theorem dX13_readRow_41 : decode cX13_readRow 41 = .ok (.getfield 31, 3) := by decide +kernel
theorem dX13_readRow_44 : decode cX13_readRow 44 = .ok (.iconst 2, 1) := by decide +kernel
theorem dX13_readRow_45 : decode cX13_readRow 45 = .ok (.if_icmp .eq (-42), 3) := by decide +kernel
theorem dX13_readRow_48 : decode cX13_readRow 48 = .ok (.iload 4, 2) := by decide +kernel
theorem dX13_readRow_50 : decode cX13_readRow 50 = .ok (.ireturn, 1) := by decide +kernel
set_option maxRecDepth 20000 in
theorem ggX13_readRow_X13_look : GoodIn wsX13_readRow wsX13_look := goodIn_r _ [6, 1, 7, 8, 9, 10, 5, 11, 12, 13, 14, 33, 34, 35, 36, 37, 38, 39, 40, 41, 42, 43, 44, 45, 46, 47, 48, 49, 50, 51, 52, 53, 54, 55, 56, 57, 58, 59, 60, 61, 62, 63, 64, 65, 66, 67, 68, 69, 70, 71, 72, 73, 74, 75, 76, 77, 78, 79, 80, 81, 82, 83, 84, 85, 86, 87, 88, 89, 90, 91, 92, 93, 94, 95, 96, 97, 98, 99, 100, 101, 102, 103, 104, 105] rfl (by decide +kernel)
set_option maxRecDepth 20000 in
theorem gX13_readRow_X13_look : GoodIn wsX13_readRow (wsV RX13 65 RX13 yX13_look wsX13_look) := goodIn_app (goodIn_of _ (by decide +kernel)) ggX13_readRow_X13_look
set_option maxRecDepth 20000 in
theorem ggX13_readRow_X13_need : GoodIn wsX13_readRow wsX13_need := goodIn_r _ [11] rfl (by decide +kernel)
set_option maxRecDepth 20000 in
theorem gX13_readRow_X13_need : GoodIn wsX13_readRow (wsV RX13 57 RX13 yX13_need wsX13_need) := goodIn_app (goodIn_of _ (by decide +kernel)) ggX13_readRow_X13_need
set_option maxRecDepth 20000 in
theorem ggX13_readRow_X13_scan : GoodIn wsX13_readRow wsX13_scan := goodIn_r _ [18, 19, 20, 21, 22, 1, 7, 23, 24, 25, 5, 26, 27, 28, 29, 30, 31, 32, 33, 34, 35, 36, 37, 38, 39, 40, 41, 42, 43, 44, 45, 46, 47, 48, 49, 50, 51, 52, 53, 54, 55, 56, 57, 58, 59, 60, 61, 62, 63, 64, 65, 66, 67, 68, 69, 70, 71, 72, 73, 74, 75, 76, 77, 78, 79, 80, 81, 82, 83, 84, 85, 86, 87, 88, 89, 90, 91, 92, 93, 94, 95, 96, 97, 98, 99, 100, 101, 102, 103, 104, 105] rfl (by decide +kernel)
set_option maxRecDepth 20000 in
theorem gX13_readRow_X13_scan : GoodIn wsX13_readRow (wsV RX13 69 RX13 yX13_scan wsX13_scan) := goodIn_app (goodIn_of _ (by decide +kernel)) ggX13_readRow_X13_scan
def wsT_X13_readRow : List Cond := wsX13_readRow ++ wsT_nx
theorem gT_X13_readRow_X13_look : GoodIn wsT_X13_readRow (wsV RX13 65 RX13 yX13_look wsT_X13_look) := gT_call gX13_readRow_X13_look gT_nx
theorem gT_X13_readRow_X13_need : GoodIn wsT_X13_readRow (wsV RX13 57 RX13 yX13_need wsT_X13_need) := gT_call gX13_readRow_X13_need gT_nx
set_option maxHeartbeats 4000000 in
set_option maxRecDepth 100000 in
theorem S_X13_readRow_6_v4_v15 (l : Launch) (D : va_G) (K : Nat → ClassId) (a : Nat → Nat) (G : gS) (pb : ((G 0 5).toInt ≤ (G 0 3).toInt)) (hI : yI G) (sz : Nat) : Kxi l yX13_readRow wsT_X13_readRow 4 105 D [.ref (a 0), .ref (a 6), .int 4, .int 15] (yW K a G) (tK K) sz (fun (r : Int32) (G' : gS) => (yI G') ∧ (gu_un ycd [5, 6, 7, 8, 9, 10, 600] G G') ∧ (1 ≤ r.toInt ∧ r.toInt ≤ 4) ∧ (((G' 0 5).toInt ≤ (G 0 3).toInt ∧ (G 0 5).toInt ≤ (G' 0 5).toInt ∧ ((G' 0 6).toInt = 0 ∨ (G 0 5).toInt < (G' 0 5).toInt)))) (fun (G' : gS) => (yI G') ∧ (gu_un ycd [5, 6, 7, 8, 9, 10, 600] G G')) (a 1) (fun (G' : gS) => (yW K a G')) := by
  unfold Kxi
  refine gx_ofW (cc := cX13_readRow) (lv := [(0, .ref (a 0)), (1, .ref (a 6)), (2, .int 4), (3, .int 15)]) (by decide) rfl (Nat.le_of_ble_eq_true rfl) rfl ?_
  intro p e s m args below meth c A Q hA hQ F hr hex
  have hts := F.2.2.2.2.1
  have w_0 : (Cond.fieldLink RX13 31 "QuietCutModel" "hand" "I").before args s = true := hts _ (List.mem_of_getElem? (i := 1) rfl)
  have i_X13 : ∀ w ∈ u_ws RX13 TX13 73, w ∈ wsT_X13_readRow := fun w h => List.mem_append_left _ ((show ∀ w ∈ u_ws RX13 TX13 73, w ∈ wsX13_readRow from fun _ h => List.mem_cons_of_mem _ (List.mem_append_right _ h)) w h)
  have b1 : (0 : Int) ≤ (G 0 3).toInt ∧ (G 0 3).toInt ≤ 1000 := hI 0 3
  have b2 : (0 : Int) ≤ (G 0 5).toInt ∧ (G 0 5).toInt ≤ 1000 := hI 0 5
  have J_3 : ∀ (fuel : Nat) (x3_4 : Int32) (Gj3 : gS), (8 * (1000 - (Gj3 0 5).toInt) + (Gj3 0 6).toInt).toNat < fuel → (0 ≤ x3_4.toInt ∧ x3_4.toInt ≤ 4) → (yI Gj3) → (gu_un ycd [5, 6, 7, 8, 9, 10, 600] G Gj3) → (((Gj3 0 5).toInt ≤ (G 0 3).toInt)) → (((G 0 5).toInt ≤ (Gj3 0 5).toInt ∧ ((Gj3 0 6).toInt = 0 ∨ x3_4.toInt = 0 ∨ (G 0 5).toInt < (Gj3 0 5).toInt))) → gG p l e (gR 4 0 0 105) s m args below meth c D A 6 Q 0 0 (yW K a Gj3) (tK K) [(0, .ref (a 0)), (1, .ref (a 6)), (2, .int 4), (3, .int 15), (4, .int x3_4)] 3 [] := by
    intro fuel
    induction fuel with
    | zero => intro x3_4 Gj3 hm; exact absurd hm (Nat.not_lt_zero _)
    | succ fuel_3 ih_3 =>
      intro x3_4 Gj3 hm_3 h3_4 jI3 jU3 bl_3 bm_3
      refine g_aload_n F 0 dX13_readRow_3 rfl rfl ?_
      refine g_iconst F 0 dX13_readRow_4 (by decide) ?_
      refine g_iload_n F 3 dX13_readRow_5 rfl rfl ?_
      refine ux_callii (k := 0) (n := 0) (b := a 0) (As := [.int 0, .int 15]) (st := []) F (fun sz => S_X13_look l D K a Gj3 0 0 15 15 rfl rfl jI3 sz) (cwV 2 hts gT_X13_readRow_X13_look rfl rfl rfl (by decide +kernel) ⟨Nat.le_of_ble_eq_true rfl, Nat.le_of_ble_eq_true rfl⟩) rfl 0 yc_0 rfl (Nat.le_of_ble_eq_true rfl) ⟨Nat.zero_le _, Nat.zero_le _⟩ dX13_readRow_6 hex hA hQ (fun u9 h9 => ⟨h9.1, gu_un.tr (gu_un.tr gu_un.rf (gu_un.su jU3 rfl)) (gu_un.su h9.2 rfl)⟩) (fun r3 G5 hw4 => ?_)
      have hI6 : yI G5 := hw4.1
      have hU7 : gu_un ycd [9, 10] Gj3 G5 := hw4.2.1
      have hp8 := hw4.2.2
      have b9 : (0 : Int) ≤ (Gj3 0 6).toInt ∧ (Gj3 0 6).toInt ≤ 4 := jI3 0 6
      have q10 : ((0 : Int) ≤ r3.toInt ∧ r3.toInt ≤ (15 : Int) ∧ (Gj3 0 6).toInt = 2) := hp8
      clear hp8 hw4
      refine g_istore F [(5, .int r3), (0, .ref (a 0)), (1, .ref (a 6)), (2, .int 4), (3, .int 15), (4, .int x3_4)] dX13_readRow_9 (by decide) rfl ?_
      refine g_aload_n F 1 dX13_readRow_11 rfl rfl ?_
      refine g_iload F 5 dX13_readRow_12 rfl ?_
      refine g_iload_n F 3 dX13_readRow_14 rfl rfl ?_
      refine v_icmp_ge F 22 dX13_readRow_15 (by decide) x3_4.toInt 4 rfl rfl (fun c11 => ?_) (fun c11 => ?_)
      · refine g_iconst F 0 dX13_readRow_22 (by decide) ?_
        refine g_iconst F 4 dX13_readRow_23 (by decide) ?_
        refine ux_callvi (k := 0) (n := 0) (b := a 0) (As := [.int 0, .int 4]) (st := []) F (fun sz => S_X13_need l D K a G5 0 0 4 4 rfl (by decide) rfl hI6 sz) (cwV 2 hts gT_X13_readRow_X13_need rfl rfl rfl (by decide +kernel) ⟨Nat.le_of_ble_eq_true rfl, Nat.le_of_ble_eq_true rfl⟩) rfl 0 yc_0 rfl (Nat.le_of_ble_eq_true rfl) ⟨Nat.zero_le _, Nat.zero_le _⟩ dX13_readRow_24 hex hA hQ (fun u9 h9 => ⟨h9.1, gu_un.tr (gu_un.tr (gu_un.tr gu_un.rf (gu_un.su jU3 rfl)) (gu_un.su hU7 rfl)) (gu_un.su h9.2.1 rfl)⟩) (fun G14 hw13 => ?_)
        have hI15 : yI G14 := hw13.1
        have hU16 : gu_un ycd [9, 10] G5 G14 := hw13.2.1
        have hp17 := hw13.2.2
        have q18 : ((0 : Int) ≠ 0) := hp17
        exfalso; omega
      · refine g_iconst F 1 dX13_readRow_18 (by decide) ?_
        refine g_goto F 23 dX13_readRow_19 (by decide) ?_
        refine g_iconst F 4 dX13_readRow_23 (by decide) ?_
        refine ux_callvi (k := 0) (n := 0) (b := a 0) (As := [.int 1, .int 4]) (st := []) F (fun sz => S_X13_need l D K a G5 1 1 4 4 rfl (by decide) rfl hI6 sz) (cwV 2 hts gT_X13_readRow_X13_need rfl rfl rfl (by decide +kernel) ⟨Nat.le_of_ble_eq_true rfl, Nat.le_of_ble_eq_true rfl⟩) rfl 0 yc_0 rfl (Nat.le_of_ble_eq_true rfl) ⟨Nat.zero_le _, Nat.zero_le _⟩ dX13_readRow_24 hex hA hQ (fun u9 h9 => ⟨h9.1, gu_un.tr (gu_un.tr (gu_un.tr gu_un.rf (gu_un.su jU3 rfl)) (gu_un.su hU7 rfl)) (gu_un.su h9.2.1 rfl)⟩) (fun G21 hw20 => ?_)
        have hI22 : yI G21 := hw20.1
        have hU23 : gu_un ycd [9, 10] G5 G21 := hw20.2.1
        have hp24 := hw20.2.2
        have q25 : ((1 : Int) ≠ 0) := hp24
        clear hp24 hw20
        refine g_aload_n F 1 dX13_readRow_27 rfl rfl ?_
        have b26 : (0 : Int) ≤ (Gj3 0 5).toInt ∧ (Gj3 0 5).toInt ≤ 1000 := jI3 0 5
        refine u_callVv (k := 0) (n := 0) (b := a 0) (As := []) (st := []) F (fun sz => S_X13_scan l D K a G21  (by have e9_0_3 : G21 0 3 = (G 0 3) := (hU23 0 3 (by decide)).trans ((hU7 0 3 (by decide)).trans (jU3 0 3 (by decide))); have e9_0_5 : G21 0 5 = (Gj3 0 5) := (hU23 0 5 (by decide)).trans (hU7 0 5 (by decide)); (try simp only [e9_0_3, e9_0_5, true_and, and_true]) <;> (first | omega | (simp only [Int32.reduceToInt, true_and, and_true, ne_eq, not_true_eq_false, false_and, or_false, false_or, true_or, or_true, false_implies] <;> omega))) hI22 sz) (cwV 0 hts (gT_left gX13_readRow_X13_scan) rfl rfl rfl (by decide +kernel) ⟨Nat.le_of_ble_eq_true rfl, Nat.le_of_ble_eq_true rfl⟩) rfl 0 yc_0 rfl (Nat.le_of_ble_eq_true rfl) ⟨Nat.zero_le _, Nat.zero_le _⟩ dX13_readRow_28 (fun G29 hw28 => ?_)
        have hI30 : yI G29 := hw28.1
        have hU31 : gu_un ycd [5, 6, 7, 8] G21 G29 := hw28.2.1
        have hp32 := hw28.2.2
        have b33 : (0 : Int) ≤ (G29 0 5).toInt ∧ (G29 0 5).toInt ≤ 1000 := hI30 0 5
        have b34 : (0 : Int) ≤ (G29 0 4).toInt ∧ (G29 0 4).toInt ≤ 1000 := hI30 0 4
        have q35 : ((G29 0 5).toInt ≤ (G 0 3).toInt ∧ (Gj3 0 5).toInt ≤ (G29 0 4).toInt ∧ (G29 0 4).toInt ≤ (G29 0 5).toInt) := by have h9 := hp32.1; (try simp only [(show G21 0 3 = (G 0 3) from (hU23 0 3 (by decide)).trans ((hU7 0 3 (by decide)).trans (jU3 0 3 (by decide)))), (show G21 0 5 = (Gj3 0 5) from (hU23 0 5 (by decide)).trans (hU7 0 5 (by decide)))] at h9); first | exact h9 | omega
        have b36 : (0 : Int) ≤ (G29 0 6).toInt ∧ (G29 0 6).toInt ≤ 4 := hI30 0 6
        have q37 : (((G29 0 6).toInt = 0 ∧ (G29 0 4).toInt = (G 0 3).toInt) ∨ ((G29 0 6).toInt ≠ 0 ∧ (G29 0 4).toInt < (G29 0 5).toInt)) := by have h9 := hp32.2.1; (try simp only [(show G21 0 3 = (G 0 3) from (hU23 0 3 (by decide)).trans ((hU7 0 3 (by decide)).trans (jU3 0 3 (by decide))))] at h9); first | exact h9 | omega
        have q38 : tTok (G 2) (G 0 3).toInt (Gj3 0 5).toInt (G29 0 6).toInt (G29 0 4).toInt (G29 0 7).toInt (G29 0 5).toInt := by have h9 := hp32.2.2; (try simp only [(show G21 0 3 = (G 0 3) from (hU23 0 3 (by decide)).trans ((hU7 0 3 (by decide)).trans (jU3 0 3 (by decide)))), (show G21 0 5 = (Gj3 0 5) from (hU23 0 5 (by decide)).trans (hU7 0 5 (by decide))), (show G21 2 = (G 2) from (show G21 2 = G5 2 from funext fun k_ => hU23 2 k_ (show (200 : Nat) ∉ ([9, 10] : List Nat) by decide)).trans ((show G5 2 = Gj3 2 from funext fun k_ => hU7 2 k_ (show (200 : Nat) ∉ ([9, 10] : List Nat) by decide)).trans ((show Gj3 2 = G 2 from funext fun k_ => jU3 2 k_ (show (200 : Nat) ∉ ([5, 6, 7, 8, 9, 10, 600] : List Nat) by decide)))))] at h9); first | exact h9 | omega
        clear hp32 hw28
        refine g_aload_n F 2 dX13_readRow_31 rfl rfl ?_
        refine g_iload F 5 dX13_readRow_32 rfl ?_
        refine g_iload F 0 dX13_readRow_34 rfl ?_
        refine u_iast F 6 0 yc_6 rfl x3_4.toInt rfl (by omega) (by omega) (yW K a (gu_up G29 6 (x3_4.toInt).toNat r3)) (ys_6 _) dX13_readRow_36 ?_
        refine u_iinc F (fun v_ => [(4, .int v_), (5, .int r3), (0, .ref (a 0)), (1, .ref (a 6)), (2, .int 4), (3, .int 15)]) dX13_readRow_37 (j := 5) rfl x3_4.toInt 1 rfl rfl (by omega) (by omega) (by decide) (fun _ => rfl) (fun y39 ey39 => ?_)
        refine g_aload_n F 2 dX13_readRow_40 rfl rfl ?_
        refine yg_0_6 F i_X13 w_0 dX13_readRow_41 (G29 0 6) (rfl) ?_
        refine g_iconst F 2 dX13_readRow_44 (by decide) ?_
        refine v_icmp_eq F 3 dX13_readRow_45 (by decide) (G29 0 6).toInt 2 rfl rfl (fun c40 => ?_) (fun c40 => ?_)
        · refine g_locals [(0, .ref (a 0)), (1, .ref (a 6)), (2, .int 4), (3, .int 15), (4, .int y39)] [2, 3, 4, 5, 0] rfl ?_
          exact ih_3 y39 (gu_up G29 6 (x3_4.toInt).toNat r3) (by have e9_0_5 : (gu_up G29 6 (x3_4.toInt).toNat r3) 0 5 = (G29 0 5) := rfl; have e9_0_6 : (gu_up G29 6 (x3_4.toInt).toNat r3) 0 6 = (G29 0 6) := rfl; (try simp only [e9_0_5, e9_0_6, true_and, and_true]) <;> omega) (by have h9 := ti_rng y39; omega) (gu_I.up (j := 6) (k := (x3_4.toInt).toNat) (v := r3) hI30 (show (0 : Int) ≤ Int32.toInt r3 by omega) (show Int32.toInt r3 ≤ 15 by omega)) (gu_un.up (j := 6) (k := (x3_4.toInt).toNat) (v := r3) (gu_un.tr (gu_un.tr (gu_un.tr (gu_un.tr gu_un.rf (gu_un.su jU3 rfl)) (gu_un.su hU7 rfl)) (gu_un.su hU23 rfl)) (gu_un.su hU31 rfl)) (show (600 : Nat) ∈ ([5, 6, 7, 8, 9, 10, 600] : List Nat) by decide)) (by have e9_0_3 : (gu_up G29 6 (x3_4.toInt).toNat r3) 0 3 = (G 0 3) := (hU31 0 3 (by decide)).trans ((hU23 0 3 (by decide)).trans ((hU7 0 3 (by decide)).trans (jU3 0 3 (by decide)))); have e9_0_5 : (gu_up G29 6 (x3_4.toInt).toNat r3) 0 5 = (G29 0 5) := rfl; (try simp only [e9_0_3, e9_0_5, true_and, and_true]) <;> (first | omega | (simp only [Int32.reduceToInt, true_and, and_true, ne_eq, not_true_eq_false, false_and, or_false, false_or, true_or, or_true, false_implies] <;> omega))) (by have e9_0_5 : (gu_up G29 6 (x3_4.toInt).toNat r3) 0 5 = (G29 0 5) := rfl; have e9_0_6 : (gu_up G29 6 (x3_4.toInt).toNat r3) 0 6 = (G29 0 6) := rfl; (try simp only [e9_0_5, e9_0_6, true_and, and_true]) <;> (first | omega | (simp only [Int32.reduceToInt, true_and, and_true, ne_eq, not_true_eq_false, false_and, or_false, false_or, true_or, or_true, false_implies] <;> omega)))
        · refine g_iload F 0 dX13_readRow_48 rfl ?_
          exact ux_iret F hA hQ hr (gu_up G29 6 (x3_4.toInt).toNat r3) (⟨(gu_I.up (j := 6) (k := (x3_4.toInt).toNat) (v := r3) hI30 (show (0 : Int) ≤ Int32.toInt r3 by omega) (show Int32.toInt r3 ≤ 15 by omega)), (gu_un.up (j := 6) (k := (x3_4.toInt).toNat) (v := r3) (gu_un.tr (gu_un.tr (gu_un.tr (gu_un.tr gu_un.rf (gu_un.su jU3 rfl)) (gu_un.su hU7 rfl)) (gu_un.su hU23 rfl)) (gu_un.su hU31 rfl)) (show (600 : Nat) ∈ ([5, 6, 7, 8, 9, 10, 600] : List Nat) by decide)), (by have h9 := ti_rng y39; omega), (by show (((gu_up G29 6 (x3_4.toInt).toNat r3) 0 5).toInt ≤ (G 0 3).toInt ∧ (G 0 5).toInt ≤ ((gu_up G29 6 (x3_4.toInt).toNat r3) 0 5).toInt ∧ (((gu_up G29 6 (x3_4.toInt).toNat r3) 0 6).toInt = 0 ∨ (G 0 5).toInt < ((gu_up G29 6 (x3_4.toInt).toNat r3) 0 5).toInt)); have e9_0_5 : (gu_up G29 6 (x3_4.toInt).toNat r3) 0 5 = (G29 0 5) := rfl; have e9_0_6 : (gu_up G29 6 (x3_4.toInt).toNat r3) 0 6 = (G29 0 6) := rfl; (try simp only [e9_0_5, e9_0_6, true_and, and_true]) <;> (first | omega | (simp only [Int32.reduceToInt, true_and, and_true, ne_eq, not_true_eq_false, false_and, or_false, false_or, true_or, or_true, false_implies] <;> omega)))⟩) rfl rfl dX13_readRow_50
  refine g_iconst F 0 dX13_readRow_0 (by decide) ?_
  refine g_istore F [(4, .int 0), (0, .ref (a 0)), (1, .ref (a 6)), (2, .int 4), (3, .int 15)] dX13_readRow_1 (by decide) rfl ?_
  refine g_locals [(0, .ref (a 0)), (1, .ref (a 6)), (2, .int 4), (3, .int 15), (4, .int 0)] [1, 2, 3, 4, 0] rfl ?_
  have b41 : (0 : Int) ≤ (G 0 6).toInt ∧ (G 0 6).toInt ≤ 4 := hI 0 6
  exact J_3 _ 0 G (Nat.lt_succ_self _) (by decide) hI gu_un.rf (by (first | omega | (simp only [Int32.reduceToInt, true_and, and_true, ne_eq, not_true_eq_false, false_and, or_false, false_or, true_or, or_true, false_implies] <;> omega))) (by (first | omega | (simp only [Int32.reduceToInt, true_and, and_true, ne_eq, not_true_eq_false, false_and, or_false, false_or, true_or, or_true, false_implies] <;> omega)))


set_option maxHeartbeats 4000000 in
set_option maxRecDepth 100000 in
theorem S_X13_readRow_8_v6_v9 (l : Launch) (D : va_G) (K : Nat → ClassId) (a : Nat → Nat) (G : gS) (pb : ((G 0 5).toInt ≤ (G 0 3).toInt)) (hI : yI G) (sz : Nat) : Kxi l yX13_readRow wsT_X13_readRow 4 105 D [.ref (a 0), .ref (a 8), .int 6, .int 9] (yW K a G) (tK K) sz (fun (r : Int32) (G' : gS) => (yI G') ∧ (gu_un ycd [5, 6, 7, 8, 9, 10, 800] G G') ∧ (1 ≤ r.toInt ∧ r.toInt ≤ 6) ∧ (((G' 0 5).toInt ≤ (G 0 3).toInt ∧ (G 0 5).toInt ≤ (G' 0 5).toInt ∧ ((G' 0 6).toInt = 0 ∨ (G 0 5).toInt < (G' 0 5).toInt)))) (fun (G' : gS) => (yI G') ∧ (gu_un ycd [5, 6, 7, 8, 9, 10, 800] G G')) (a 1) (fun (G' : gS) => (yW K a G')) := by
  unfold Kxi
  refine gx_ofW (cc := cX13_readRow) (lv := [(0, .ref (a 0)), (1, .ref (a 8)), (2, .int 6), (3, .int 9)]) (by decide) rfl (Nat.le_of_ble_eq_true rfl) rfl ?_
  intro p e s m args below meth c A Q hA hQ F hr hex
  have hts := F.2.2.2.2.1
  have w_0 : (Cond.fieldLink RX13 31 "QuietCutModel" "hand" "I").before args s = true := hts _ (List.mem_of_getElem? (i := 1) rfl)
  have i_X13 : ∀ w ∈ u_ws RX13 TX13 73, w ∈ wsT_X13_readRow := fun w h => List.mem_append_left _ ((show ∀ w ∈ u_ws RX13 TX13 73, w ∈ wsX13_readRow from fun _ h => List.mem_cons_of_mem _ (List.mem_append_right _ h)) w h)
  have b1 : (0 : Int) ≤ (G 0 3).toInt ∧ (G 0 3).toInt ≤ 1000 := hI 0 3
  have b2 : (0 : Int) ≤ (G 0 5).toInt ∧ (G 0 5).toInt ≤ 1000 := hI 0 5
  have J_3 : ∀ (fuel : Nat) (x3_4 : Int32) (Gj3 : gS), (8 * (1000 - (Gj3 0 5).toInt) + (Gj3 0 6).toInt).toNat < fuel → (0 ≤ x3_4.toInt ∧ x3_4.toInt ≤ 6) → (yI Gj3) → (gu_un ycd [5, 6, 7, 8, 9, 10, 800] G Gj3) → (((Gj3 0 5).toInt ≤ (G 0 3).toInt)) → (((G 0 5).toInt ≤ (Gj3 0 5).toInt ∧ ((Gj3 0 6).toInt = 0 ∨ x3_4.toInt = 0 ∨ (G 0 5).toInt < (Gj3 0 5).toInt))) → gG p l e (gR 4 0 0 105) s m args below meth c D A 6 Q 0 0 (yW K a Gj3) (tK K) [(0, .ref (a 0)), (1, .ref (a 8)), (2, .int 6), (3, .int 9), (4, .int x3_4)] 3 [] := by
    intro fuel
    induction fuel with
    | zero => intro x3_4 Gj3 hm; exact absurd hm (Nat.not_lt_zero _)
    | succ fuel_3 ih_3 =>
      intro x3_4 Gj3 hm_3 h3_4 jI3 jU3 bl_3 bm_3
      refine g_aload_n F 0 dX13_readRow_3 rfl rfl ?_
      refine g_iconst F 0 dX13_readRow_4 (by decide) ?_
      refine g_iload_n F 3 dX13_readRow_5 rfl rfl ?_
      refine ux_callii (k := 0) (n := 0) (b := a 0) (As := [.int 0, .int 9]) (st := []) F (fun sz => S_X13_look l D K a Gj3 0 0 9 9 rfl rfl jI3 sz) (cwV 2 hts gT_X13_readRow_X13_look rfl rfl rfl (by decide +kernel) ⟨Nat.le_of_ble_eq_true rfl, Nat.le_of_ble_eq_true rfl⟩) rfl 0 yc_0 rfl (Nat.le_of_ble_eq_true rfl) ⟨Nat.zero_le _, Nat.zero_le _⟩ dX13_readRow_6 hex hA hQ (fun u9 h9 => ⟨h9.1, gu_un.tr (gu_un.tr gu_un.rf (gu_un.su jU3 rfl)) (gu_un.su h9.2 rfl)⟩) (fun r3 G5 hw4 => ?_)
      have hI6 : yI G5 := hw4.1
      have hU7 : gu_un ycd [9, 10] Gj3 G5 := hw4.2.1
      have hp8 := hw4.2.2
      have b9 : (0 : Int) ≤ (Gj3 0 6).toInt ∧ (Gj3 0 6).toInt ≤ 4 := jI3 0 6
      have q10 : ((0 : Int) ≤ r3.toInt ∧ r3.toInt ≤ (9 : Int) ∧ (Gj3 0 6).toInt = 2) := hp8
      clear hp8 hw4
      refine g_istore F [(5, .int r3), (0, .ref (a 0)), (1, .ref (a 8)), (2, .int 6), (3, .int 9), (4, .int x3_4)] dX13_readRow_9 (by decide) rfl ?_
      refine g_aload_n F 1 dX13_readRow_11 rfl rfl ?_
      refine g_iload F 5 dX13_readRow_12 rfl ?_
      refine g_iload_n F 3 dX13_readRow_14 rfl rfl ?_
      refine v_icmp_ge F 22 dX13_readRow_15 (by decide) x3_4.toInt 6 rfl rfl (fun c11 => ?_) (fun c11 => ?_)
      · refine g_iconst F 0 dX13_readRow_22 (by decide) ?_
        refine g_iconst F 4 dX13_readRow_23 (by decide) ?_
        refine ux_callvi (k := 0) (n := 0) (b := a 0) (As := [.int 0, .int 4]) (st := []) F (fun sz => S_X13_need l D K a G5 0 0 4 4 rfl (by decide) rfl hI6 sz) (cwV 2 hts gT_X13_readRow_X13_need rfl rfl rfl (by decide +kernel) ⟨Nat.le_of_ble_eq_true rfl, Nat.le_of_ble_eq_true rfl⟩) rfl 0 yc_0 rfl (Nat.le_of_ble_eq_true rfl) ⟨Nat.zero_le _, Nat.zero_le _⟩ dX13_readRow_24 hex hA hQ (fun u9 h9 => ⟨h9.1, gu_un.tr (gu_un.tr (gu_un.tr gu_un.rf (gu_un.su jU3 rfl)) (gu_un.su hU7 rfl)) (gu_un.su h9.2.1 rfl)⟩) (fun G14 hw13 => ?_)
        have hI15 : yI G14 := hw13.1
        have hU16 : gu_un ycd [9, 10] G5 G14 := hw13.2.1
        have hp17 := hw13.2.2
        have q18 : ((0 : Int) ≠ 0) := hp17
        exfalso; omega
      · refine g_iconst F 1 dX13_readRow_18 (by decide) ?_
        refine g_goto F 23 dX13_readRow_19 (by decide) ?_
        refine g_iconst F 4 dX13_readRow_23 (by decide) ?_
        refine ux_callvi (k := 0) (n := 0) (b := a 0) (As := [.int 1, .int 4]) (st := []) F (fun sz => S_X13_need l D K a G5 1 1 4 4 rfl (by decide) rfl hI6 sz) (cwV 2 hts gT_X13_readRow_X13_need rfl rfl rfl (by decide +kernel) ⟨Nat.le_of_ble_eq_true rfl, Nat.le_of_ble_eq_true rfl⟩) rfl 0 yc_0 rfl (Nat.le_of_ble_eq_true rfl) ⟨Nat.zero_le _, Nat.zero_le _⟩ dX13_readRow_24 hex hA hQ (fun u9 h9 => ⟨h9.1, gu_un.tr (gu_un.tr (gu_un.tr gu_un.rf (gu_un.su jU3 rfl)) (gu_un.su hU7 rfl)) (gu_un.su h9.2.1 rfl)⟩) (fun G21 hw20 => ?_)
        have hI22 : yI G21 := hw20.1
        have hU23 : gu_un ycd [9, 10] G5 G21 := hw20.2.1
        have hp24 := hw20.2.2
        have q25 : ((1 : Int) ≠ 0) := hp24
        clear hp24 hw20
        refine g_aload_n F 1 dX13_readRow_27 rfl rfl ?_
        have b26 : (0 : Int) ≤ (Gj3 0 5).toInt ∧ (Gj3 0 5).toInt ≤ 1000 := jI3 0 5
        refine u_callVv (k := 0) (n := 0) (b := a 0) (As := []) (st := []) F (fun sz => S_X13_scan l D K a G21  (by have e9_0_3 : G21 0 3 = (G 0 3) := (hU23 0 3 (by decide)).trans ((hU7 0 3 (by decide)).trans (jU3 0 3 (by decide))); have e9_0_5 : G21 0 5 = (Gj3 0 5) := (hU23 0 5 (by decide)).trans (hU7 0 5 (by decide)); (try simp only [e9_0_3, e9_0_5, true_and, and_true]) <;> (first | omega | (simp only [Int32.reduceToInt, true_and, and_true, ne_eq, not_true_eq_false, false_and, or_false, false_or, true_or, or_true, false_implies] <;> omega))) hI22 sz) (cwV 0 hts (gT_left gX13_readRow_X13_scan) rfl rfl rfl (by decide +kernel) ⟨Nat.le_of_ble_eq_true rfl, Nat.le_of_ble_eq_true rfl⟩) rfl 0 yc_0 rfl (Nat.le_of_ble_eq_true rfl) ⟨Nat.zero_le _, Nat.zero_le _⟩ dX13_readRow_28 (fun G29 hw28 => ?_)
        have hI30 : yI G29 := hw28.1
        have hU31 : gu_un ycd [5, 6, 7, 8] G21 G29 := hw28.2.1
        have hp32 := hw28.2.2
        have b33 : (0 : Int) ≤ (G29 0 5).toInt ∧ (G29 0 5).toInt ≤ 1000 := hI30 0 5
        have b34 : (0 : Int) ≤ (G29 0 4).toInt ∧ (G29 0 4).toInt ≤ 1000 := hI30 0 4
        have q35 : ((G29 0 5).toInt ≤ (G 0 3).toInt ∧ (Gj3 0 5).toInt ≤ (G29 0 4).toInt ∧ (G29 0 4).toInt ≤ (G29 0 5).toInt) := by have h9 := hp32.1; (try simp only [(show G21 0 3 = (G 0 3) from (hU23 0 3 (by decide)).trans ((hU7 0 3 (by decide)).trans (jU3 0 3 (by decide)))), (show G21 0 5 = (Gj3 0 5) from (hU23 0 5 (by decide)).trans (hU7 0 5 (by decide)))] at h9); first | exact h9 | omega
        have b36 : (0 : Int) ≤ (G29 0 6).toInt ∧ (G29 0 6).toInt ≤ 4 := hI30 0 6
        have q37 : (((G29 0 6).toInt = 0 ∧ (G29 0 4).toInt = (G 0 3).toInt) ∨ ((G29 0 6).toInt ≠ 0 ∧ (G29 0 4).toInt < (G29 0 5).toInt)) := by have h9 := hp32.2.1; (try simp only [(show G21 0 3 = (G 0 3) from (hU23 0 3 (by decide)).trans ((hU7 0 3 (by decide)).trans (jU3 0 3 (by decide))))] at h9); first | exact h9 | omega
        have q38 : tTok (G 2) (G 0 3).toInt (Gj3 0 5).toInt (G29 0 6).toInt (G29 0 4).toInt (G29 0 7).toInt (G29 0 5).toInt := by have h9 := hp32.2.2; (try simp only [(show G21 0 3 = (G 0 3) from (hU23 0 3 (by decide)).trans ((hU7 0 3 (by decide)).trans (jU3 0 3 (by decide)))), (show G21 0 5 = (Gj3 0 5) from (hU23 0 5 (by decide)).trans (hU7 0 5 (by decide))), (show G21 2 = (G 2) from (show G21 2 = G5 2 from funext fun k_ => hU23 2 k_ (show (200 : Nat) ∉ ([9, 10] : List Nat) by decide)).trans ((show G5 2 = Gj3 2 from funext fun k_ => hU7 2 k_ (show (200 : Nat) ∉ ([9, 10] : List Nat) by decide)).trans ((show Gj3 2 = G 2 from funext fun k_ => jU3 2 k_ (show (200 : Nat) ∉ ([5, 6, 7, 8, 9, 10, 800] : List Nat) by decide)))))] at h9); first | exact h9 | omega
        clear hp32 hw28
        refine g_aload_n F 2 dX13_readRow_31 rfl rfl ?_
        refine g_iload F 5 dX13_readRow_32 rfl ?_
        refine g_iload F 0 dX13_readRow_34 rfl ?_
        refine u_iast F 8 0 yc_8 rfl x3_4.toInt rfl (by omega) (by omega) (yW K a (gu_up G29 8 (x3_4.toInt).toNat r3)) (ys_8 _) dX13_readRow_36 ?_
        refine u_iinc F (fun v_ => [(4, .int v_), (5, .int r3), (0, .ref (a 0)), (1, .ref (a 8)), (2, .int 6), (3, .int 9)]) dX13_readRow_37 (j := 5) rfl x3_4.toInt 1 rfl rfl (by omega) (by omega) (by decide) (fun _ => rfl) (fun y39 ey39 => ?_)
        refine g_aload_n F 2 dX13_readRow_40 rfl rfl ?_
        refine yg_0_6 F i_X13 w_0 dX13_readRow_41 (G29 0 6) (rfl) ?_
        refine g_iconst F 2 dX13_readRow_44 (by decide) ?_
        refine v_icmp_eq F 3 dX13_readRow_45 (by decide) (G29 0 6).toInt 2 rfl rfl (fun c40 => ?_) (fun c40 => ?_)
        · refine g_locals [(0, .ref (a 0)), (1, .ref (a 8)), (2, .int 6), (3, .int 9), (4, .int y39)] [2, 3, 4, 5, 0] rfl ?_
          exact ih_3 y39 (gu_up G29 8 (x3_4.toInt).toNat r3) (by have e9_0_5 : (gu_up G29 8 (x3_4.toInt).toNat r3) 0 5 = (G29 0 5) := rfl; have e9_0_6 : (gu_up G29 8 (x3_4.toInt).toNat r3) 0 6 = (G29 0 6) := rfl; (try simp only [e9_0_5, e9_0_6, true_and, and_true]) <;> omega) (by have h9 := ti_rng y39; omega) (gu_I.up (j := 8) (k := (x3_4.toInt).toNat) (v := r3) hI30 (show (0 : Int) ≤ Int32.toInt r3 by omega) (show Int32.toInt r3 ≤ 9 by omega)) (gu_un.up (j := 8) (k := (x3_4.toInt).toNat) (v := r3) (gu_un.tr (gu_un.tr (gu_un.tr (gu_un.tr gu_un.rf (gu_un.su jU3 rfl)) (gu_un.su hU7 rfl)) (gu_un.su hU23 rfl)) (gu_un.su hU31 rfl)) (show (800 : Nat) ∈ ([5, 6, 7, 8, 9, 10, 800] : List Nat) by decide)) (by have e9_0_3 : (gu_up G29 8 (x3_4.toInt).toNat r3) 0 3 = (G 0 3) := (hU31 0 3 (by decide)).trans ((hU23 0 3 (by decide)).trans ((hU7 0 3 (by decide)).trans (jU3 0 3 (by decide)))); have e9_0_5 : (gu_up G29 8 (x3_4.toInt).toNat r3) 0 5 = (G29 0 5) := rfl; (try simp only [e9_0_3, e9_0_5, true_and, and_true]) <;> (first | omega | (simp only [Int32.reduceToInt, true_and, and_true, ne_eq, not_true_eq_false, false_and, or_false, false_or, true_or, or_true, false_implies] <;> omega))) (by have e9_0_5 : (gu_up G29 8 (x3_4.toInt).toNat r3) 0 5 = (G29 0 5) := rfl; have e9_0_6 : (gu_up G29 8 (x3_4.toInt).toNat r3) 0 6 = (G29 0 6) := rfl; (try simp only [e9_0_5, e9_0_6, true_and, and_true]) <;> (first | omega | (simp only [Int32.reduceToInt, true_and, and_true, ne_eq, not_true_eq_false, false_and, or_false, false_or, true_or, or_true, false_implies] <;> omega)))
        · refine g_iload F 0 dX13_readRow_48 rfl ?_
          exact ux_iret F hA hQ hr (gu_up G29 8 (x3_4.toInt).toNat r3) (⟨(gu_I.up (j := 8) (k := (x3_4.toInt).toNat) (v := r3) hI30 (show (0 : Int) ≤ Int32.toInt r3 by omega) (show Int32.toInt r3 ≤ 9 by omega)), (gu_un.up (j := 8) (k := (x3_4.toInt).toNat) (v := r3) (gu_un.tr (gu_un.tr (gu_un.tr (gu_un.tr gu_un.rf (gu_un.su jU3 rfl)) (gu_un.su hU7 rfl)) (gu_un.su hU23 rfl)) (gu_un.su hU31 rfl)) (show (800 : Nat) ∈ ([5, 6, 7, 8, 9, 10, 800] : List Nat) by decide)), (by have h9 := ti_rng y39; omega), (by show (((gu_up G29 8 (x3_4.toInt).toNat r3) 0 5).toInt ≤ (G 0 3).toInt ∧ (G 0 5).toInt ≤ ((gu_up G29 8 (x3_4.toInt).toNat r3) 0 5).toInt ∧ (((gu_up G29 8 (x3_4.toInt).toNat r3) 0 6).toInt = 0 ∨ (G 0 5).toInt < ((gu_up G29 8 (x3_4.toInt).toNat r3) 0 5).toInt)); have e9_0_5 : (gu_up G29 8 (x3_4.toInt).toNat r3) 0 5 = (G29 0 5) := rfl; have e9_0_6 : (gu_up G29 8 (x3_4.toInt).toNat r3) 0 6 = (G29 0 6) := rfl; (try simp only [e9_0_5, e9_0_6, true_and, and_true]) <;> (first | omega | (simp only [Int32.reduceToInt, true_and, and_true, ne_eq, not_true_eq_false, false_and, or_false, false_or, true_or, or_true, false_implies] <;> omega)))⟩) rfl rfl dX13_readRow_50
  refine g_iconst F 0 dX13_readRow_0 (by decide) ?_
  refine g_istore F [(4, .int 0), (0, .ref (a 0)), (1, .ref (a 8)), (2, .int 6), (3, .int 9)] dX13_readRow_1 (by decide) rfl ?_
  refine g_locals [(0, .ref (a 0)), (1, .ref (a 8)), (2, .int 6), (3, .int 9), (4, .int 0)] [1, 2, 3, 4, 0] rfl ?_
  have b41 : (0 : Int) ≤ (G 0 6).toInt ∧ (G 0 6).toInt ≤ 4 := hI 0 6
  exact J_3 _ 0 G (Nat.lt_succ_self _) (by decide) hI gu_un.rf (by (first | omega | (simp only [Int32.reduceToInt, true_and, and_true, ne_eq, not_true_eq_false, false_and, or_false, false_or, true_or, or_true, false_implies] <;> omega))) (by (first | omega | (simp only [Int32.reduceToInt, true_and, and_true, ne_eq, not_true_eq_false, false_and, or_false, false_or, true_or, or_true, false_implies] <;> omega)))
