theorem dX13_readSpan_0 : decode cX13_readSpan 0 = .ok (.aload_n 0, 1) := by decide +kernel
theorem dX13_readSpan_1 : decode cX13_readSpan 1 = .ok (.getfield 76, 3) := by decide +kernel
theorem dX13_readSpan_4 : decode cX13_readSpan 4 = .ok (.iload_n 1, 1) := by decide +kernel
theorem dX13_readSpan_5 : decode cX13_readSpan 5 = .ok (.aload_n 0, 1) := by decide +kernel
theorem dX13_readSpan_6 : decode cX13_readSpan 6 = .ok (.iconst 0, 1) := by decide +kernel
theorem dX13_readSpan_7 : decode cX13_readSpan 7 = .ok (.sipush 200, 3) := by decide +kernel
theorem dX13_readSpan_10 : decode cX13_readSpan 10 = .ok (.invokevirtual 180, 3) := by decide +kernel
theorem dX13_readSpan_13 : decode cX13_readSpan 13 = .ok (.iastore, 1) := by decide +kernel
theorem dX13_readSpan_14 : decode cX13_readSpan 14 = .ok (.aload_n 0, 1) := by decide +kernel
theorem dX13_readSpan_15 : decode cX13_readSpan 15 = .ok (.getfield 76, 3) := by decide +kernel
theorem dX13_readSpan_18 : decode cX13_readSpan 18 = .ok (.iload_n 1, 1) := by decide +kernel
theorem dX13_readSpan_19 : decode cX13_readSpan 19 = .ok (.iconst 1, 1) := by decide +kernel
theorem dX13_readSpan_20 : decode cX13_readSpan 20 = .ok (.iadd, 1) := by decide +kernel
theorem dX13_readSpan_21 : decode cX13_readSpan 21 = .ok (.aload_n 0, 1) := by decide +kernel
theorem dX13_readSpan_22 : decode cX13_readSpan 22 = .ok (.aload_n 0, 1) := by decide +kernel
theorem dX13_readSpan_23 : decode cX13_readSpan 23 = .ok (.getfield 76, 3) := by decide +kernel
theorem dX13_readSpan_26 : decode cX13_readSpan 26 = .ok (.iload_n 1, 1) := by decide +kernel
theorem dX13_readSpan_27 : decode cX13_readSpan 27 = .ok (.iaload, 1) := by decide +kernel
theorem dX13_readSpan_28 : decode cX13_readSpan 28 = .ok (.sipush 200, 3) := by decide +kernel
theorem dX13_readSpan_31 : decode cX13_readSpan 31 = .ok (.aload_n 0, 1) := by decide +kernel
theorem dX13_readSpan_32 : decode cX13_readSpan 32 = .ok (.getfield 76, 3) := by decide +kernel
theorem dX13_readSpan_35 : decode cX13_readSpan 35 = .ok (.iload_n 1, 1) := by decide +kernel
theorem dX13_readSpan_36 : decode cX13_readSpan 36 = .ok (.iaload, 1) := by decide +kernel
theorem dX13_readSpan_37 : decode cX13_readSpan 37 = .ok (.iconst 3, 1) := by decide +kernel
theorem dX13_readSpan_38 : decode cX13_readSpan 38 = .ok (.iadd, 1) := by decide +kernel
theorem dX13_readSpan_39 : decode cX13_readSpan 39 = .ok (.invokestatic 147, 3) := by decide +kernel
theorem dX13_readSpan_42 : decode cX13_readSpan 42 = .ok (.invokevirtual 180, 3) := by decide +kernel
theorem dX13_readSpan_45 : decode cX13_readSpan 45 = .ok (.iastore, 1) := by decide +kernel
theorem dX13_readSpan_46 : decode cX13_readSpan 46 = .ok (.return_, 1) := by decide +kernel
set_option maxRecDepth 20000 in
theorem ggX13_readSpan_X13_number : GoodIn wsX13_readSpan wsX13_number := goodIn_r _ [10, 11, 12, 13, 9, 14, 15, 16, 17, 18, 19, 20, 21, 22, 23, 24, 25, 26, 27, 28, 29, 30, 31, 32, 33, 34, 35, 36, 37, 38, 39, 40, 41, 42, 43, 44, 45, 46, 47, 48, 49, 50, 51, 52, 53, 54, 55, 56, 57, 58, 59, 60, 61, 62, 63, 64, 65, 66, 67, 68, 69, 70, 71, 72, 73, 74, 75, 76, 77, 78, 79, 80, 81, 82, 83, 84, 85, 86, 87, 88, 89, 90, 91, 92, 93, 94, 95, 96, 97, 98, 99, 100, 101, 102, 103, 104, 105, 106, 107, 108, 109, 110, 111, 112, 113, 114] rfl (by decide +kernel)
set_option maxRecDepth 20000 in
theorem gX13_readSpan_X13_number : GoodIn wsX13_readSpan (wsV RX13 180 RX13 yX13_number wsX13_number) := goodIn_app (goodIn_of _ (by decide +kernel)) ggX13_readSpan_X13_number
def wsT_X13_readSpan : List Cond := wsX13_readSpan ++ wsT_nx
theorem gT_X13_readSpan_X13_number : GoodIn wsT_X13_readSpan (wsV RX13 180 RX13 yX13_number wsT_X13_number) := gT_call gX13_readSpan_X13_number gT_nx
set_option maxHeartbeats 4000000 in
set_option maxRecDepth 100000 in
theorem S_X13_readSpan_v3 (l : Launch) (D : va_G) (K : Nat → ClassId) (a : Nat → Nat) (G : gS) (pb : ((G 0 5).toInt ≤ (G 0 3).toInt)) (hI : yI G) (sz : Nat) : Kxv l yX13_readSpan wsT_X13_readSpan 5 128 D [.ref (a 0), .int 3] (yW K a G) (tK K) sz (fun (G' : gS) => (yI G') ∧ (gu_un ycd [5, 6, 7, 8, 9, 10, 400] G G') ∧ (((G' 0 5).toInt ≤ (G 0 3).toInt ∧ (G 0 5).toInt ≤ (G' 0 5).toInt ∧ ((G' 0 6).toInt = 0 ∨ (G 0 5).toInt < (G' 0 5).toInt))) ∧ (yCl 3 G G') ∧ (yFf G G')) (fun (G' : gS) => (yI G') ∧ (gu_un ycd [5, 6, 7, 8, 9, 10, 400] G G') ∧ (yClT 3 G G') ∧ (((G' 0 8).toInt ≠ 0))) (a 1) (fun (G' : gS) => (yW K a G')) := by
  unfold Kxv
  refine gx_ofW (cc := cX13_readSpan) (lv := [(0, .ref (a 0)), (1, .int 3)]) (by decide) rfl (Nat.le_of_ble_eq_true rfl) rfl ?_
  intro p e s m args below meth c A Q hA hQ F hr hex
  have hts := F.2.2.2.2.1
  have w_0 : (Cond.fieldLink RX13 76 "QuietCutModel" "readRule" "[I").before args s = true := hts _ (List.mem_of_getElem? (i := 1) rfl)
  have i_X13 : ∀ w ∈ u_ws RX13 TX13 73, w ∈ wsT_X13_readSpan := fun w h => List.mem_append_left _ ((show ∀ w ∈ u_ws RX13 TX13 73, w ∈ wsX13_readSpan from fun _ h => List.mem_cons_of_mem _ (List.mem_append_right _ h)) w h)
  have w_1 : (Cond.methodLink RX13 147 Lib.Math.min.name).before args s = true := hts _ (List.mem_of_getElem? (i := 2) rfl)
  have w_2 : (Cond.static Lib.Math.min.name).before args s = true := hts _ (List.mem_of_getElem? (i := 3) rfl)
  have w_3 : (Cond.initialized "java/lang/Math").before args s = true := hts _ (List.mem_of_getElem? (i := 4) rfl)
  have w_4 : (Cond.code Lib.Math.min.name Lib.Math.min.code 2 (some .int)).before args s = true := hts _ (List.mem_of_getElem? (i := 5) rfl)
  refine g_aload_n F 0 dX13_readSpan_0 rfl rfl ?_
  refine yg_0_11 F i_X13 w_0 dX13_readSpan_1 ?_
  refine g_iload_n F 1 dX13_readSpan_4 rfl rfl ?_
  refine g_aload_n F 0 dX13_readSpan_5 rfl rfl ?_
  refine g_iconst F 0 dX13_readSpan_6 (by decide) ?_
  refine g_sipush F 200 dX13_readSpan_7 (by decide) ?_
  have b1 : (0 : Int) ≤ (G 0 3).toInt ∧ (G 0 3).toInt ≤ 1000 := hI 0 3
  have b2 : (0 : Int) ≤ (G 0 5).toInt ∧ (G 0 5).toInt ≤ 1000 := hI 0 5
  refine ux_calliv (k := 0) (n := 0) (b := a 0) (As := [.int 0, .int 200]) (st := [.int 3, .ref (a 4)]) F (fun sz => S_X13_number l D K a G 0 0 200 200 rfl rfl (by (first | omega | (simp only [Int32.reduceToInt, true_and, and_true, ne_eq, not_true_eq_false, false_and, or_false, false_or, true_or, or_true, false_implies] <;> omega))) hI sz) (cwV 2 hts gT_X13_readSpan_X13_number rfl rfl rfl (by decide +kernel) ⟨Nat.le_of_ble_eq_true rfl, Nat.le_of_ble_eq_true rfl⟩) rfl 0 yc_0 rfl (Nat.le_of_ble_eq_true rfl) ⟨Nat.zero_le _, Nat.zero_le _⟩ dX13_readSpan_10 hex hA hQ (fun u9 h9 => ⟨h9.1, gu_un.tr gu_un.rf (gu_un.su h9.2.1 rfl), (yClT.one (by decide) (by decide) (by decide) rfl rfl h9.2.2.1), (h9.2.2.2)⟩) (fun r3 G5 hw4 => ?_)
  have hI6 : yI G5 := hw4.1
  have hU7 : gu_un ycd [5, 6, 7, 8, 9, 10] G G5 := hw4.2.1
  have hp8 := hw4.2.2
  have q9 : ((0 : Int) ≤ r3.toInt ∧ r3.toInt ≤ (200 : Int)) := hp8.2.1
  have b10 : (0 : Int) ≤ (G5 0 5).toInt ∧ (G5 0 5).toInt ≤ 1000 := hI6 0 5
  have b11 : (0 : Int) ≤ (G5 0 6).toInt ∧ (G5 0 6).toInt ≤ 4 := hI6 0 6
  have q12 : ((G5 0 5).toInt ≤ (G 0 3).toInt ∧ (G 0 5).toInt ≤ (G5 0 5).toInt ∧ ((G5 0 6).toInt = 0 ∨ (G 0 5).toInt < (G5 0 5).toInt)) := hp8.2.2.1
  have b13 : (0 : Int) ≤ (G 0 6).toInt ∧ (G 0 6).toInt ≤ 4 := hI 0 6
  have b14 : (0 : Int) ≤ (G 0 7).toInt ∧ (G 0 7).toInt ≤ 9999 := hI 0 7
  have q15 : ((G 0 6).toInt = 2 ∧ r3.toInt = (G 0 7).toInt) := hp8.2.2.2.1
  have b16 : (0 : Int) ≤ (G5 0 4).toInt ∧ (G5 0 4).toInt ≤ 1000 := hI6 0 4
  have b17 : (0 : Int) ≤ (G5 0 7).toInt ∧ (G5 0 7).toInt ≤ 9999 := hI6 0 7
  have q18 : tTok (G 2) (G 0 3).toInt (G 0 5).toInt (G5 0 6).toInt (G5 0 4).toInt (G5 0 7).toInt (G5 0 5).toInt := hp8.2.2.2.2.1
  have q19 : yFf G G5 := hp8.2.2.2.2.2
  have rg20 := hp8.1
  clear hp8 hw4
  refine u_iast F 4 0 yc_4 rfl 3 rfl (by decide) (by decide) (yW K a (gu_up G5 4 3 r3)) (ys_4 _) dX13_readSpan_13 ?_
  refine g_aload_n F 0 dX13_readSpan_14 rfl rfl ?_
  refine yg_0_11 F i_X13 w_0 dX13_readSpan_15 ?_
  refine g_iload_n F 1 dX13_readSpan_18 rfl rfl ?_
  refine g_iconst F 1 dX13_readSpan_19 (by decide) ?_
  refine g_iadd F dX13_readSpan_20 ?_
  refine g_fold 4 (by decide) ?_
  refine g_aload_n F 0 dX13_readSpan_21 rfl rfl ?_
  refine g_aload_n F 0 dX13_readSpan_22 rfl rfl ?_
  refine yg_0_11 F i_X13 w_0 dX13_readSpan_23 ?_
  refine g_iload_n F 1 dX13_readSpan_26 rfl rfl ?_
  refine u1_iald F 4 0 yc_4 rfl 3 rfl (by decide) (by decide) dX13_readSpan_27 r3 (rfl) ?_
  refine g_sipush F 200 dX13_readSpan_28 (by decide) ?_
  refine g_aload_n F 0 dX13_readSpan_31 rfl rfl ?_
  refine yg_0_11 F i_X13 w_0 dX13_readSpan_32 ?_
  refine g_iload_n F 1 dX13_readSpan_35 rfl rfl ?_
  refine u1_iald F 4 0 yc_4 rfl 3 rfl (by decide) (by decide) dX13_readSpan_36 r3 (rfl) ?_
  refine g_iconst F 3 dX13_readSpan_37 (by decide) ?_
  refine u_iadd F dX13_readSpan_38 r3.toInt 3 rfl rfl (by omega) (by omega) (fun y21 ey21 => ?_)
  refine u_mmin F w_1 w_2 w_3 w_4 (Nat.le_of_ble_eq_true rfl) (Nat.le_of_ble_eq_true rfl) (Nat.le_of_ble_eq_true rfl) (Nat.le_of_ble_eq_true rfl) dX13_readSpan_39 200 y21.toInt rfl rfl (fun y22 ey22 => ?_)
  refine ux_calliv (k := 0) (n := 0) (b := a 0) (As := [.int r3, .int y22]) (st := [.int 4, .ref (a 4)]) F (fun sz => S_X13_number l D K a (gu_up G5 4 3 r3) r3 r3.toInt y22 y22.toInt rfl rfl (by have e9_0_3 : (gu_up G5 4 3 r3) 0 3 = (G 0 3) := hU7 0 3 (by decide); have e9_0_5 : (gu_up G5 4 3 r3) 0 5 = (G5 0 5) := rfl; (try simp only [e9_0_3, e9_0_5, true_and, and_true]) <;> (first | omega | (simp only [Int32.reduceToInt, true_and, and_true, ne_eq, not_true_eq_false, false_and, or_false, false_or, true_or, or_true, false_implies] <;> omega))) (gu_I.up (j := 4) (k := 3) (v := r3) hI6 (show (0 : Int) ≤ Int32.toInt r3 by omega) (show Int32.toInt r3 ≤ 200 by omega)) sz) (cwV 2 hts gT_X13_readSpan_X13_number rfl rfl rfl (by decide +kernel) ⟨Nat.le_of_ble_eq_true rfl, Nat.le_of_ble_eq_true rfl⟩) rfl 0 yc_0 rfl (Nat.le_of_ble_eq_true rfl) ⟨Nat.zero_le _, Nat.zero_le _⟩ dX13_readSpan_42 hex hA hQ (fun u9 h9 => ⟨h9.1, gu_un.tr (gu_un.up (j := 4) (k := 3) (v := r3) (gu_un.tr gu_un.rf (gu_un.su hU7 rfl)) (show (400 : Nat) ∈ ([5, 6, 7, 8, 9, 10, 400] : List Nat) by decide)) (gu_un.su h9.2.1 rfl), (yClT.two (a := 3) (Or.inl ⟨rfl, rfl⟩) (show yStp [] G G G5 from ⟨(show gu_un ycd [] G G from gu_un.rf), rfl, by exact q18, funext fun k_ => hU7 2 k_ (by simp [ycd]), hU7 0 3 (by decide)⟩) q15.1 q15.2 (by omega) (by omega) (show gu_un ycd [400] G5 (gu_up G5 4 3 r3) from (gu_un.up (j := 4) (k := 3) (v := r3) gu_un.rf (show (400 : Nat) ∈ ([400] : List Nat) by decide))) rfl rfl (by omega) (by omega) h9.2.2.1), (h9.2.2.2)⟩) (fun r23 G25 hw24 => ?_)
  have hI26 : yI G25 := hw24.1
  have hU27 : gu_un ycd [5, 6, 7, 8, 9, 10] (gu_up G5 4 3 r3) G25 := hw24.2.1
  have hp28 := hw24.2.2
  have q29 : (r3.toInt ≤ r23.toInt ∧ r23.toInt ≤ y22.toInt) := hp28.2.1
  have b30 : (0 : Int) ≤ (G25 0 5).toInt ∧ (G25 0 5).toInt ≤ 1000 := hI26 0 5
  have b31 : (0 : Int) ≤ (G25 0 6).toInt ∧ (G25 0 6).toInt ≤ 4 := hI26 0 6
  have q32 : ((G25 0 5).toInt ≤ (G 0 3).toInt ∧ (G5 0 5).toInt ≤ (G25 0 5).toInt ∧ ((G25 0 6).toInt = 0 ∨ (G5 0 5).toInt < (G25 0 5).toInt)) := by have h9 := hp28.2.2.1; (try simp only [(show (gu_up G5 4 3 r3) 0 3 = (G 0 3) from hU7 0 3 (by decide))] at h9); first | exact h9 | omega
  have q33 : ((G5 0 6).toInt = 2 ∧ r23.toInt = (G5 0 7).toInt) := hp28.2.2.2.1
  have b34 : (0 : Int) ≤ (G25 0 4).toInt ∧ (G25 0 4).toInt ≤ 1000 := hI26 0 4
  have b35 : (0 : Int) ≤ (G25 0 7).toInt ∧ (G25 0 7).toInt ≤ 9999 := hI26 0 7
  have q36 : tTok (G 2) (G 0 3).toInt (G5 0 5).toInt (G25 0 6).toInt (G25 0 4).toInt (G25 0 7).toInt (G25 0 5).toInt := by have h9 := hp28.2.2.2.2.1; (try simp only [(show (gu_up G5 4 3 r3) 0 3 = (G 0 3) from hU7 0 3 (by decide)), (show (gu_up G5 4 3 r3) 2 = (G 2) from (show G5 2 = G 2 from funext fun k_ => hU7 2 k_ (show (200 : Nat) ∉ ([5, 6, 7, 8, 9, 10] : List Nat) by decide)))] at h9); first | exact h9 | omega
  have q37 : yFf (gu_up G5 4 3 r3) G25 := hp28.2.2.2.2.2
  have rg38 := hp28.1
  clear hp28 hw24
  refine u_iast F 4 0 yc_4 rfl 4 rfl (by decide) (by decide) (yW K a (gu_up G25 4 4 r23)) (ys_4 _) dX13_readSpan_45 ?_
  exact ux_vret F hA hQ hr (gu_up G25 4 4 r23) (⟨(gu_I.up (j := 4) (k := 4) (v := r23) hI26 (show (0 : Int) ≤ Int32.toInt r23 by omega) (show Int32.toInt r23 ≤ 200 by omega)), (gu_un.up (j := 4) (k := 4) (v := r23) (gu_un.tr (gu_un.up (j := 4) (k := 3) (v := r3) (gu_un.tr gu_un.rf (gu_un.su hU7 rfl)) (show (400 : Nat) ∈ ([5, 6, 7, 8, 9, 10, 400] : List Nat) by decide)) (gu_un.su hU27 rfl)) (show (400 : Nat) ∈ ([5, 6, 7, 8, 9, 10, 400] : List Nat) by decide)), (by show (((gu_up G25 4 4 r23) 0 5).toInt ≤ (G 0 3).toInt ∧ (G 0 5).toInt ≤ ((gu_up G25 4 4 r23) 0 5).toInt ∧ (((gu_up G25 4 4 r23) 0 6).toInt = 0 ∨ (G 0 5).toInt < ((gu_up G25 4 4 r23) 0 5).toInt)); have e9_0_5 : (gu_up G25 4 4 r23) 0 5 = (G25 0 5) := rfl; have e9_0_6 : (gu_up G25 4 4 r23) 0 6 = (G25 0 6) := rfl; (try simp only [e9_0_5, e9_0_6, true_and, and_true]) <;> (first | omega | (simp only [Int32.reduceToInt, true_and, and_true, ne_eq, not_true_eq_false, false_and, or_false, false_or, true_or, or_true, false_implies] <;> omega))), (yCl.two (a := 3) (Or.inl ⟨rfl, rfl⟩) (show yStp [] G G G5 from ⟨(show gu_un ycd [] G G from gu_un.rf), rfl, by exact q18, funext fun k_ => hU7 2 k_ (by simp [ycd]), hU7 0 3 (by decide)⟩) q15.1 q15.2 (by omega) (by omega) (show yStp [400] G5 (gu_up G5 4 3 r3) G25 from ⟨(show gu_un ycd [400] G5 (gu_up G5 4 3 r3) from (gu_un.up (j := 4) (k := 3) (v := r3) gu_un.rf (show (400 : Nat) ∈ ([400] : List Nat) by decide))), rfl, by (try rw [show (gu_up G5 4 3 r3) 2 = (G 2) from (show G5 2 = G 2 from funext fun k_ => hU7 2 k_ (show (200 : Nat) ∉ ([5, 6, 7, 8, 9, 10] : List Nat) by decide))]); (try rw [show (gu_up G5 4 3 r3) 0 3 = (G 0 3) from hU7 0 3 (by decide)]); (try rw [show (gu_up G5 4 3 r3) 0 5 = (G5 0 5) from rfl]); exact q36, funext fun k_ => hU27 2 k_ (by simp [ycd]), hU27 0 3 (by decide)⟩) q33.1 q33.2 (by omega) (by omega) (by omega) (show gu_un ycd [400] G25 (gu_up G25 4 4 r23) from (gu_un.up (j := 4) (k := 4) (v := r23) gu_un.rf (show (400 : Nat) ∈ ([400] : List Nat) by decide))) rfl (show (gu_up G25 4 4 r23) 4 = (upd (upd (G 4) 3 r3) 4 r23) from (congrArg (fun f_ => upd f_ 4 r23) ((show G25 4 = (gu_up G5 4 3 r3) 4 from funext fun k_ => hU27 4 k_ (by simp [ycd])).trans (show (gu_up G5 4 3 r3) 4 = (upd (G 4) 3 r3) from (congrArg (fun f_ => upd f_ 3 r3) ((show G5 4 = G 4 from funext fun k_ => hU7 4 k_ (by simp [ycd])).trans (show G 4 = (G 4) from rfl))))))) (show (gu_up G25 4 4 r23) 6 = (G 6) from ((show G25 6 = (gu_up G5 4 3 r3) 6 from funext fun k_ => hU27 6 k_ (by simp [ycd])).trans (show (gu_up G5 4 3 r3) 6 = (G 6) from ((show G5 6 = G 6 from funext fun k_ => hU7 6 k_ (by simp [ycd])).trans (show G 6 = (G 6) from rfl))))) (show (gu_up G25 4 4 r23) 8 = (G 8) from ((show G25 8 = (gu_up G5 4 3 r3) 8 from funext fun k_ => hU27 8 k_ (by simp [ycd])).trans (show (gu_up G5 4 3 r3) 8 = (G 8) from ((show G5 8 = G 8 from funext fun k_ => hU7 8 k_ (by simp [ycd])).trans (show G 8 = (G 8) from rfl))))) (yMq_un (show gu_un ycd [5, 6, 7, 8, 9, 10, 400] G (gu_up G25 4 4 r23) from (gu_un.up (j := 4) (k := 4) (v := r23) (gu_un.tr (gu_un.up (j := 4) (k := 3) (v := r3) (gu_un.tr gu_un.rf (gu_un.su hU7 rfl)) (show (400 : Nat) ∈ ([5, 6, 7, 8, 9, 10, 400] : List Nat) by decide)) (gu_un.su hU27 rfl)) (show (400 : Nat) ∈ ([5, 6, 7, 8, 9, 10, 400] : List Nat) by decide))) rfl)), ((yFf.tr (show yFf G (gu_up G5 4 3 r3) from (yFf.tr (show yFf G G from yFf.rf) q19)) q37))⟩) rfl rfl dX13_readSpan_46


set_option maxHeartbeats 4000000 in
set_option maxRecDepth 100000 in
theorem S_X13_readSpan_v5 (l : Launch) (D : va_G) (K : Nat → ClassId) (a : Nat → Nat) (G : gS) (pb : ((G 0 5).toInt ≤ (G 0 3).toInt)) (hI : yI G) (sz : Nat) : Kxv l yX13_readSpan wsT_X13_readSpan 5 128 D [.ref (a 0), .int 5] (yW K a G) (tK K) sz (fun (G' : gS) => (yI G') ∧ (gu_un ycd [5, 6, 7, 8, 9, 10, 400] G G') ∧ (((G' 0 5).toInt ≤ (G 0 3).toInt ∧ (G 0 5).toInt ≤ (G' 0 5).toInt ∧ ((G' 0 6).toInt = 0 ∨ (G 0 5).toInt < (G' 0 5).toInt))) ∧ (yCl 4 G G') ∧ (yFf G G')) (fun (G' : gS) => (yI G') ∧ (gu_un ycd [5, 6, 7, 8, 9, 10, 400] G G') ∧ (yClT 4 G G') ∧ (((G' 0 8).toInt ≠ 0))) (a 1) (fun (G' : gS) => (yW K a G')) := by
  unfold Kxv
  refine gx_ofW (cc := cX13_readSpan) (lv := [(0, .ref (a 0)), (1, .int 5)]) (by decide) rfl (Nat.le_of_ble_eq_true rfl) rfl ?_
  intro p e s m args below meth c A Q hA hQ F hr hex
  have hts := F.2.2.2.2.1
  have w_0 : (Cond.fieldLink RX13 76 "QuietCutModel" "readRule" "[I").before args s = true := hts _ (List.mem_of_getElem? (i := 1) rfl)
  have i_X13 : ∀ w ∈ u_ws RX13 TX13 73, w ∈ wsT_X13_readSpan := fun w h => List.mem_append_left _ ((show ∀ w ∈ u_ws RX13 TX13 73, w ∈ wsX13_readSpan from fun _ h => List.mem_cons_of_mem _ (List.mem_append_right _ h)) w h)
  have w_1 : (Cond.methodLink RX13 147 Lib.Math.min.name).before args s = true := hts _ (List.mem_of_getElem? (i := 2) rfl)
  have w_2 : (Cond.static Lib.Math.min.name).before args s = true := hts _ (List.mem_of_getElem? (i := 3) rfl)
  have w_3 : (Cond.initialized "java/lang/Math").before args s = true := hts _ (List.mem_of_getElem? (i := 4) rfl)
  have w_4 : (Cond.code Lib.Math.min.name Lib.Math.min.code 2 (some .int)).before args s = true := hts _ (List.mem_of_getElem? (i := 5) rfl)
  refine g_aload_n F 0 dX13_readSpan_0 rfl rfl ?_
  refine yg_0_11 F i_X13 w_0 dX13_readSpan_1 ?_
  refine g_iload_n F 1 dX13_readSpan_4 rfl rfl ?_
  refine g_aload_n F 0 dX13_readSpan_5 rfl rfl ?_
  refine g_iconst F 0 dX13_readSpan_6 (by decide) ?_
  refine g_sipush F 200 dX13_readSpan_7 (by decide) ?_
  have b1 : (0 : Int) ≤ (G 0 3).toInt ∧ (G 0 3).toInt ≤ 1000 := hI 0 3
  have b2 : (0 : Int) ≤ (G 0 5).toInt ∧ (G 0 5).toInt ≤ 1000 := hI 0 5
  refine ux_calliv (k := 0) (n := 0) (b := a 0) (As := [.int 0, .int 200]) (st := [.int 5, .ref (a 4)]) F (fun sz => S_X13_number l D K a G 0 0 200 200 rfl rfl (by (first | omega | (simp only [Int32.reduceToInt, true_and, and_true, ne_eq, not_true_eq_false, false_and, or_false, false_or, true_or, or_true, false_implies] <;> omega))) hI sz) (cwV 2 hts gT_X13_readSpan_X13_number rfl rfl rfl (by decide +kernel) ⟨Nat.le_of_ble_eq_true rfl, Nat.le_of_ble_eq_true rfl⟩) rfl 0 yc_0 rfl (Nat.le_of_ble_eq_true rfl) ⟨Nat.zero_le _, Nat.zero_le _⟩ dX13_readSpan_10 hex hA hQ (fun u9 h9 => ⟨h9.1, gu_un.tr gu_un.rf (gu_un.su h9.2.1 rfl), (yClT.one (by decide) (by decide) (by decide) rfl rfl h9.2.2.1), (h9.2.2.2)⟩) (fun r3 G5 hw4 => ?_)
  have hI6 : yI G5 := hw4.1
  have hU7 : gu_un ycd [5, 6, 7, 8, 9, 10] G G5 := hw4.2.1
  have hp8 := hw4.2.2
  have q9 : ((0 : Int) ≤ r3.toInt ∧ r3.toInt ≤ (200 : Int)) := hp8.2.1
  have b10 : (0 : Int) ≤ (G5 0 5).toInt ∧ (G5 0 5).toInt ≤ 1000 := hI6 0 5
  have b11 : (0 : Int) ≤ (G5 0 6).toInt ∧ (G5 0 6).toInt ≤ 4 := hI6 0 6
  have q12 : ((G5 0 5).toInt ≤ (G 0 3).toInt ∧ (G 0 5).toInt ≤ (G5 0 5).toInt ∧ ((G5 0 6).toInt = 0 ∨ (G 0 5).toInt < (G5 0 5).toInt)) := hp8.2.2.1
  have b13 : (0 : Int) ≤ (G 0 6).toInt ∧ (G 0 6).toInt ≤ 4 := hI 0 6
  have b14 : (0 : Int) ≤ (G 0 7).toInt ∧ (G 0 7).toInt ≤ 9999 := hI 0 7
  have q15 : ((G 0 6).toInt = 2 ∧ r3.toInt = (G 0 7).toInt) := hp8.2.2.2.1
  have b16 : (0 : Int) ≤ (G5 0 4).toInt ∧ (G5 0 4).toInt ≤ 1000 := hI6 0 4
  have b17 : (0 : Int) ≤ (G5 0 7).toInt ∧ (G5 0 7).toInt ≤ 9999 := hI6 0 7
  have q18 : tTok (G 2) (G 0 3).toInt (G 0 5).toInt (G5 0 6).toInt (G5 0 4).toInt (G5 0 7).toInt (G5 0 5).toInt := hp8.2.2.2.2.1
  have q19 : yFf G G5 := hp8.2.2.2.2.2
  have rg20 := hp8.1
  clear hp8 hw4
  refine u_iast F 4 0 yc_4 rfl 5 rfl (by decide) (by decide) (yW K a (gu_up G5 4 5 r3)) (ys_4 _) dX13_readSpan_13 ?_
  refine g_aload_n F 0 dX13_readSpan_14 rfl rfl ?_
  refine yg_0_11 F i_X13 w_0 dX13_readSpan_15 ?_
  refine g_iload_n F 1 dX13_readSpan_18 rfl rfl ?_
  refine g_iconst F 1 dX13_readSpan_19 (by decide) ?_
  refine g_iadd F dX13_readSpan_20 ?_
  refine g_fold 6 (by decide) ?_
  refine g_aload_n F 0 dX13_readSpan_21 rfl rfl ?_
  refine g_aload_n F 0 dX13_readSpan_22 rfl rfl ?_
  refine yg_0_11 F i_X13 w_0 dX13_readSpan_23 ?_
  refine g_iload_n F 1 dX13_readSpan_26 rfl rfl ?_
  refine u1_iald F 4 0 yc_4 rfl 5 rfl (by decide) (by decide) dX13_readSpan_27 r3 (rfl) ?_
  refine g_sipush F 200 dX13_readSpan_28 (by decide) ?_
  refine g_aload_n F 0 dX13_readSpan_31 rfl rfl ?_
  refine yg_0_11 F i_X13 w_0 dX13_readSpan_32 ?_
  refine g_iload_n F 1 dX13_readSpan_35 rfl rfl ?_
  refine u1_iald F 4 0 yc_4 rfl 5 rfl (by decide) (by decide) dX13_readSpan_36 r3 (rfl) ?_
  refine g_iconst F 3 dX13_readSpan_37 (by decide) ?_
  refine u_iadd F dX13_readSpan_38 r3.toInt 3 rfl rfl (by omega) (by omega) (fun y21 ey21 => ?_)
  refine u_mmin F w_1 w_2 w_3 w_4 (Nat.le_of_ble_eq_true rfl) (Nat.le_of_ble_eq_true rfl) (Nat.le_of_ble_eq_true rfl) (Nat.le_of_ble_eq_true rfl) dX13_readSpan_39 200 y21.toInt rfl rfl (fun y22 ey22 => ?_)
  refine ux_calliv (k := 0) (n := 0) (b := a 0) (As := [.int r3, .int y22]) (st := [.int 6, .ref (a 4)]) F (fun sz => S_X13_number l D K a (gu_up G5 4 5 r3) r3 r3.toInt y22 y22.toInt rfl rfl (by have e9_0_3 : (gu_up G5 4 5 r3) 0 3 = (G 0 3) := hU7 0 3 (by decide); have e9_0_5 : (gu_up G5 4 5 r3) 0 5 = (G5 0 5) := rfl; (try simp only [e9_0_3, e9_0_5, true_and, and_true]) <;> (first | omega | (simp only [Int32.reduceToInt, true_and, and_true, ne_eq, not_true_eq_false, false_and, or_false, false_or, true_or, or_true, false_implies] <;> omega))) (gu_I.up (j := 4) (k := 5) (v := r3) hI6 (show (0 : Int) ≤ Int32.toInt r3 by omega) (show Int32.toInt r3 ≤ 200 by omega)) sz) (cwV 2 hts gT_X13_readSpan_X13_number rfl rfl rfl (by decide +kernel) ⟨Nat.le_of_ble_eq_true rfl, Nat.le_of_ble_eq_true rfl⟩) rfl 0 yc_0 rfl (Nat.le_of_ble_eq_true rfl) ⟨Nat.zero_le _, Nat.zero_le _⟩ dX13_readSpan_42 hex hA hQ (fun u9 h9 => ⟨h9.1, gu_un.tr (gu_un.up (j := 4) (k := 5) (v := r3) (gu_un.tr gu_un.rf (gu_un.su hU7 rfl)) (show (400 : Nat) ∈ ([5, 6, 7, 8, 9, 10, 400] : List Nat) by decide)) (gu_un.su h9.2.1 rfl), (yClT.two (a := 5) (Or.inr ⟨rfl, rfl⟩) (show yStp [] G G G5 from ⟨(show gu_un ycd [] G G from gu_un.rf), rfl, by exact q18, funext fun k_ => hU7 2 k_ (by simp [ycd]), hU7 0 3 (by decide)⟩) q15.1 q15.2 (by omega) (by omega) (show gu_un ycd [400] G5 (gu_up G5 4 5 r3) from (gu_un.up (j := 4) (k := 5) (v := r3) gu_un.rf (show (400 : Nat) ∈ ([400] : List Nat) by decide))) rfl rfl (by omega) (by omega) h9.2.2.1), (h9.2.2.2)⟩) (fun r23 G25 hw24 => ?_)
  have hI26 : yI G25 := hw24.1
  have hU27 : gu_un ycd [5, 6, 7, 8, 9, 10] (gu_up G5 4 5 r3) G25 := hw24.2.1
  have hp28 := hw24.2.2
  have q29 : (r3.toInt ≤ r23.toInt ∧ r23.toInt ≤ y22.toInt) := hp28.2.1
  have b30 : (0 : Int) ≤ (G25 0 5).toInt ∧ (G25 0 5).toInt ≤ 1000 := hI26 0 5
  have b31 : (0 : Int) ≤ (G25 0 6).toInt ∧ (G25 0 6).toInt ≤ 4 := hI26 0 6
  have q32 : ((G25 0 5).toInt ≤ (G 0 3).toInt ∧ (G5 0 5).toInt ≤ (G25 0 5).toInt ∧ ((G25 0 6).toInt = 0 ∨ (G5 0 5).toInt < (G25 0 5).toInt)) := by have h9 := hp28.2.2.1; (try simp only [(show (gu_up G5 4 5 r3) 0 3 = (G 0 3) from hU7 0 3 (by decide))] at h9); first | exact h9 | omega
  have q33 : ((G5 0 6).toInt = 2 ∧ r23.toInt = (G5 0 7).toInt) := hp28.2.2.2.1
  have b34 : (0 : Int) ≤ (G25 0 4).toInt ∧ (G25 0 4).toInt ≤ 1000 := hI26 0 4
  have b35 : (0 : Int) ≤ (G25 0 7).toInt ∧ (G25 0 7).toInt ≤ 9999 := hI26 0 7
  have q36 : tTok (G 2) (G 0 3).toInt (G5 0 5).toInt (G25 0 6).toInt (G25 0 4).toInt (G25 0 7).toInt (G25 0 5).toInt := by have h9 := hp28.2.2.2.2.1; (try simp only [(show (gu_up G5 4 5 r3) 0 3 = (G 0 3) from hU7 0 3 (by decide)), (show (gu_up G5 4 5 r3) 2 = (G 2) from (show G5 2 = G 2 from funext fun k_ => hU7 2 k_ (show (200 : Nat) ∉ ([5, 6, 7, 8, 9, 10] : List Nat) by decide)))] at h9); first | exact h9 | omega
  have q37 : yFf (gu_up G5 4 5 r3) G25 := hp28.2.2.2.2.2
  have rg38 := hp28.1
  clear hp28 hw24
  refine u_iast F 4 0 yc_4 rfl 6 rfl (by decide) (by decide) (yW K a (gu_up G25 4 6 r23)) (ys_4 _) dX13_readSpan_45 ?_
  exact ux_vret F hA hQ hr (gu_up G25 4 6 r23) (⟨(gu_I.up (j := 4) (k := 6) (v := r23) hI26 (show (0 : Int) ≤ Int32.toInt r23 by omega) (show Int32.toInt r23 ≤ 200 by omega)), (gu_un.up (j := 4) (k := 6) (v := r23) (gu_un.tr (gu_un.up (j := 4) (k := 5) (v := r3) (gu_un.tr gu_un.rf (gu_un.su hU7 rfl)) (show (400 : Nat) ∈ ([5, 6, 7, 8, 9, 10, 400] : List Nat) by decide)) (gu_un.su hU27 rfl)) (show (400 : Nat) ∈ ([5, 6, 7, 8, 9, 10, 400] : List Nat) by decide)), (by show (((gu_up G25 4 6 r23) 0 5).toInt ≤ (G 0 3).toInt ∧ (G 0 5).toInt ≤ ((gu_up G25 4 6 r23) 0 5).toInt ∧ (((gu_up G25 4 6 r23) 0 6).toInt = 0 ∨ (G 0 5).toInt < ((gu_up G25 4 6 r23) 0 5).toInt)); have e9_0_5 : (gu_up G25 4 6 r23) 0 5 = (G25 0 5) := rfl; have e9_0_6 : (gu_up G25 4 6 r23) 0 6 = (G25 0 6) := rfl; (try simp only [e9_0_5, e9_0_6, true_and, and_true]) <;> (first | omega | (simp only [Int32.reduceToInt, true_and, and_true, ne_eq, not_true_eq_false, false_and, or_false, false_or, true_or, or_true, false_implies] <;> omega))), (yCl.two (a := 5) (Or.inr ⟨rfl, rfl⟩) (show yStp [] G G G5 from ⟨(show gu_un ycd [] G G from gu_un.rf), rfl, by exact q18, funext fun k_ => hU7 2 k_ (by simp [ycd]), hU7 0 3 (by decide)⟩) q15.1 q15.2 (by omega) (by omega) (show yStp [400] G5 (gu_up G5 4 5 r3) G25 from ⟨(show gu_un ycd [400] G5 (gu_up G5 4 5 r3) from (gu_un.up (j := 4) (k := 5) (v := r3) gu_un.rf (show (400 : Nat) ∈ ([400] : List Nat) by decide))), rfl, by (try rw [show (gu_up G5 4 5 r3) 2 = (G 2) from (show G5 2 = G 2 from funext fun k_ => hU7 2 k_ (show (200 : Nat) ∉ ([5, 6, 7, 8, 9, 10] : List Nat) by decide))]); (try rw [show (gu_up G5 4 5 r3) 0 3 = (G 0 3) from hU7 0 3 (by decide)]); (try rw [show (gu_up G5 4 5 r3) 0 5 = (G5 0 5) from rfl]); exact q36, funext fun k_ => hU27 2 k_ (by simp [ycd]), hU27 0 3 (by decide)⟩) q33.1 q33.2 (by omega) (by omega) (by omega) (show gu_un ycd [400] G25 (gu_up G25 4 6 r23) from (gu_un.up (j := 4) (k := 6) (v := r23) gu_un.rf (show (400 : Nat) ∈ ([400] : List Nat) by decide))) rfl (show (gu_up G25 4 6 r23) 4 = (upd (upd (G 4) 5 r3) 6 r23) from (congrArg (fun f_ => upd f_ 6 r23) ((show G25 4 = (gu_up G5 4 5 r3) 4 from funext fun k_ => hU27 4 k_ (by simp [ycd])).trans (show (gu_up G5 4 5 r3) 4 = (upd (G 4) 5 r3) from (congrArg (fun f_ => upd f_ 5 r3) ((show G5 4 = G 4 from funext fun k_ => hU7 4 k_ (by simp [ycd])).trans (show G 4 = (G 4) from rfl))))))) (show (gu_up G25 4 6 r23) 6 = (G 6) from ((show G25 6 = (gu_up G5 4 5 r3) 6 from funext fun k_ => hU27 6 k_ (by simp [ycd])).trans (show (gu_up G5 4 5 r3) 6 = (G 6) from ((show G5 6 = G 6 from funext fun k_ => hU7 6 k_ (by simp [ycd])).trans (show G 6 = (G 6) from rfl))))) (show (gu_up G25 4 6 r23) 8 = (G 8) from ((show G25 8 = (gu_up G5 4 5 r3) 8 from funext fun k_ => hU27 8 k_ (by simp [ycd])).trans (show (gu_up G5 4 5 r3) 8 = (G 8) from ((show G5 8 = G 8 from funext fun k_ => hU7 8 k_ (by simp [ycd])).trans (show G 8 = (G 8) from rfl))))) (yMq_un (show gu_un ycd [5, 6, 7, 8, 9, 10, 400] G (gu_up G25 4 6 r23) from (gu_un.up (j := 4) (k := 6) (v := r23) (gu_un.tr (gu_un.up (j := 4) (k := 5) (v := r3) (gu_un.tr gu_un.rf (gu_un.su hU7 rfl)) (show (400 : Nat) ∈ ([5, 6, 7, 8, 9, 10, 400] : List Nat) by decide)) (gu_un.su hU27 rfl)) (show (400 : Nat) ∈ ([5, 6, 7, 8, 9, 10, 400] : List Nat) by decide))) rfl)), ((yFf.tr (show yFf G (gu_up G5 4 5 r3) from (yFf.tr (show yFf G G from yFf.rf) q19)) q37))⟩) rfl rfl dX13_readSpan_46

theorem dX13_readRow_0 : decode cX13_readRow 0 = .ok (.iconst 0, 1) := by decide +kernel
theorem dX13_readRow_1 : decode cX13_readRow 1 = .ok (.istore 4, 2) := by decide +kernel
theorem dX13_readRow_3 : decode cX13_readRow 3 = .ok (.aload_n 0, 1) := by decide +kernel
theorem dX13_readRow_4 : decode cX13_readRow 4 = .ok (.iconst 0, 1) := by decide +kernel
theorem dX13_readRow_5 : decode cX13_readRow 5 = .ok (.iload_n 3, 1) := by decide +kernel
theorem dX13_readRow_6 : decode cX13_readRow 6 = .ok (.invokevirtual 65, 3) := by decide +kernel
theorem dX13_readRow_9 : decode cX13_readRow 9 = .ok (.istore 5, 2) := by decide +kernel
theorem dX13_readRow_11 : decode cX13_readRow 11 = .ok (.aload_n 0, 1) := by decide +kernel
theorem dX13_readRow_12 : decode cX13_readRow 12 = .ok (.iload 4, 2) := by decide +kernel
theorem dX13_readRow_14 : decode cX13_readRow 14 = .ok (.iload_n 2, 1) := by decide +kernel
theorem dX13_readRow_15 : decode cX13_readRow 15 = .ok (.if_icmp .ge 7, 3) := by decide +kernel
theorem dX13_readRow_18 : decode cX13_readRow 18 = .ok (.iconst 1, 1) := by decide +kernel
theorem dX13_readRow_19 : decode cX13_readRow 19 = .ok (.goto 4, 3) := by decide +kernel
theorem dX13_readRow_22 : decode cX13_readRow 22 = .ok (.iconst 0, 1) := by decide +kernel
theorem dX13_readRow_23 : decode cX13_readRow 23 = .ok (.iconst 4, 1) := by decide +kernel
theorem dX13_readRow_24 : decode cX13_readRow 24 = .ok (.invokevirtual 57, 3) := by decide +kernel
theorem dX13_readRow_27 : decode cX13_readRow 27 = .ok (.aload_n 0, 1) := by decide +kernel
theorem dX13_readRow_28 : decode cX13_readRow 28 = .ok (.invokevirtual 69, 3) := by decide +kernel
theorem dX13_readRow_31 : decode cX13_readRow 31 = .ok (.aload_n 1, 1) := by decide +kernel
theorem dX13_readRow_32 : decode cX13_readRow 32 = .ok (.iload 4, 2) := by decide +kernel
theorem dX13_readRow_34 : decode cX13_readRow 34 = .ok (.iload 5, 2) := by decide +kernel
theorem dX13_readRow_36 : decode cX13_readRow 36 = .ok (.iastore, 1) := by decide +kernel
theorem dX13_readRow_37 : decode cX13_readRow 37 = .ok (.iinc 4 1, 3) := by decide +kernel
theorem dX13_readRow_40 : decode cX13_readRow 40 = .ok (.aload_n 0, 1) := by decide +kernel
theorem dX13_readRow_41 : decode cX13_readRow 41 = .ok (.getfield 31, 3) := by decide +kernel
theorem dX13_readRow_44 : decode cX13_readRow 44 = .ok (.iconst 2, 1) := by decide +kernel
theorem dX13_readRow_45 : decode cX13_readRow 45 = .ok (.if_icmp .eq (-42), 3) := by decide +kernel
theorem dX13_readRow_48 : decode cX13_readRow 48 = .ok (.iload 4, 2) := by decide +kernel
theorem dX13_readRow_50 : decode cX13_readRow 50 = .ok (.ireturn, 1) := by decide +kernel
set_option maxRecDepth 20000 in
theorem ggX13_readRow_X13_look : GoodIn wsX13_readRow wsX13_look := goodIn_r _ [6, 1, 7, 8, 9, 10, 5, 11, 12, 13, 14, 33, 34, 35, 36, 37, 38, 39, 40, 41, 42, 43, 44, 45, 46, 47, 48, 49, 50, 51, 52, 53, 54, 55, 56, 57, 58, 59, 60, 61, 62, 63, 64, 65, 66, 67, 68, 69, 70, 71, 72, 73, 74, 75, 76, 77, 78, 79, 80, 81, 82, 83, 84, 85, 86, 87, 88, 89, 90, 91, 92, 93, 94, 95, 96, 97, 98, 99, 100, 101, 102, 103, 104, 105] rfl (by decide +kernel)
set_option maxRecDepth 20000 in
theorem gX13_readRow_X13_look : GoodIn wsX13_readRow (wsV RX13 65 RX13 yX13_look wsX13_look) := goodIn_app (goodIn_of _ (by decide +kernel)) ggX13_readRow_X13_look
set_option maxRecDepth 20000 in
theorem ggX13_readRow_X13_need : GoodIn wsX13_readRow wsX13_need := goodIn_r _ [11] rfl (by decide +kernel)
set_option maxRecDepth 20000 in
theorem gX13_readRow_X13_need : GoodIn wsX13_readRow (wsV RX13 57 RX13 yX13_need wsX13_need) := goodIn_app (goodIn_of _ (by decide +kernel)) ggX13_readRow_X13_need
set_option maxRecDepth 20000 in
theorem ggX13_readRow_X13_scan : GoodIn wsX13_readRow wsX13_scan := goodIn_r _ [18, 19, 20, 21, 22, 1, 7, 23, 24, 25, 5, 26, 27, 28, 29, 30, 31, 32, 33, 34, 35, 36, 37, 38, 39, 40, 41, 42, 43, 44, 45, 46, 47, 48, 49, 50, 51, 52, 53, 54, 55, 56, 57, 58, 59, 60, 61, 62, 63, 64, 65, 66, 67, 68, 69, 70, 71, 72, 73, 74, 75, 76, 77, 78, 79, 80, 81, 82, 83, 84, 85, 86, 87, 88, 89, 90, 91, 92, 93, 94, 95, 96, 97, 98, 99, 100, 101, 102, 103, 104, 105] rfl (by decide +kernel)
set_option maxRecDepth 20000 in
theorem gX13_readRow_X13_scan : GoodIn wsX13_readRow (wsV RX13 69 RX13 yX13_scan wsX13_scan) := goodIn_app (goodIn_of _ (by decide +kernel)) ggX13_readRow_X13_scan
def wsT_X13_readRow : List Cond := wsX13_readRow ++ wsT_nx
theorem gT_X13_readRow_X13_look : GoodIn wsT_X13_readRow (wsV RX13 65 RX13 yX13_look wsT_X13_look) := gT_call gX13_readRow_X13_look gT_nx
theorem gT_X13_readRow_X13_need : GoodIn wsT_X13_readRow (wsV RX13 57 RX13 yX13_need wsT_X13_need) := gT_call gX13_readRow_X13_need gT_nx
set_option maxHeartbeats 4000000 in
set_option maxRecDepth 100000 in
theorem S_X13_readRow_6_v4_v15 (l : Launch) (D : va_G) (K : Nat → ClassId) (a : Nat → Nat) (G : gS) (pb : ((G 0 5).toInt ≤ (G 0 3).toInt)) (hI : yI G) (sz : Nat) : Kxi l yX13_readRow wsT_X13_readRow 4 105 D [.ref (a 0), .ref (a 6), .int 4, .int 15] (yW K a G) (tK K) sz (fun (r : Int32) (G' : gS) => (yI G') ∧ (gu_un ycd [5, 6, 7, 8, 9, 10, 600] G G') ∧ (1 ≤ r.toInt ∧ r.toInt ≤ 4) ∧ (((G' 0 5).toInt ≤ (G 0 3).toInt ∧ (G 0 5).toInt ≤ (G' 0 5).toInt ∧ ((G' 0 6).toInt = 0 ∨ (G 0 5).toInt < (G' 0 5).toInt))) ∧ (yRo 8 20 6 r.toInt G G') ∧ ((0 < r.toInt ∧ r.toInt ≤ 4 ∧ (G' 0 6).toInt ≠ 2)) ∧ (yFf G G')) (fun (G' : gS) => (yI G') ∧ (gu_un ycd [5, 6, 7, 8, 9, 10, 600] G G') ∧ ((∀ (lat : Int) (nu : Nat → Int32), yNt 8 0 lat nu G G')) ∧ (((G' 0 8).toInt ≠ 0))) (a 1) (fun (G' : gS) => (yW K a G')) := by
  unfold Kxi
  refine gx_ofW (cc := cX13_readRow) (lv := [(0, .ref (a 0)), (1, .ref (a 6)), (2, .int 4), (3, .int 15)]) (by decide) rfl (Nat.le_of_ble_eq_true rfl) rfl ?_
  intro p e s m args below meth c A Q hA hQ F hr hex
  have hts := F.2.2.2.2.1
  have w_0 : (Cond.fieldLink RX13 31 "QuietCutModel" "hand" "I").before args s = true := hts _ (List.mem_of_getElem? (i := 1) rfl)
  have i_X13 : ∀ w ∈ u_ws RX13 TX13 73, w ∈ wsT_X13_readRow := fun w h => List.mem_append_left _ ((show ∀ w ∈ u_ws RX13 TX13 73, w ∈ wsX13_readRow from fun _ h => List.mem_cons_of_mem _ (List.mem_append_right _ h)) w h)
  have b1 : (0 : Int) ≤ (G 0 3).toInt ∧ (G 0 3).toInt ≤ 1000 := hI 0 3
  have b2 : (0 : Int) ≤ (G 0 5).toInt ∧ (G 0 5).toInt ≤ 1000 := hI 0 5
  have J_3 : ∀ (fuel : Nat) (x3_4 : Int32) (Gj3 : gS), (8 * (1000 - (Gj3 0 5).toInt) + (Gj3 0 6).toInt).toNat < fuel → (0 ≤ x3_4.toInt ∧ x3_4.toInt ≤ 4) → (yI Gj3) → (gu_un ycd [5, 6, 7, 8, 9, 10, 600] G Gj3) → (yRo 8 20 6 x3_4.toInt G Gj3) → ((x3_4.toInt = 0 ∨ (Gj3 0 6).toInt = 2)) → (yFf G Gj3) → (((Gj3 0 5).toInt ≤ (G 0 3).toInt)) → (((G 0 5).toInt ≤ (Gj3 0 5).toInt ∧ ((Gj3 0 6).toInt = 0 ∨ x3_4.toInt = 0 ∨ (G 0 5).toInt < (Gj3 0 5).toInt))) → gG p l e (gR 4 0 0 105) s m args below meth c D A 6 Q 0 0 (yW K a Gj3) (tK K) [(0, .ref (a 0)), (1, .ref (a 6)), (2, .int 4), (3, .int 15), (4, .int x3_4)] 3 [] := by
    intro fuel
    induction fuel with
    | zero => intro x3_4 Gj3 hm; exact absurd hm (Nat.not_lt_zero _)
    | succ fuel_3 ih_3 =>
      intro x3_4 Gj3 hm_3 h3_4 jI3 jU3 ro3 r2 ff3 bl_3 bm_3
      refine g_aload_n F 0 dX13_readRow_3 rfl rfl ?_
      refine g_iconst F 0 dX13_readRow_4 (by decide) ?_
      refine g_iload_n F 3 dX13_readRow_5 rfl rfl ?_
      refine ux_callii (k := 0) (n := 0) (b := a 0) (As := [.int 0, .int 15]) (st := []) F (fun sz => S_X13_look l D K a Gj3 0 0 15 15 rfl rfl jI3 sz) (cwV 2 hts gT_X13_readRow_X13_look rfl rfl rfl (by decide +kernel) ⟨Nat.le_of_ble_eq_true rfl, Nat.le_of_ble_eq_true rfl⟩) rfl 0 yc_0 rfl (Nat.le_of_ble_eq_true rfl) ⟨Nat.zero_le _, Nat.zero_le _⟩ dX13_readRow_6 hex hA hQ (fun u9 h9 => ⟨h9.1, gu_un.tr (gu_un.tr gu_un.rf (gu_un.su jU3 rfl)) (gu_un.su h9.2.1 rfl), (by have e1 : hLo 8 = 0 := (by decide); have e2 : hHi 8 = 15 := (by decide); have e3 : hMo 8 = 4 := (by decide); exact ro3.thr (fun lat nu => yNt.lk (L := []) gu_un.rf rfl (by decide) (by decide) h9.2.2.1 (by omega) (by omega) (fun q => by show _ ∨ _ ∨ _; omega))), (h9.2.2.2)⟩) (fun r3 G5 hw4 => ?_)
      have hI6 : yI G5 := hw4.1
      have hU7 : gu_un ycd [9, 10] Gj3 G5 := hw4.2.1
      have hp8 := hw4.2.2
      have b9 : (0 : Int) ≤ (Gj3 0 6).toInt ∧ (Gj3 0 6).toInt ≤ 4 := jI3 0 6
      have b10 : (0 : Int) ≤ (Gj3 0 7).toInt ∧ (Gj3 0 7).toInt ≤ 9999 := jI3 0 7
      have q11 : ((0 : Int) ≤ r3.toInt ∧ r3.toInt ≤ (15 : Int) ∧ (Gj3 0 6).toInt = 2 ∧ r3.toInt = (Gj3 0 7).toInt) := hp8.2.1
      have q12 : yFf Gj3 G5 := hp8.2.2
      have rg13 := hp8.1
      clear hp8 hw4
      refine g_istore F [(5, .int r3), (0, .ref (a 0)), (1, .ref (a 6)), (2, .int 4), (3, .int 15), (4, .int x3_4)] dX13_readRow_9 (by decide) rfl ?_
      refine g_aload_n F 1 dX13_readRow_11 rfl rfl ?_
      refine g_iload F 5 dX13_readRow_12 rfl ?_
      refine g_iload_n F 3 dX13_readRow_14 rfl rfl ?_
      refine v_icmp_ge F 22 dX13_readRow_15 (by decide) x3_4.toInt 4 rfl rfl (fun c14 => ?_) (fun c14 => ?_)
      · refine g_iconst F 0 dX13_readRow_22 (by decide) ?_
        refine g_iconst F 4 dX13_readRow_23 (by decide) ?_
        refine ux_callvi (k := 0) (n := 0) (b := a 0) (As := [.int 0, .int 4]) (st := []) F (fun sz => S_X13_need l D K a G5 0 0 4 4 rfl (by decide) rfl hI6 sz) (cwV 2 hts gT_X13_readRow_X13_need rfl rfl rfl (by decide +kernel) ⟨Nat.le_of_ble_eq_true rfl, Nat.le_of_ble_eq_true rfl⟩) rfl 0 yc_0 rfl (Nat.le_of_ble_eq_true rfl) ⟨Nat.zero_le _, Nat.zero_le _⟩ dX13_readRow_24 hex hA hQ (fun u9 h9 => ⟨h9.1, gu_un.tr (gu_un.tr (gu_un.tr gu_un.rf (gu_un.su jU3 rfl)) (gu_un.su hU7 rfl)) (gu_un.su h9.2.1 rfl), (by have e1 : hLo 8 = 0 := (by decide); have e2 : hHi 8 = 15 := (by decide); have e3 : hMo 8 = 4 := (by decide); exact ro3.thr (fun lat nu => yNt.four (show gu_un ycd [9, 10] Gj3 G5 from (gu_un.tr gu_un.rf (gu_un.su hU7 rfl))) rfl (by decide) (by decide) q11.2.2.1 (by decide) (by show ¬ (_ ∨ _ ∨ _); have h9 := q11; omega) (by omega) h9.2.2.2.1 h9.2.2.2.2)), (by have h9 := h9.2.2.2.1; omega)⟩) (fun G17 hw16 => ?_)
        have hI18 : yI G17 := hw16.1
        have hU19 : gu_un ycd [9, 10] G5 G17 := hw16.2.1
        have hp20 := hw16.2.2
        have q21 : ((0 : Int) ≠ 0) := hp20.1
        have q22 : yFf G5 G17 := hp20.2
        exfalso; omega
      · refine g_iconst F 1 dX13_readRow_18 (by decide) ?_
        refine g_goto F 23 dX13_readRow_19 (by decide) ?_
        refine g_iconst F 4 dX13_readRow_23 (by decide) ?_
        refine ux_callvi (k := 0) (n := 0) (b := a 0) (As := [.int 1, .int 4]) (st := []) F (fun sz => S_X13_need l D K a G5 1 1 4 4 rfl (by decide) rfl hI6 sz) (cwV 2 hts gT_X13_readRow_X13_need rfl rfl rfl (by decide +kernel) ⟨Nat.le_of_ble_eq_true rfl, Nat.le_of_ble_eq_true rfl⟩) rfl 0 yc_0 rfl (Nat.le_of_ble_eq_true rfl) ⟨Nat.zero_le _, Nat.zero_le _⟩ dX13_readRow_24 hex hA hQ (fun u9 h9 => ⟨h9.1, gu_un.tr (gu_un.tr (gu_un.tr gu_un.rf (gu_un.su jU3 rfl)) (gu_un.su hU7 rfl)) (gu_un.su h9.2.1 rfl), (absurd h9.2.2.1 (by decide)), (absurd h9.2.2.1 (by decide))⟩) (fun G25 hw24 => ?_)
        have hI26 : yI G25 := hw24.1
        have hU27 : gu_un ycd [9, 10] G5 G25 := hw24.2.1
        have hp28 := hw24.2.2
        have q29 : ((1 : Int) ≠ 0) := hp28.1
        have q30 : yFf G5 G25 := hp28.2
        clear hp28 hw24
        refine g_aload_n F 1 dX13_readRow_27 rfl rfl ?_
        have b31 : (0 : Int) ≤ (Gj3 0 5).toInt ∧ (Gj3 0 5).toInt ≤ 1000 := jI3 0 5
        refine u_callVv (k := 0) (n := 0) (b := a 0) (As := []) (st := []) F (fun sz => S_X13_scan l D K a G25  (by have e9_0_3 : G25 0 3 = (G 0 3) := (hU27 0 3 (by decide)).trans ((hU7 0 3 (by decide)).trans (jU3 0 3 (by decide))); have e9_0_5 : G25 0 5 = (Gj3 0 5) := (hU27 0 5 (by decide)).trans (hU7 0 5 (by decide)); (try simp only [e9_0_3, e9_0_5, true_and, and_true]) <;> (first | omega | (simp only [Int32.reduceToInt, true_and, and_true, ne_eq, not_true_eq_false, false_and, or_false, false_or, true_or, or_true, false_implies] <;> omega))) hI26 sz) (cwV 0 hts (gT_left gX13_readRow_X13_scan) rfl rfl rfl (by decide +kernel) ⟨Nat.le_of_ble_eq_true rfl, Nat.le_of_ble_eq_true rfl⟩) rfl 0 yc_0 rfl (Nat.le_of_ble_eq_true rfl) ⟨Nat.zero_le _, Nat.zero_le _⟩ dX13_readRow_28 (fun G34 hw33 => ?_)
        have hI35 : yI G34 := hw33.1
        have hU36 : gu_un ycd [5, 6, 7, 8] G25 G34 := hw33.2.1
        have hp37 := hw33.2.2
        have b38 : (0 : Int) ≤ (G34 0 5).toInt ∧ (G34 0 5).toInt ≤ 1000 := hI35 0 5
        have b39 : (0 : Int) ≤ (G34 0 4).toInt ∧ (G34 0 4).toInt ≤ 1000 := hI35 0 4
        have q40 : ((G34 0 5).toInt ≤ (G 0 3).toInt ∧ (Gj3 0 5).toInt ≤ (G34 0 4).toInt ∧ (G34 0 4).toInt ≤ (G34 0 5).toInt) := by have h9 := hp37.1; (try simp only [(show G25 0 3 = (G 0 3) from (hU27 0 3 (by decide)).trans ((hU7 0 3 (by decide)).trans (jU3 0 3 (by decide)))), (show G25 0 5 = (Gj3 0 5) from (hU27 0 5 (by decide)).trans (hU7 0 5 (by decide)))] at h9); first | exact h9 | omega
        have b41 : (0 : Int) ≤ (G34 0 6).toInt ∧ (G34 0 6).toInt ≤ 4 := hI35 0 6
        have q42 : (((G34 0 6).toInt = 0 ∧ (G34 0 4).toInt = (G 0 3).toInt) ∨ ((G34 0 6).toInt ≠ 0 ∧ (G34 0 4).toInt < (G34 0 5).toInt)) := by have h9 := hp37.2.1; (try simp only [(show G25 0 3 = (G 0 3) from (hU27 0 3 (by decide)).trans ((hU7 0 3 (by decide)).trans (jU3 0 3 (by decide))))] at h9); first | exact h9 | omega
        have b43 : (0 : Int) ≤ (G34 0 7).toInt ∧ (G34 0 7).toInt ≤ 9999 := hI35 0 7
        have q44 : tTok (G 2) (G 0 3).toInt (Gj3 0 5).toInt (G34 0 6).toInt (G34 0 4).toInt (G34 0 7).toInt (G34 0 5).toInt := by have h9 := hp37.2.2; (try simp only [(show G25 0 3 = (G 0 3) from (hU27 0 3 (by decide)).trans ((hU7 0 3 (by decide)).trans (jU3 0 3 (by decide)))), (show G25 0 5 = (Gj3 0 5) from (hU27 0 5 (by decide)).trans (hU7 0 5 (by decide))), (show G25 2 = (G 2) from (show G25 2 = G5 2 from funext fun k_ => hU27 2 k_ (show (200 : Nat) ∉ ([9, 10] : List Nat) by decide)).trans ((show G5 2 = Gj3 2 from funext fun k_ => hU7 2 k_ (show (200 : Nat) ∉ ([9, 10] : List Nat) by decide)).trans ((show Gj3 2 = G 2 from funext fun k_ => jU3 2 k_ (show (200 : Nat) ∉ ([5, 6, 7, 8, 9, 10, 600] : List Nat) by decide)))))] at h9); first | exact h9 | omega
        clear hp37 hw33
        refine g_aload_n F 2 dX13_readRow_31 rfl rfl ?_
        refine g_iload F 5 dX13_readRow_32 rfl ?_
        refine g_iload F 0 dX13_readRow_34 rfl ?_
        refine u_iast F 6 0 yc_6 rfl x3_4.toInt rfl (by omega) (by omega) (yW K a (gu_up G34 6 (x3_4.toInt).toNat r3)) (ys_6 _) dX13_readRow_36 ?_
        refine u_iinc F (fun v_ => [(4, .int v_), (5, .int r3), (0, .ref (a 0)), (1, .ref (a 6)), (2, .int 4), (3, .int 15)]) dX13_readRow_37 (j := 5) rfl x3_4.toInt 1 rfl rfl (by omega) (by omega) (by decide) (fun _ => rfl) (fun y45 ey45 => ?_)
        refine g_aload_n F 2 dX13_readRow_40 rfl rfl ?_
        refine yg_0_6 F i_X13 w_0 dX13_readRow_41 (G34 0 6) (rfl) ?_
        refine g_iconst F 2 dX13_readRow_44 (by decide) ?_
        refine v_icmp_eq F 3 dX13_readRow_45 (by decide) (G34 0 6).toInt 2 rfl rfl (fun c46 => ?_) (fun c46 => ?_)
        · refine g_locals [(0, .ref (a 0)), (1, .ref (a 6)), (2, .int 4), (3, .int 15), (4, .int y45)] [2, 3, 4, 5, 0] rfl ?_
          exact ih_3 y45 (gu_up G34 6 (x3_4.toInt).toNat r3) (by have e9_0_5 : (gu_up G34 6 (x3_4.toInt).toNat r3) 0 5 = (G34 0 5) := rfl; have e9_0_6 : (gu_up G34 6 (x3_4.toInt).toNat r3) 0 6 = (G34 0 6) := rfl; (try simp only [e9_0_5, e9_0_6, true_and, and_true]) <;> omega) (by have h9 := ti_rng y45; omega) (gu_I.up (j := 6) (k := (x3_4.toInt).toNat) (v := r3) hI35 (show (0 : Int) ≤ Int32.toInt r3 by omega) (show Int32.toInt r3 ≤ 15 by omega)) (gu_un.up (j := 6) (k := (x3_4.toInt).toNat) (v := r3) (gu_un.tr (gu_un.tr (gu_un.tr (gu_un.tr gu_un.rf (gu_un.su jU3 rfl)) (gu_un.su hU7 rfl)) (gu_un.su hU27 rfl)) (gu_un.su hU36 rfl)) (show (600 : Nat) ∈ ([5, 6, 7, 8, 9, 10, 600] : List Nat) by decide)) (by have e1 : hLo 8 = 0 := (by decide); have e2 : hHi 8 = 15 := (by decide); have e3 : hMo 8 = 4 := (by decide); exact yRo.step (n := x3_4.toInt) ro3 (by decide) (by decide) (by omega) (show yStp [9, 10] Gj3 G25 G34 from ⟨(show gu_un ycd [9, 10] Gj3 G25 from (gu_un.tr (gu_un.tr gu_un.rf (gu_un.su hU7 rfl)) (gu_un.su hU27 rfl))), rfl, by (try rw [show G25 2 = (G 2) from (show G25 2 = G5 2 from funext fun k_ => hU27 2 k_ (show (200 : Nat) ∉ ([9, 10] : List Nat) by decide)).trans ((show G5 2 = Gj3 2 from funext fun k_ => hU7 2 k_ (show (200 : Nat) ∉ ([9, 10] : List Nat) by decide)).trans ((show Gj3 2 = G 2 from funext fun k_ => jU3 2 k_ (show (200 : Nat) ∉ ([5, 6, 7, 8, 9, 10, 600] : List Nat) by decide))))]); (try rw [show G25 0 3 = (G 0 3) from (hU27 0 3 (by decide)).trans ((hU7 0 3 (by decide)).trans (jU3 0 3 (by decide)))]); (try rw [show G25 0 5 = (Gj3 0 5) from (hU27 0 5 (by decide)).trans (hU7 0 5 (by decide))]); exact q44, funext fun k_ => hU36 2 k_ (by simp [ycd]), hU36 0 3 (by decide)⟩) q11.2.2.1 q11.2.2.2 (by omega) (by omega) (by omega) (show gu_un ycd [600] G34 (gu_up G34 6 (x3_4.toInt).toNat r3) from (gu_un.up (j := 6) (k := (x3_4.toInt).toNat) (v := r3) gu_un.rf (show (600 : Nat) ∈ ([600] : List Nat) by decide))) rfl (show (gu_up G34 6 (x3_4.toInt).toNat r3) 6 = (upd (Gj3 6) (x3_4.toInt).toNat r3) from (congrArg (fun f_ => upd f_ (x3_4.toInt).toNat r3) ((show G34 6 = G25 6 from funext fun k_ => hU36 6 k_ (by simp [ycd])).trans (show G25 6 = (Gj3 6) from ((show G25 6 = G5 6 from funext fun k_ => hU27 6 k_ (by simp [ycd])).trans (show G5 6 = (Gj3 6) from ((show G5 6 = Gj3 6 from funext fun k_ => hU7 6 k_ (by simp [ycd])).trans (show Gj3 6 = (Gj3 6) from rfl)))))))) (by omega)) (by have e9_0_6 : (gu_up G34 6 (x3_4.toInt).toNat r3) 0 6 = (G34 0 6) := rfl; (try simp only [e9_0_6, true_and, and_true]) <;> (first | omega | (simp only [Int32.reduceToInt, true_and, and_true, ne_eq, not_true_eq_false, false_and, or_false, false_or, true_or, or_true, false_implies] <;> omega))) ((yFf.tr (show yFf G G25 from (yFf.tr (show yFf G G5 from (yFf.tr (show yFf G Gj3 from ff3) q12)) q30)) (show yFf _ G34 from yFf.un hU36 rfl))) (by have e9_0_3 : (gu_up G34 6 (x3_4.toInt).toNat r3) 0 3 = (G 0 3) := (hU36 0 3 (by decide)).trans ((hU27 0 3 (by decide)).trans ((hU7 0 3 (by decide)).trans (jU3 0 3 (by decide)))); have e9_0_5 : (gu_up G34 6 (x3_4.toInt).toNat r3) 0 5 = (G34 0 5) := rfl; (try simp only [e9_0_3, e9_0_5, true_and, and_true]) <;> (first | omega | (simp only [Int32.reduceToInt, true_and, and_true, ne_eq, not_true_eq_false, false_and, or_false, false_or, true_or, or_true, false_implies] <;> omega))) (by have e9_0_5 : (gu_up G34 6 (x3_4.toInt).toNat r3) 0 5 = (G34 0 5) := rfl; have e9_0_6 : (gu_up G34 6 (x3_4.toInt).toNat r3) 0 6 = (G34 0 6) := rfl; (try simp only [e9_0_5, e9_0_6, true_and, and_true]) <;> (first | omega | (simp only [Int32.reduceToInt, true_and, and_true, ne_eq, not_true_eq_false, false_and, or_false, false_or, true_or, or_true, false_implies] <;> omega)))
        · refine g_iload F 0 dX13_readRow_48 rfl ?_
          exact ux_iret F hA hQ hr (gu_up G34 6 (x3_4.toInt).toNat r3) (⟨(gu_I.up (j := 6) (k := (x3_4.toInt).toNat) (v := r3) hI35 (show (0 : Int) ≤ Int32.toInt r3 by omega) (show Int32.toInt r3 ≤ 15 by omega)), (gu_un.up (j := 6) (k := (x3_4.toInt).toNat) (v := r3) (gu_un.tr (gu_un.tr (gu_un.tr (gu_un.tr gu_un.rf (gu_un.su jU3 rfl)) (gu_un.su hU7 rfl)) (gu_un.su hU27 rfl)) (gu_un.su hU36 rfl)) (show (600 : Nat) ∈ ([5, 6, 7, 8, 9, 10, 600] : List Nat) by decide)), (by have h9 := ti_rng y45; omega), (by show (((gu_up G34 6 (x3_4.toInt).toNat r3) 0 5).toInt ≤ (G 0 3).toInt ∧ (G 0 5).toInt ≤ ((gu_up G34 6 (x3_4.toInt).toNat r3) 0 5).toInt ∧ (((gu_up G34 6 (x3_4.toInt).toNat r3) 0 6).toInt = 0 ∨ (G 0 5).toInt < ((gu_up G34 6 (x3_4.toInt).toNat r3) 0 5).toInt)); have e9_0_5 : (gu_up G34 6 (x3_4.toInt).toNat r3) 0 5 = (G34 0 5) := rfl; have e9_0_6 : (gu_up G34 6 (x3_4.toInt).toNat r3) 0 6 = (G34 0 6) := rfl; (try simp only [e9_0_5, e9_0_6, true_and, and_true]) <;> (first | omega | (simp only [Int32.reduceToInt, true_and, and_true, ne_eq, not_true_eq_false, false_and, or_false, false_or, true_or, or_true, false_implies] <;> omega))), (by have e1 : hLo 8 = 0 := (by decide); have e2 : hHi 8 = 15 := (by decide); have e3 : hMo 8 = 4 := (by decide); exact yRo.step (n := x3_4.toInt) ro3 (by decide) (by decide) (by omega) (show yStp [9, 10] Gj3 G25 G34 from ⟨(show gu_un ycd [9, 10] Gj3 G25 from (gu_un.tr (gu_un.tr gu_un.rf (gu_un.su hU7 rfl)) (gu_un.su hU27 rfl))), rfl, by (try rw [show G25 2 = (G 2) from (show G25 2 = G5 2 from funext fun k_ => hU27 2 k_ (show (200 : Nat) ∉ ([9, 10] : List Nat) by decide)).trans ((show G5 2 = Gj3 2 from funext fun k_ => hU7 2 k_ (show (200 : Nat) ∉ ([9, 10] : List Nat) by decide)).trans ((show Gj3 2 = G 2 from funext fun k_ => jU3 2 k_ (show (200 : Nat) ∉ ([5, 6, 7, 8, 9, 10, 600] : List Nat) by decide))))]); (try rw [show G25 0 3 = (G 0 3) from (hU27 0 3 (by decide)).trans ((hU7 0 3 (by decide)).trans (jU3 0 3 (by decide)))]); (try rw [show G25 0 5 = (Gj3 0 5) from (hU27 0 5 (by decide)).trans (hU7 0 5 (by decide))]); exact q44, funext fun k_ => hU36 2 k_ (by simp [ycd]), hU36 0 3 (by decide)⟩) q11.2.2.1 q11.2.2.2 (by omega) (by omega) (by omega) (show gu_un ycd [600] G34 (gu_up G34 6 (x3_4.toInt).toNat r3) from (gu_un.up (j := 6) (k := (x3_4.toInt).toNat) (v := r3) gu_un.rf (show (600 : Nat) ∈ ([600] : List Nat) by decide))) rfl (show (gu_up G34 6 (x3_4.toInt).toNat r3) 6 = (upd (Gj3 6) (x3_4.toInt).toNat r3) from (congrArg (fun f_ => upd f_ (x3_4.toInt).toNat r3) ((show G34 6 = G25 6 from funext fun k_ => hU36 6 k_ (by simp [ycd])).trans (show G25 6 = (Gj3 6) from ((show G25 6 = G5 6 from funext fun k_ => hU27 6 k_ (by simp [ycd])).trans (show G5 6 = (Gj3 6) from ((show G5 6 = Gj3 6 from funext fun k_ => hU7 6 k_ (by simp [ycd])).trans (show Gj3 6 = (Gj3 6) from rfl)))))))) (by omega)), (by show (0 < y45.toInt ∧ y45.toInt ≤ 4 ∧ ((gu_up G34 6 (x3_4.toInt).toNat r3) 0 6).toInt ≠ 2); have e9_0_6 : (gu_up G34 6 (x3_4.toInt).toNat r3) 0 6 = (G34 0 6) := rfl; (try simp only [e9_0_6, true_and, and_true]) <;> (first | omega | (simp only [Int32.reduceToInt, true_and, and_true, ne_eq, not_true_eq_false, false_and, or_false, false_or, true_or, or_true, false_implies] <;> omega))), ((yFf.tr (show yFf G G25 from (yFf.tr (show yFf G G5 from (yFf.tr (show yFf G Gj3 from ff3) q12)) q30)) (show yFf _ G34 from yFf.un hU36 rfl)))⟩) rfl rfl dX13_readRow_50
  refine g_iconst F 0 dX13_readRow_0 (by decide) ?_
  refine g_istore F [(4, .int 0), (0, .ref (a 0)), (1, .ref (a 6)), (2, .int 4), (3, .int 15)] dX13_readRow_1 (by decide) rfl ?_
  refine g_locals [(0, .ref (a 0)), (1, .ref (a 6)), (2, .int 4), (3, .int 15), (4, .int 0)] [1, 2, 3, 4, 0] rfl ?_
  have b47 : (0 : Int) ≤ (G 0 6).toInt ∧ (G 0 6).toInt ≤ 4 := hI 0 6
  exact J_3 _ 0 G (Nat.lt_succ_self _) (by decide) hI gu_un.rf (yRo.at0) (by (first | omega | (simp only [Int32.reduceToInt, true_and, and_true, ne_eq, not_true_eq_false, false_and, or_false, false_or, true_or, or_true, false_implies] <;> omega))) (yFf.rf) (by (first | omega | (simp only [Int32.reduceToInt, true_and, and_true, ne_eq, not_true_eq_false, false_and, or_false, false_or, true_or, or_true, false_implies] <;> omega))) (by (first | omega | (simp only [Int32.reduceToInt, true_and, and_true, ne_eq, not_true_eq_false, false_and, or_false, false_or, true_or, or_true, false_implies] <;> omega)))


set_option maxHeartbeats 4000000 in
set_option maxRecDepth 100000 in
theorem S_X13_readRow_8_v6_v9 (l : Launch) (D : va_G) (K : Nat → ClassId) (a : Nat → Nat) (G : gS) (pb : ((G 0 5).toInt ≤ (G 0 3).toInt)) (hI : yI G) (sz : Nat) : Kxi l yX13_readRow wsT_X13_readRow 4 105 D [.ref (a 0), .ref (a 8), .int 6, .int 9] (yW K a G) (tK K) sz (fun (r : Int32) (G' : gS) => (yI G') ∧ (gu_un ycd [5, 6, 7, 8, 9, 10, 800] G G') ∧ (1 ≤ r.toInt ∧ r.toInt ≤ 6) ∧ (((G' 0 5).toInt ≤ (G 0 3).toInt ∧ (G 0 5).toInt ≤ (G' 0 5).toInt ∧ ((G' 0 6).toInt = 0 ∨ (G 0 5).toInt < (G' 0 5).toInt))) ∧ (yRo 9 30 8 r.toInt G G') ∧ ((0 < r.toInt ∧ r.toInt ≤ 6 ∧ (G' 0 6).toInt ≠ 2)) ∧ (yFf G G')) (fun (G' : gS) => (yI G') ∧ (gu_un ycd [5, 6, 7, 8, 9, 10, 800] G G') ∧ ((∀ (lat : Int) (nu : Nat → Int32), yNt 9 0 lat nu G G')) ∧ (((G' 0 8).toInt ≠ 0))) (a 1) (fun (G' : gS) => (yW K a G')) := by
  unfold Kxi
  refine gx_ofW (cc := cX13_readRow) (lv := [(0, .ref (a 0)), (1, .ref (a 8)), (2, .int 6), (3, .int 9)]) (by decide) rfl (Nat.le_of_ble_eq_true rfl) rfl ?_
  intro p e s m args below meth c A Q hA hQ F hr hex
  have hts := F.2.2.2.2.1
  have w_0 : (Cond.fieldLink RX13 31 "QuietCutModel" "hand" "I").before args s = true := hts _ (List.mem_of_getElem? (i := 1) rfl)
  have i_X13 : ∀ w ∈ u_ws RX13 TX13 73, w ∈ wsT_X13_readRow := fun w h => List.mem_append_left _ ((show ∀ w ∈ u_ws RX13 TX13 73, w ∈ wsX13_readRow from fun _ h => List.mem_cons_of_mem _ (List.mem_append_right _ h)) w h)
  have b1 : (0 : Int) ≤ (G 0 3).toInt ∧ (G 0 3).toInt ≤ 1000 := hI 0 3
  have b2 : (0 : Int) ≤ (G 0 5).toInt ∧ (G 0 5).toInt ≤ 1000 := hI 0 5
  have J_3 : ∀ (fuel : Nat) (x3_4 : Int32) (Gj3 : gS), (8 * (1000 - (Gj3 0 5).toInt) + (Gj3 0 6).toInt).toNat < fuel → (0 ≤ x3_4.toInt ∧ x3_4.toInt ≤ 6) → (yI Gj3) → (gu_un ycd [5, 6, 7, 8, 9, 10, 800] G Gj3) → (yRo 9 30 8 x3_4.toInt G Gj3) → ((x3_4.toInt = 0 ∨ (Gj3 0 6).toInt = 2)) → (yFf G Gj3) → (((Gj3 0 5).toInt ≤ (G 0 3).toInt)) → (((G 0 5).toInt ≤ (Gj3 0 5).toInt ∧ ((Gj3 0 6).toInt = 0 ∨ x3_4.toInt = 0 ∨ (G 0 5).toInt < (Gj3 0 5).toInt))) → gG p l e (gR 4 0 0 105) s m args below meth c D A 6 Q 0 0 (yW K a Gj3) (tK K) [(0, .ref (a 0)), (1, .ref (a 8)), (2, .int 6), (3, .int 9), (4, .int x3_4)] 3 [] := by
    intro fuel
    induction fuel with
    | zero => intro x3_4 Gj3 hm; exact absurd hm (Nat.not_lt_zero _)
    | succ fuel_3 ih_3 =>
      intro x3_4 Gj3 hm_3 h3_4 jI3 jU3 ro3 r2 ff3 bl_3 bm_3
      refine g_aload_n F 0 dX13_readRow_3 rfl rfl ?_
      refine g_iconst F 0 dX13_readRow_4 (by decide) ?_
      refine g_iload_n F 3 dX13_readRow_5 rfl rfl ?_
      refine ux_callii (k := 0) (n := 0) (b := a 0) (As := [.int 0, .int 9]) (st := []) F (fun sz => S_X13_look l D K a Gj3 0 0 9 9 rfl rfl jI3 sz) (cwV 2 hts gT_X13_readRow_X13_look rfl rfl rfl (by decide +kernel) ⟨Nat.le_of_ble_eq_true rfl, Nat.le_of_ble_eq_true rfl⟩) rfl 0 yc_0 rfl (Nat.le_of_ble_eq_true rfl) ⟨Nat.zero_le _, Nat.zero_le _⟩ dX13_readRow_6 hex hA hQ (fun u9 h9 => ⟨h9.1, gu_un.tr (gu_un.tr gu_un.rf (gu_un.su jU3 rfl)) (gu_un.su h9.2.1 rfl), (by have e1 : hLo 9 = 0 := (by decide); have e2 : hHi 9 = 9 := (by decide); have e3 : hMo 9 = 6 := (by decide); exact ro3.thr (fun lat nu => yNt.lk (L := []) gu_un.rf rfl (by decide) (by decide) h9.2.2.1 (by omega) (by omega) (fun q => by show _ ∨ _ ∨ _; omega))), (h9.2.2.2)⟩) (fun r3 G5 hw4 => ?_)
      have hI6 : yI G5 := hw4.1
      have hU7 : gu_un ycd [9, 10] Gj3 G5 := hw4.2.1
      have hp8 := hw4.2.2
      have b9 : (0 : Int) ≤ (Gj3 0 6).toInt ∧ (Gj3 0 6).toInt ≤ 4 := jI3 0 6
      have b10 : (0 : Int) ≤ (Gj3 0 7).toInt ∧ (Gj3 0 7).toInt ≤ 9999 := jI3 0 7
      have q11 : ((0 : Int) ≤ r3.toInt ∧ r3.toInt ≤ (9 : Int) ∧ (Gj3 0 6).toInt = 2 ∧ r3.toInt = (Gj3 0 7).toInt) := hp8.2.1
      have q12 : yFf Gj3 G5 := hp8.2.2
      have rg13 := hp8.1
      clear hp8 hw4
      refine g_istore F [(5, .int r3), (0, .ref (a 0)), (1, .ref (a 8)), (2, .int 6), (3, .int 9), (4, .int x3_4)] dX13_readRow_9 (by decide) rfl ?_
      refine g_aload_n F 1 dX13_readRow_11 rfl rfl ?_
      refine g_iload F 5 dX13_readRow_12 rfl ?_
      refine g_iload_n F 3 dX13_readRow_14 rfl rfl ?_
      refine v_icmp_ge F 22 dX13_readRow_15 (by decide) x3_4.toInt 6 rfl rfl (fun c14 => ?_) (fun c14 => ?_)
      · refine g_iconst F 0 dX13_readRow_22 (by decide) ?_
        refine g_iconst F 4 dX13_readRow_23 (by decide) ?_
        refine ux_callvi (k := 0) (n := 0) (b := a 0) (As := [.int 0, .int 4]) (st := []) F (fun sz => S_X13_need l D K a G5 0 0 4 4 rfl (by decide) rfl hI6 sz) (cwV 2 hts gT_X13_readRow_X13_need rfl rfl rfl (by decide +kernel) ⟨Nat.le_of_ble_eq_true rfl, Nat.le_of_ble_eq_true rfl⟩) rfl 0 yc_0 rfl (Nat.le_of_ble_eq_true rfl) ⟨Nat.zero_le _, Nat.zero_le _⟩ dX13_readRow_24 hex hA hQ (fun u9 h9 => ⟨h9.1, gu_un.tr (gu_un.tr (gu_un.tr gu_un.rf (gu_un.su jU3 rfl)) (gu_un.su hU7 rfl)) (gu_un.su h9.2.1 rfl), (by have e1 : hLo 9 = 0 := (by decide); have e2 : hHi 9 = 9 := (by decide); have e3 : hMo 9 = 6 := (by decide); exact ro3.thr (fun lat nu => yNt.four (show gu_un ycd [9, 10] Gj3 G5 from (gu_un.tr gu_un.rf (gu_un.su hU7 rfl))) rfl (by decide) (by decide) q11.2.2.1 (by decide) (by show ¬ (_ ∨ _ ∨ _); have h9 := q11; omega) (by omega) h9.2.2.2.1 h9.2.2.2.2)), (by have h9 := h9.2.2.2.1; omega)⟩) (fun G17 hw16 => ?_)
        have hI18 : yI G17 := hw16.1
        have hU19 : gu_un ycd [9, 10] G5 G17 := hw16.2.1
        have hp20 := hw16.2.2
        have q21 : ((0 : Int) ≠ 0) := hp20.1
        have q22 : yFf G5 G17 := hp20.2
        exfalso; omega
      · refine g_iconst F 1 dX13_readRow_18 (by decide) ?_
        refine g_goto F 23 dX13_readRow_19 (by decide) ?_
        refine g_iconst F 4 dX13_readRow_23 (by decide) ?_
        refine ux_callvi (k := 0) (n := 0) (b := a 0) (As := [.int 1, .int 4]) (st := []) F (fun sz => S_X13_need l D K a G5 1 1 4 4 rfl (by decide) rfl hI6 sz) (cwV 2 hts gT_X13_readRow_X13_need rfl rfl rfl (by decide +kernel) ⟨Nat.le_of_ble_eq_true rfl, Nat.le_of_ble_eq_true rfl⟩) rfl 0 yc_0 rfl (Nat.le_of_ble_eq_true rfl) ⟨Nat.zero_le _, Nat.zero_le _⟩ dX13_readRow_24 hex hA hQ (fun u9 h9 => ⟨h9.1, gu_un.tr (gu_un.tr (gu_un.tr gu_un.rf (gu_un.su jU3 rfl)) (gu_un.su hU7 rfl)) (gu_un.su h9.2.1 rfl), (absurd h9.2.2.1 (by decide)), (absurd h9.2.2.1 (by decide))⟩) (fun G25 hw24 => ?_)
        have hI26 : yI G25 := hw24.1
        have hU27 : gu_un ycd [9, 10] G5 G25 := hw24.2.1
        have hp28 := hw24.2.2
        have q29 : ((1 : Int) ≠ 0) := hp28.1
        have q30 : yFf G5 G25 := hp28.2
        clear hp28 hw24
        refine g_aload_n F 1 dX13_readRow_27 rfl rfl ?_
        have b31 : (0 : Int) ≤ (Gj3 0 5).toInt ∧ (Gj3 0 5).toInt ≤ 1000 := jI3 0 5
        refine u_callVv (k := 0) (n := 0) (b := a 0) (As := []) (st := []) F (fun sz => S_X13_scan l D K a G25  (by have e9_0_3 : G25 0 3 = (G 0 3) := (hU27 0 3 (by decide)).trans ((hU7 0 3 (by decide)).trans (jU3 0 3 (by decide))); have e9_0_5 : G25 0 5 = (Gj3 0 5) := (hU27 0 5 (by decide)).trans (hU7 0 5 (by decide)); (try simp only [e9_0_3, e9_0_5, true_and, and_true]) <;> (first | omega | (simp only [Int32.reduceToInt, true_and, and_true, ne_eq, not_true_eq_false, false_and, or_false, false_or, true_or, or_true, false_implies] <;> omega))) hI26 sz) (cwV 0 hts (gT_left gX13_readRow_X13_scan) rfl rfl rfl (by decide +kernel) ⟨Nat.le_of_ble_eq_true rfl, Nat.le_of_ble_eq_true rfl⟩) rfl 0 yc_0 rfl (Nat.le_of_ble_eq_true rfl) ⟨Nat.zero_le _, Nat.zero_le _⟩ dX13_readRow_28 (fun G34 hw33 => ?_)
        have hI35 : yI G34 := hw33.1
        have hU36 : gu_un ycd [5, 6, 7, 8] G25 G34 := hw33.2.1
        have hp37 := hw33.2.2
        have b38 : (0 : Int) ≤ (G34 0 5).toInt ∧ (G34 0 5).toInt ≤ 1000 := hI35 0 5
        have b39 : (0 : Int) ≤ (G34 0 4).toInt ∧ (G34 0 4).toInt ≤ 1000 := hI35 0 4
        have q40 : ((G34 0 5).toInt ≤ (G 0 3).toInt ∧ (Gj3 0 5).toInt ≤ (G34 0 4).toInt ∧ (G34 0 4).toInt ≤ (G34 0 5).toInt) := by have h9 := hp37.1; (try simp only [(show G25 0 3 = (G 0 3) from (hU27 0 3 (by decide)).trans ((hU7 0 3 (by decide)).trans (jU3 0 3 (by decide)))), (show G25 0 5 = (Gj3 0 5) from (hU27 0 5 (by decide)).trans (hU7 0 5 (by decide)))] at h9); first | exact h9 | omega
        have b41 : (0 : Int) ≤ (G34 0 6).toInt ∧ (G34 0 6).toInt ≤ 4 := hI35 0 6
        have q42 : (((G34 0 6).toInt = 0 ∧ (G34 0 4).toInt = (G 0 3).toInt) ∨ ((G34 0 6).toInt ≠ 0 ∧ (G34 0 4).toInt < (G34 0 5).toInt)) := by have h9 := hp37.2.1; (try simp only [(show G25 0 3 = (G 0 3) from (hU27 0 3 (by decide)).trans ((hU7 0 3 (by decide)).trans (jU3 0 3 (by decide))))] at h9); first | exact h9 | omega
        have b43 : (0 : Int) ≤ (G34 0 7).toInt ∧ (G34 0 7).toInt ≤ 9999 := hI35 0 7
        have q44 : tTok (G 2) (G 0 3).toInt (Gj3 0 5).toInt (G34 0 6).toInt (G34 0 4).toInt (G34 0 7).toInt (G34 0 5).toInt := by have h9 := hp37.2.2; (try simp only [(show G25 0 3 = (G 0 3) from (hU27 0 3 (by decide)).trans ((hU7 0 3 (by decide)).trans (jU3 0 3 (by decide)))), (show G25 0 5 = (Gj3 0 5) from (hU27 0 5 (by decide)).trans (hU7 0 5 (by decide))), (show G25 2 = (G 2) from (show G25 2 = G5 2 from funext fun k_ => hU27 2 k_ (show (200 : Nat) ∉ ([9, 10] : List Nat) by decide)).trans ((show G5 2 = Gj3 2 from funext fun k_ => hU7 2 k_ (show (200 : Nat) ∉ ([9, 10] : List Nat) by decide)).trans ((show Gj3 2 = G 2 from funext fun k_ => jU3 2 k_ (show (200 : Nat) ∉ ([5, 6, 7, 8, 9, 10, 800] : List Nat) by decide)))))] at h9); first | exact h9 | omega
        clear hp37 hw33
        refine g_aload_n F 2 dX13_readRow_31 rfl rfl ?_
        refine g_iload F 5 dX13_readRow_32 rfl ?_
        refine g_iload F 0 dX13_readRow_34 rfl ?_
        refine u_iast F 8 0 yc_8 rfl x3_4.toInt rfl (by omega) (by omega) (yW K a (gu_up G34 8 (x3_4.toInt).toNat r3)) (ys_8 _) dX13_readRow_36 ?_
        refine u_iinc F (fun v_ => [(4, .int v_), (5, .int r3), (0, .ref (a 0)), (1, .ref (a 8)), (2, .int 6), (3, .int 9)]) dX13_readRow_37 (j := 5) rfl x3_4.toInt 1 rfl rfl (by omega) (by omega) (by decide) (fun _ => rfl) (fun y45 ey45 => ?_)
        refine g_aload_n F 2 dX13_readRow_40 rfl rfl ?_
        refine yg_0_6 F i_X13 w_0 dX13_readRow_41 (G34 0 6) (rfl) ?_
        refine g_iconst F 2 dX13_readRow_44 (by decide) ?_
        refine v_icmp_eq F 3 dX13_readRow_45 (by decide) (G34 0 6).toInt 2 rfl rfl (fun c46 => ?_) (fun c46 => ?_)
        · refine g_locals [(0, .ref (a 0)), (1, .ref (a 8)), (2, .int 6), (3, .int 9), (4, .int y45)] [2, 3, 4, 5, 0] rfl ?_
          exact ih_3 y45 (gu_up G34 8 (x3_4.toInt).toNat r3) (by have e9_0_5 : (gu_up G34 8 (x3_4.toInt).toNat r3) 0 5 = (G34 0 5) := rfl; have e9_0_6 : (gu_up G34 8 (x3_4.toInt).toNat r3) 0 6 = (G34 0 6) := rfl; (try simp only [e9_0_5, e9_0_6, true_and, and_true]) <;> omega) (by have h9 := ti_rng y45; omega) (gu_I.up (j := 8) (k := (x3_4.toInt).toNat) (v := r3) hI35 (show (0 : Int) ≤ Int32.toInt r3 by omega) (show Int32.toInt r3 ≤ 9 by omega)) (gu_un.up (j := 8) (k := (x3_4.toInt).toNat) (v := r3) (gu_un.tr (gu_un.tr (gu_un.tr (gu_un.tr gu_un.rf (gu_un.su jU3 rfl)) (gu_un.su hU7 rfl)) (gu_un.su hU27 rfl)) (gu_un.su hU36 rfl)) (show (800 : Nat) ∈ ([5, 6, 7, 8, 9, 10, 800] : List Nat) by decide)) (by have e1 : hLo 9 = 0 := (by decide); have e2 : hHi 9 = 9 := (by decide); have e3 : hMo 9 = 6 := (by decide); exact yRo.step (n := x3_4.toInt) ro3 (by decide) (by decide) (by omega) (show yStp [9, 10] Gj3 G25 G34 from ⟨(show gu_un ycd [9, 10] Gj3 G25 from (gu_un.tr (gu_un.tr gu_un.rf (gu_un.su hU7 rfl)) (gu_un.su hU27 rfl))), rfl, by (try rw [show G25 2 = (G 2) from (show G25 2 = G5 2 from funext fun k_ => hU27 2 k_ (show (200 : Nat) ∉ ([9, 10] : List Nat) by decide)).trans ((show G5 2 = Gj3 2 from funext fun k_ => hU7 2 k_ (show (200 : Nat) ∉ ([9, 10] : List Nat) by decide)).trans ((show Gj3 2 = G 2 from funext fun k_ => jU3 2 k_ (show (200 : Nat) ∉ ([5, 6, 7, 8, 9, 10, 800] : List Nat) by decide))))]); (try rw [show G25 0 3 = (G 0 3) from (hU27 0 3 (by decide)).trans ((hU7 0 3 (by decide)).trans (jU3 0 3 (by decide)))]); (try rw [show G25 0 5 = (Gj3 0 5) from (hU27 0 5 (by decide)).trans (hU7 0 5 (by decide))]); exact q44, funext fun k_ => hU36 2 k_ (by simp [ycd]), hU36 0 3 (by decide)⟩) q11.2.2.1 q11.2.2.2 (by omega) (by omega) (by omega) (show gu_un ycd [800] G34 (gu_up G34 8 (x3_4.toInt).toNat r3) from (gu_un.up (j := 8) (k := (x3_4.toInt).toNat) (v := r3) gu_un.rf (show (800 : Nat) ∈ ([800] : List Nat) by decide))) rfl (show (gu_up G34 8 (x3_4.toInt).toNat r3) 8 = (upd (Gj3 8) (x3_4.toInt).toNat r3) from (congrArg (fun f_ => upd f_ (x3_4.toInt).toNat r3) ((show G34 8 = G25 8 from funext fun k_ => hU36 8 k_ (by simp [ycd])).trans (show G25 8 = (Gj3 8) from ((show G25 8 = G5 8 from funext fun k_ => hU27 8 k_ (by simp [ycd])).trans (show G5 8 = (Gj3 8) from ((show G5 8 = Gj3 8 from funext fun k_ => hU7 8 k_ (by simp [ycd])).trans (show Gj3 8 = (Gj3 8) from rfl)))))))) (by omega)) (by have e9_0_6 : (gu_up G34 8 (x3_4.toInt).toNat r3) 0 6 = (G34 0 6) := rfl; (try simp only [e9_0_6, true_and, and_true]) <;> (first | omega | (simp only [Int32.reduceToInt, true_and, and_true, ne_eq, not_true_eq_false, false_and, or_false, false_or, true_or, or_true, false_implies] <;> omega))) ((yFf.tr (show yFf G G25 from (yFf.tr (show yFf G G5 from (yFf.tr (show yFf G Gj3 from ff3) q12)) q30)) (show yFf _ G34 from yFf.un hU36 rfl))) (by have e9_0_3 : (gu_up G34 8 (x3_4.toInt).toNat r3) 0 3 = (G 0 3) := (hU36 0 3 (by decide)).trans ((hU27 0 3 (by decide)).trans ((hU7 0 3 (by decide)).trans (jU3 0 3 (by decide)))); have e9_0_5 : (gu_up G34 8 (x3_4.toInt).toNat r3) 0 5 = (G34 0 5) := rfl; (try simp only [e9_0_3, e9_0_5, true_and, and_true]) <;> (first | omega | (simp only [Int32.reduceToInt, true_and, and_true, ne_eq, not_true_eq_false, false_and, or_false, false_or, true_or, or_true, false_implies] <;> omega))) (by have e9_0_5 : (gu_up G34 8 (x3_4.toInt).toNat r3) 0 5 = (G34 0 5) := rfl; have e9_0_6 : (gu_up G34 8 (x3_4.toInt).toNat r3) 0 6 = (G34 0 6) := rfl; (try simp only [e9_0_5, e9_0_6, true_and, and_true]) <;> (first | omega | (simp only [Int32.reduceToInt, true_and, and_true, ne_eq, not_true_eq_false, false_and, or_false, false_or, true_or, or_true, false_implies] <;> omega)))
        · refine g_iload F 0 dX13_readRow_48 rfl ?_
          exact ux_iret F hA hQ hr (gu_up G34 8 (x3_4.toInt).toNat r3) (⟨(gu_I.up (j := 8) (k := (x3_4.toInt).toNat) (v := r3) hI35 (show (0 : Int) ≤ Int32.toInt r3 by omega) (show Int32.toInt r3 ≤ 9 by omega)), (gu_un.up (j := 8) (k := (x3_4.toInt).toNat) (v := r3) (gu_un.tr (gu_un.tr (gu_un.tr (gu_un.tr gu_un.rf (gu_un.su jU3 rfl)) (gu_un.su hU7 rfl)) (gu_un.su hU27 rfl)) (gu_un.su hU36 rfl)) (show (800 : Nat) ∈ ([5, 6, 7, 8, 9, 10, 800] : List Nat) by decide)), (by have h9 := ti_rng y45; omega), (by show (((gu_up G34 8 (x3_4.toInt).toNat r3) 0 5).toInt ≤ (G 0 3).toInt ∧ (G 0 5).toInt ≤ ((gu_up G34 8 (x3_4.toInt).toNat r3) 0 5).toInt ∧ (((gu_up G34 8 (x3_4.toInt).toNat r3) 0 6).toInt = 0 ∨ (G 0 5).toInt < ((gu_up G34 8 (x3_4.toInt).toNat r3) 0 5).toInt)); have e9_0_5 : (gu_up G34 8 (x3_4.toInt).toNat r3) 0 5 = (G34 0 5) := rfl; have e9_0_6 : (gu_up G34 8 (x3_4.toInt).toNat r3) 0 6 = (G34 0 6) := rfl; (try simp only [e9_0_5, e9_0_6, true_and, and_true]) <;> (first | omega | (simp only [Int32.reduceToInt, true_and, and_true, ne_eq, not_true_eq_false, false_and, or_false, false_or, true_or, or_true, false_implies] <;> omega))), (by have e1 : hLo 9 = 0 := (by decide); have e2 : hHi 9 = 9 := (by decide); have e3 : hMo 9 = 6 := (by decide); exact yRo.step (n := x3_4.toInt) ro3 (by decide) (by decide) (by omega) (show yStp [9, 10] Gj3 G25 G34 from ⟨(show gu_un ycd [9, 10] Gj3 G25 from (gu_un.tr (gu_un.tr gu_un.rf (gu_un.su hU7 rfl)) (gu_un.su hU27 rfl))), rfl, by (try rw [show G25 2 = (G 2) from (show G25 2 = G5 2 from funext fun k_ => hU27 2 k_ (show (200 : Nat) ∉ ([9, 10] : List Nat) by decide)).trans ((show G5 2 = Gj3 2 from funext fun k_ => hU7 2 k_ (show (200 : Nat) ∉ ([9, 10] : List Nat) by decide)).trans ((show Gj3 2 = G 2 from funext fun k_ => jU3 2 k_ (show (200 : Nat) ∉ ([5, 6, 7, 8, 9, 10, 800] : List Nat) by decide))))]); (try rw [show G25 0 3 = (G 0 3) from (hU27 0 3 (by decide)).trans ((hU7 0 3 (by decide)).trans (jU3 0 3 (by decide)))]); (try rw [show G25 0 5 = (Gj3 0 5) from (hU27 0 5 (by decide)).trans (hU7 0 5 (by decide))]); exact q44, funext fun k_ => hU36 2 k_ (by simp [ycd]), hU36 0 3 (by decide)⟩) q11.2.2.1 q11.2.2.2 (by omega) (by omega) (by omega) (show gu_un ycd [800] G34 (gu_up G34 8 (x3_4.toInt).toNat r3) from (gu_un.up (j := 8) (k := (x3_4.toInt).toNat) (v := r3) gu_un.rf (show (800 : Nat) ∈ ([800] : List Nat) by decide))) rfl (show (gu_up G34 8 (x3_4.toInt).toNat r3) 8 = (upd (Gj3 8) (x3_4.toInt).toNat r3) from (congrArg (fun f_ => upd f_ (x3_4.toInt).toNat r3) ((show G34 8 = G25 8 from funext fun k_ => hU36 8 k_ (by simp [ycd])).trans (show G25 8 = (Gj3 8) from ((show G25 8 = G5 8 from funext fun k_ => hU27 8 k_ (by simp [ycd])).trans (show G5 8 = (Gj3 8) from ((show G5 8 = Gj3 8 from funext fun k_ => hU7 8 k_ (by simp [ycd])).trans (show Gj3 8 = (Gj3 8) from rfl)))))))) (by omega)), (by show (0 < y45.toInt ∧ y45.toInt ≤ 6 ∧ ((gu_up G34 8 (x3_4.toInt).toNat r3) 0 6).toInt ≠ 2); have e9_0_6 : (gu_up G34 8 (x3_4.toInt).toNat r3) 0 6 = (G34 0 6) := rfl; (try simp only [e9_0_6, true_and, and_true]) <;> (first | omega | (simp only [Int32.reduceToInt, true_and, and_true, ne_eq, not_true_eq_false, false_and, or_false, false_or, true_or, or_true, false_implies] <;> omega))), ((yFf.tr (show yFf G G25 from (yFf.tr (show yFf G G5 from (yFf.tr (show yFf G Gj3 from ff3) q12)) q30)) (show yFf _ G34 from yFf.un hU36 rfl)))⟩) rfl rfl dX13_readRow_50
  refine g_iconst F 0 dX13_readRow_0 (by decide) ?_
  refine g_istore F [(4, .int 0), (0, .ref (a 0)), (1, .ref (a 8)), (2, .int 6), (3, .int 9)] dX13_readRow_1 (by decide) rfl ?_
  refine g_locals [(0, .ref (a 0)), (1, .ref (a 8)), (2, .int 6), (3, .int 9), (4, .int 0)] [1, 2, 3, 4, 0] rfl ?_
  have b47 : (0 : Int) ≤ (G 0 6).toInt ∧ (G 0 6).toInt ≤ 4 := hI 0 6
  exact J_3 _ 0 G (Nat.lt_succ_self _) (by decide) hI gu_un.rf (yRo.at0) (by (first | omega | (simp only [Int32.reduceToInt, true_and, and_true, ne_eq, not_true_eq_false, false_and, or_false, false_or, true_or, or_true, false_implies] <;> omega))) (yFf.rf) (by (first | omega | (simp only [Int32.reduceToInt, true_and, and_true, ne_eq, not_true_eq_false, false_and, or_false, false_or, true_or, or_true, false_implies] <;> omega))) (by (first | omega | (simp only [Int32.reduceToInt, true_and, and_true, ne_eq, not_true_eq_false, false_and, or_false, false_or, true_or, or_true, false_implies] <;> omega)))
