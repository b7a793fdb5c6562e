set_option maxRecDepth 20000 in
theorem ggX13_readFactor_X13_readFactor : GoodIn wsX13_readFactor wsX13_readFactor := goodIn_r _ [0, 1, 2, 3, 4, 5, 6, 7, 8, 9, 10, 11, 12, 13, 14, 15, 16, 17, 18, 19, 20, 21, 22, 23, 24, 25, 26, 27, 28, 29, 30, 31, 32, 33, 34, 35, 36, 37, 38, 39, 40, 41, 42, 43, 44, 45, 46, 47, 48, 49, 50, 51, 52, 53, 54, 55, 56, 57, 58, 59, 60, 61, 62, 63, 64, 65, 66, 67, 68, 69, 70, 71, 72, 73, 74, 75, 76, 77, 78, 79, 80, 81, 82, 83, 84, 85, 86, 87, 88, 89, 90, 91, 92, 93, 94, 95, 96, 97, 98, 99, 100, 101, 102, 103, 104, 105, 106, 107, 108, 109, 110, 111, 112, 113, 114, 115, 116, 117, 118, 119, 120, 121, 122, 123, 124, 125, 126, 127, 128, 129, 130, 131, 132, 133, 134, 135, 136, 137, 138, 139, 140, 141, 142, 143, 144, 145, 146, 147, 148, 149, 150, 151, 152, 153, 154, 155, 156, 157, 158, 159, 160, 161, 162, 163, 164, 165, 166, 167, 168, 169, 170, 171, 172, 173, 174, 175, 176, 177, 178, 179] rfl (by decide +kernel)
set_option maxRecDepth 20000 in
theorem gX13_readFactor_X13_readFactor : GoodIn wsX13_readFactor (wsV RX13 113 RX13 yX13_readFactor wsX13_readFactor) := goodIn_app (goodIn_of _ (by decide +kernel)) ggX13_readFactor_X13_readFactor
set_option maxRecDepth 20000 in
theorem ggX13_readFactor_X13_readSum : GoodIn wsX13_readFactor wsX13_readSum := goodIn_r _ [103, 3, 104, 105, 106, 7, 4, 5, 6, 8, 1, 13, 14, 15, 16, 17, 18, 19, 20, 21, 22, 23, 24, 25, 26, 27, 28, 29, 30, 34, 35, 36, 37, 38, 39, 40, 41, 0, 2, 9, 10, 11, 12, 31, 32, 33, 42, 43, 44, 45, 46, 47, 48, 49, 50, 51, 52, 53, 54, 55, 56, 57, 58, 59, 60, 61, 62, 63, 64, 65, 66, 67, 68, 69, 70, 71, 72, 73, 74, 75, 76, 77, 78, 79, 80, 81, 82, 83, 84, 85, 86, 87, 88, 89, 90, 91, 92, 93, 94, 95, 96, 97, 98, 99, 100, 101, 102, 107, 108, 109, 110, 111, 112, 113, 114, 115, 116, 117, 118, 119, 120, 121, 122, 123, 124, 125, 126, 127, 128, 129, 130, 131, 132, 133, 134, 135, 136, 137, 138, 139, 140, 141, 142, 143, 144, 145, 146, 147, 148, 149, 150, 151, 152, 153, 154, 155, 156, 157, 158, 159, 160, 161, 162, 163, 164, 165, 166, 167, 168, 169, 170, 171, 172, 173, 174, 175, 176, 177, 178, 179] rfl (by decide +kernel)
set_option maxRecDepth 20000 in
theorem gX13_readFactor_X13_readSum : GoodIn wsX13_readFactor (wsV RX13 128 RX13 yX13_readSum wsX13_readSum) := goodIn_app (goodIn_of _ (by decide +kernel)) ggX13_readFactor_X13_readSum
theorem gT_X13_readFactor_X13_readFactor : GoodIn wsT_X13_readFactor (wsV RX13 113 RX13 yX13_readFactor wsT_X13_readFactor) := gT_call gX13_readFactor_X13_readFactor gT_nx
theorem gT_X13_readFactor_X13_readSum : GoodIn wsT_X13_readFactor (wsV RX13 128 RX13 yX13_readSum wsT_X13_readSum) := gT_call gX13_readFactor_X13_readSum gT_nx
set_option maxHeartbeats 4000000 in
set_option maxRecDepth 100000 in
theorem S_X13_readFactor_v3 (l : Launch) (D : va_G) (K : Nat → ClassId) (a : Nat → Nat) (G : gS) (qs vs : Nat → Nat) (pb : ((G 0 5).toInt ≤ (G 0 3).toInt)) (s35 : (3 ≤ (G 0 20).toInt)) (m6 : ((G 12 ((G 0 20).toInt).toNat).toInt ≤ 6 * (G 0 21).toInt)) (hI : yI G) (sz : Nat) : KxvZ (yZ qs vs) l yX13_readFactor wsT_X13_readFactor 10 236 D [.ref (a 0), .int 3] (yW K a G) (tK K) sz (fun (G' : gS) => (yI G') ∧ (gu_un ycd [5, 6, 7, 8, 9, 10, 22, 1000, 1100, 1200] G G') ∧ (((G' 0 5).toInt ≤ (G 0 3).toInt ∧ (G 0 5).toInt ≤ (G' 0 5).toInt ∧ ((G' 0 6).toInt = 0 ∨ (G 0 5).toInt < (G' 0 5).toInt))) ∧ (ySg 3 (G 0 20).toInt G G') ∧ (yKp G G') ∧ (ySim cA ((G 0 20).toInt - 3).toNat (qW 3 (G 0 21).toInt (mL (G 0 20).toInt G)) (qF 3 (G' 0 21).toInt (mL (G 0 20).toInt G')) G G') ∧ (yFf G G')) (fun (G' : gS) => (yI G') ∧ (gu_un ycd [5, 6, 7, 8, 9, 10, 22, 1000, 1100, 1200] G G') ∧ (yKp G G') ∧ (yThr cA ((G 0 20).toInt - 3).toNat (qW 3 (G 0 21).toInt (mL (G 0 20).toInt G)) G G') ∧ (((G' 0 8).toInt ≠ 0))) (a 1) (fun (G' : gS) => (yW K a G')) := by
  unfold KxvZ
  refine gxz_ofW (cc := cX13_readFactor) (lv := [(0, .ref (a 0)), (1, .int 3)]) (by decide) rfl (Nat.le_of_ble_eq_true rfl) rfl ?_
  intro p e s m args below meth c A Q hA hQ hZ F hr hex
  have hts := F.2.2.2.2.1
  have w_0 : (Cond.fieldLink RX13 134 "QuietCutModel" "parts" "I").before args s = true := hts _ (List.mem_of_getElem? (i := 2) rfl)
  have i_X13 : ∀ w ∈ u_ws RX13 TX13 73, w ∈ wsT_X13_readFactor := fun w h => List.mem_append_left _ ((show ∀ w ∈ u_ws RX13 TX13 73, w ∈ wsX13_readFactor from fun _ h => List.mem_cons_of_mem _ (List.mem_append_right _ h)) w h)
  have w_1 : (Cond.fieldLink RX13 31 "QuietCutModel" "hand" "I").before args s = true := hts _ (List.mem_of_getElem? (i := 1) rfl)
  have w_2 : (Cond.fieldLink RX13 41 "QuietCutModel" "value" "I").before args s = true := hts _ (List.mem_of_getElem? (i := 3) rfl)
  have b1 : (0 : Int) ≤ (G 0 3).toInt ∧ (G 0 3).toInt ≤ 1000 := hI 0 3
  have b2 : (0 : Int) ≤ (G 0 5).toInt ∧ (G 0 5).toInt ≤ 1000 := hI 0 5
  have b3 : (0 : Int) ≤ (G 0 6).toInt ∧ (G 0 6).toInt ≤ 4 := hI 0 6
  have b4 : (0 : Int) ≤ (G 0 20).toInt ∧ (G 0 20).toInt ≤ 5 := hI 0 20
  have b5 : (0 : Int) ≤ (G 0 21).toInt ∧ (G 0 21).toInt ≤ 12 := hI 0 21
  refine g_aload_n F 0 dX13_readFactor_0 rfl rfl ?_
  refine g_bipush F 45 dX13_readFactor_1 (by decide) ?_
  refine u_callVi (k := 0) (n := 0) (b := a 0) (As := [.int 45]) (st := []) F (fun sz => S_X13_isSign l D K a G 45 45 rfl hI sz) (cwV 1 hts (gT_left gX13_readFactor_X13_isSign) rfl rfl rfl (by decide +kernel) ⟨Nat.le_of_ble_eq_true rfl, Nat.le_of_ble_eq_true rfl⟩) rfl 0 yc_0 rfl (Nat.le_of_ble_eq_true rfl) ⟨Nat.zero_le _, Nat.zero_le _⟩ dX13_readFactor_3 (fun r6 _ hw7 => ?_)
  rcases hw7 with ⟨rfl, q9⟩ | ⟨rfl, q10⟩
  · have b11 : (0 : Int) ≤ (G 0 7).toInt ∧ (G 0 7).toInt ≤ 9999 := hI 0 7
    have q9 : ((G 0 6).toInt = 3 ∧ (G 0 7).toInt = (45 : Int)) := q9
    refine g_istore_n F [(2, .int 1), (0, .ref (a 0)), (1, .int 3)] dX13_readFactor_6 rfl (by decide) rfl ?_
    refine g_iload_n F 0 dX13_readFactor_7 rfl rfl ?_
    refine v_if_ne F 20 dX13_readFactor_8 (by decide) 1 rfl (fun c12 => ?_) (fun c12 => absurd c12 (by decide))
    refine g_aload_n F 1 dX13_readFactor_20 rfl rfl ?_
    refine g_iload_n F 2 dX13_readFactor_21 rfl rfl ?_
    refine g_iconst F 4 dX13_readFactor_22 (by decide) ?_
    refine v_icmp_ge F 30 dX13_readFactor_23 (by decide) 3 4 rfl rfl (fun c13 => absurd c13 (by decide)) (fun c13 => ?_)
    refine g_iconst F 1 dX13_readFactor_26 (by decide) ?_
    refine g_goto F 31 dX13_readFactor_27 (by decide) ?_
    refine g_iconst F 4 dX13_readFactor_31 (by decide) ?_
    refine ux_callvv (k := 0) (n := 0) (b := a 0) (As := [.int 1, .int 4]) (st := []) F (fun sz => S_X13_need l D K a G 1 1 4 4 rfl (by decide) rfl hI sz) (cwV 2 hts gT_X13_readFactor_X13_need rfl rfl rfl (by decide +kernel) ⟨Nat.le_of_ble_eq_true rfl, Nat.le_of_ble_eq_true rfl⟩) rfl 0 yc_0 rfl (Nat.le_of_ble_eq_true rfl) ⟨Nat.zero_le _, Nat.zero_le _⟩ dX13_readFactor_32 hex hA hQ (fun u9 h9 => ⟨h9.1, gu_un.tr gu_un.rf (gu_un.su h9.2.1 rfl), (yKp.un yKp.rf h9.2.1 rfl), (absurd h9.2.2.1 (by decide)), (absurd h9.2.2.1 (by decide))⟩) (fun G16 hw15 => ?_)
    have hI17 : yI G16 := hw15.1
    have hU18 : gu_un ycd [9, 10] G G16 := hw15.2.1
    have hp19 := hw15.2.2
    have q20 : ((1 : Int) ≠ 0) := hp19.1
    have q21 : yFf G G16 := hp19.2
    clear hp19 hw15
    refine g_aload_n F 1 dX13_readFactor_35 rfl rfl ?_
    refine u_callVv (k := 0) (n := 0) (b := a 0) (As := []) (st := []) F (fun sz => S_X13_scan l D K a G16  (by have e9_0_3 : G16 0 3 = (G 0 3) := hU18 0 3 (by decide); have e9_0_5 : G16 0 5 = (G 0 5) := hU18 0 5 (by decide); (try simp only [e9_0_3, e9_0_5, true_and, and_true]) <;> (first | omega | (simp only [Int32.reduceToInt, true_and, and_true, ne_eq, not_true_eq_false, false_and, or_false, false_or, true_or, or_true, false_implies] <;> omega))) hI17 sz) (cwV 0 hts (gT_left gX13_readFactor_X13_scan) rfl rfl rfl (by decide +kernel) ⟨Nat.le_of_ble_eq_true rfl, Nat.le_of_ble_eq_true rfl⟩) rfl 0 yc_0 rfl (Nat.le_of_ble_eq_true rfl) ⟨Nat.zero_le _, Nat.zero_le _⟩ dX13_readFactor_36 (fun G24 hw23 => ?_)
    have hI25 : yI G24 := hw23.1
    have hU26 : gu_un ycd [5, 6, 7, 8] G16 G24 := hw23.2.1
    have hp27 := hw23.2.2
    have b28 : (0 : Int) ≤ (G24 0 5).toInt ∧ (G24 0 5).toInt ≤ 1000 := hI25 0 5
    have b29 : (0 : Int) ≤ (G24 0 4).toInt ∧ (G24 0 4).toInt ≤ 1000 := hI25 0 4
    have q30 : ((G24 0 5).toInt ≤ (G 0 3).toInt ∧ (G 0 5).toInt ≤ (G24 0 4).toInt ∧ (G24 0 4).toInt ≤ (G24 0 5).toInt) := by have h9 := hp27.1; (try simp only [(show G16 0 3 = (G 0 3) from hU18 0 3 (by decide)), (show G16 0 5 = (G 0 5) from hU18 0 5 (by decide))] at h9); first | exact h9 | omega
    have b31 : (0 : Int) ≤ (G24 0 6).toInt ∧ (G24 0 6).toInt ≤ 4 := hI25 0 6
    have q32 : (((G24 0 6).toInt = 0 ∧ (G24 0 4).toInt = (G 0 3).toInt) ∨ ((G24 0 6).toInt ≠ 0 ∧ (G24 0 4).toInt < (G24 0 5).toInt)) := by have h9 := hp27.2.1; (try simp only [(show G16 0 3 = (G 0 3) from hU18 0 3 (by decide))] at h9); first | exact h9 | omega
    have b33 : (0 : Int) ≤ (G24 0 7).toInt ∧ (G24 0 7).toInt ≤ 9999 := hI25 0 7
    have q34 : tTok (G 2) (G 0 3).toInt (G 0 5).toInt (G24 0 6).toInt (G24 0 4).toInt (G24 0 7).toInt (G24 0 5).toInt := by have h9 := hp27.2.2; (try simp only [(show G16 0 3 = (G 0 3) from hU18 0 3 (by decide)), (show G16 0 5 = (G 0 5) from hU18 0 5 (by decide)), (show G16 2 = (G 2) from (show G16 2 = G 2 from funext fun k_ => hU18 2 k_ (show (200 : Nat) ∉ ([9, 10] : List Nat) by decide)))] at h9); first | exact h9 | omega
    clear hp27 hw23
    refine g_iload_n F 0 dX13_readFactor_39 rfl rfl ?_
    refine v_if_eq F 60 dX13_readFactor_40 (by decide) 1 rfl (fun c35 => absurd c35 (by decide)) (fun c35 => ?_)
    refine g_aload_n F 1 dX13_readFactor_43 rfl rfl ?_
    refine g_iload_n F 2 dX13_readFactor_44 rfl rfl ?_
    refine g_iconst F 1 dX13_readFactor_45 (by decide) ?_
    refine g_iadd F dX13_readFactor_46 ?_
    refine g_fold 4 (by decide) ?_
    refine uxz_callvv (k := 0) (n := 0) (b := a 0) (As := [.int 4]) (st := []) F yZ_st hZ (fun sz => S_X13_readFactor_v4 l D K a G24 qs vs  (by have e9_0_3 : G24 0 3 = (G 0 3) := (hU26 0 3 (by decide)).trans (hU18 0 3 (by decide)); (try simp only [e9_0_3, true_and, and_true]) <;> (first | omega | (simp only [Int32.reduceToInt, true_and, and_true, ne_eq, not_true_eq_false, false_and, or_false, false_or, true_or, or_true, false_implies] <;> omega))) (by have e9_0_20 : G24 0 20 = (G 0 20) := (hU26 0 20 (by decide)).trans (hU18 0 20 (by decide)); (try simp only [e9_0_20, true_and, and_true]) <;> (first | omega | (simp only [Int32.reduceToInt, true_and, and_true, ne_eq, not_true_eq_false, false_and, or_false, false_or, true_or, or_true, false_implies] <;> omega))) (by rw [show G24 0 20 = G 0 20 from (hU26 0 20 (by decide)).trans (hU18 0 20 (by decide))]; exact (y_m6 m6 (show gu_un ycd [5, 6, 7, 8, 9, 10] G G24 from (gu_un.tr (gu_un.tr gu_un.rf (gu_un.su hU18 rfl)) (gu_un.su hU26 rfl))) rfl rfl)) hI25 sz) (cwV 1 hts gT_X13_readFactor_X13_readFactor rfl rfl rfl (by decide +kernel) ⟨Nat.le_of_ble_eq_true rfl, Nat.le_of_ble_eq_true rfl⟩) rfl 0 yc_0 rfl (Nat.le_of_ble_eq_true rfl) ⟨Nat.zero_le _, Nat.zero_le _⟩ dX13_readFactor_47 hex hA hQ (fun u9 h9 => ⟨h9.1, gu_un.tr (gu_un.tr (gu_un.tr gu_un.rf (gu_un.su hU18 rfl)) (gu_un.su hU26 rfl)) (gu_un.su h9.2.1 rfl), (yKp.tr (yKp.un yKp.rf (show gu_un ycd [5, 6, 7, 8, 9, 10] G G24 from (gu_un.tr (gu_un.tr gu_un.rf (gu_un.su hU18 rfl)) (gu_un.su hU26 rfl))) rfl) h9.2.2.1), (by have h9 := h9.2.2.2.1; (try rw [show G24 0 20 = (G 0 20) from (hU26 0 20 (by decide)).trans (hU18 0 20 (by decide))] at h9); (try rw [show G24 0 21 = (G 0 21) from (hU26 0 21 (by decide)).trans (hU18 0 21 (by decide))] at h9); exact yF_negT (show yStp [9, 10] G G16 G24 from ⟨(show gu_un ycd [9, 10] G G16 from (gu_un.tr gu_un.rf (gu_un.su hU18 rfl))), rfl, by (try rw [show G16 2 = (G 2) from (show G16 2 = G 2 from funext fun k_ => hU18 2 k_ (show (200 : Nat) ∉ ([9, 10] : List Nat) by decide))]); (try rw [show G16 0 3 = (G 0 3) from hU18 0 3 (by decide)]); (try rw [show G16 0 5 = (G 0 5) from hU18 0 5 (by decide)]); exact q34, funext fun k_ => hU26 2 k_ (by simp [ycd]), hU26 0 3 (by decide)⟩) (by omega) (by omega) (by decide) (by decide) h9 rfl (mL_un (show gu_un ycd [5, 6, 7, 8, 9, 10] G G24 from (gu_un.tr (gu_un.tr gu_un.rf (gu_un.su hU18 rfl)) (gu_un.su hU26 rfl))) rfl)), (h9.2.2.2.2)⟩) (fun G38 hw37 => ?_)
    have hI39 : yI G38 := hw37.1
    have hU40 : gu_un ycd [5, 6, 7, 8, 9, 10, 22, 1000, 1100, 1200] G24 G38 := hw37.2.1
    have hp41 := hw37.2.2
    have b42 : (0 : Int) ≤ (G38 0 5).toInt ∧ (G38 0 5).toInt ≤ 1000 := hI39 0 5
    have b43 : (0 : Int) ≤ (G38 0 6).toInt ∧ (G38 0 6).toInt ≤ 4 := hI39 0 6
    have q44 : ((G38 0 5).toInt ≤ (G 0 3).toInt ∧ (G24 0 5).toInt ≤ (G38 0 5).toInt ∧ ((G38 0 6).toInt = 0 ∨ (G24 0 5).toInt < (G38 0 5).toInt)) := by have h9 := hp41.1; (try simp only [(show G24 0 3 = (G 0 3) from (hU26 0 3 (by decide)).trans (hU18 0 3 (by decide)))] at h9); first | exact h9 | omega
    have q45 : ySg 2 (G 0 20).toInt G24 G38 := by have h9 := hp41.2.1; (try simp only [(show G24 0 20 = (G 0 20) from (hU26 0 20 (by decide)).trans (hU18 0 20 (by decide)))] at h9); first | exact h9 | omega
    have q46 : yKp G24 G38 := hp41.2.2.1
    have b47 : (0 : Int) ≤ (G38 0 21).toInt ∧ (G38 0 21).toInt ≤ 12 := hI39 0 21
    have q48 : ySim cA ((G 0 20).toInt - 3).toNat (qW 4 (G 0 21).toInt (mL (G 0 20).toInt G24)) (qF 4 (G38 0 21).toInt (mL (G 0 20).toInt G38)) G24 G38 := by have h9 := hp41.2.2.2.1; (try simp only [(show G24 0 20 = (G 0 20) from (hU26 0 20 (by decide)).trans (hU18 0 20 (by decide))), (show G24 0 21 = (G 0 21) from (hU26 0 21 (by decide)).trans (hU18 0 21 (by decide))), (show G24 0 20 = (G 0 20) from (hU26 0 20 (by decide)).trans (hU18 0 20 (by decide))), (show G24 0 20 = (G 0 20) from (hU26 0 20 (by decide)).trans (hU18 0 20 (by decide)))] at h9); first | exact h9 | omega
    have q49 : yFf G24 G38 := hp41.2.2.2.2
    have kp50 : yKp G G38 := yKp.tr (yKp.un yKp.rf (show gu_un ycd [5, 6, 7, 8, 9, 10] G G24 from (gu_un.tr (gu_un.tr gu_un.rf (gu_un.su hU18 rfl)) (gu_un.su hU26 rfl))) rfl) q46
    have sg51 : ySg 2 (G 0 20).toInt G G38 := ySg.un0 q45 (show gu_un ycd [5, 6, 7, 8, 9, 10] G G24 from (gu_un.tr (gu_un.tr gu_un.rf (gu_un.su hU18 rfl)) (gu_un.su hU26 rfl))) rfl rfl
    clear hp41 hw37
    refine g_aload_n F 1 dX13_readFactor_50 rfl rfl ?_
    refine g_iconst F 2 dX13_readFactor_51 (by decide) ?_
    refine g_bipush F 33 dX13_readFactor_52 (by decide) ?_
    refine u_callVv (k := 0) (n := 0) (b := a 0) (As := [.int 2, .int 33]) (st := []) F (fun sz => S_X13_mark l D K a G38 2 2 33 33 rfl (by decide) rfl (by decide) (by rw [show G38 0 20 = G 0 20 from (hU40 0 20 (by decide)).trans ((hU26 0 20 (by decide)).trans (hU18 0 20 (by decide)))]; have h9 : (G38 12 ((G 0 20).toInt).toNat).toInt ≤ 6 * (G38 0 21).toInt := (ySg.m6 (c := 2) sg51 (by decide) (by decide) m6); have h8 : (0 : Int) ≤ (G38 0 21).toInt ∧ (G38 0 21).toInt ≤ 12 := hI39 0 21; show (G38 12 ((G 0 20).toInt).toNat).toInt ≤ 79; omega) hI39 sz) (cwV 2 hts (gT_left gX13_readFactor_X13_mark) rfl rfl rfl (by decide +kernel) ⟨Nat.le_of_ble_eq_true rfl, Nat.le_of_ble_eq_true rfl⟩) rfl 0 yc_0 rfl (Nat.le_of_ble_eq_true rfl) ⟨Nat.zero_le _, Nat.zero_le _⟩ dX13_readFactor_54 (fun G54 hw53 => ?_)
    have hI55 : yI G54 := hw53.1
    have hU56 : gu_un ycd [1000, 1100, 1200] G38 G54 := hw53.2.1
    have hp57 := hw53.2.2
    have q58 : yMk 2 33 (G 0 20).toInt G38 G54 := by have h9 := hp57; (try simp only [(show G38 0 20 = (G 0 20) from (hU40 0 20 (by decide)).trans ((hU26 0 20 (by decide)).trans (hU18 0 20 (by decide))))] at h9); first | exact h9 | omega
    have m0 : 0 ≤ (G 12 ((G 0 20).toInt).toNat).toInt := (show (0 : Int) ≤ (G 12 ((G 0 20).toInt).toNat).toInt ∧ (G 12 ((G 0 20).toInt).toNat).toInt ≤ 80 from hI 12 _).1
    have m1 : 0 ≤ (G38 12 ((G 0 20).toInt).toNat).toInt := (show (0 : Int) ≤ (G38 12 ((G 0 20).toInt).toNat).toInt ∧ (G38 12 ((G 0 20).toInt).toNat).toInt ≤ 80 from hI39 12 _).1
    have kp59 : yKp G G54 := yKp.tr kp50 (q58.kp (by omega) m1)
    have sg60 : ySg 3 (G 0 20).toInt G G54 := ySg.neg sg51 q58 (by decide) (by decide) (by decide) (by decide) (by omega) m0 (by have h9 : (G38 12 ((G 0 20).toInt).toNat).toInt ≤ 6 * (G38 0 21).toInt := (ySg.m6 (c := 2) sg51 (by decide) (by decide) m6); have h8 : (0 : Int) ≤ (G38 0 21).toInt ∧ (G38 0 21).toInt ≤ 12 := hI39 0 21; omega)
    clear hp57 hw53
    refine g_goto F 82 dX13_readFactor_57 (by decide) ?_
    exact ux_vret F hA hQ hr G54 (⟨hI55, (gu_un.tr (gu_un.tr (gu_un.tr (gu_un.tr gu_un.rf (gu_un.su hU18 rfl)) (gu_un.su hU26 rfl)) (gu_un.su hU40 rfl)) (gu_un.su hU56 rfl)), (by show ((G54 0 5).toInt ≤ (G 0 3).toInt ∧ (G 0 5).toInt ≤ (G54 0 5).toInt ∧ ((G54 0 6).toInt = 0 ∨ (G 0 5).toInt < (G54 0 5).toInt)); have e9_0_5 : G54 0 5 = (G38 0 5) := hU56 0 5 (by decide); have e9_0_6 : G54 0 6 = (G38 0 6) := hU56 0 6 (by decide); (try simp only [e9_0_5, e9_0_6, true_and, and_true]) <;> (first | omega | (simp only [Int32.reduceToInt, true_and, and_true, ne_eq, not_true_eq_false, false_and, or_false, false_or, true_or, or_true, false_implies] <;> omega))), (sg60), (kp59), (yF_neg (o' := 4) (show yStp [9, 10] G G16 G24 from ⟨(show gu_un ycd [9, 10] G G16 from (gu_un.tr gu_un.rf (gu_un.su hU18 rfl))), rfl, by (try rw [show G16 2 = (G 2) from (show G16 2 = G 2 from funext fun k_ => hU18 2 k_ (show (200 : Nat) ∉ ([9, 10] : List Nat) by decide))]); (try rw [show G16 0 3 = (G 0 3) from hU18 0 3 (by decide)]); (try rw [show G16 0 5 = (G 0 5) from hU18 0 5 (by decide)]); exact q34, funext fun k_ => hU26 2 k_ (by simp [ycd]), hU26 0 3 (by decide)⟩) (by omega) (by omega) (by decide) (by decide) q48 rfl (mL_un (show gu_un ycd [5, 6, 7, 8, 9, 10] G G24 from (gu_un.tr (gu_un.tr gu_un.rf (gu_un.su hU18 rfl)) (gu_un.su hU26 rfl))) rfl) (show gu_un ycd _ _ G54 from (show gu_un ycd [1000, 1100, 1200] G38 G54 from (gu_un.tr gu_un.rf (gu_un.su hU56 rfl)))) rfl (by rw [q58.ml (by omega) (show (0 : Int) ≤ (G38 12 ((G 0 20).toInt).toNat).toInt from (hI39 12 _).1), mEn_3 (by decide) (by decide)]) (congrArg Int32.toInt (show G54 0 21 = (G38 0 21) from hU56 0 21 (by decide)))), ((yFf.tr (show yFf G G38 from (yFf.tr (show yFf G G24 from (yFf.tr (show yFf G G16 from (yFf.tr (show yFf G G from yFf.rf) q21)) (show yFf _ G24 from yFf.un hU26 rfl))) q49)) (show yFf _ G54 from yFf.un hU56 rfl)))⟩) rfl rfl dX13_readFactor_82
  · have b61 : (0 : Int) ≤ (G 0 7).toInt ∧ (G 0 7).toInt ≤ 9999 := hI 0 7
    have q10 : ((G 0 6).toInt ≠ 3 ∨ (G 0 7).toInt ≠ (45 : Int)) := q10
    refine g_istore_n F [(2, .int 0), (0, .ref (a 0)), (1, .int 3)] dX13_readFactor_6 rfl (by decide) rfl ?_
    refine g_iload_n F 0 dX13_readFactor_7 rfl rfl ?_
    refine v_if_ne F 20 dX13_readFactor_8 (by decide) 0 rfl (fun c62 => absurd c62 (by decide)) (fun c62 => ?_)
    refine g_aload_n F 1 dX13_readFactor_11 rfl rfl ?_
    refine g_bipush F 40 dX13_readFactor_12 (by decide) ?_
    refine u_callVi (k := 0) (n := 0) (b := a 0) (As := [.int 40]) (st := []) F (fun sz => S_X13_isSign l D K a G 40 40 rfl hI sz) (cwV 1 hts (gT_left gX13_readFactor_X13_isSign) rfl rfl rfl (by decide +kernel) ⟨Nat.le_of_ble_eq_true rfl, Nat.le_of_ble_eq_true rfl⟩) rfl 0 yc_0 rfl (Nat.le_of_ble_eq_true rfl) ⟨Nat.zero_le _, Nat.zero_le _⟩ dX13_readFactor_14 (fun r63 _ hw64 => ?_)
    rcases hw64 with ⟨rfl, q66⟩ | ⟨rfl, q67⟩
    · have q66 : ((G 0 6).toInt = 3 ∧ (G 0 7).toInt = (40 : Int)) := q66
      refine v_if_eq F 83 dX13_readFactor_17 (by decide) 1 rfl (fun c68 => absurd c68 (by decide)) (fun c68 => ?_)
      refine g_aload_n F 1 dX13_readFactor_20 rfl rfl ?_
      refine g_iload_n F 2 dX13_readFactor_21 rfl rfl ?_
      refine g_iconst F 4 dX13_readFactor_22 (by decide) ?_
      refine v_icmp_ge F 30 dX13_readFactor_23 (by decide) 3 4 rfl rfl (fun c69 => absurd c69 (by decide)) (fun c69 => ?_)
      refine g_iconst F 1 dX13_readFactor_26 (by decide) ?_
      refine g_goto F 31 dX13_readFactor_27 (by decide) ?_
      refine g_iconst F 4 dX13_readFactor_31 (by decide) ?_
      refine ux_callvv (k := 0) (n := 0) (b := a 0) (As := [.int 1, .int 4]) (st := []) F (fun sz => S_X13_need l D K a G 1 1 4 4 rfl (by decide) rfl hI sz) (cwV 2 hts gT_X13_readFactor_X13_need rfl rfl rfl (by decide +kernel) ⟨Nat.le_of_ble_eq_true rfl, Nat.le_of_ble_eq_true rfl⟩) rfl 0 yc_0 rfl (Nat.le_of_ble_eq_true rfl) ⟨Nat.zero_le _, Nat.zero_le _⟩ dX13_readFactor_32 hex hA hQ (fun u9 h9 => ⟨h9.1, gu_un.tr gu_un.rf (gu_un.su h9.2.1 rfl), (yKp.un yKp.rf h9.2.1 rfl), (absurd h9.2.2.1 (by decide)), (absurd h9.2.2.1 (by decide))⟩) (fun G72 hw71 => ?_)
      have hI73 : yI G72 := hw71.1
      have hU74 : gu_un ycd [9, 10] G G72 := hw71.2.1
      have hp75 := hw71.2.2
      have q76 : ((1 : Int) ≠ 0) := hp75.1
      have q77 : yFf G G72 := hp75.2
      clear hp75 hw71
      refine g_aload_n F 1 dX13_readFactor_35 rfl rfl ?_
      refine u_callVv (k := 0) (n := 0) (b := a 0) (As := []) (st := []) F (fun sz => S_X13_scan l D K a G72  (by have e9_0_3 : G72 0 3 = (G 0 3) := hU74 0 3 (by decide); have e9_0_5 : G72 0 5 = (G 0 5) := hU74 0 5 (by decide); (try simp only [e9_0_3, e9_0_5, true_and, and_true]) <;> (first | omega | (simp only [Int32.reduceToInt, true_and, and_true, ne_eq, not_true_eq_false, false_and, or_false, false_or, true_or, or_true, false_implies] <;> omega))) hI73 sz) (cwV 0 hts (gT_left gX13_readFactor_X13_scan) rfl rfl rfl (by decide +kernel) ⟨Nat.le_of_ble_eq_true rfl, Nat.le_of_ble_eq_true rfl⟩) rfl 0 yc_0 rfl (Nat.le_of_ble_eq_true rfl) ⟨Nat.zero_le _, Nat.zero_le _⟩ dX13_readFactor_36 (fun G80 hw79 => ?_)
      have hI81 : yI G80 := hw79.1
      have hU82 : gu_un ycd [5, 6, 7, 8] G72 G80 := hw79.2.1
      have hp83 := hw79.2.2
      have b84 : (0 : Int) ≤ (G80 0 5).toInt ∧ (G80 0 5).toInt ≤ 1000 := hI81 0 5
      have b85 : (0 : Int) ≤ (G80 0 4).toInt ∧ (G80 0 4).toInt ≤ 1000 := hI81 0 4
      have q86 : ((G80 0 5).toInt ≤ (G 0 3).toInt ∧ (G 0 5).toInt ≤ (G80 0 4).toInt ∧ (G80 0 4).toInt ≤ (G80 0 5).toInt) := by have h9 := hp83.1; (try simp only [(show G72 0 3 = (G 0 3) from hU74 0 3 (by decide)), (show G72 0 5 = (G 0 5) from hU74 0 5 (by decide))] at h9); first | exact h9 | omega
      have b87 : (0 : Int) ≤ (G80 0 6).toInt ∧ (G80 0 6).toInt ≤ 4 := hI81 0 6
      have q88 : (((G80 0 6).toInt = 0 ∧ (G80 0 4).toInt = (G 0 3).toInt) ∨ ((G80 0 6).toInt ≠ 0 ∧ (G80 0 4).toInt < (G80 0 5).toInt)) := by have h9 := hp83.2.1; (try simp only [(show G72 0 3 = (G 0 3) from hU74 0 3 (by decide))] at h9); first | exact h9 | omega
      have b89 : (0 : Int) ≤ (G80 0 7).toInt ∧ (G80 0 7).toInt ≤ 9999 := hI81 0 7
      have q90 : tTok (G 2) (G 0 3).toInt (G 0 5).toInt (G80 0 6).toInt (G80 0 4).toInt (G80 0 7).toInt (G80 0 5).toInt := by have h9 := hp83.2.2; (try simp only [(show G72 0 3 = (G 0 3) from hU74 0 3 (by decide)), (show G72 0 5 = (G 0 5) from hU74 0 5 (by decide)), (show G72 2 = (G 2) from (show G72 2 = G 2 from funext fun k_ => hU74 2 k_ (show (200 : Nat) ∉ ([9, 10] : List Nat) by decide)))] at h9); first | exact h9 | omega
      clear hp83 hw79
      refine g_iload_n F 0 dX13_readFactor_39 rfl rfl ?_
      refine v_if_eq F 60 dX13_readFactor_40 (by decide) 0 rfl (fun c91 => ?_) (fun c91 => absurd c91 (by decide))
      refine g_aload_n F 1 dX13_readFactor_60 rfl rfl ?_
      refine g_iload_n F 2 dX13_readFactor_61 rfl rfl ?_
      refine g_iconst F 1 dX13_readFactor_62 (by decide) ?_
      refine g_iadd F dX13_readFactor_63 ?_
      refine g_fold 4 (by decide) ?_
      refine uxz_callvv (k := 0) (n := 0) (b := a 0) (As := [.int 4]) (st := []) F yZ_st hZ (fun sz => S_X13_readSum_v4 l D K a G80 qs vs  (by have e9_0_3 : G80 0 3 = (G 0 3) := (hU82 0 3 (by decide)).trans (hU74 0 3 (by decide)); (try simp only [e9_0_3, true_and, and_true]) <;> (first | omega | (simp only [Int32.reduceToInt, true_and, and_true, ne_eq, not_true_eq_false, false_and, or_false, false_or, true_or, or_true, false_implies] <;> omega))) (by have e9_0_20 : G80 0 20 = (G 0 20) := (hU82 0 20 (by decide)).trans (hU74 0 20 (by decide)); (try simp only [e9_0_20, true_and, and_true]) <;> (first | omega | (simp only [Int32.reduceToInt, true_and, and_true, ne_eq, not_true_eq_false, false_and, or_false, false_or, true_or, or_true, false_implies] <;> omega))) (by rw [show G80 0 20 = G 0 20 from (hU82 0 20 (by decide)).trans (hU74 0 20 (by decide))]; exact (y_m6 m6 (show gu_un ycd [5, 6, 7, 8, 9, 10] G G80 from (gu_un.tr (gu_un.tr gu_un.rf (gu_un.su hU74 rfl)) (gu_un.su hU82 rfl))) rfl rfl)) hI81 sz) (cwV 1 hts gT_X13_readFactor_X13_readSum rfl rfl rfl (by decide +kernel) ⟨Nat.le_of_ble_eq_true rfl, Nat.le_of_ble_eq_true rfl⟩) rfl 0 yc_0 rfl (Nat.le_of_ble_eq_true rfl) ⟨Nat.zero_le _, Nat.zero_le _⟩ dX13_readFactor_64 hex hA hQ (fun u9 h9 => ⟨h9.1, gu_un.tr (gu_un.tr (gu_un.tr gu_un.rf (gu_un.su hU74 rfl)) (gu_un.su hU82 rfl)) (gu_un.su h9.2.1 rfl), (yKp.tr (yKp.un yKp.rf (show gu_un ycd [5, 6, 7, 8, 9, 10] G G80 from (gu_un.tr (gu_un.tr gu_un.rf (gu_un.su hU74 rfl)) (gu_un.su hU82 rfl))) rfl) h9.2.2.1), (by have h9 := h9.2.2.2.1; (try rw [show G80 0 20 = (G 0 20) from (hU82 0 20 (by decide)).trans (hU74 0 20 (by decide))] at h9); (try rw [show G80 0 21 = (G 0 21) from (hU82 0 21 (by decide)).trans (hU74 0 21 (by decide))] at h9); rw [show mL (G 0 20).toInt G80 = mL (G 0 20).toInt G from (mL_un (show gu_un ycd [5, 6, 7, 8, 9, 10] G G80 from (gu_un.tr (gu_un.tr gu_un.rf (gu_un.su hU74 rfl)) (gu_un.su hU82 rfl))) rfl)] at h9; exact yF_sumT (yF_open (o' := 4) (show yStp [9, 10] G G72 G80 from ⟨(show gu_un ycd [9, 10] G G72 from (gu_un.tr gu_un.rf (gu_un.su hU74 rfl))), rfl, by (try rw [show G72 2 = (G 2) from (show G72 2 = G 2 from funext fun k_ => hU74 2 k_ (show (200 : Nat) ∉ ([9, 10] : List Nat) by decide))]); (try rw [show G72 0 3 = (G 0 3) from hU74 0 3 (by decide)]); (try rw [show G72 0 5 = (G 0 5) from hU74 0 5 (by decide)]); exact q90, funext fun k_ => hU82 2 k_ (by simp [ycd]), hU82 0 3 (by decide)⟩) (by omega) (by omega) (by decide) (by decide)) h9), (h9.2.2.2.2)⟩) (fun G94 hw93 => ?_)
      have hI95 : yI G94 := hw93.1
      have hU96 : gu_un ycd [5, 6, 7, 8, 9, 10, 22, 1000, 1100, 1200] G80 G94 := hw93.2.1
      have hp97 := hw93.2.2
      have b98 : (0 : Int) ≤ (G94 0 5).toInt ∧ (G94 0 5).toInt ≤ 1000 := hI95 0 5
      have b99 : (0 : Int) ≤ (G94 0 6).toInt ∧ (G94 0 6).toInt ≤ 4 := hI95 0 6
      have q100 : ((G94 0 5).toInt ≤ (G 0 3).toInt ∧ (G80 0 5).toInt ≤ (G94 0 5).toInt ∧ ((G94 0 6).toInt = 0 ∨ (G80 0 5).toInt < (G94 0 5).toInt)) := by have h9 := hp97.1; (try simp only [(show G80 0 3 = (G 0 3) from (hU82 0 3 (by decide)).trans (hU74 0 3 (by decide)))] at h9); first | exact h9 | omega
      have q101 : ySg 2 (G 0 20).toInt G80 G94 := by have h9 := hp97.2.1; (try simp only [(show G80 0 20 = (G 0 20) from (hU82 0 20 (by decide)).trans (hU74 0 20 (by decide)))] at h9); first | exact h9 | omega
      have q102 : yKp G80 G94 := hp97.2.2.1
      have b103 : (0 : Int) ≤ (G94 0 21).toInt ∧ (G94 0 21).toInt ≤ 12 := hI95 0 21
      have q104 : ySim cS ((G 0 20).toInt - 3).toNat (qW 4 (G 0 21).toInt (mL (G 0 20).toInt G80)) (qD 4 (G94 0 21).toInt (mL (G 0 20).toInt G94)) G80 G94 := by have h9 := hp97.2.2.2.1; (try simp only [(show G80 0 20 = (G 0 20) from (hU82 0 20 (by decide)).trans (hU74 0 20 (by decide))), (show G80 0 21 = (G 0 21) from (hU82 0 21 (by decide)).trans (hU74 0 21 (by decide))), (show G80 0 20 = (G 0 20) from (hU82 0 20 (by decide)).trans (hU74 0 20 (by decide))), (show G80 0 20 = (G 0 20) from (hU82 0 20 (by decide)).trans (hU74 0 20 (by decide)))] at h9); first | exact h9 | omega
      have b105 : (0 : Int) ≤ (G94 0 7).toInt ∧ (G94 0 7).toInt ≤ 9999 := hI95 0 7
      have q106 : ((G94 0 6).toInt ≠ 3 ∨ xsg (G94 0 7).toInt = 0) := hp97.2.2.2.2.1
      have q107 : yFf G80 G94 := hp97.2.2.2.2.2
      have kp108 : yKp G G94 := yKp.tr (yKp.un yKp.rf (show gu_un ycd [5, 6, 7, 8, 9, 10] G G80 from (gu_un.tr (gu_un.tr gu_un.rf (gu_un.su hU74 rfl)) (gu_un.su hU82 rfl))) rfl) q102
      have sg109 : ySg 2 (G 0 20).toInt G G94 := ySg.un0 q101 (show gu_un ycd [5, 6, 7, 8, 9, 10] G G80 from (gu_un.tr (gu_un.tr gu_un.rf (gu_un.su hU74 rfl)) (gu_un.su hU82 rfl))) rfl rfl
      clear hp97 hw93
      refine g_aload_n F 1 dX13_readFactor_67 rfl rfl ?_
      refine g_aload_n F 1 dX13_readFactor_68 rfl rfl ?_
      refine g_bipush F 41 dX13_readFactor_69 (by decide) ?_
      refine u_callVi (k := 0) (n := 0) (b := a 0) (As := [.int 41]) (st := [.ref (a 0)]) F (fun sz => S_X13_isSign l D K a G94 41 41 rfl hI95 sz) (cwV 1 hts (gT_left gX13_readFactor_X13_isSign) rfl rfl rfl (by decide +kernel) ⟨Nat.le_of_ble_eq_true rfl, Nat.le_of_ble_eq_true rfl⟩) rfl 0 yc_0 rfl (Nat.le_of_ble_eq_true rfl) ⟨Nat.zero_le _, Nat.zero_le _⟩ dX13_readFactor_71 (fun r110 _ hw111 => ?_)
      rcases hw111 with ⟨rfl, q113⟩ | ⟨rfl, q114⟩
      · have q113 : ((G94 0 6).toInt = 3 ∧ (G94 0 7).toInt = (41 : Int)) := q113
        refine g_iconst F 1 dX13_readFactor_74 (by decide) ?_
        refine ux_callvv (k := 0) (n := 0) (b := a 0) (As := [.int 1, .int 1]) (st := []) F (fun sz => S_X13_need l D K a G94 1 1 1 1 rfl (by decide) rfl hI95 sz) (cwV 2 hts gT_X13_readFactor_X13_need rfl rfl rfl (by decide +kernel) ⟨Nat.le_of_ble_eq_true rfl, Nat.le_of_ble_eq_true rfl⟩) rfl 0 yc_0 rfl (Nat.le_of_ble_eq_true rfl) ⟨Nat.zero_le _, Nat.zero_le _⟩ dX13_readFactor_75 hex hA hQ (fun u9 h9 => ⟨h9.1, gu_un.tr (gu_un.tr (gu_un.tr (gu_un.tr gu_un.rf (gu_un.su hU74 rfl)) (gu_un.su hU82 rfl)) (gu_un.su hU96 rfl)) (gu_un.su h9.2.1 rfl), (yKp.un kp108 h9.2.1 rfl), (absurd h9.2.2.1 (by decide)), (absurd h9.2.2.1 (by decide))⟩) (fun G117 hw116 => ?_)
        have hI118 : yI G117 := hw116.1
        have hU119 : gu_un ycd [9, 10] G94 G117 := hw116.2.1
        have hp120 := hw116.2.2
        have q121 : ((1 : Int) ≠ 0) := hp120.1
        have q122 : yFf G94 G117 := hp120.2
        clear hp120 hw116
        refine g_aload_n F 1 dX13_readFactor_78 rfl rfl ?_
        refine u_callVv (k := 0) (n := 0) (b := a 0) (As := []) (st := []) F (fun sz => S_X13_scan l D K a G117  (by have e9_0_3 : G117 0 3 = (G 0 3) := (hU119 0 3 (by decide)).trans ((hU96 0 3 (by decide)).trans ((hU82 0 3 (by decide)).trans (hU74 0 3 (by decide)))); have e9_0_5 : G117 0 5 = (G94 0 5) := hU119 0 5 (by decide); (try simp only [e9_0_3, e9_0_5, true_and, and_true]) <;> (first | omega | (simp only [Int32.reduceToInt, true_and, and_true, ne_eq, not_true_eq_false, false_and, or_false, false_or, true_or, or_true, false_implies] <;> omega))) hI118 sz) (cwV 0 hts (gT_left gX13_readFactor_X13_scan) rfl rfl rfl (by decide +kernel) ⟨Nat.le_of_ble_eq_true rfl, Nat.le_of_ble_eq_true rfl⟩) rfl 0 yc_0 rfl (Nat.le_of_ble_eq_true rfl) ⟨Nat.zero_le _, Nat.zero_le _⟩ dX13_readFactor_79 (fun G125 hw124 => ?_)
        have hI126 : yI G125 := hw124.1
        have hU127 : gu_un ycd [5, 6, 7, 8] G117 G125 := hw124.2.1
        have hp128 := hw124.2.2
        have b129 : (0 : Int) ≤ (G125 0 5).toInt ∧ (G125 0 5).toInt ≤ 1000 := hI126 0 5
        have b130 : (0 : Int) ≤ (G125 0 4).toInt ∧ (G125 0 4).toInt ≤ 1000 := hI126 0 4
        have q131 : ((G125 0 5).toInt ≤ (G 0 3).toInt ∧ (G94 0 5).toInt ≤ (G125 0 4).toInt ∧ (G125 0 4).toInt ≤ (G125 0 5).toInt) := by have h9 := hp128.1; (try simp only [(show G117 0 3 = (G 0 3) from (hU119 0 3 (by decide)).trans ((hU96 0 3 (by decide)).trans ((hU82 0 3 (by decide)).trans (hU74 0 3 (by decide))))), (show G117 0 5 = (G94 0 5) from hU119 0 5 (by decide))] at h9); first | exact h9 | omega
        have b132 : (0 : Int) ≤ (G125 0 6).toInt ∧ (G125 0 6).toInt ≤ 4 := hI126 0 6
        have q133 : (((G125 0 6).toInt = 0 ∧ (G125 0 4).toInt = (G 0 3).toInt) ∨ ((G125 0 6).toInt ≠ 0 ∧ (G125 0 4).toInt < (G125 0 5).toInt)) := by have h9 := hp128.2.1; (try simp only [(show G117 0 3 = (G 0 3) from (hU119 0 3 (by decide)).trans ((hU96 0 3 (by decide)).trans ((hU82 0 3 (by decide)).trans (hU74 0 3 (by decide)))))] at h9); first | exact h9 | omega
        have b134 : (0 : Int) ≤ (G125 0 7).toInt ∧ (G125 0 7).toInt ≤ 9999 := hI126 0 7
        have q135 : tTok (G 2) (G 0 3).toInt (G94 0 5).toInt (G125 0 6).toInt (G125 0 4).toInt (G125 0 7).toInt (G125 0 5).toInt := by have h9 := hp128.2.2; (try simp only [(show G117 0 3 = (G 0 3) from (hU119 0 3 (by decide)).trans ((hU96 0 3 (by decide)).trans ((hU82 0 3 (by decide)).trans (hU74 0 3 (by decide))))), (show G117 0 5 = (G94 0 5) from hU119 0 5 (by decide)), (show G117 2 = (G 2) from (show G117 2 = G94 2 from funext fun k_ => hU119 2 k_ (show (200 : Nat) ∉ ([9, 10] : List Nat) by decide)).trans ((show G94 2 = G80 2 from funext fun k_ => hU96 2 k_ (show (200 : Nat) ∉ ([5, 6, 7, 8, 9, 10, 22, 1000, 1100, 1200] : List Nat) by decide)).trans ((show G80 2 = G72 2 from funext fun k_ => hU82 2 k_ (show (200 : Nat) ∉ ([5, 6, 7, 8] : List Nat) by decide)).trans ((show G72 2 = G 2 from funext fun k_ => hU74 2 k_ (show (200 : Nat) ∉ ([9, 10] : List Nat) by decide))))))] at h9); first | exact h9 | omega
        clear hp128 hw124
        exact ux_vret F hA hQ hr G125 (⟨hI126, (gu_un.tr (gu_un.tr (gu_un.tr (gu_un.tr (gu_un.tr gu_un.rf (gu_un.su hU74 rfl)) (gu_un.su hU82 rfl)) (gu_un.su hU96 rfl)) (gu_un.su hU119 rfl)) (gu_un.su hU127 rfl)), (by show ((G125 0 5).toInt ≤ (G 0 3).toInt ∧ (G 0 5).toInt ≤ (G125 0 5).toInt ∧ ((G125 0 6).toInt = 0 ∨ (G 0 5).toInt < (G125 0 5).toInt)); (first | omega | (simp only [Int32.reduceToInt, true_and, and_true, ne_eq, not_true_eq_false, false_and, or_false, false_or, true_or, or_true, false_implies] <;> omega))), (((sg109.un (show gu_un ycd [5, 6, 7, 8, 9, 10] G94 G125 from (gu_un.tr (gu_un.tr gu_un.rf (gu_un.su hU119 rfl)) (gu_un.su hU127 rfl))) rfl rfl)).up (by decide) (by decide)), ((yKp.un kp108 (show gu_un ycd [5, 6, 7, 8, 9, 10] G94 G125 from (gu_un.tr (gu_un.tr gu_un.rf (gu_un.su hU119 rfl)) (gu_un.su hU127 rfl))) rfl)), (yF_close (yF_sum (yF_open (o' := 4) (show yStp [9, 10] G G72 G80 from ⟨(show gu_un ycd [9, 10] G G72 from (gu_un.tr gu_un.rf (gu_un.su hU74 rfl))), rfl, by (try rw [show G72 2 = (G 2) from (show G72 2 = G 2 from funext fun k_ => hU74 2 k_ (show (200 : Nat) ∉ ([9, 10] : List Nat) by decide))]); (try rw [show G72 0 3 = (G 0 3) from hU74 0 3 (by decide)]); (try rw [show G72 0 5 = (G 0 5) from hU74 0 5 (by decide)]); exact q90, funext fun k_ => hU82 2 k_ (by simp [ycd]), hU82 0 3 (by decide)⟩) (by omega) (by omega) (by decide) (by decide)) (by have h9 := q104; rw [show mL (G 0 20).toInt G80 = mL (G 0 20).toInt G from (mL_un (show gu_un ycd [5, 6, 7, 8, 9, 10] G G80 from (gu_un.tr (gu_un.tr gu_un.rf (gu_un.su hU74 rfl)) (gu_un.su hU82 rfl))) rfl)] at h9; exact h9)) (by decide) (show yStp [9, 10] G94 G117 G125 from ⟨(show gu_un ycd [9, 10] G94 G117 from (gu_un.tr gu_un.rf (gu_un.su hU119 rfl))), rfl, by (try rw [show G117 2 = (G 2) from (show G117 2 = G94 2 from funext fun k_ => hU119 2 k_ (show (200 : Nat) ∉ ([9, 10] : List Nat) by decide)).trans ((show G94 2 = G80 2 from funext fun k_ => hU96 2 k_ (show (200 : Nat) ∉ ([5, 6, 7, 8, 9, 10, 22, 1000, 1100, 1200] : List Nat) by decide)).trans ((show G80 2 = G72 2 from funext fun k_ => hU82 2 k_ (show (200 : Nat) ∉ ([5, 6, 7, 8] : List Nat) by decide)).trans ((show G72 2 = G 2 from funext fun k_ => hU74 2 k_ (show (200 : Nat) ∉ ([9, 10] : List Nat) by decide)))))]); (try rw [show G117 0 3 = (G 0 3) from (hU119 0 3 (by decide)).trans ((hU96 0 3 (by decide)).trans ((hU82 0 3 (by decide)).trans (hU74 0 3 (by decide))))]); (try rw [show G117 0 5 = (G94 0 5) from hU119 0 5 (by decide)]); exact q135, funext fun k_ => hU127 2 k_ (by simp [ycd]), hU127 0 3 (by decide)⟩) (by omega) (by omega) (mL_un (show gu_un ycd [5, 6, 7, 8, 9, 10] G94 G125 from (gu_un.tr (gu_un.tr gu_un.rf (gu_un.su hU119 rfl)) (gu_un.su hU127 rfl))) rfl) (congrArg Int32.toInt (show G125 0 21 = (G94 0 21) from (hU127 0 21 (by decide)).trans (hU119 0 21 (by decide))))), ((yFf.tr (show yFf G G117 from (yFf.tr (show yFf G G94 from (yFf.tr (show yFf G G80 from (yFf.tr (show yFf G G72 from (yFf.tr (show yFf G G from yFf.rf) q77)) (show yFf _ G80 from yFf.un hU82 rfl))) q107)) q122)) (show yFf _ G125 from yFf.un hU127 rfl)))⟩) rfl rfl dX13_readFactor_82
      · have q114 : ((G94 0 6).toInt ≠ 3 ∨ (G94 0 7).toInt ≠ (41 : Int)) := q114
        refine g_iconst F 1 dX13_readFactor_74 (by decide) ?_
        refine ux_callvv (k := 0) (n := 0) (b := a 0) (As := [.int 0, .int 1]) (st := []) F (fun sz => S_X13_need l D K a G94 0 0 1 1 rfl (by decide) rfl hI95 sz) (cwV 2 hts gT_X13_readFactor_X13_need rfl rfl rfl (by decide +kernel) ⟨Nat.le_of_ble_eq_true rfl, Nat.le_of_ble_eq_true rfl⟩) rfl 0 yc_0 rfl (Nat.le_of_ble_eq_true rfl) ⟨Nat.zero_le _, Nat.zero_le _⟩ dX13_readFactor_75 hex hA hQ (fun u9 h9 => ⟨h9.1, gu_un.tr (gu_un.tr (gu_un.tr (gu_un.tr gu_un.rf (gu_un.su hU74 rfl)) (gu_un.su hU82 rfl)) (gu_un.su hU96 rfl)) (gu_un.su h9.2.1 rfl), (yKp.un kp108 h9.2.1 rfl), (yF_off (yF_sum (yF_open (o' := 4) (show yStp [9, 10] G G72 G80 from ⟨(show gu_un ycd [9, 10] G G72 from (gu_un.tr gu_un.rf (gu_un.su hU74 rfl))), rfl, by (try rw [show G72 2 = (G 2) from (show G72 2 = G 2 from funext fun k_ => hU74 2 k_ (show (200 : Nat) ∉ ([9, 10] : List Nat) by decide))]); (try rw [show G72 0 3 = (G 0 3) from hU74 0 3 (by decide)]); (try rw [show G72 0 5 = (G 0 5) from hU74 0 5 (by decide)]); exact q90, funext fun k_ => hU82 2 k_ (by simp [ycd]), hU82 0 3 (by decide)⟩) (by omega) (by omega) (by decide) (by decide)) (by have h9 := q104; rw [show mL (G 0 20).toInt G80 = mL (G 0 20).toInt G from (mL_un (show gu_un ycd [5, 6, 7, 8, 9, 10] G G80 from (gu_un.tr (gu_un.tr gu_un.rf (gu_un.su hU74 rfl)) (gu_un.su hU82 rfl))) rfl)] at h9; exact h9)) (show gu_un ycd [] G94 G94 from gu_un.rf) rfl h9.2.2.2.1 h9.2.2.2.2 (by omega) (by have h7 := q106; omega)), (by have h9 := h9.2.2.2.1; omega)⟩) (fun G138 hw137 => ?_)
        have hI139 : yI G138 := hw137.1
        have hU140 : gu_un ycd [9, 10] G94 G138 := hw137.2.1
        have hp141 := hw137.2.2
        have q142 : ((0 : Int) ≠ 0) := hp141.1
        have q143 : yFf G94 G138 := hp141.2
        exfalso; omega
    · have q67 : ((G 0 6).toInt ≠ 3 ∨ (G 0 7).toInt ≠ (40 : Int)) := q67
      refine v_if_eq F 83 dX13_readFactor_17 (by decide) 0 rfl (fun c144 => ?_) (fun c144 => absurd c144 (by decide))
      refine g_aload_n F 1 dX13_readFactor_83 rfl rfl ?_
      refine uz_callVi (k := 0) (n := 0) (b := a 0) (As := []) (st := []) F yZ_st hZ (fun sz => S_X13_letterAtHand l D K a G qs vs  (by (first | omega | (simp only [Int32.reduceToInt, true_and, and_true, ne_eq, not_true_eq_false, false_and, or_false, false_or, true_or, or_true, false_implies] <;> omega))) hI sz) (cwV 0 hts (gT_left gX13_readFactor_X13_letterAtHand) rfl rfl rfl (by decide +kernel) ⟨Nat.le_of_ble_eq_true rfl, Nat.le_of_ble_eq_true rfl⟩) rfl 0 yc_0 rfl (Nat.le_of_ble_eq_true rfl) ⟨Nat.zero_le _, Nat.zero_le _⟩ dX13_readFactor_84 (fun r145 _ hw146 => ?_)
      have q148 : (r145.toInt = yLt ((G 0 20).toInt - 3) G) := hw146.2
      have rg149 := hw146.1
      clear hw146
      refine g_istore_n F [(3, .int r145), (2, .int 0), (0, .ref (a 0)), (1, .int 3)] dX13_readFactor_87 rfl (by decide) rfl ?_
      refine g_aload_n F 2 dX13_readFactor_88 rfl rfl ?_
      refine g_iload_n F 0 dX13_readFactor_89 rfl rfl ?_
      refine g_iconst F (-1) dX13_readFactor_90 (by decide) ?_
      refine v_icmp_ne F 102 dX13_readFactor_91 (by decide) r145.toInt (-1) rfl rfl (fun c150 => ?_) (fun c150 => ?_)
      · refine g_iconst F 1 dX13_readFactor_102 (by decide) ?_
        refine g_goto F 107 dX13_readFactor_103 (by decide) ?_
        refine g_iconst F 1 dX13_readFactor_107 (by decide) ?_
        refine ux_callvv (k := 0) (n := 0) (b := a 0) (As := [.int 1, .int 1]) (st := []) F (fun sz => S_X13_need l D K a G 1 1 1 1 rfl (by decide) rfl hI sz) (cwV 2 hts gT_X13_readFactor_X13_need rfl rfl rfl (by decide +kernel) ⟨Nat.le_of_ble_eq_true rfl, Nat.le_of_ble_eq_true rfl⟩) rfl 0 yc_0 rfl (Nat.le_of_ble_eq_true rfl) ⟨Nat.zero_le _, Nat.zero_le _⟩ dX13_readFactor_108 hex hA hQ (fun u9 h9 => ⟨h9.1, gu_un.tr gu_un.rf (gu_un.su h9.2.1 rfl), (yKp.un yKp.rf h9.2.1 rfl), (absurd h9.2.2.1 (by decide)), (absurd h9.2.2.1 (by decide))⟩) (fun G153 hw152 => ?_)
        have hI154 : yI G153 := hw152.1
        have hU155 : gu_un ycd [9, 10] G G153 := hw152.2.1
        have hp156 := hw152.2.2
        have q157 : ((1 : Int) ≠ 0) := hp156.1
        have q158 : yFf G G153 := hp156.2
        clear hp156 hw152
        refine g_aload_n F 2 dX13_readFactor_111 rfl rfl ?_
        refine g_aload_n F 2 dX13_readFactor_112 rfl rfl ?_
        refine yg_0_21 F i_X13 w_0 dX13_readFactor_113 (G 0 21) (hU155 0 21 (by decide)) ?_
        refine g_bipush F 12 dX13_readFactor_116 (by decide) ?_
        refine v_icmp_ge F 125 dX13_readFactor_118 (by decide) (G 0 21).toInt 12 rfl rfl (fun c159 => ?_) (fun c159 => ?_)
        · refine g_iconst F 0 dX13_readFactor_125 (by decide) ?_
          refine g_iconst F 4 dX13_readFactor_126 (by decide) ?_
          refine ux_callvv (k := 0) (n := 0) (b := a 0) (As := [.int 0, .int 4]) (st := []) F (fun sz => S_X13_need l D K a G153 0 0 4 4 rfl (by decide) rfl hI154 sz) (cwV 2 hts gT_X13_readFactor_X13_need rfl rfl rfl (by decide +kernel) ⟨Nat.le_of_ble_eq_true rfl, Nat.le_of_ble_eq_true rfl⟩) rfl 0 yc_0 rfl (Nat.le_of_ble_eq_true rfl) ⟨Nat.zero_le _, Nat.zero_le _⟩ dX13_readFactor_127 hex hA hQ (fun u9 h9 => ⟨h9.1, gu_un.tr (gu_un.tr gu_un.rf (gu_un.su hU155 rfl)) (gu_un.su h9.2.1 rfl), (yKp.un (yKp.un yKp.rf (show gu_un ycd [9, 10] G G153 from (gu_un.tr gu_un.rf (gu_un.su hU155 rfl))) rfl) h9.2.1 rfl), (by have h8 := q148; exact yF_many (show (((((G 0 20).toInt - 3).toNat : Nat)) : Int) = (G 0 20).toInt - 3 by omega) (show gu_un ycd [9, 10] G G153 from (gu_un.tr gu_un.rf (gu_un.su hU155 rfl))) rfl (by first | exact Or.inl (by omega) | exact Or.inr ⟨by unfold yLt at h8; split at h8 <;> omega, by rw [← q148]; omega⟩) (by omega) h9.2.2.2.1 h9.2.2.2.2), (by have h9 := h9.2.2.2.1; omega)⟩) (fun G162 hw161 => ?_)
          have hI163 : yI G162 := hw161.1
          have hU164 : gu_un ycd [9, 10] G153 G162 := hw161.2.1
          have hp165 := hw161.2.2
          have q166 : ((0 : Int) ≠ 0) := hp165.1
          have q167 : yFf G153 G162 := hp165.2
          exfalso; omega
        · refine g_iconst F 1 dX13_readFactor_121 (by decide) ?_
          refine g_goto F 126 dX13_readFactor_122 (by decide) ?_
          refine g_iconst F 4 dX13_readFactor_126 (by decide) ?_
          refine ux_callvv (k := 0) (n := 0) (b := a 0) (As := [.int 1, .int 4]) (st := []) F (fun sz => S_X13_need l D K a G153 1 1 4 4 rfl (by decide) rfl hI154 sz) (cwV 2 hts gT_X13_readFactor_X13_need rfl rfl rfl (by decide +kernel) ⟨Nat.le_of_ble_eq_true rfl, Nat.le_of_ble_eq_true rfl⟩) rfl 0 yc_0 rfl (Nat.le_of_ble_eq_true rfl) ⟨Nat.zero_le _, Nat.zero_le _⟩ dX13_readFactor_127 hex hA hQ (fun u9 h9 => ⟨h9.1, gu_un.tr (gu_un.tr gu_un.rf (gu_un.su hU155 rfl)) (gu_un.su h9.2.1 rfl), (yKp.un (yKp.un yKp.rf (show gu_un ycd [9, 10] G G153 from (gu_un.tr gu_un.rf (gu_un.su hU155 rfl))) rfl) h9.2.1 rfl), (absurd h9.2.2.1 (by decide)), (absurd h9.2.2.1 (by decide))⟩) (fun G170 hw169 => ?_)
          have hI171 : yI G170 := hw169.1
          have hU172 : gu_un ycd [9, 10] G153 G170 := hw169.2.1
          have hp173 := hw169.2.2
          have q174 : ((1 : Int) ≠ 0) := hp173.1
          have q175 : yFf G153 G170 := hp173.2
          clear hp173 hw169
          refine g_aload_n F 2 dX13_readFactor_130 rfl rfl ?_
          refine g_dup F dX13_readFactor_131 rfl ?_
          refine yg_0_21 F i_X13 w_0 dX13_readFactor_132 (G 0 21) ((hU172 0 21 (by decide)).trans (hU155 0 21 (by decide))) ?_
          refine g_iconst F 1 dX13_readFactor_135 (by decide) ?_
          refine u_iadd F dX13_readFactor_136 (G 0 21).toInt 1 rfl rfl (by omega) (by omega) (fun y176 ey176 => ?_)
          refine yp_0_21 F i_X13 w_0 dX13_readFactor_137 ?_
          refine g_aload_n F 2 dX13_readFactor_140 rfl rfl ?_
          refine g_iload_n F 0 dX13_readFactor_141 rfl rfl ?_
          refine g_iconst F (-1) dX13_readFactor_142 (by decide) ?_
          refine v_icmp_ne F 150 dX13_readFactor_143 (by decide) r145.toInt (-1) rfl rfl (fun c177 => ?_) (fun c177 => absurd c177 (by omega))
          refine g_iconst F 1 dX13_readFactor_150 (by decide) ?_
          refine g_iload_n F 0 dX13_readFactor_151 rfl rfl ?_
          refine g_iconst F (-1) dX13_readFactor_152 (by decide) ?_
          refine v_icmp_ne F 163 dX13_readFactor_153 (by decide) r145.toInt (-1) rfl rfl (fun c178 => ?_) (fun c178 => absurd c178 (by omega))
          refine g_iload_n F 0 dX13_readFactor_163 rfl rfl ?_
          refine u_callVv (k := 0) (n := 0) (b := a 0) (As := [.int 1, .int r145]) (st := []) F (fun sz => S_X13_mark l D K a (gu_up G170 0 21 y176) 1 1 r145 r145.toInt rfl (by decide) rfl (by omega) (by rw [show (gu_up G170 0 21 y176) 0 20 = G 0 20 from (hU172 0 20 (by decide)).trans (hU155 0 20 (by decide))]; have h9 : (G170 12 ((G 0 20).toInt).toNat).toInt ≤ 6 * (G170 0 21).toInt := (y_m6 m6 (show gu_un ycd [9, 10] G G170 from (gu_un.tr (gu_un.tr gu_un.rf (gu_un.su hU155 rfl)) (gu_un.su hU172 rfl))) rfl rfl); have h8 : (0 : Int) ≤ (G170 0 21).toInt ∧ (G170 0 21).toInt ≤ 12 := hI171 0 21; show (G170 12 ((G 0 20).toInt).toNat).toInt ≤ 79; omega) (gu_I.up (j := 0) (k := 21) (v := y176) hI171 (show (0 : Int) ≤ Int32.toInt y176 by omega) (show Int32.toInt y176 ≤ 12 by omega)) sz) (cwV 2 hts (gT_left gX13_readFactor_X13_mark) rfl rfl rfl (by decide +kernel) ⟨Nat.le_of_ble_eq_true rfl, Nat.le_of_ble_eq_true rfl⟩) rfl 0 yc_0 rfl (Nat.le_of_ble_eq_true rfl) ⟨Nat.zero_le _, Nat.zero_le _⟩ dX13_readFactor_164 (fun G181 hw180 => ?_)
          have hI182 : yI G181 := hw180.1
          have hU183 : gu_un ycd [1000, 1100, 1200] (gu_up G170 0 21 y176) G181 := hw180.2.1
          have hp184 := hw180.2.2
          have q185 : yMk 1 r145 (G 0 20).toInt (gu_up G170 0 21 y176) G181 := by have h9 := hp184; (try simp only [(show (gu_up G170 0 21 y176) 0 20 = (G 0 20) from (hU172 0 20 (by decide)).trans (hU155 0 20 (by decide)))] at h9); first | exact h9 | omega
          have m0 : 0 ≤ (G 12 ((G 0 20).toInt).toNat).toInt := (show (0 : Int) ≤ (G 12 ((G 0 20).toInt).toNat).toInt ∧ (G 12 ((G 0 20).toInt).toNat).toInt ≤ 80 from hI 12 _).1
          have m1 : 0 ≤ ((gu_up G170 0 21 y176) 12 ((G 0 20).toInt).toNat).toInt := (show (0 : Int) ≤ (G170 12 ((G 0 20).toInt).toNat).toInt ∧ (G170 12 ((G 0 20).toInt).toNat).toInt ≤ 80 from hI171 12 _).1
          have kp186 : yKp G G181 := yKp.tr (yKp.un yKp.rf (show gu_un ycd [9, 10, 22] G (gu_up G170 0 21 y176) from (gu_un.up (j := 0) (k := 21) (v := y176) (gu_un.tr (gu_un.tr gu_un.rf (gu_un.su hU155 rfl)) (gu_un.su hU172 rfl)) (show (22 : Nat) ∈ ([9, 10, 22] : List Nat) by decide))) rfl) (q185.kp (by omega) m1)
          have sg187 : ySg 3 (G 0 20).toInt G G181 := yMk.leaf q185 (by first | decide | omega) (by decide) (by omega) (show (gu_up G170 0 21 y176) 10 = G 10 from (show G170 10 = G153 10 from funext fun k_ => hU172 10 k_ (show (1000 : Nat) ∉ ([9, 10] : List Nat) by decide)).trans ((show G153 10 = G 10 from funext fun k_ => hU155 10 k_ (show (1000 : Nat) ∉ ([9, 10] : List Nat) by decide)))) (show (gu_up G170 0 21 y176) 11 = G 11 from (show G170 11 = G153 11 from funext fun k_ => hU172 11 k_ (show (1100 : Nat) ∉ ([9, 10] : List Nat) by decide)).trans ((show G153 11 = G 11 from funext fun k_ => hU155 11 k_ (show (1100 : Nat) ∉ ([9, 10] : List Nat) by decide)))) (show (gu_up G170 0 21 y176) 12 = G 12 from (show G170 12 = G153 12 from funext fun k_ => hU172 12 k_ (show (1200 : Nat) ∉ ([9, 10] : List Nat) by decide)).trans ((show G153 12 = G 12 from funext fun k_ => hU155 12 k_ (show (1200 : Nat) ∉ ([9, 10] : List Nat) by decide)))) m0 (by omega) (show (y176 : Int32).toInt = _ by omega)
          clear hp184 hw180
          refine g_aload_n F 2 dX13_readFactor_167 rfl rfl ?_
          refine u_callVv (k := 0) (n := 0) (b := a 0) (As := []) (st := []) F (fun sz => S_X13_scan l D K a G181  (by have e9_0_3 : G181 0 3 = (G 0 3) := (hU183 0 3 (by decide)).trans ((hU172 0 3 (by decide)).trans (hU155 0 3 (by decide))); have e9_0_5 : G181 0 5 = (G 0 5) := (hU183 0 5 (by decide)).trans ((hU172 0 5 (by decide)).trans (hU155 0 5 (by decide))); (try simp only [e9_0_3, e9_0_5, true_and, and_true]) <;> (first | omega | (simp only [Int32.reduceToInt, true_and, and_true, ne_eq, not_true_eq_false, false_and, or_false, false_or, true_or, or_true, false_implies] <;> omega))) hI182 sz) (cwV 0 hts (gT_left gX13_readFactor_X13_scan) rfl rfl rfl (by decide +kernel) ⟨Nat.le_of_ble_eq_true rfl, Nat.le_of_ble_eq_true rfl⟩) rfl 0 yc_0 rfl (Nat.le_of_ble_eq_true rfl) ⟨Nat.zero_le _, Nat.zero_le _⟩ dX13_readFactor_168 (fun G190 hw189 => ?_)
          have hI191 : yI G190 := hw189.1
          have hU192 : gu_un ycd [5, 6, 7, 8] G181 G190 := hw189.2.1
          have hp193 := hw189.2.2
          have b194 : (0 : Int) ≤ (G190 0 5).toInt ∧ (G190 0 5).toInt ≤ 1000 := hI191 0 5
          have b195 : (0 : Int) ≤ (G190 0 4).toInt ∧ (G190 0 4).toInt ≤ 1000 := hI191 0 4
          have q196 : ((G190 0 5).toInt ≤ (G 0 3).toInt ∧ (G 0 5).toInt ≤ (G190 0 4).toInt ∧ (G190 0 4).toInt ≤ (G190 0 5).toInt) := by have h9 := hp193.1; (try simp only [(show G181 0 3 = (G 0 3) from (hU183 0 3 (by decide)).trans ((hU172 0 3 (by decide)).trans (hU155 0 3 (by decide)))), (show G181 0 5 = (G 0 5) from (hU183 0 5 (by decide)).trans ((hU172 0 5 (by decide)).trans (hU155 0 5 (by decide))))] at h9); first | exact h9 | omega
          have b197 : (0 : Int) ≤ (G190 0 6).toInt ∧ (G190 0 6).toInt ≤ 4 := hI191 0 6
          have q198 : (((G190 0 6).toInt = 0 ∧ (G190 0 4).toInt = (G 0 3).toInt) ∨ ((G190 0 6).toInt ≠ 0 ∧ (G190 0 4).toInt < (G190 0 5).toInt)) := by have h9 := hp193.2.1; (try simp only [(show G181 0 3 = (G 0 3) from (hU183 0 3 (by decide)).trans ((hU172 0 3 (by decide)).trans (hU155 0 3 (by decide))))] at h9); first | exact h9 | omega
          have b199 : (0 : Int) ≤ (G190 0 7).toInt ∧ (G190 0 7).toInt ≤ 9999 := hI191 0 7
          have q200 : tTok (G 2) (G 0 3).toInt (G 0 5).toInt (G190 0 6).toInt (G190 0 4).toInt (G190 0 7).toInt (G190 0 5).toInt := by have h9 := hp193.2.2; (try simp only [(show G181 0 3 = (G 0 3) from (hU183 0 3 (by decide)).trans ((hU172 0 3 (by decide)).trans (hU155 0 3 (by decide)))), (show G181 0 5 = (G 0 5) from (hU183 0 5 (by decide)).trans ((hU172 0 5 (by decide)).trans (hU155 0 5 (by decide)))), (show G181 2 = (G 2) from (show G181 2 = (gu_up G170 0 21 y176) 2 from funext fun k_ => hU183 2 k_ (show (200 : Nat) ∉ ([1000, 1100, 1200] : List Nat) by decide)).trans ((show G170 2 = G153 2 from funext fun k_ => hU172 2 k_ (show (200 : Nat) ∉ ([9, 10] : List Nat) by decide)).trans ((show G153 2 = G 2 from funext fun k_ => hU155 2 k_ (show (200 : Nat) ∉ ([9, 10] : List Nat) by decide)))))] at h9); first | exact h9 | omega
          clear hp193 hw189
          exact ux_vret F hA hQ hr G190 (⟨hI191, (gu_un.tr (gu_un.tr (gu_un.up (j := 0) (k := 21) (v := y176) (gu_un.tr (gu_un.tr gu_un.rf (gu_un.su hU155 rfl)) (gu_un.su hU172 rfl)) (show (22 : Nat) ∈ ([5, 6, 7, 8, 9, 10, 22, 1000, 1100, 1200] : List Nat) by decide)) (gu_un.su hU183 rfl)) (gu_un.su hU192 rfl)), (by show ((G190 0 5).toInt ≤ (G 0 3).toInt ∧ (G 0 5).toInt ≤ (G190 0 5).toInt ∧ ((G190 0 6).toInt = 0 ∨ (G 0 5).toInt < (G190 0 5).toInt)); (first | omega | (simp only [Int32.reduceToInt, true_and, and_true, ne_eq, not_true_eq_false, false_and, or_false, false_or, true_or, or_true, false_implies] <;> omega))), ((sg187.un (show gu_un ycd [5, 6, 7, 8] G181 G190 from (gu_un.tr gu_un.rf (gu_un.su hU192 rfl))) rfl rfl)), ((yKp.un kp186 (show gu_un ycd [5, 6, 7, 8] G181 G190 from (gu_un.tr gu_un.rf (gu_un.su hU192 rfl))) rfl)), (by have h8 := q148; first | exact yF_num (show yStp [9, 10, 22, 1000, 1100, 1200] G G181 G190 from ⟨(show gu_un ycd [9, 10, 22, 1000, 1100, 1200] G G181 from (gu_un.tr (gu_un.up (j := 0) (k := 21) (v := y176) (gu_un.tr (gu_un.tr gu_un.rf (gu_un.su hU155 rfl)) (gu_un.su hU172 rfl)) (show (22 : Nat) ∈ ([9, 10, 22, 1000, 1100, 1200] : List Nat) by decide)) (gu_un.su hU183 rfl))), rfl, by (try rw [show G181 2 = (G 2) from (show G181 2 = (gu_up G170 0 21 y176) 2 from funext fun k_ => hU183 2 k_ (show (200 : Nat) ∉ ([1000, 1100, 1200] : List Nat) by decide)).trans ((show G170 2 = G153 2 from funext fun k_ => hU172 2 k_ (show (200 : Nat) ∉ ([9, 10] : List Nat) by decide)).trans ((show G153 2 = G 2 from funext fun k_ => hU155 2 k_ (show (200 : Nat) ∉ ([9, 10] : List Nat) by decide))))]); (try rw [show G181 0 3 = (G 0 3) from (hU183 0 3 (by decide)).trans ((hU172 0 3 (by decide)).trans (hU155 0 3 (by decide)))]); (try rw [show G181 0 5 = (G 0 5) from (hU183 0 5 (by decide)).trans ((hU172 0 5 (by decide)).trans (hU155 0 5 (by decide)))]); exact q200, funext fun k_ => hU192 2 k_ (by simp [ycd]), hU192 0 3 (by decide)⟩) (by omega) (by omega) (show (G190 0 21).toInt = (G 0 21).toInt + 1 by rw [show G190 0 21 = y176 from (hU192 0 21 (by decide)).trans (hU183 0 21 (by decide))]; omega) (by rw [show mL (G 0 20).toInt G190 = mL (G 0 20).toInt G181 from (mL_un (show gu_un ycd [5, 6, 7, 8] G181 G190 from (gu_un.tr gu_un.rf (gu_un.su hU192 rfl))) rfl)]; rw [q185.ml (by omega) (show (0 : Int) ≤ (G170 12 ((G 0 20).toInt).toNat).toInt from (hI171 12 _).1), mEn_0 (by decide)] <;> (rw [show mL (G 0 20).toInt (gu_up G170 0 21 y176) = mL (G 0 20).toInt G from (mL_un (show gu_un ycd [9, 10, 22] G (gu_up G170 0 21 y176) from (gu_un.up (j := 0) (k := 21) (v := y176) (gu_un.tr (gu_un.tr gu_un.rf (gu_un.su hU155 rfl)) (gu_un.su hU172 rfl)) (show (22 : Nat) ∈ ([9, 10, 22] : List Nat) by decide))) rfl)])) | exact yF_let (show (((((G 0 20).toInt - 3).toNat : Nat)) : Int) = (G 0 20).toInt - 3 by omega) (show yStp [9, 10, 22, 1000, 1100, 1200] G G181 G190 from ⟨(show gu_un ycd [9, 10, 22, 1000, 1100, 1200] G G181 from (gu_un.tr (gu_un.up (j := 0) (k := 21) (v := y176) (gu_un.tr (gu_un.tr gu_un.rf (gu_un.su hU155 rfl)) (gu_un.su hU172 rfl)) (show (22 : Nat) ∈ ([9, 10, 22, 1000, 1100, 1200] : List Nat) by decide)) (gu_un.su hU183 rfl))), rfl, by (try rw [show G181 2 = (G 2) from (show G181 2 = (gu_up G170 0 21 y176) 2 from funext fun k_ => hU183 2 k_ (show (200 : Nat) ∉ ([1000, 1100, 1200] : List Nat) by decide)).trans ((show G170 2 = G153 2 from funext fun k_ => hU172 2 k_ (show (200 : Nat) ∉ ([9, 10] : List Nat) by decide)).trans ((show G153 2 = G 2 from funext fun k_ => hU155 2 k_ (show (200 : Nat) ∉ ([9, 10] : List Nat) by decide))))]); (try rw [show G181 0 3 = (G 0 3) from (hU183 0 3 (by decide)).trans ((hU172 0 3 (by decide)).trans (hU155 0 3 (by decide)))]); (try rw [show G181 0 5 = (G 0 5) from (hU183 0 5 (by decide)).trans ((hU172 0 5 (by decide)).trans (hU155 0 5 (by decide)))]); exact q200, funext fun k_ => hU192 2 k_ (by simp [ycd]), hU192 0 3 (by decide)⟩) (by unfold yLt at h8; split at h8 <;> omega) (by rw [← q148]; omega) (by omega) (show (G190 0 21).toInt = (G 0 21).toInt + 1 by rw [show G190 0 21 = y176 from (hU192 0 21 (by decide)).trans (hU183 0 21 (by decide))]; omega) (by rw [← q148]; exact (by rw [show mL (G 0 20).toInt G190 = mL (G 0 20).toInt G181 from (mL_un (show gu_un ycd [5, 6, 7, 8] G181 G190 from (gu_un.tr gu_un.rf (gu_un.su hU192 rfl))) rfl)]; rw [q185.ml (by omega) (show (0 : Int) ≤ (G170 12 ((G 0 20).toInt).toNat).toInt from (hI171 12 _).1), mEn_1 (by decide) (by omega)] <;> (rw [show mL (G 0 20).toInt (gu_up G170 0 21 y176) = mL (G 0 20).toInt G from (mL_un (show gu_un ycd [9, 10, 22] G (gu_up G170 0 21 y176) from (gu_un.up (j := 0) (k := 21) (v := y176) (gu_un.tr (gu_un.tr gu_un.rf (gu_un.su hU155 rfl)) (gu_un.su hU172 rfl)) (show (22 : Nat) ∈ ([9, 10, 22] : List Nat) by decide))) rfl)])))), ((yFf.tr (show yFf G G181 from (yFf.tr (show yFf G (gu_up G170 0 21 y176) from (yFf.tr (show yFf G G153 from (yFf.tr (show yFf G G from yFf.rf) q158)) q175)) (show yFf _ G181 from yFf.un hU183 rfl))) (show yFf _ G190 from yFf.un hU192 rfl)))⟩) rfl rfl dX13_readFactor_171
      · refine g_aload_n F 2 dX13_readFactor_94 rfl rfl ?_
        refine yg_0_6 F i_X13 w_1 dX13_readFactor_95 (G 0 6) (rfl) ?_
        refine g_iconst F 2 dX13_readFactor_98 (by decide) ?_
        refine v_icmp_ne F 106 dX13_readFactor_99 (by decide) (G 0 6).toInt 2 rfl rfl (fun c201 => ?_) (fun c201 => ?_)
        · refine g_iconst F 0 dX13_readFactor_106 (by decide) ?_
          refine g_iconst F 1 dX13_readFactor_107 (by decide) ?_
          refine ux_callvv (k := 0) (n := 0) (b := a 0) (As := [.int 0, .int 1]) (st := []) F (fun sz => S_X13_need l D K a G 0 0 1 1 rfl (by decide) rfl hI sz) (cwV 2 hts gT_X13_readFactor_X13_need rfl rfl rfl (by decide +kernel) ⟨Nat.le_of_ble_eq_true rfl, Nat.le_of_ble_eq_true rfl⟩) rfl 0 yc_0 rfl (Nat.le_of_ble_eq_true rfl) ⟨Nat.zero_le _, Nat.zero_le _⟩ dX13_readFactor_108 hex hA hQ (fun u9 h9 => ⟨h9.1, gu_un.tr gu_un.rf (gu_un.su h9.2.1 rfl), (yKp.un yKp.rf h9.2.1 rfl), (yF_none (show (((((G 0 20).toInt - 3).toNat : Nat)) : Int) = (G 0 20).toInt - 3 by omega) (show gu_un ycd [] G G from gu_un.rf) rfl (by omega) (by omega) (fun h7 => by rw [← q148]; omega) h9.2.2.2.1 h9.2.2.2.2), (by have h9 := h9.2.2.2.1; omega)⟩) (fun G204 hw203 => ?_)
          have hI205 : yI G204 := hw203.1
          have hU206 : gu_un ycd [9, 10] G G204 := hw203.2.1
          have hp207 := hw203.2.2
          have q208 : ((0 : Int) ≠ 0) := hp207.1
          have q209 : yFf G G204 := hp207.2
          exfalso; omega
        · refine g_iconst F 1 dX13_readFactor_102 (by decide) ?_
          refine g_goto F 107 dX13_readFactor_103 (by decide) ?_
          refine g_iconst F 1 dX13_readFactor_107 (by decide) ?_
          refine ux_callvv (k := 0) (n := 0) (b := a 0) (As := [.int 1, .int 1]) (st := []) F (fun sz => S_X13_need l D K a G 1 1 1 1 rfl (by decide) rfl hI sz) (cwV 2 hts gT_X13_readFactor_X13_need rfl rfl rfl (by decide +kernel) ⟨Nat.le_of_ble_eq_true rfl, Nat.le_of_ble_eq_true rfl⟩) rfl 0 yc_0 rfl (Nat.le_of_ble_eq_true rfl) ⟨Nat.zero_le _, Nat.zero_le _⟩ dX13_readFactor_108 hex hA hQ (fun u9 h9 => ⟨h9.1, gu_un.tr gu_un.rf (gu_un.su h9.2.1 rfl), (yKp.un yKp.rf h9.2.1 rfl), (absurd h9.2.2.1 (by decide)), (absurd h9.2.2.1 (by decide))⟩) (fun G212 hw211 => ?_)
          have hI213 : yI G212 := hw211.1
          have hU214 : gu_un ycd [9, 10] G G212 := hw211.2.1
          have hp215 := hw211.2.2
          have q216 : ((1 : Int) ≠ 0) := hp215.1
          have q217 : yFf G G212 := hp215.2
          clear hp215 hw211
          refine g_aload_n F 2 dX13_readFactor_111 rfl rfl ?_
          refine g_aload_n F 2 dX13_readFactor_112 rfl rfl ?_
          refine yg_0_21 F i_X13 w_0 dX13_readFactor_113 (G 0 21) (hU214 0 21 (by decide)) ?_
          refine g_bipush F 12 dX13_readFactor_116 (by decide) ?_
          refine v_icmp_ge F 125 dX13_readFactor_118 (by decide) (G 0 21).toInt 12 rfl rfl (fun c218 => ?_) (fun c218 => ?_)
          · refine g_iconst F 0 dX13_readFactor_125 (by decide) ?_
            refine g_iconst F 4 dX13_readFactor_126 (by decide) ?_
            refine ux_callvv (k := 0) (n := 0) (b := a 0) (As := [.int 0, .int 4]) (st := []) F (fun sz => S_X13_need l D K a G212 0 0 4 4 rfl (by decide) rfl hI213 sz) (cwV 2 hts gT_X13_readFactor_X13_need rfl rfl rfl (by decide +kernel) ⟨Nat.le_of_ble_eq_true rfl, Nat.le_of_ble_eq_true rfl⟩) rfl 0 yc_0 rfl (Nat.le_of_ble_eq_true rfl) ⟨Nat.zero_le _, Nat.zero_le _⟩ dX13_readFactor_127 hex hA hQ (fun u9 h9 => ⟨h9.1, gu_un.tr (gu_un.tr gu_un.rf (gu_un.su hU214 rfl)) (gu_un.su h9.2.1 rfl), (yKp.un (yKp.un yKp.rf (show gu_un ycd [9, 10] G G212 from (gu_un.tr gu_un.rf (gu_un.su hU214 rfl))) rfl) h9.2.1 rfl), (by have h8 := q148; exact yF_many (show (((((G 0 20).toInt - 3).toNat : Nat)) : Int) = (G 0 20).toInt - 3 by omega) (show gu_un ycd [9, 10] G G212 from (gu_un.tr gu_un.rf (gu_un.su hU214 rfl))) rfl (by first | exact Or.inl (by omega) | exact Or.inr ⟨by unfold yLt at h8; split at h8 <;> omega, by rw [← q148]; omega⟩) (by omega) h9.2.2.2.1 h9.2.2.2.2), (by have h9 := h9.2.2.2.1; omega)⟩) (fun G221 hw220 => ?_)
            have hI222 : yI G221 := hw220.1
            have hU223 : gu_un ycd [9, 10] G212 G221 := hw220.2.1
            have hp224 := hw220.2.2
            have q225 : ((0 : Int) ≠ 0) := hp224.1
            have q226 : yFf G212 G221 := hp224.2
            exfalso; omega
          · refine g_iconst F 1 dX13_readFactor_121 (by decide) ?_
            refine g_goto F 126 dX13_readFactor_122 (by decide) ?_
            refine g_iconst F 4 dX13_readFactor_126 (by decide) ?_
            refine ux_callvv (k := 0) (n := 0) (b := a 0) (As := [.int 1, .int 4]) (st := []) F (fun sz => S_X13_need l D K a G212 1 1 4 4 rfl (by decide) rfl hI213 sz) (cwV 2 hts gT_X13_readFactor_X13_need rfl rfl rfl (by decide +kernel) ⟨Nat.le_of_ble_eq_true rfl, Nat.le_of_ble_eq_true rfl⟩) rfl 0 yc_0 rfl (Nat.le_of_ble_eq_true rfl) ⟨Nat.zero_le _, Nat.zero_le _⟩ dX13_readFactor_127 hex hA hQ (fun u9 h9 => ⟨h9.1, gu_un.tr (gu_un.tr gu_un.rf (gu_un.su hU214 rfl)) (gu_un.su h9.2.1 rfl), (yKp.un (yKp.un yKp.rf (show gu_un ycd [9, 10] G G212 from (gu_un.tr gu_un.rf (gu_un.su hU214 rfl))) rfl) h9.2.1 rfl), (absurd h9.2.2.1 (by decide)), (absurd h9.2.2.1 (by decide))⟩) (fun G229 hw228 => ?_)
            have hI230 : yI G229 := hw228.1
            have hU231 : gu_un ycd [9, 10] G212 G229 := hw228.2.1
            have hp232 := hw228.2.2
            have q233 : ((1 : Int) ≠ 0) := hp232.1
            have q234 : yFf G212 G229 := hp232.2
            clear hp232 hw228
            refine g_aload_n F 2 dX13_readFactor_130 rfl rfl ?_
            refine g_dup F dX13_readFactor_131 rfl ?_
            refine yg_0_21 F i_X13 w_0 dX13_readFactor_132 (G 0 21) ((hU231 0 21 (by decide)).trans (hU214 0 21 (by decide))) ?_
            refine g_iconst F 1 dX13_readFactor_135 (by decide) ?_
            refine u_iadd F dX13_readFactor_136 (G 0 21).toInt 1 rfl rfl (by omega) (by omega) (fun y235 ey235 => ?_)
            refine yp_0_21 F i_X13 w_0 dX13_readFactor_137 ?_
            refine g_aload_n F 2 dX13_readFactor_140 rfl rfl ?_
            refine g_iload_n F 0 dX13_readFactor_141 rfl rfl ?_
            refine g_iconst F (-1) dX13_readFactor_142 (by decide) ?_
            refine v_icmp_ne F 150 dX13_readFactor_143 (by decide) r145.toInt (-1) rfl rfl (fun c236 => absurd c236 (by omega)) (fun c236 => ?_)
            refine g_iconst F 0 dX13_readFactor_146 (by decide) ?_
            refine g_goto F 151 dX13_readFactor_147 (by decide) ?_
            refine g_iload_n F 0 dX13_readFactor_151 rfl rfl ?_
            refine g_iconst F (-1) dX13_readFactor_152 (by decide) ?_
            refine v_icmp_ne F 163 dX13_readFactor_153 (by decide) r145.toInt (-1) rfl rfl (fun c237 => absurd c237 (by omega)) (fun c237 => ?_)
            refine g_aload_n F 2 dX13_readFactor_156 rfl rfl ?_
            refine yg_0_7 F i_X13 w_2 dX13_readFactor_157 (G 0 7) ((hU231 0 7 (by decide)).trans (hU214 0 7 (by decide))) ?_
            refine g_goto F 164 dX13_readFactor_160 (by decide) ?_
            refine u_callVv (k := 0) (n := 0) (b := a 0) (As := [.int 0, .int (G 0 7)]) (st := []) F (fun sz => S_X13_mark l D K a (gu_up G229 0 21 y235) 0 0 (G 0 7) (G 0 7).toInt rfl (by decide) rfl (by omega) (by rw [show (gu_up G229 0 21 y235) 0 20 = G 0 20 from (hU231 0 20 (by decide)).trans (hU214 0 20 (by decide))]; have h9 : (G229 12 ((G 0 20).toInt).toNat).toInt ≤ 6 * (G229 0 21).toInt := (y_m6 m6 (show gu_un ycd [9, 10] G G229 from (gu_un.tr (gu_un.tr gu_un.rf (gu_un.su hU214 rfl)) (gu_un.su hU231 rfl))) rfl rfl); have h8 : (0 : Int) ≤ (G229 0 21).toInt ∧ (G229 0 21).toInt ≤ 12 := hI230 0 21; show (G229 12 ((G 0 20).toInt).toNat).toInt ≤ 79; omega) (gu_I.up (j := 0) (k := 21) (v := y235) hI230 (show (0 : Int) ≤ Int32.toInt y235 by omega) (show Int32.toInt y235 ≤ 12 by omega)) sz) (cwV 2 hts (gT_left gX13_readFactor_X13_mark) rfl rfl rfl (by decide +kernel) ⟨Nat.le_of_ble_eq_true rfl, Nat.le_of_ble_eq_true rfl⟩) rfl 0 yc_0 rfl (Nat.le_of_ble_eq_true rfl) ⟨Nat.zero_le _, Nat.zero_le _⟩ dX13_readFactor_164 (fun G240 hw239 => ?_)
            have hI241 : yI G240 := hw239.1
            have hU242 : gu_un ycd [1000, 1100, 1200] (gu_up G229 0 21 y235) G240 := hw239.2.1
            have hp243 := hw239.2.2
            have q244 : yMk 0 (G 0 7) (G 0 20).toInt (gu_up G229 0 21 y235) G240 := by have h9 := hp243; (try simp only [(show (gu_up G229 0 21 y235) 0 20 = (G 0 20) from (hU231 0 20 (by decide)).trans (hU214 0 20 (by decide)))] at h9); first | exact h9 | omega
            have m0 : 0 ≤ (G 12 ((G 0 20).toInt).toNat).toInt := (show (0 : Int) ≤ (G 12 ((G 0 20).toInt).toNat).toInt ∧ (G 12 ((G 0 20).toInt).toNat).toInt ≤ 80 from hI 12 _).1
            have m1 : 0 ≤ ((gu_up G229 0 21 y235) 12 ((G 0 20).toInt).toNat).toInt := (show (0 : Int) ≤ (G229 12 ((G 0 20).toInt).toNat).toInt ∧ (G229 12 ((G 0 20).toInt).toNat).toInt ≤ 80 from hI230 12 _).1
            have kp245 : yKp G G240 := yKp.tr (yKp.un yKp.rf (show gu_un ycd [9, 10, 22] G (gu_up G229 0 21 y235) from (gu_un.up (j := 0) (k := 21) (v := y235) (gu_un.tr (gu_un.tr gu_un.rf (gu_un.su hU214 rfl)) (gu_un.su hU231 rfl)) (show (22 : Nat) ∈ ([9, 10, 22] : List Nat) by decide))) rfl) (q244.kp (by omega) m1)
            have sg246 : ySg 3 (G 0 20).toInt G G240 := yMk.leaf q244 (by first | decide | omega) (by decide) (by omega) (show (gu_up G229 0 21 y235) 10 = G 10 from (show G229 10 = G212 10 from funext fun k_ => hU231 10 k_ (show (1000 : Nat) ∉ ([9, 10] : List Nat) by decide)).trans ((show G212 10 = G 10 from funext fun k_ => hU214 10 k_ (show (1000 : Nat) ∉ ([9, 10] : List Nat) by decide)))) (show (gu_up G229 0 21 y235) 11 = G 11 from (show G229 11 = G212 11 from funext fun k_ => hU231 11 k_ (show (1100 : Nat) ∉ ([9, 10] : List Nat) by decide)).trans ((show G212 11 = G 11 from funext fun k_ => hU214 11 k_ (show (1100 : Nat) ∉ ([9, 10] : List Nat) by decide)))) (show (gu_up G229 0 21 y235) 12 = G 12 from (show G229 12 = G212 12 from funext fun k_ => hU231 12 k_ (show (1200 : Nat) ∉ ([9, 10] : List Nat) by decide)).trans ((show G212 12 = G 12 from funext fun k_ => hU214 12 k_ (show (1200 : Nat) ∉ ([9, 10] : List Nat) by decide)))) m0 (by omega) (show (y235 : Int32).toInt = _ by omega)
            clear hp243 hw239
            refine g_aload_n F 2 dX13_readFactor_167 rfl rfl ?_
            refine u_callVv (k := 0) (n := 0) (b := a 0) (As := []) (st := []) F (fun sz => S_X13_scan l D K a G240  (by have e9_0_3 : G240 0 3 = (G 0 3) := (hU242 0 3 (by decide)).trans ((hU231 0 3 (by decide)).trans (hU214 0 3 (by decide))); have e9_0_5 : G240 0 5 = (G 0 5) := (hU242 0 5 (by decide)).trans ((hU231 0 5 (by decide)).trans (hU214 0 5 (by decide))); (try simp only [e9_0_3, e9_0_5, true_and, and_true]) <;> (first | omega | (simp only [Int32.reduceToInt, true_and, and_true, ne_eq, not_true_eq_false, false_and, or_false, false_or, true_or, or_true, false_implies] <;> omega))) hI241 sz) (cwV 0 hts (gT_left gX13_readFactor_X13_scan) rfl rfl rfl (by decide +kernel) ⟨Nat.le_of_ble_eq_true rfl, Nat.le_of_ble_eq_true rfl⟩) rfl 0 yc_0 rfl (Nat.le_of_ble_eq_true rfl) ⟨Nat.zero_le _, Nat.zero_le _⟩ dX13_readFactor_168 (fun G249 hw248 => ?_)
            have hI250 : yI G249 := hw248.1
            have hU251 : gu_un ycd [5, 6, 7, 8] G240 G249 := hw248.2.1
            have hp252 := hw248.2.2
            have b253 : (0 : Int) ≤ (G249 0 5).toInt ∧ (G249 0 5).toInt ≤ 1000 := hI250 0 5
            have b254 : (0 : Int) ≤ (G249 0 4).toInt ∧ (G249 0 4).toInt ≤ 1000 := hI250 0 4
            have q255 : ((G249 0 5).toInt ≤ (G 0 3).toInt ∧ (G 0 5).toInt ≤ (G249 0 4).toInt ∧ (G249 0 4).toInt ≤ (G249 0 5).toInt) := by have h9 := hp252.1; (try simp only [(show G240 0 3 = (G 0 3) from (hU242 0 3 (by decide)).trans ((hU231 0 3 (by decide)).trans (hU214 0 3 (by decide)))), (show G240 0 5 = (G 0 5) from (hU242 0 5 (by decide)).trans ((hU231 0 5 (by decide)).trans (hU214 0 5 (by decide))))] at h9); first | exact h9 | omega
            have b256 : (0 : Int) ≤ (G249 0 6).toInt ∧ (G249 0 6).toInt ≤ 4 := hI250 0 6
            have q257 : (((G249 0 6).toInt = 0 ∧ (G249 0 4).toInt = (G 0 3).toInt) ∨ ((G249 0 6).toInt ≠ 0 ∧ (G249 0 4).toInt < (G249 0 5).toInt)) := by have h9 := hp252.2.1; (try simp only [(show G240 0 3 = (G 0 3) from (hU242 0 3 (by decide)).trans ((hU231 0 3 (by decide)).trans (hU214 0 3 (by decide))))] at h9); first | exact h9 | omega
            have b258 : (0 : Int) ≤ (G249 0 7).toInt ∧ (G249 0 7).toInt ≤ 9999 := hI250 0 7
            have q259 : tTok (G 2) (G 0 3).toInt (G 0 5).toInt (G249 0 6).toInt (G249 0 4).toInt (G249 0 7).toInt (G249 0 5).toInt := by have h9 := hp252.2.2; (try simp only [(show G240 0 3 = (G 0 3) from (hU242 0 3 (by decide)).trans ((hU231 0 3 (by decide)).trans (hU214 0 3 (by decide)))), (show G240 0 5 = (G 0 5) from (hU242 0 5 (by decide)).trans ((hU231 0 5 (by decide)).trans (hU214 0 5 (by decide)))), (show G240 2 = (G 2) from (show G240 2 = (gu_up G229 0 21 y235) 2 from funext fun k_ => hU242 2 k_ (show (200 : Nat) ∉ ([1000, 1100, 1200] : List Nat) by decide)).trans ((show G229 2 = G212 2 from funext fun k_ => hU231 2 k_ (show (200 : Nat) ∉ ([9, 10] : List Nat) by decide)).trans ((show G212 2 = G 2 from funext fun k_ => hU214 2 k_ (show (200 : Nat) ∉ ([9, 10] : List Nat) by decide)))))] at h9); first | exact h9 | omega
            clear hp252 hw248
            exact ux_vret F hA hQ hr G249 (⟨hI250, (gu_un.tr (gu_un.tr (gu_un.up (j := 0) (k := 21) (v := y235) (gu_un.tr (gu_un.tr gu_un.rf (gu_un.su hU214 rfl)) (gu_un.su hU231 rfl)) (show (22 : Nat) ∈ ([5, 6, 7, 8, 9, 10, 22, 1000, 1100, 1200] : List Nat) by decide)) (gu_un.su hU242 rfl)) (gu_un.su hU251 rfl)), (by show ((G249 0 5).toInt ≤ (G 0 3).toInt ∧ (G 0 5).toInt ≤ (G249 0 5).toInt ∧ ((G249 0 6).toInt = 0 ∨ (G 0 5).toInt < (G249 0 5).toInt)); (first | omega | (simp only [Int32.reduceToInt, true_and, and_true, ne_eq, not_true_eq_false, false_and, or_false, false_or, true_or, or_true, false_implies] <;> omega))), ((sg246.un (show gu_un ycd [5, 6, 7, 8] G240 G249 from (gu_un.tr gu_un.rf (gu_un.su hU251 rfl))) rfl rfl)), ((yKp.un kp245 (show gu_un ycd [5, 6, 7, 8] G240 G249 from (gu_un.tr gu_un.rf (gu_un.su hU251 rfl))) rfl)), (by have h8 := q148; first | exact yF_num (show yStp [9, 10, 22, 1000, 1100, 1200] G G240 G249 from ⟨(show gu_un ycd [9, 10, 22, 1000, 1100, 1200] G G240 from (gu_un.tr (gu_un.up (j := 0) (k := 21) (v := y235) (gu_un.tr (gu_un.tr gu_un.rf (gu_un.su hU214 rfl)) (gu_un.su hU231 rfl)) (show (22 : Nat) ∈ ([9, 10, 22, 1000, 1100, 1200] : List Nat) by decide)) (gu_un.su hU242 rfl))), rfl, by (try rw [show G240 2 = (G 2) from (show G240 2 = (gu_up G229 0 21 y235) 2 from funext fun k_ => hU242 2 k_ (show (200 : Nat) ∉ ([1000, 1100, 1200] : List Nat) by decide)).trans ((show G229 2 = G212 2 from funext fun k_ => hU231 2 k_ (show (200 : Nat) ∉ ([9, 10] : List Nat) by decide)).trans ((show G212 2 = G 2 from funext fun k_ => hU214 2 k_ (show (200 : Nat) ∉ ([9, 10] : List Nat) by decide))))]); (try rw [show G240 0 3 = (G 0 3) from (hU242 0 3 (by decide)).trans ((hU231 0 3 (by decide)).trans (hU214 0 3 (by decide)))]); (try rw [show G240 0 5 = (G 0 5) from (hU242 0 5 (by decide)).trans ((hU231 0 5 (by decide)).trans (hU214 0 5 (by decide)))]); exact q259, funext fun k_ => hU251 2 k_ (by simp [ycd]), hU251 0 3 (by decide)⟩) (by omega) (by omega) (show (G249 0 21).toInt = (G 0 21).toInt + 1 by rw [show G249 0 21 = y235 from (hU251 0 21 (by decide)).trans (hU242 0 21 (by decide))]; omega) (by rw [show mL (G 0 20).toInt G249 = mL (G 0 20).toInt G240 from (mL_un (show gu_un ycd [5, 6, 7, 8] G240 G249 from (gu_un.tr gu_un.rf (gu_un.su hU251 rfl))) rfl)]; rw [q244.ml (by omega) (show (0 : Int) ≤ (G229 12 ((G 0 20).toInt).toNat).toInt from (hI230 12 _).1), mEn_0 (by decide)] <;> (rw [show mL (G 0 20).toInt (gu_up G229 0 21 y235) = mL (G 0 20).toInt G from (mL_un (show gu_un ycd [9, 10, 22] G (gu_up G229 0 21 y235) from (gu_un.up (j := 0) (k := 21) (v := y235) (gu_un.tr (gu_un.tr gu_un.rf (gu_un.su hU214 rfl)) (gu_un.su hU231 rfl)) (show (22 : Nat) ∈ ([9, 10, 22] : List Nat) by decide))) rfl)])) | exact yF_let (show (((((G 0 20).toInt - 3).toNat : Nat)) : Int) = (G 0 20).toInt - 3 by omega) (show yStp [9, 10, 22, 1000, 1100, 1200] G G240 G249 from ⟨(show gu_un ycd [9, 10, 22, 1000, 1100, 1200] G G240 from (gu_un.tr (gu_un.up (j := 0) (k := 21) (v := y235) (gu_un.tr (gu_un.tr gu_un.rf (gu_un.su hU214 rfl)) (gu_un.su hU231 rfl)) (show (22 : Nat) ∈ ([9, 10, 22, 1000, 1100, 1200] : List Nat) by decide)) (gu_un.su hU242 rfl))), rfl, by (try rw [show G240 2 = (G 2) from (show G240 2 = (gu_up G229 0 21 y235) 2 from funext fun k_ => hU242 2 k_ (show (200 : Nat) ∉ ([1000, 1100, 1200] : List Nat) by decide)).trans ((show G229 2 = G212 2 from funext fun k_ => hU231 2 k_ (show (200 : Nat) ∉ ([9, 10] : List Nat) by decide)).trans ((show G212 2 = G 2 from funext fun k_ => hU214 2 k_ (show (200 : Nat) ∉ ([9, 10] : List Nat) by decide))))]); (try rw [show G240 0 3 = (G 0 3) from (hU242 0 3 (by decide)).trans ((hU231 0 3 (by decide)).trans (hU214 0 3 (by decide)))]); (try rw [show G240 0 5 = (G 0 5) from (hU242 0 5 (by decide)).trans ((hU231 0 5 (by decide)).trans (hU214 0 5 (by decide)))]); exact q259, funext fun k_ => hU251 2 k_ (by simp [ycd]), hU251 0 3 (by decide)⟩) (by unfold yLt at h8; split at h8 <;> omega) (by rw [← q148]; omega) (by omega) (show (G249 0 21).toInt = (G 0 21).toInt + 1 by rw [show G249 0 21 = y235 from (hU251 0 21 (by decide)).trans (hU242 0 21 (by decide))]; omega) (by rw [← q148]; exact (by rw [show mL (G 0 20).toInt G249 = mL (G 0 20).toInt G240 from (mL_un (show gu_un ycd [5, 6, 7, 8] G240 G249 from (gu_un.tr gu_un.rf (gu_un.su hU251 rfl))) rfl)]; rw [q244.ml (by omega) (show (0 : Int) ≤ (G229 12 ((G 0 20).toInt).toNat).toInt from (hI230 12 _).1), mEn_1 (by decide) (by omega)] <;> (rw [show mL (G 0 20).toInt (gu_up G229 0 21 y235) = mL (G 0 20).toInt G from (mL_un (show gu_un ycd [9, 10, 22] G (gu_up G229 0 21 y235) from (gu_un.up (j := 0) (k := 21) (v := y235) (gu_un.tr (gu_un.tr gu_un.rf (gu_un.su hU214 rfl)) (gu_un.su hU231 rfl)) (show (22 : Nat) ∈ ([9, 10, 22] : List Nat) by decide))) rfl)])))), ((yFf.tr (show yFf G G240 from (yFf.tr (show yFf G (gu_up G229 0 21 y235) from (yFf.tr (show yFf G G212 from (yFf.tr (show yFf G G from yFf.rf) q217)) q234)) (show yFf _ G240 from yFf.un hU242 rfl))) (show yFf _ G249 from yFf.un hU251 rfl)))⟩) rfl rfl dX13_readFactor_171


set_option maxHeartbeats 4000000 in
set_option maxRecDepth 100000 in
theorem S_X13_readProduct_v3 (l : Launch) (D : va_G) (K : Nat → ClassId) (a : Nat → Nat) (G : gS) (qs vs : Nat → Nat) (pb : ((G 0 5).toInt ≤ (G 0 3).toInt)) (s35 : (3 ≤ (G 0 20).toInt)) (m6 : ((G 12 ((G 0 20).toInt).toNat).toInt ≤ 6 * (G 0 21).toInt)) (hI : yI G) (sz : Nat) : KxvZ (yZ qs vs) l yX13_readProduct wsT_X13_readProduct 11 259 D [.ref (a 0), .int 3] (yW K a G) (tK K) sz (fun (G' : gS) => (yI G') ∧ (gu_un ycd [5, 6, 7, 8, 9, 10, 22, 1000, 1100, 1200] G G') ∧ (((G' 0 5).toInt ≤ (G 0 3).toInt ∧ (G 0 5).toInt ≤ (G' 0 5).toInt ∧ ((G' 0 6).toInt = 0 ∨ (G 0 5).toInt < (G' 0 5).toInt))) ∧ (ySg 3 (G 0 20).toInt G G') ∧ (yKp G G') ∧ (ySim cP ((G 0 20).toInt - 3).toNat (qW 3 (G 0 21).toInt (mL (G 0 20).toInt G)) (qD 3 (G' 0 21).toInt (mL (G 0 20).toInt G')) G G') ∧ ((¬ ((G' 0 6).toInt = 3 ∧ xsg (G' 0 7).toInt = 2))) ∧ (yFf G G')) (fun (G' : gS) => (yI G') ∧ (gu_un ycd [5, 6, 7, 8, 9, 10, 22, 1000, 1100, 1200] G G') ∧ (yKp G G') ∧ (yThr cP ((G 0 20).toInt - 3).toNat (qW 3 (G 0 21).toInt (mL (G 0 20).toInt G)) G G') ∧ (((G' 0 8).toInt ≠ 0))) (a 1) (fun (G' : gS) => (yW K a G')) := by
  unfold KxvZ
  refine gxz_ofW (cc := cX13_readProduct) (lv := [(0, .ref (a 0)), (1, .int 3)]) (by decide) rfl (Nat.le_of_ble_eq_true rfl) rfl ?_
  intro p e s m args below meth c A Q hA hQ hZ F hr hex
  have hts := F.2.2.2.2.1
  have w_0 : (Cond.fieldLink RX13 41 "QuietCutModel" "value" "I").before args s = true := hts _ (List.mem_of_getElem? (i := 1) rfl)
  have i_X13 : ∀ w ∈ u_ws RX13 TX13 73, w ∈ wsT_X13_readProduct := fun w h => List.mem_append_left _ ((show ∀ w ∈ u_ws RX13 TX13 73, w ∈ wsX13_readProduct from fun _ h => List.mem_cons_of_mem _ (List.mem_append_right _ h)) w h)
  have b1 : (0 : Int) ≤ (G 0 3).toInt ∧ (G 0 3).toInt ≤ 1000 := hI 0 3
  have b2 : (0 : Int) ≤ (G 0 5).toInt ∧ (G 0 5).toInt ≤ 1000 := hI 0 5
  have b3 : (0 : Int) ≤ (G 0 6).toInt ∧ (G 0 6).toInt ≤ 4 := hI 0 6
  have b4 : (0 : Int) ≤ (G 0 20).toInt ∧ (G 0 20).toInt ≤ 5 := hI 0 20
  have b5 : (0 : Int) ≤ (G 0 21).toInt ∧ (G 0 21).toInt ≤ 12 := hI 0 21
  have J_5 : ∀ (fuel : Nat) (Gj5 : gS), (8 * (1000 - (Gj5 0 5).toInt) + (Gj5 0 6).toInt).toNat < fuel → (yI Gj5) → (gu_un ycd [5, 6, 7, 8, 9, 10, 22, 1000, 1100, 1200] G Gj5) → (ySg 3 (G 0 20).toInt G Gj5) → (yKp G Gj5) → (ySim cP ((G 0 20).toInt - 3).toNat (qW 3 (G 0 21).toInt (mL (G 0 20).toInt G)) (qD 3 (Gj5 0 21).toInt (mL (G 0 20).toInt Gj5)) G Gj5) → (yFf G Gj5) → (((Gj5 0 5).toInt ≤ (G 0 3).toInt)) → (((G 0 5).toInt ≤ (Gj5 0 5).toInt ∧ ((Gj5 0 6).toInt = 0 ∨ (G 0 5).toInt < (Gj5 0 5).toInt))) → gG p l e (gR 11 0 0 259) s m args below meth c D A 3 Q 0 0 (yW K a Gj5) (tK K) [(0, .ref (a 0)), (1, .int 3)] 5 [] := by
    intro fuel
    induction fuel with
    | zero => intro Gj5 hm; exact absurd hm (Nat.not_lt_zero _)
    | succ fuel_5 ih_5 =>
      intro Gj5 hm_5 jI5 jU5 sg5 kp5 pf5 ff5 bl_5 bm_5
      have J_32 : ∀ (_ : Unit), (((Gj5 0 6).toInt = 3 ∧ (Gj5 0 7).toInt ≠ 33 ∧ xsg (Gj5 0 7).toInt = 2)) → (((Gj5 0 5).toInt ≤ (G 0 3).toInt)) → (((G 0 5).toInt ≤ (Gj5 0 5).toInt ∧ ((Gj5 0 6).toInt = 0 ∨ (G 0 5).toInt < (Gj5 0 5).toInt))) → gG p l e (gR 11 0 0 259) s m args below meth c D A 3 Q 0 0 (yW K a Gj5) (tK K) [(0, .ref (a 0)), (1, .int 3)] 32 [] := by
        intro _ sn bl_32 bm_32
        refine g_aload_n F 0 dX13_readProduct_32 rfl rfl ?_
        refine yg_0_7 F i_X13 w_0 dX13_readProduct_33 (Gj5 0 7) (rfl) ?_
        refine g_istore_n F [(2, .int (Gj5 0 7)), (0, .ref (a 0)), (1, .int 3)] dX13_readProduct_36 rfl (by decide) rfl ?_
        refine g_aload_n F 1 dX13_readProduct_37 rfl rfl ?_
        have b6 : (0 : Int) ≤ (Gj5 0 5).toInt ∧ (Gj5 0 5).toInt ≤ 1000 := jI5 0 5
        refine u_callVv (k := 0) (n := 0) (b := a 0) (As := []) (st := []) F (fun sz => S_X13_scan l D K a Gj5  (by have e9_0_3 : Gj5 0 3 = (G 0 3) := jU5 0 3 (by decide); (try simp only [e9_0_3, true_and, and_true]) <;> (first | omega | (simp only [Int32.reduceToInt, true_and, and_true, ne_eq, not_true_eq_false, false_and, or_false, false_or, true_or, or_true, false_implies] <;> omega))) jI5 sz) (cwV 0 hts (gT_left gX13_readProduct_X13_scan) rfl rfl rfl (by decide +kernel) ⟨Nat.le_of_ble_eq_true rfl, Nat.le_of_ble_eq_true rfl⟩) rfl 0 yc_0 rfl (Nat.le_of_ble_eq_true rfl) ⟨Nat.zero_le _, Nat.zero_le _⟩ dX13_readProduct_38 (fun G9 hw8 => ?_)
        have hI10 : yI G9 := hw8.1
        have hU11 : gu_un ycd [5, 6, 7, 8] Gj5 G9 := hw8.2.1
        have hp12 := hw8.2.2
        have b13 : (0 : Int) ≤ (G9 0 5).toInt ∧ (G9 0 5).toInt ≤ 1000 := hI10 0 5
        have b14 : (0 : Int) ≤ (G9 0 4).toInt ∧ (G9 0 4).toInt ≤ 1000 := hI10 0 4
        have q15 : ((G9 0 5).toInt ≤ (G 0 3).toInt ∧ (Gj5 0 5).toInt ≤ (G9 0 4).toInt ∧ (G9 0 4).toInt ≤ (G9 0 5).toInt) := by have h9 := hp12.1; (try simp only [(show Gj5 0 3 = (G 0 3) from jU5 0 3 (by decide))] at h9); first | exact h9 | omega
        have b16 : (0 : Int) ≤ (G9 0 6).toInt ∧ (G9 0 6).toInt ≤ 4 := hI10 0 6
        have q17 : (((G9 0 6).toInt = 0 ∧ (G9 0 4).toInt = (G 0 3).toInt) ∨ ((G9 0 6).toInt ≠ 0 ∧ (G9 0 4).toInt < (G9 0 5).toInt)) := by have h9 := hp12.2.1; (try simp only [(show Gj5 0 3 = (G 0 3) from jU5 0 3 (by decide))] at h9); first | exact h9 | omega
        have b18 : (0 : Int) ≤ (G9 0 7).toInt ∧ (G9 0 7).toInt ≤ 9999 := hI10 0 7
        have q19 : tTok (G 2) (G 0 3).toInt (Gj5 0 5).toInt (G9 0 6).toInt (G9 0 4).toInt (G9 0 7).toInt (G9 0 5).toInt := by have h9 := hp12.2.2; (try simp only [(show Gj5 0 3 = (G 0 3) from jU5 0 3 (by decide)), (show Gj5 2 = (G 2) from (show Gj5 2 = G 2 from funext fun k_ => jU5 2 k_ (show (200 : Nat) ∉ ([5, 6, 7, 8, 9, 10, 22, 1000, 1100, 1200] : List Nat) by decide)))] at h9); first | exact h9 | omega
        clear hp12 hw8
        refine g_aload_n F 1 dX13_readProduct_41 rfl rfl ?_
        refine g_iload_n F 2 dX13_readProduct_42 rfl rfl ?_
        refine uxz_callvv (k := 0) (n := 0) (b := a 0) (As := [.int 3]) (st := []) F yZ_st hZ (fun sz => S_X13_readFactor_v3 l D K a G9 qs vs  (by have e9_0_3 : G9 0 3 = (G 0 3) := (hU11 0 3 (by decide)).trans (jU5 0 3 (by decide)); (try simp only [e9_0_3, true_and, and_true]) <;> (first | omega | (simp only [Int32.reduceToInt, true_and, and_true, ne_eq, not_true_eq_false, false_and, or_false, false_or, true_or, or_true, false_implies] <;> omega))) (by have e9_0_20 : G9 0 20 = (G 0 20) := (hU11 0 20 (by decide)).trans (jU5 0 20 (by decide)); (try simp only [e9_0_20, true_and, and_true]) <;> (first | omega | (simp only [Int32.reduceToInt, true_and, and_true, ne_eq, not_true_eq_false, false_and, or_false, false_or, true_or, or_true, false_implies] <;> omega))) (by rw [show G9 0 20 = G 0 20 from (hU11 0 20 (by decide)).trans (jU5 0 20 (by decide))]; exact (ySg.m6 (c := 3) (sg5.un (show gu_un ycd [5, 6, 7, 8] Gj5 G9 from (gu_un.tr gu_un.rf (gu_un.su hU11 rfl))) rfl rfl) (by decide) (by decide) m6)) hI10 sz) (cwV 1 hts gT_X13_readProduct_X13_readFactor rfl rfl rfl (by decide +kernel) ⟨Nat.le_of_ble_eq_true rfl, Nat.le_of_ble_eq_true rfl⟩) rfl 0 yc_0 rfl (Nat.le_of_ble_eq_true rfl) ⟨Nat.zero_le _, Nat.zero_le _⟩ dX13_readProduct_43 hex hA hQ (fun u9 h9 => ⟨h9.1, gu_un.tr (gu_un.tr (gu_un.tr gu_un.rf (gu_un.su jU5 rfl)) (gu_un.su hU11 rfl)) (gu_un.su h9.2.1 rfl), (yKp.tr (yKp.un kp5 (show gu_un ycd [5, 6, 7, 8] Gj5 G9 from (gu_un.tr gu_un.rf (gu_un.su hU11 rfl))) rfl) h9.2.2.1), (by have h9 := h9.2.2.2.1; (try rw [show G9 0 20 = (G 0 20) from (hU11 0 20 (by decide)).trans (jU5 0 20 (by decide))] at h9); (try rw [show G9 0 21 = (Gj5 0 21) from hU11 0 21 (by decide)] at h9); exact yP_nextT (yP_sign (v := (Gj5 0 7).toInt) pf5 (show yStp [] Gj5 Gj5 G9 from ⟨(show gu_un ycd [] Gj5 Gj5 from gu_un.rf), rfl, by (try rw [show Gj5 2 = (G 2) from (show Gj5 2 = G 2 from funext fun k_ => jU5 2 k_ (show (200 : Nat) ∉ ([5, 6, 7, 8, 9, 10, 22, 1000, 1100, 1200] : List Nat) by decide))]); (try rw [show Gj5 0 3 = (G 0 3) from jU5 0 3 (by decide)]); exact q19, funext fun k_ => hU11 2 k_ (by simp [ycd]), hU11 0 3 (by decide)⟩) (by omega) rfl sn.2.2) h9 rfl (mL_un (show gu_un ycd [5, 6, 7, 8] Gj5 G9 from (gu_un.tr gu_un.rf (gu_un.su hU11 rfl))) rfl)), (h9.2.2.2.2)⟩) (fun G22 hw21 => ?_)
        have hI23 : yI G22 := hw21.1
        have hU24 : gu_un ycd [5, 6, 7, 8, 9, 10, 22, 1000, 1100, 1200] G9 G22 := hw21.2.1
        have hp25 := hw21.2.2
        have b26 : (0 : Int) ≤ (G22 0 5).toInt ∧ (G22 0 5).toInt ≤ 1000 := hI23 0 5
        have b27 : (0 : Int) ≤ (G22 0 6).toInt ∧ (G22 0 6).toInt ≤ 4 := hI23 0 6
        have q28 : ((G22 0 5).toInt ≤ (G 0 3).toInt ∧ (G9 0 5).toInt ≤ (G22 0 5).toInt ∧ ((G22 0 6).toInt = 0 ∨ (G9 0 5).toInt < (G22 0 5).toInt)) := by have h9 := hp25.1; (try simp only [(show G9 0 3 = (G 0 3) from (hU11 0 3 (by decide)).trans (jU5 0 3 (by decide)))] at h9); first | exact h9 | omega
        have q29 : ySg 3 (G 0 20).toInt G9 G22 := by have h9 := hp25.2.1; (try simp only [(show G9 0 20 = (G 0 20) from (hU11 0 20 (by decide)).trans (jU5 0 20 (by decide)))] at h9); first | exact h9 | omega
        have q30 : yKp G9 G22 := hp25.2.2.1
        have b31 : (0 : Int) ≤ (Gj5 0 21).toInt ∧ (Gj5 0 21).toInt ≤ 12 := jI5 0 21
        have b32 : (0 : Int) ≤ (G22 0 21).toInt ∧ (G22 0 21).toInt ≤ 12 := hI23 0 21
        have q33 : ySim cA ((G 0 20).toInt - 3).toNat (qW 3 (Gj5 0 21).toInt (mL (G 0 20).toInt G9)) (qF 3 (G22 0 21).toInt (mL (G 0 20).toInt G22)) G9 G22 := by have h9 := hp25.2.2.2.1; (try simp only [(show G9 0 20 = (G 0 20) from (hU11 0 20 (by decide)).trans (jU5 0 20 (by decide))), (show G9 0 21 = (Gj5 0 21) from hU11 0 21 (by decide)), (show G9 0 20 = (G 0 20) from (hU11 0 20 (by decide)).trans (jU5 0 20 (by decide))), (show G9 0 20 = (G 0 20) from (hU11 0 20 (by decide)).trans (jU5 0 20 (by decide)))] at h9); first | exact h9 | omega
        have q34 : yFf G9 G22 := hp25.2.2.2.2
        have kp35 : yKp G G22 := yKp.tr (yKp.un kp5 (show gu_un ycd [5, 6, 7, 8] Gj5 G9 from (gu_un.tr gu_un.rf (gu_un.su hU11 rfl))) rfl) q30
        clear hp25 hw21
        refine g_aload_n F 1 dX13_readProduct_46 rfl rfl ?_
        refine g_iconst F 2 dX13_readProduct_47 (by decide) ?_
        refine g_iload_n F 0 dX13_readProduct_48 rfl rfl ?_
        have b36 : (0 : Int) ≤ (Gj5 0 7).toInt ∧ (Gj5 0 7).toInt ≤ 9999 := jI5 0 7
        refine u_callVv (k := 0) (n := 0) (b := a 0) (As := [.int 2, .int (Gj5 0 7)]) (st := []) F (fun sz => S_X13_mark l D K a G22 2 2 (Gj5 0 7) (Gj5 0 7).toInt rfl (by decide) rfl (by omega) (by rw [show G22 0 20 = G 0 20 from (hU24 0 20 (by decide)).trans ((hU11 0 20 (by decide)).trans (jU5 0 20 (by decide)))]; have h9 : (G22 12 ((G 0 20).toInt).toNat).toInt ≤ 6 * (G22 0 21).toInt := (ySg.m6 (c := 3) q29 (by decide) (by decide) (ySg.m6 (c := 3) (sg5.un (show gu_un ycd [5, 6, 7, 8] Gj5 G9 from (gu_un.tr gu_un.rf (gu_un.su hU11 rfl))) rfl rfl) (by decide) (by decide) m6)); have h8 : (0 : Int) ≤ (G22 0 21).toInt ∧ (G22 0 21).toInt ≤ 12 := hI23 0 21; show (G22 12 ((G 0 20).toInt).toNat).toInt ≤ 79; omega) hI23 sz) (cwV 2 hts (gT_left gX13_readProduct_X13_mark) rfl rfl rfl (by decide +kernel) ⟨Nat.le_of_ble_eq_true rfl, Nat.le_of_ble_eq_true rfl⟩) rfl 0 yc_0 rfl (Nat.le_of_ble_eq_true rfl) ⟨Nat.zero_le _, Nat.zero_le _⟩ dX13_readProduct_49 (fun G39 hw38 => ?_)
        have hI40 : yI G39 := hw38.1
        have hU41 : gu_un ycd [1000, 1100, 1200] G22 G39 := hw38.2.1
        have hp42 := hw38.2.2
        have q43 : yMk 2 (Gj5 0 7) (G 0 20).toInt G22 G39 := by have h9 := hp42; (try simp only [(show G22 0 20 = (G 0 20) from (hU24 0 20 (by decide)).trans ((hU11 0 20 (by decide)).trans (jU5 0 20 (by decide))))] at h9); first | exact h9 | omega
        have m0 : 0 ≤ (G 12 ((G 0 20).toInt).toNat).toInt := (show (0 : Int) ≤ (G 12 ((G 0 20).toInt).toNat).toInt ∧ (G 12 ((G 0 20).toInt).toNat).toInt ≤ 80 from hI 12 _).1
        have m1 : 0 ≤ (G22 12 ((G 0 20).toInt).toNat).toInt := (show (0 : Int) ≤ (G22 12 ((G 0 20).toInt).toNat).toInt ∧ (G22 12 ((G 0 20).toInt).toNat).toInt ≤ 80 from hI23 12 _).1
        have kp44 : yKp G G39 := yKp.tr kp35 (q43.kp (by omega) m1)
        have sg45 : ySg 3 (G 0 20).toInt G G39 := ySg.join (sg5.un (show gu_un ycd [5, 6, 7, 8] Gj5 G9 from (gu_un.tr gu_un.rf (gu_un.su hU11 rfl))) rfl rfl) q29 q43 (by decide) (by omega) (by omega) m0 (by have h9 : (G22 12 ((G 0 20).toInt).toNat).toInt ≤ 6 * (G22 0 21).toInt := (ySg.m6 (c := 3) q29 (by decide) (by decide) (ySg.m6 (c := 3) (sg5.un (show gu_un ycd [5, 6, 7, 8] Gj5 G9 from (gu_un.tr gu_un.rf (gu_un.su hU11 rfl))) rfl rfl) (by decide) (by decide) m6)); have h8 : (0 : Int) ≤ (G22 0 21).toInt ∧ (G22 0 21).toInt ≤ 12 := hI23 0 21; omega)
        clear hp42 hw38
        refine g_goto F 5 dX13_readProduct_52 (by decide) ?_
        refine g_locals [(0, .ref (a 0)), (1, .int 3)] [1, 2] rfl ?_
        exact ih_5 G39 (by have e9_0_5 : G39 0 5 = (G22 0 5) := hU41 0 5 (by decide); have e9_0_6 : G39 0 6 = (G22 0 6) := hU41 0 6 (by decide); (try simp only [e9_0_5, e9_0_6, true_and, and_true]) <;> omega) hI40 (gu_un.tr (gu_un.tr (gu_un.tr (gu_un.tr gu_un.rf (gu_un.su jU5 rfl)) (gu_un.su hU11 rfl)) (gu_un.su hU24 rfl)) (gu_un.su hU41 rfl)) (sg45) (kp44) (yP_next (yP_sign (v := (Gj5 0 7).toInt) pf5 (show yStp [] Gj5 Gj5 G9 from ⟨(show gu_un ycd [] Gj5 Gj5 from gu_un.rf), rfl, by (try rw [show Gj5 2 = (G 2) from (show Gj5 2 = G 2 from funext fun k_ => jU5 2 k_ (show (200 : Nat) ∉ ([5, 6, 7, 8, 9, 10, 22, 1000, 1100, 1200] : List Nat) by decide))]); (try rw [show Gj5 0 3 = (G 0 3) from jU5 0 3 (by decide)]); exact q19, funext fun k_ => hU11 2 k_ (by simp [ycd]), hU11 0 3 (by decide)⟩) (by omega) rfl sn.2.2) sn.2.2 q33 rfl (mL_un (show gu_un ycd [5, 6, 7, 8] Gj5 G9 from (gu_un.tr gu_un.rf (gu_un.su hU11 rfl))) rfl) (show gu_un ycd _ _ G39 from (show gu_un ycd [1000, 1100, 1200] G22 G39 from (gu_un.tr gu_un.rf (gu_un.su hU41 rfl)))) rfl (by rw [q43.ml (by omega) (show (0 : Int) ≤ (G22 12 ((G 0 20).toInt).toNat).toInt from (hI23 12 _).1), mEn_2 (by decide) sn.2.1 sn.2.2 (by decide)]) (congrArg Int32.toInt (show G39 0 21 = (G22 0 21) from hU41 0 21 (by decide)))) ((yFf.tr (show yFf G G22 from (yFf.tr (show yFf G G9 from (yFf.tr (show yFf G Gj5 from ff5) (show yFf _ G9 from yFf.un hU11 rfl))) q34)) (show yFf _ G39 from yFf.un hU41 rfl))) (by have e9_0_3 : G39 0 3 = (G 0 3) := (hU41 0 3 (by decide)).trans ((hU24 0 3 (by decide)).trans ((hU11 0 3 (by decide)).trans (jU5 0 3 (by decide)))); have e9_0_5 : G39 0 5 = (G22 0 5) := hU41 0 5 (by decide); (try simp only [e9_0_3, e9_0_5, true_and, and_true]) <;> (first | omega | (simp only [Int32.reduceToInt, true_and, and_true, ne_eq, not_true_eq_false, false_and, or_false, false_or, true_or, or_true, false_implies] <;> omega))) (by have e9_0_5 : G39 0 5 = (G22 0 5) := hU41 0 5 (by decide); have e9_0_6 : G39 0 6 = (G22 0 6) := hU41 0 6 (by decide); (try simp only [e9_0_5, e9_0_6, true_and, and_true]) <;> (first | omega | (simp only [Int32.reduceToInt, true_and, and_true, ne_eq, not_true_eq_false, false_and, or_false, false_or, true_or, or_true, false_implies] <;> omega)))
      refine g_aload_n F 0 dX13_readProduct_5 rfl rfl ?_
      refine g_bipush F 42 dX13_readProduct_6 (by decide) ?_
      refine u_callVi (k := 0) (n := 0) (b := a 0) (As := [.int 42]) (st := []) F (fun sz => S_X13_isSign l D K a Gj5 42 42 rfl jI5 sz) (cwV 1 hts (gT_left gX13_readProduct_X13_isSign) rfl rfl rfl (by decide +kernel) ⟨Nat.le_of_ble_eq_true rfl, Nat.le_of_ble_eq_true rfl⟩) rfl 0 yc_0 rfl (Nat.le_of_ble_eq_true rfl) ⟨Nat.zero_le _, Nat.zero_le _⟩ dX13_readProduct_8 (fun r46 _ hw47 => ?_)
      rcases hw47 with ⟨rfl, q49⟩ | ⟨rfl, q50⟩
      · have b51 : (0 : Int) ≤ (Gj5 0 6).toInt ∧ (Gj5 0 6).toInt ≤ 4 := jI5 0 6
        have b52 : (0 : Int) ≤ (Gj5 0 7).toInt ∧ (Gj5 0 7).toInt ≤ 9999 := jI5 0 7
        have q49 : ((Gj5 0 6).toInt = 3 ∧ (Gj5 0 7).toInt = (42 : Int)) := q49
        refine v_if_ne F 32 dX13_readProduct_11 (by decide) 1 rfl (fun c53 => ?_) (fun c53 => absurd c53 (by decide))
        have b54 : (0 : Int) ≤ (Gj5 0 5).toInt ∧ (Gj5 0 5).toInt ≤ 1000 := jI5 0 5
        exact J_32 () (⟨by omega, by omega, xsg_2.mpr (by omega)⟩) (by have e9_0_3 : Gj5 0 3 = (G 0 3) := jU5 0 3 (by decide); (try simp only [e9_0_3, true_and, and_true]) <;> (first | omega | (simp only [Int32.reduceToInt, true_and, and_true, ne_eq, not_true_eq_false, false_and, or_false, false_or, true_or, or_true, false_implies] <;> omega))) (by (first | omega | (simp only [Int32.reduceToInt, true_and, and_true, ne_eq, not_true_eq_false, false_and, or_false, false_or, true_or, or_true, false_implies] <;> omega)))
      · have b55 : (0 : Int) ≤ (Gj5 0 6).toInt ∧ (Gj5 0 6).toInt ≤ 4 := jI5 0 6
        have b56 : (0 : Int) ≤ (Gj5 0 7).toInt ∧ (Gj5 0 7).toInt ≤ 9999 := jI5 0 7
        have q50 : ((Gj5 0 6).toInt ≠ 3 ∨ (Gj5 0 7).toInt ≠ (42 : Int)) := q50
        refine v_if_ne F 32 dX13_readProduct_11 (by decide) 0 rfl (fun c57 => absurd c57 (by decide)) (fun c57 => ?_)
        refine g_aload_n F 0 dX13_readProduct_14 rfl rfl ?_
        refine g_bipush F 47 dX13_readProduct_15 (by decide) ?_
        refine u_callVi (k := 0) (n := 0) (b := a 0) (As := [.int 47]) (st := []) F (fun sz => S_X13_isSign l D K a Gj5 47 47 rfl jI5 sz) (cwV 1 hts (gT_left gX13_readProduct_X13_isSign) rfl rfl rfl (by decide +kernel) ⟨Nat.le_of_ble_eq_true rfl, Nat.le_of_ble_eq_true rfl⟩) rfl 0 yc_0 rfl (Nat.le_of_ble_eq_true rfl) ⟨Nat.zero_le _, Nat.zero_le _⟩ dX13_readProduct_17 (fun r58 _ hw59 => ?_)
        rcases hw59 with ⟨rfl, q61⟩ | ⟨rfl, q62⟩
        · have q61 : ((Gj5 0 6).toInt = 3 ∧ (Gj5 0 7).toInt = (47 : Int)) := q61
          refine v_if_ne F 32 dX13_readProduct_20 (by decide) 1 rfl (fun c63 => ?_) (fun c63 => absurd c63 (by decide))
          have b64 : (0 : Int) ≤ (Gj5 0 5).toInt ∧ (Gj5 0 5).toInt ≤ 1000 := jI5 0 5
          exact J_32 () (⟨by omega, by omega, xsg_2.mpr (by omega)⟩) (by have e9_0_3 : Gj5 0 3 = (G 0 3) := jU5 0 3 (by decide); (try simp only [e9_0_3, true_and, and_true]) <;> (first | omega | (simp only [Int32.reduceToInt, true_and, and_true, ne_eq, not_true_eq_false, false_and, or_false, false_or, true_or, or_true, false_implies] <;> omega))) (by (first | omega | (simp only [Int32.reduceToInt, true_and, and_true, ne_eq, not_true_eq_false, false_and, or_false, false_or, true_or, or_true, false_implies] <;> omega)))
        · have q62 : ((Gj5 0 6).toInt ≠ 3 ∨ (Gj5 0 7).toInt ≠ (47 : Int)) := q62
          refine v_if_ne F 32 dX13_readProduct_20 (by decide) 0 rfl (fun c65 => absurd c65 (by decide)) (fun c65 => ?_)
          refine g_aload_n F 0 dX13_readProduct_23 rfl rfl ?_
          refine g_bipush F 37 dX13_readProduct_24 (by decide) ?_
          refine u_callVi (k := 0) (n := 0) (b := a 0) (As := [.int 37]) (st := []) F (fun sz => S_X13_isSign l D K a Gj5 37 37 rfl jI5 sz) (cwV 1 hts (gT_left gX13_readProduct_X13_isSign) rfl rfl rfl (by decide +kernel) ⟨Nat.le_of_ble_eq_true rfl, Nat.le_of_ble_eq_true rfl⟩) rfl 0 yc_0 rfl (Nat.le_of_ble_eq_true rfl) ⟨Nat.zero_le _, Nat.zero_le _⟩ dX13_readProduct_26 (fun r66 _ hw67 => ?_)
          rcases hw67 with ⟨rfl, q69⟩ | ⟨rfl, q70⟩
          · have q69 : ((Gj5 0 6).toInt = 3 ∧ (Gj5 0 7).toInt = (37 : Int)) := q69
            refine v_if_eq F 55 dX13_readProduct_29 (by decide) 1 rfl (fun c71 => absurd c71 (by decide)) (fun c71 => ?_)
            have b72 : (0 : Int) ≤ (Gj5 0 5).toInt ∧ (Gj5 0 5).toInt ≤ 1000 := jI5 0 5
            exact J_32 () (⟨by omega, by omega, xsg_2.mpr (by omega)⟩) (by have e9_0_3 : Gj5 0 3 = (G 0 3) := jU5 0 3 (by decide); (try simp only [e9_0_3, true_and, and_true]) <;> (first | omega | (simp only [Int32.reduceToInt, true_and, and_true, ne_eq, not_true_eq_false, false_and, or_false, false_or, true_or, or_true, false_implies] <;> omega))) (by (first | omega | (simp only [Int32.reduceToInt, true_and, and_true, ne_eq, not_true_eq_false, false_and, or_false, false_or, true_or, or_true, false_implies] <;> omega)))
          · have q70 : ((Gj5 0 6).toInt ≠ 3 ∨ (Gj5 0 7).toInt ≠ (37 : Int)) := q70
            refine v_if_eq F 55 dX13_readProduct_29 (by decide) 0 rfl (fun c73 => ?_) (fun c73 => absurd c73 (by decide))
            have b74 : (0 : Int) ≤ (Gj5 0 5).toInt ∧ (Gj5 0 5).toInt ≤ 1000 := jI5 0 5
            exact ux_vret F hA hQ hr Gj5 (⟨jI5, (gu_un.tr gu_un.rf (gu_un.su jU5 rfl)), (by show ((Gj5 0 5).toInt ≤ (G 0 3).toInt ∧ (G 0 5).toInt ≤ (Gj5 0 5).toInt ∧ ((Gj5 0 6).toInt = 0 ∨ (G 0 5).toInt < (Gj5 0 5).toInt)); (first | omega | (simp only [Int32.reduceToInt, true_and, and_true, ne_eq, not_true_eq_false, false_and, or_false, false_or, true_or, or_true, false_implies] <;> omega))), (sg5), (kp5), (pf5), (fun h7 => by have h6 := xsg_2.mp h7.2; omega), (ff5)⟩) rfl rfl dX13_readProduct_55
  refine g_aload_n F 0 dX13_readProduct_0 rfl rfl ?_
  refine g_iload_n F 1 dX13_readProduct_1 rfl rfl ?_
  refine uxz_callvv (k := 0) (n := 0) (b := a 0) (As := [.int 3]) (st := []) F yZ_st hZ (fun sz => S_X13_readFactor_v3 l D K a G qs vs  (by (first | omega | (simp only [Int32.reduceToInt, true_and, and_true, ne_eq, not_true_eq_false, false_and, or_false, false_or, true_or, or_true, false_implies] <;> omega))) (by (first | omega | (simp only [Int32.reduceToInt, true_and, and_true, ne_eq, not_true_eq_false, false_and, or_false, false_or, true_or, or_true, false_implies] <;> omega))) (m6) hI sz) (cwV 1 hts gT_X13_readProduct_X13_readFactor rfl rfl rfl (by decide +kernel) ⟨Nat.le_of_ble_eq_true rfl, Nat.le_of_ble_eq_true rfl⟩) rfl 0 yc_0 rfl (Nat.le_of_ble_eq_true rfl) ⟨Nat.zero_le _, Nat.zero_le _⟩ dX13_readProduct_2 hex hA hQ (fun u9 h9 => ⟨h9.1, gu_un.tr gu_un.rf (gu_un.su h9.2.1 rfl), (yKp.tr yKp.rf h9.2.2.1), (by have h9 := h9.2.2.2.1; exact h9.weak), (h9.2.2.2.2)⟩) (fun G77 hw76 => ?_)
  have hI78 : yI G77 := hw76.1
  have hU79 : gu_un ycd [5, 6, 7, 8, 9, 10, 22, 1000, 1100, 1200] G G77 := hw76.2.1
  have hp80 := hw76.2.2
  have b81 : (0 : Int) ≤ (G77 0 5).toInt ∧ (G77 0 5).toInt ≤ 1000 := hI78 0 5
  have b82 : (0 : Int) ≤ (G77 0 6).toInt ∧ (G77 0 6).toInt ≤ 4 := hI78 0 6
  have q83 : ((G77 0 5).toInt ≤ (G 0 3).toInt ∧ (G 0 5).toInt ≤ (G77 0 5).toInt ∧ ((G77 0 6).toInt = 0 ∨ (G 0 5).toInt < (G77 0 5).toInt)) := hp80.1
  have q84 : ySg 3 (G 0 20).toInt G G77 := hp80.2.1
  have q85 : yKp G G77 := hp80.2.2.1
  have b86 : (0 : Int) ≤ (G77 0 21).toInt ∧ (G77 0 21).toInt ≤ 12 := hI78 0 21
  have q87 : ySim cA ((G 0 20).toInt - 3).toNat (qW 3 (G 0 21).toInt (mL (G 0 20).toInt G)) (qF 3 (G77 0 21).toInt (mL (G 0 20).toInt G77)) G G77 := hp80.2.2.2.1
  have q88 : yFf G G77 := hp80.2.2.2.2
  have kp89 : yKp G G77 := yKp.tr yKp.rf q85
  have sg90 : ySg 3 (G 0 20).toInt G G77 := q84
  clear hp80 hw76
  exact J_5 _ G77 (Nat.lt_succ_self _) hI78 (gu_un.tr gu_un.rf (gu_un.su hU79 rfl)) (sg90) (kp89) (yP_first q87) ((yFf.tr (show yFf G G from yFf.rf) q88)) (by have e9_0_3 : G77 0 3 = (G 0 3) := hU79 0 3 (by decide); (try simp only [e9_0_3, true_and, and_true]) <;> (first | omega | (simp only [Int32.reduceToInt, true_and, and_true, ne_eq, not_true_eq_false, false_and, or_false, false_or, true_or, or_true, false_implies] <;> omega))) (by (first | omega | (simp only [Int32.reduceToInt, true_and, and_true, ne_eq, not_true_eq_false, false_and, or_false, false_or, true_or, or_true, false_implies] <;> omega)))


set_option maxHeartbeats 4000000 in
set_option maxRecDepth 100000 in
theorem S_X13_readSum_v3 (l : Launch) (D : va_G) (K : Nat → ClassId) (a : Nat → Nat) (G : gS) (qs vs : Nat → Nat) (pb : ((G 0 5).toInt ≤ (G 0 3).toInt)) (s35 : (3 ≤ (G 0 20).toInt)) (m6 : ((G 12 ((G 0 20).toInt).toNat).toInt ≤ 6 * (G 0 21).toInt)) (hI : yI G) (sz : Nat) : KxvZ (yZ qs vs) l yX13_readSum wsT_X13_readSum 12 281 D [.ref (a 0), .int 3] (yW K a G) (tK K) sz (fun (G' : gS) => (yI G') ∧ (gu_un ycd [5, 6, 7, 8, 9, 10, 22, 1000, 1100, 1200] G G') ∧ (((G' 0 5).toInt ≤ (G 0 3).toInt ∧ (G 0 5).toInt ≤ (G' 0 5).toInt ∧ ((G' 0 6).toInt = 0 ∨ (G 0 5).toInt < (G' 0 5).toInt))) ∧ (ySg 3 (G 0 20).toInt G G') ∧ (yKp G G') ∧ (ySim cS ((G 0 20).toInt - 3).toNat (qW 3 (G 0 21).toInt (mL (G 0 20).toInt G)) (qD 3 (G' 0 21).toInt (mL (G 0 20).toInt G')) G G') ∧ (((G' 0 6).toInt ≠ 3 ∨ xsg (G' 0 7).toInt = 0)) ∧ (yFf G G')) (fun (G' : gS) => (yI G') ∧ (gu_un ycd [5, 6, 7, 8, 9, 10, 22, 1000, 1100, 1200] G G') ∧ (yKp G G') ∧ (yThr cS ((G 0 20).toInt - 3).toNat (qW 3 (G 0 21).toInt (mL (G 0 20).toInt G)) G G') ∧ (((G' 0 8).toInt ≠ 0))) (a 1) (fun (G' : gS) => (yW K a G')) := by
  unfold KxvZ
  refine gxz_ofW (cc := cX13_readSum) (lv := [(0, .ref (a 0)), (1, .int 3)]) (by decide) rfl (Nat.le_of_ble_eq_true rfl) rfl ?_
  intro p e s m args below meth c A Q hA hQ hZ F hr hex
  have hts := F.2.2.2.2.1
  have w_0 : (Cond.fieldLink RX13 41 "QuietCutModel" "value" "I").before args s = true := hts _ (List.mem_of_getElem? (i := 1) rfl)
  have i_X13 : ∀ w ∈ u_ws RX13 TX13 73, w ∈ wsT_X13_readSum := fun w h => List.mem_append_left _ ((show ∀ w ∈ u_ws RX13 TX13 73, w ∈ wsX13_readSum from fun _ h => List.mem_cons_of_mem _ (List.mem_append_right _ h)) w h)
  have b1 : (0 : Int) ≤ (G 0 3).toInt ∧ (G 0 3).toInt ≤ 1000 := hI 0 3
  have b2 : (0 : Int) ≤ (G 0 5).toInt ∧ (G 0 5).toInt ≤ 1000 := hI 0 5
  have b3 : (0 : Int) ≤ (G 0 6).toInt ∧ (G 0 6).toInt ≤ 4 := hI 0 6
  have b4 : (0 : Int) ≤ (G 0 20).toInt ∧ (G 0 20).toInt ≤ 5 := hI 0 20
  have b5 : (0 : Int) ≤ (G 0 21).toInt ∧ (G 0 21).toInt ≤ 12 := hI 0 21
  have J_5 : ∀ (fuel : Nat) (Gj5 : gS), (8 * (1000 - (Gj5 0 5).toInt) + (Gj5 0 6).toInt).toNat < fuel → (yI Gj5) → (gu_un ycd [5, 6, 7, 8, 9, 10, 22, 1000, 1100, 1200] G Gj5) → (ySg 3 (G 0 20).toInt G Gj5) → (yKp G Gj5) → (ySim cS ((G 0 20).toInt - 3).toNat (qW 3 (G 0 21).toInt (mL (G 0 20).toInt G)) (qD 3 (Gj5 0 21).toInt (mL (G 0 20).toInt Gj5)) G Gj5) → (¬ ((Gj5 0 6).toInt = 3 ∧ xsg (Gj5 0 7).toInt = 2)) → (yFf G Gj5) → (((Gj5 0 5).toInt ≤ (G 0 3).toInt)) → (((G 0 5).toInt ≤ (Gj5 0 5).toInt ∧ ((Gj5 0 6).toInt = 0 ∨ (G 0 5).toInt < (Gj5 0 5).toInt))) → gG p l e (gR 12 0 0 281) s m args below meth c D A 3 Q 0 0 (yW K a Gj5) (tK K) [(0, .ref (a 0)), (1, .int 3)] 5 [] := by
    intro fuel
    induction fuel with
    | zero => intro Gj5 hm; exact absurd hm (Nat.not_lt_zero _)
    | succ fuel_5 ih_5 =>
      intro Gj5 hm_5 jI5 jU5 sg5 kp5 pf5 pn5 ff5 bl_5 bm_5
      have J_23 : ∀ (_ : Unit), (((Gj5 0 6).toInt = 3 ∧ (Gj5 0 7).toInt ≠ 33 ∧ xsg (Gj5 0 7).toInt = 1)) → (((Gj5 0 5).toInt ≤ (G 0 3).toInt)) → (((G 0 5).toInt ≤ (Gj5 0 5).toInt ∧ ((Gj5 0 6).toInt = 0 ∨ (G 0 5).toInt < (Gj5 0 5).toInt))) → gG p l e (gR 12 0 0 281) s m args below meth c D A 3 Q 0 0 (yW K a Gj5) (tK K) [(0, .ref (a 0)), (1, .int 3)] 23 [] := by
        intro _ sn bl_23 bm_23
        refine g_aload_n F 0 dX13_readSum_23 rfl rfl ?_
        refine yg_0_7 F i_X13 w_0 dX13_readSum_24 (Gj5 0 7) (rfl) ?_
        refine g_istore_n F [(2, .int (Gj5 0 7)), (0, .ref (a 0)), (1, .int 3)] dX13_readSum_27 rfl (by decide) rfl ?_
        refine g_aload_n F 1 dX13_readSum_28 rfl rfl ?_
        have b6 : (0 : Int) ≤ (Gj5 0 5).toInt ∧ (Gj5 0 5).toInt ≤ 1000 := jI5 0 5
        refine u_callVv (k := 0) (n := 0) (b := a 0) (As := []) (st := []) F (fun sz => S_X13_scan l D K a Gj5  (by have e9_0_3 : Gj5 0 3 = (G 0 3) := jU5 0 3 (by decide); (try simp only [e9_0_3, true_and, and_true]) <;> (first | omega | (simp only [Int32.reduceToInt, true_and, and_true, ne_eq, not_true_eq_false, false_and, or_false, false_or, true_or, or_true, false_implies] <;> omega))) jI5 sz) (cwV 0 hts (gT_left gX13_readSum_X13_scan) rfl rfl rfl (by decide +kernel) ⟨Nat.le_of_ble_eq_true rfl, Nat.le_of_ble_eq_true rfl⟩) rfl 0 yc_0 rfl (Nat.le_of_ble_eq_true rfl) ⟨Nat.zero_le _, Nat.zero_le _⟩ dX13_readSum_29 (fun G9 hw8 => ?_)
        have hI10 : yI G9 := hw8.1
        have hU11 : gu_un ycd [5, 6, 7, 8] Gj5 G9 := hw8.2.1
        have hp12 := hw8.2.2
        have b13 : (0 : Int) ≤ (G9 0 5).toInt ∧ (G9 0 5).toInt ≤ 1000 := hI10 0 5
        have b14 : (0 : Int) ≤ (G9 0 4).toInt ∧ (G9 0 4).toInt ≤ 1000 := hI10 0 4
        have q15 : ((G9 0 5).toInt ≤ (G 0 3).toInt ∧ (Gj5 0 5).toInt ≤ (G9 0 4).toInt ∧ (G9 0 4).toInt ≤ (G9 0 5).toInt) := by have h9 := hp12.1; (try simp only [(show Gj5 0 3 = (G 0 3) from jU5 0 3 (by decide))] at h9); first | exact h9 | omega
        have b16 : (0 : Int) ≤ (G9 0 6).toInt ∧ (G9 0 6).toInt ≤ 4 := hI10 0 6
        have q17 : (((G9 0 6).toInt = 0 ∧ (G9 0 4).toInt = (G 0 3).toInt) ∨ ((G9 0 6).toInt ≠ 0 ∧ (G9 0 4).toInt < (G9 0 5).toInt)) := by have h9 := hp12.2.1; (try simp only [(show Gj5 0 3 = (G 0 3) from jU5 0 3 (by decide))] at h9); first | exact h9 | omega
        have b18 : (0 : Int) ≤ (G9 0 7).toInt ∧ (G9 0 7).toInt ≤ 9999 := hI10 0 7
        have q19 : tTok (G 2) (G 0 3).toInt (Gj5 0 5).toInt (G9 0 6).toInt (G9 0 4).toInt (G9 0 7).toInt (G9 0 5).toInt := by have h9 := hp12.2.2; (try simp only [(show Gj5 0 3 = (G 0 3) from jU5 0 3 (by decide)), (show Gj5 2 = (G 2) from (show Gj5 2 = G 2 from funext fun k_ => jU5 2 k_ (show (200 : Nat) ∉ ([5, 6, 7, 8, 9, 10, 22, 1000, 1100, 1200] : List Nat) by decide)))] at h9); first | exact h9 | omega
        clear hp12 hw8
        refine g_aload_n F 1 dX13_readSum_32 rfl rfl ?_
        refine g_iload_n F 2 dX13_readSum_33 rfl rfl ?_
        refine uxz_callvv (k := 0) (n := 0) (b := a 0) (As := [.int 3]) (st := []) F yZ_st hZ (fun sz => S_X13_readProduct_v3 l D K a G9 qs vs  (by have e9_0_3 : G9 0 3 = (G 0 3) := (hU11 0 3 (by decide)).trans (jU5 0 3 (by decide)); (try simp only [e9_0_3, true_and, and_true]) <;> (first | omega | (simp only [Int32.reduceToInt, true_and, and_true, ne_eq, not_true_eq_false, false_and, or_false, false_or, true_or, or_true, false_implies] <;> omega))) (by have e9_0_20 : G9 0 20 = (G 0 20) := (hU11 0 20 (by decide)).trans (jU5 0 20 (by decide)); (try simp only [e9_0_20, true_and, and_true]) <;> (first | omega | (simp only [Int32.reduceToInt, true_and, and_true, ne_eq, not_true_eq_false, false_and, or_false, false_or, true_or, or_true, false_implies] <;> omega))) (by rw [show G9 0 20 = G 0 20 from (hU11 0 20 (by decide)).trans (jU5 0 20 (by decide))]; exact (ySg.m6 (c := 3) (sg5.un (show gu_un ycd [5, 6, 7, 8] Gj5 G9 from (gu_un.tr gu_un.rf (gu_un.su hU11 rfl))) rfl rfl) (by decide) (by decide) m6)) hI10 sz) (cwV 1 hts gT_X13_readSum_X13_readProduct rfl rfl rfl (by decide +kernel) ⟨Nat.le_of_ble_eq_true rfl, Nat.le_of_ble_eq_true rfl⟩) rfl 0 yc_0 rfl (Nat.le_of_ble_eq_true rfl) ⟨Nat.zero_le _, Nat.zero_le _⟩ dX13_readSum_34 hex hA hQ (fun u9 h9 => ⟨h9.1, gu_un.tr (gu_un.tr (gu_un.tr gu_un.rf (gu_un.su jU5 rfl)) (gu_un.su hU11 rfl)) (gu_un.su h9.2.1 rfl), (yKp.tr (yKp.un kp5 (show gu_un ycd [5, 6, 7, 8] Gj5 G9 from (gu_un.tr gu_un.rf (gu_un.su hU11 rfl))) rfl) h9.2.2.1), (by have h9 := h9.2.2.2.1; (try rw [show G9 0 20 = (G 0 20) from (hU11 0 20 (by decide)).trans (jU5 0 20 (by decide))] at h9); (try rw [show G9 0 21 = (Gj5 0 21) from hU11 0 21 (by decide)] at h9); exact yS_nextT (yS_sign (v := (Gj5 0 7).toInt) pf5 (show yStp [] Gj5 Gj5 G9 from ⟨(show gu_un ycd [] Gj5 Gj5 from gu_un.rf), rfl, by (try rw [show Gj5 2 = (G 2) from (show Gj5 2 = G 2 from funext fun k_ => jU5 2 k_ (show (200 : Nat) ∉ ([5, 6, 7, 8, 9, 10, 22, 1000, 1100, 1200] : List Nat) by decide))]); (try rw [show Gj5 0 3 = (G 0 3) from jU5 0 3 (by decide)]); exact q19, funext fun k_ => hU11 2 k_ (by simp [ycd]), hU11 0 3 (by decide)⟩) (by omega) rfl sn.2.2) sn.2.2 h9 rfl (mL_un (show gu_un ycd [5, 6, 7, 8] Gj5 G9 from (gu_un.tr gu_un.rf (gu_un.su hU11 rfl))) rfl)), (h9.2.2.2.2)⟩) (fun G22 hw21 => ?_)
        have hI23 : yI G22 := hw21.1
        have hU24 : gu_un ycd [5, 6, 7, 8, 9, 10, 22, 1000, 1100, 1200] G9 G22 := hw21.2.1
        have hp25 := hw21.2.2
        have b26 : (0 : Int) ≤ (G22 0 5).toInt ∧ (G22 0 5).toInt ≤ 1000 := hI23 0 5
        have b27 : (0 : Int) ≤ (G22 0 6).toInt ∧ (G22 0 6).toInt ≤ 4 := hI23 0 6
        have q28 : ((G22 0 5).toInt ≤ (G 0 3).toInt ∧ (G9 0 5).toInt ≤ (G22 0 5).toInt ∧ ((G22 0 6).toInt = 0 ∨ (G9 0 5).toInt < (G22 0 5).toInt)) := by have h9 := hp25.1; (try simp only [(show G9 0 3 = (G 0 3) from (hU11 0 3 (by decide)).trans (jU5 0 3 (by decide)))] at h9); first | exact h9 | omega
        have q29 : ySg 3 (G 0 20).toInt G9 G22 := by have h9 := hp25.2.1; (try simp only [(show G9 0 20 = (G 0 20) from (hU11 0 20 (by decide)).trans (jU5 0 20 (by decide)))] at h9); first | exact h9 | omega
        have q30 : yKp G9 G22 := hp25.2.2.1
        have b31 : (0 : Int) ≤ (Gj5 0 21).toInt ∧ (Gj5 0 21).toInt ≤ 12 := jI5 0 21
        have b32 : (0 : Int) ≤ (G22 0 21).toInt ∧ (G22 0 21).toInt ≤ 12 := hI23 0 21
        have q33 : ySim cP ((G 0 20).toInt - 3).toNat (qW 3 (Gj5 0 21).toInt (mL (G 0 20).toInt G9)) (qD 3 (G22 0 21).toInt (mL (G 0 20).toInt G22)) G9 G22 := by have h9 := hp25.2.2.2.1; (try simp only [(show G9 0 20 = (G 0 20) from (hU11 0 20 (by decide)).trans (jU5 0 20 (by decide))), (show G9 0 21 = (Gj5 0 21) from hU11 0 21 (by decide)), (show G9 0 20 = (G 0 20) from (hU11 0 20 (by decide)).trans (jU5 0 20 (by decide))), (show G9 0 20 = (G 0 20) from (hU11 0 20 (by decide)).trans (jU5 0 20 (by decide)))] at h9); first | exact h9 | omega
        have b34 : (0 : Int) ≤ (G22 0 7).toInt ∧ (G22 0 7).toInt ≤ 9999 := hI23 0 7
        have q35 : (¬ ((G22 0 6).toInt = 3 ∧ xsg (G22 0 7).toInt = 2)) := hp25.2.2.2.2.1
        have q36 : yFf G9 G22 := hp25.2.2.2.2.2
        have kp37 : yKp G G22 := yKp.tr (yKp.un kp5 (show gu_un ycd [5, 6, 7, 8] Gj5 G9 from (gu_un.tr gu_un.rf (gu_un.su hU11 rfl))) rfl) q30
        clear hp25 hw21
        refine g_aload_n F 1 dX13_readSum_37 rfl rfl ?_
        refine g_iconst F 2 dX13_readSum_38 (by decide) ?_
        refine g_iload_n F 0 dX13_readSum_39 rfl rfl ?_
        have b38 : (0 : Int) ≤ (Gj5 0 7).toInt ∧ (Gj5 0 7).toInt ≤ 9999 := jI5 0 7
        refine u_callVv (k := 0) (n := 0) (b := a 0) (As := [.int 2, .int (Gj5 0 7)]) (st := []) F (fun sz => S_X13_mark l D K a G22 2 2 (Gj5 0 7) (Gj5 0 7).toInt rfl (by decide) rfl (by omega) (by rw [show G22 0 20 = G 0 20 from (hU24 0 20 (by decide)).trans ((hU11 0 20 (by decide)).trans (jU5 0 20 (by decide)))]; have h9 : (G22 12 ((G 0 20).toInt).toNat).toInt ≤ 6 * (G22 0 21).toInt := (ySg.m6 (c := 3) q29 (by decide) (by decide) (ySg.m6 (c := 3) (sg5.un (show gu_un ycd [5, 6, 7, 8] Gj5 G9 from (gu_un.tr gu_un.rf (gu_un.su hU11 rfl))) rfl rfl) (by decide) (by decide) m6)); have h8 : (0 : Int) ≤ (G22 0 21).toInt ∧ (G22 0 21).toInt ≤ 12 := hI23 0 21; show (G22 12 ((G 0 20).toInt).toNat).toInt ≤ 79; omega) hI23 sz) (cwV 2 hts (gT_left gX13_readSum_X13_mark) rfl rfl rfl (by decide +kernel) ⟨Nat.le_of_ble_eq_true rfl, Nat.le_of_ble_eq_true rfl⟩) rfl 0 yc_0 rfl (Nat.le_of_ble_eq_true rfl) ⟨Nat.zero_le _, Nat.zero_le _⟩ dX13_readSum_40 (fun G41 hw40 => ?_)
        have hI42 : yI G41 := hw40.1
        have hU43 : gu_un ycd [1000, 1100, 1200] G22 G41 := hw40.2.1
        have hp44 := hw40.2.2
        have q45 : yMk 2 (Gj5 0 7) (G 0 20).toInt G22 G41 := by have h9 := hp44; (try simp only [(show G22 0 20 = (G 0 20) from (hU24 0 20 (by decide)).trans ((hU11 0 20 (by decide)).trans (jU5 0 20 (by decide))))] at h9); first | exact h9 | omega
        have m0 : 0 ≤ (G 12 ((G 0 20).toInt).toNat).toInt := (show (0 : Int) ≤ (G 12 ((G 0 20).toInt).toNat).toInt ∧ (G 12 ((G 0 20).toInt).toNat).toInt ≤ 80 from hI 12 _).1
        have m1 : 0 ≤ (G22 12 ((G 0 20).toInt).toNat).toInt := (show (0 : Int) ≤ (G22 12 ((G 0 20).toInt).toNat).toInt ∧ (G22 12 ((G 0 20).toInt).toNat).toInt ≤ 80 from hI23 12 _).1
        have kp46 : yKp G G41 := yKp.tr kp37 (q45.kp (by omega) m1)
        have sg47 : ySg 3 (G 0 20).toInt G G41 := ySg.join (sg5.un (show gu_un ycd [5, 6, 7, 8] Gj5 G9 from (gu_un.tr gu_un.rf (gu_un.su hU11 rfl))) rfl rfl) q29 q45 (by decide) (by omega) (by omega) m0 (by have h9 : (G22 12 ((G 0 20).toInt).toNat).toInt ≤ 6 * (G22 0 21).toInt := (ySg.m6 (c := 3) q29 (by decide) (by decide) (ySg.m6 (c := 3) (sg5.un (show gu_un ycd [5, 6, 7, 8] Gj5 G9 from (gu_un.tr gu_un.rf (gu_un.su hU11 rfl))) rfl rfl) (by decide) (by decide) m6)); have h8 : (0 : Int) ≤ (G22 0 21).toInt ∧ (G22 0 21).toInt ≤ 12 := hI23 0 21; omega)
        clear hp44 hw40
        refine g_goto F 5 dX13_readSum_43 (by decide) ?_
        refine g_locals [(0, .ref (a 0)), (1, .int 3)] [1, 2] rfl ?_
        exact ih_5 G41 (by have e9_0_5 : G41 0 5 = (G22 0 5) := hU43 0 5 (by decide); have e9_0_6 : G41 0 6 = (G22 0 6) := hU43 0 6 (by decide); (try simp only [e9_0_5, e9_0_6, true_and, and_true]) <;> omega) hI42 (gu_un.tr (gu_un.tr (gu_un.tr (gu_un.tr gu_un.rf (gu_un.su jU5 rfl)) (gu_un.su hU11 rfl)) (gu_un.su hU24 rfl)) (gu_un.su hU43 rfl)) (sg47) (kp46) (yS_next (yS_sign (v := (Gj5 0 7).toInt) pf5 (show yStp [] Gj5 Gj5 G9 from ⟨(show gu_un ycd [] Gj5 Gj5 from gu_un.rf), rfl, by (try rw [show Gj5 2 = (G 2) from (show Gj5 2 = G 2 from funext fun k_ => jU5 2 k_ (show (200 : Nat) ∉ ([5, 6, 7, 8, 9, 10, 22, 1000, 1100, 1200] : List Nat) by decide))]); (try rw [show Gj5 0 3 = (G 0 3) from jU5 0 3 (by decide)]); exact q19, funext fun k_ => hU11 2 k_ (by simp [ycd]), hU11 0 3 (by decide)⟩) (by omega) rfl sn.2.2) sn.2.2 q33 rfl (mL_un (show gu_un ycd [5, 6, 7, 8] Gj5 G9 from (gu_un.tr gu_un.rf (gu_un.su hU11 rfl))) rfl) (fun h7 => by have h6 := q35; exact h6 h7) (show gu_un ycd _ _ G41 from (show gu_un ycd [1000, 1100, 1200] G22 G41 from (gu_un.tr gu_un.rf (gu_un.su hU43 rfl)))) rfl (by rw [q45.ml (by omega) (show (0 : Int) ≤ (G22 12 ((G 0 20).toInt).toNat).toInt from (hI23 12 _).1), mEn_2 (by decide) sn.2.1 sn.2.2 (by decide)]) (congrArg Int32.toInt (show G41 0 21 = (G22 0 21) from hU43 0 21 (by decide)))) (by rw [show G41 0 6 = (G22 0 6) from hU43 0 6 (by decide), show G41 0 7 = (G22 0 7) from hU43 0 7 (by decide)]; exact q35) ((yFf.tr (show yFf G G22 from (yFf.tr (show yFf G G9 from (yFf.tr (show yFf G Gj5 from ff5) (show yFf _ G9 from yFf.un hU11 rfl))) q36)) (show yFf _ G41 from yFf.un hU43 rfl))) (by have e9_0_3 : G41 0 3 = (G 0 3) := (hU43 0 3 (by decide)).trans ((hU24 0 3 (by decide)).trans ((hU11 0 3 (by decide)).trans (jU5 0 3 (by decide)))); have e9_0_5 : G41 0 5 = (G22 0 5) := hU43 0 5 (by decide); (try simp only [e9_0_3, e9_0_5, true_and, and_true]) <;> (first | omega | (simp only [Int32.reduceToInt, true_and, and_true, ne_eq, not_true_eq_false, false_and, or_false, false_or, true_or, or_true, false_implies] <;> omega))) (by have e9_0_5 : G41 0 5 = (G22 0 5) := hU43 0 5 (by decide); have e9_0_6 : G41 0 6 = (G22 0 6) := hU43 0 6 (by decide); (try simp only [e9_0_5, e9_0_6, true_and, and_true]) <;> (first | omega | (simp only [Int32.reduceToInt, true_and, and_true, ne_eq, not_true_eq_false, false_and, or_false, false_or, true_or, or_true, false_implies] <;> omega)))
      refine g_aload_n F 0 dX13_readSum_5 rfl rfl ?_
      refine g_bipush F 43 dX13_readSum_6 (by decide) ?_
      refine u_callVi (k := 0) (n := 0) (b := a 0) (As := [.int 43]) (st := []) F (fun sz => S_X13_isSign l D K a Gj5 43 43 rfl jI5 sz) (cwV 1 hts (gT_left gX13_readSum_X13_isSign) rfl rfl rfl (by decide +kernel) ⟨Nat.le_of_ble_eq_true rfl, Nat.le_of_ble_eq_true rfl⟩) rfl 0 yc_0 rfl (Nat.le_of_ble_eq_true rfl) ⟨Nat.zero_le _, Nat.zero_le _⟩ dX13_readSum_8 (fun r48 _ hw49 => ?_)
      rcases hw49 with ⟨rfl, q51⟩ | ⟨rfl, q52⟩
      · have b53 : (0 : Int) ≤ (Gj5 0 6).toInt ∧ (Gj5 0 6).toInt ≤ 4 := jI5 0 6
        have b54 : (0 : Int) ≤ (Gj5 0 7).toInt ∧ (Gj5 0 7).toInt ≤ 9999 := jI5 0 7
        have q51 : ((Gj5 0 6).toInt = 3 ∧ (Gj5 0 7).toInt = (43 : Int)) := q51
        refine v_if_ne F 23 dX13_readSum_11 (by decide) 1 rfl (fun c55 => ?_) (fun c55 => absurd c55 (by decide))
        have b56 : (0 : Int) ≤ (Gj5 0 5).toInt ∧ (Gj5 0 5).toInt ≤ 1000 := jI5 0 5
        exact J_23 () (⟨by omega, by omega, xsg_1.mpr (by omega)⟩) (by have e9_0_3 : Gj5 0 3 = (G 0 3) := jU5 0 3 (by decide); (try simp only [e9_0_3, true_and, and_true]) <;> (first | omega | (simp only [Int32.reduceToInt, true_and, and_true, ne_eq, not_true_eq_false, false_and, or_false, false_or, true_or, or_true, false_implies] <;> omega))) (by (first | omega | (simp only [Int32.reduceToInt, true_and, and_true, ne_eq, not_true_eq_false, false_and, or_false, false_or, true_or, or_true, false_implies] <;> omega)))
      · have b57 : (0 : Int) ≤ (Gj5 0 6).toInt ∧ (Gj5 0 6).toInt ≤ 4 := jI5 0 6
        have b58 : (0 : Int) ≤ (Gj5 0 7).toInt ∧ (Gj5 0 7).toInt ≤ 9999 := jI5 0 7
        have q52 : ((Gj5 0 6).toInt ≠ 3 ∨ (Gj5 0 7).toInt ≠ (43 : Int)) := q52
        refine v_if_ne F 23 dX13_readSum_11 (by decide) 0 rfl (fun c59 => absurd c59 (by decide)) (fun c59 => ?_)
        refine g_aload_n F 0 dX13_readSum_14 rfl rfl ?_
        refine g_bipush F 45 dX13_readSum_15 (by decide) ?_
        refine u_callVi (k := 0) (n := 0) (b := a 0) (As := [.int 45]) (st := []) F (fun sz => S_X13_isSign l D K a Gj5 45 45 rfl jI5 sz) (cwV 1 hts (gT_left gX13_readSum_X13_isSign) rfl rfl rfl (by decide +kernel) ⟨Nat.le_of_ble_eq_true rfl, Nat.le_of_ble_eq_true rfl⟩) rfl 0 yc_0 rfl (Nat.le_of_ble_eq_true rfl) ⟨Nat.zero_le _, Nat.zero_le _⟩ dX13_readSum_17 (fun r60 _ hw61 => ?_)
        rcases hw61 with ⟨rfl, q63⟩ | ⟨rfl, q64⟩
        · have q63 : ((Gj5 0 6).toInt = 3 ∧ (Gj5 0 7).toInt = (45 : Int)) := q63
          refine v_if_eq F 46 dX13_readSum_20 (by decide) 1 rfl (fun c65 => absurd c65 (by decide)) (fun c65 => ?_)
          have b66 : (0 : Int) ≤ (Gj5 0 5).toInt ∧ (Gj5 0 5).toInt ≤ 1000 := jI5 0 5
          exact J_23 () (⟨by omega, by omega, xsg_1.mpr (by omega)⟩) (by have e9_0_3 : Gj5 0 3 = (G 0 3) := jU5 0 3 (by decide); (try simp only [e9_0_3, true_and, and_true]) <;> (first | omega | (simp only [Int32.reduceToInt, true_and, and_true, ne_eq, not_true_eq_false, false_and, or_false, false_or, true_or, or_true, false_implies] <;> omega))) (by (first | omega | (simp only [Int32.reduceToInt, true_and, and_true, ne_eq, not_true_eq_false, false_and, or_false, false_or, true_or, or_true, false_implies] <;> omega)))
        · have q64 : ((Gj5 0 6).toInt ≠ 3 ∨ (Gj5 0 7).toInt ≠ (45 : Int)) := q64
          refine v_if_eq F 46 dX13_readSum_20 (by decide) 0 rfl (fun c67 => ?_) (fun c67 => absurd c67 (by decide))
          have b68 : (0 : Int) ≤ (Gj5 0 5).toInt ∧ (Gj5 0 5).toInt ≤ 1000 := jI5 0 5
          exact ux_vret F hA hQ hr Gj5 (⟨jI5, (gu_un.tr gu_un.rf (gu_un.su jU5 rfl)), (by show ((Gj5 0 5).toInt ≤ (G 0 3).toInt ∧ (G 0 5).toInt ≤ (Gj5 0 5).toInt ∧ ((Gj5 0 6).toInt = 0 ∨ (G 0 5).toInt < (Gj5 0 5).toInt)); (first | omega | (simp only [Int32.reduceToInt, true_and, and_true, ne_eq, not_true_eq_false, false_and, or_false, false_or, true_or, or_true, false_implies] <;> omega))), (sg5), (kp5), (pf5), (by have h7 := xsg_le (Gj5 0 7).toInt; have h6 := @xsg_1 (Gj5 0 7).toInt; have h5 := pn5; show _ ∨ _; by_cases h4 : xsg (Gj5 0 7).toInt = 1 <;> first | omega | (left; have h3 := h6.mp h4; omega)), (ff5)⟩) rfl rfl dX13_readSum_46
  refine g_aload_n F 0 dX13_readSum_0 rfl rfl ?_
  refine g_iload_n F 1 dX13_readSum_1 rfl rfl ?_
  refine uxz_callvv (k := 0) (n := 0) (b := a 0) (As := [.int 3]) (st := []) F yZ_st hZ (fun sz => S_X13_readProduct_v3 l D K a G qs vs  (by (first | omega | (simp only [Int32.reduceToInt, true_and, and_true, ne_eq, not_true_eq_false, false_and, or_false, false_or, true_or, or_true, false_implies] <;> omega))) (by (first | omega | (simp only [Int32.reduceToInt, true_and, and_true, ne_eq, not_true_eq_false, false_and, or_false, false_or, true_or, or_true, false_implies] <;> omega))) (m6) hI sz) (cwV 1 hts gT_X13_readSum_X13_readProduct rfl rfl rfl (by decide +kernel) ⟨Nat.le_of_ble_eq_true rfl, Nat.le_of_ble_eq_true rfl⟩) rfl 0 yc_0 rfl (Nat.le_of_ble_eq_true rfl) ⟨Nat.zero_le _, Nat.zero_le _⟩ dX13_readSum_2 hex hA hQ (fun u9 h9 => ⟨h9.1, gu_un.tr gu_un.rf (gu_un.su h9.2.1 rfl), (yKp.tr yKp.rf h9.2.2.1), (by have h9 := h9.2.2.2.1; exact yS_firstT h9), (h9.2.2.2.2)⟩) (fun G71 hw70 => ?_)
  have hI72 : yI G71 := hw70.1
  have hU73 : gu_un ycd [5, 6, 7, 8, 9, 10, 22, 1000, 1100, 1200] G G71 := hw70.2.1
  have hp74 := hw70.2.2
  have b75 : (0 : Int) ≤ (G71 0 5).toInt ∧ (G71 0 5).toInt ≤ 1000 := hI72 0 5
  have b76 : (0 : Int) ≤ (G71 0 6).toInt ∧ (G71 0 6).toInt ≤ 4 := hI72 0 6
  have q77 : ((G71 0 5).toInt ≤ (G 0 3).toInt ∧ (G 0 5).toInt ≤ (G71 0 5).toInt ∧ ((G71 0 6).toInt = 0 ∨ (G 0 5).toInt < (G71 0 5).toInt)) := hp74.1
  have q78 : ySg 3 (G 0 20).toInt G G71 := hp74.2.1
  have q79 : yKp G G71 := hp74.2.2.1
  have b80 : (0 : Int) ≤ (G71 0 21).toInt ∧ (G71 0 21).toInt ≤ 12 := hI72 0 21
  have q81 : ySim cP ((G 0 20).toInt - 3).toNat (qW 3 (G 0 21).toInt (mL (G 0 20).toInt G)) (qD 3 (G71 0 21).toInt (mL (G 0 20).toInt G71)) G G71 := hp74.2.2.2.1
  have b82 : (0 : Int) ≤ (G71 0 7).toInt ∧ (G71 0 7).toInt ≤ 9999 := hI72 0 7
  have q83 : (¬ ((G71 0 6).toInt = 3 ∧ xsg (G71 0 7).toInt = 2)) := hp74.2.2.2.2.1
  have q84 : yFf G G71 := hp74.2.2.2.2.2
  have kp85 : yKp G G71 := yKp.tr yKp.rf q79
  have sg86 : ySg 3 (G 0 20).toInt G G71 := q78
  clear hp74 hw70
  exact J_5 _ G71 (Nat.lt_succ_self _) hI72 (gu_un.tr gu_un.rf (gu_un.su hU73 rfl)) (sg86) (kp85) (yS_first q81) (q83) ((yFf.tr (show yFf G G from yFf.rf) q84)) (by have e9_0_3 : G71 0 3 = (G 0 3) := hU73 0 3 (by decide); (try simp only [e9_0_3, true_and, and_true]) <;> (first | omega | (simp only [Int32.reduceToInt, true_and, and_true, ne_eq, not_true_eq_false, false_and, or_false, false_or, true_or, or_true, false_implies] <;> omega))) (by (first | omega | (simp only [Int32.reduceToInt, true_and, and_true, ne_eq, not_true_eq_false, false_and, or_false, false_or, true_or, or_true, false_implies] <;> omega)))
