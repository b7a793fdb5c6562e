set_option maxRecDepth 20000 in
theorem ggX13_readFactor_X13_readFactor : GoodIn wsX13_readFactor wsX13_readFactor := goodIn_r _ [0, 1, 2, 3, 4, 5, 6, 7, 8, 9, 10, 11, 12, 13, 14, 15, 16, 17, 18, 19, 20, 21, 22, 23, 24, 25, 26, 27, 28, 29, 30, 31, 32, 33, 34, 35, 36, 37, 38, 39, 40, 41, 42, 43, 44, 45, 46, 47, 48, 49, 50, 51, 52, 53, 54, 55, 56, 57, 58, 59, 60, 61, 62, 63, 64, 65, 66, 67, 68, 69, 70, 71, 72, 73, 74, 75, 76, 77, 78, 79, 80, 81, 82, 83, 84, 85, 86, 87, 88, 89, 90, 91, 92, 93, 94, 95, 96, 97, 98, 99, 100, 101, 102, 103, 104, 105, 106, 107, 108, 109, 110, 111, 112, 113, 114, 115, 116, 117, 118, 119, 120, 121, 122, 123, 124, 125, 126, 127, 128, 129, 130, 131, 132, 133, 134, 135, 136, 137, 138, 139, 140, 141, 142, 143, 144, 145, 146, 147, 148, 149, 150, 151, 152, 153, 154, 155, 156, 157, 158, 159, 160, 161, 162, 163, 164, 165, 166, 167, 168, 169, 170, 171, 172, 173, 174, 175, 176, 177, 178, 179] rfl (by decide +kernel)
set_option maxRecDepth 20000 in
theorem gX13_readFactor_X13_readFactor : GoodIn wsX13_readFactor (wsV RX13 113 RX13 yX13_readFactor wsX13_readFactor) := goodIn_app (goodIn_of _ (by decide +kernel)) ggX13_readFactor_X13_readFactor
set_option maxRecDepth 20000 in
theorem ggX13_readFactor_X13_readSum : GoodIn wsX13_readFactor wsX13_readSum := goodIn_r _ [103, 3, 104, 105, 106, 7, 4, 5, 6, 8, 1, 13, 14, 15, 16, 17, 18, 19, 20, 21, 22, 23, 24, 25, 26, 27, 28, 29, 30, 34, 35, 36, 37, 38, 39, 40, 41, 0, 2, 9, 10, 11, 12, 31, 32, 33, 42, 43, 44, 45, 46, 47, 48, 49, 50, 51, 52, 53, 54, 55, 56, 57, 58, 59, 60, 61, 62, 63, 64, 65, 66, 67, 68, 69, 70, 71, 72, 73, 74, 75, 76, 77, 78, 79, 80, 81, 82, 83, 84, 85, 86, 87, 88, 89, 90, 91, 92, 93, 94, 95, 96, 97, 98, 99, 100, 101, 102, 107, 108, 109, 110, 111, 112, 113, 114, 115, 116, 117, 118, 119, 120, 121, 122, 123, 124, 125, 126, 127, 128, 129, 130, 131, 132, 133, 134, 135, 136, 137, 138, 139, 140, 141, 142, 143, 144, 145, 146, 147, 148, 149, 150, 151, 152, 153, 154, 155, 156, 157, 158, 159, 160, 161, 162, 163, 164, 165, 166, 167, 168, 169, 170, 171, 172, 173, 174, 175, 176, 177, 178, 179] rfl (by decide +kernel)
set_option maxRecDepth 20000 in
theorem gX13_readFactor_X13_readSum : GoodIn wsX13_readFactor (wsV RX13 128 RX13 yX13_readSum wsX13_readSum) := goodIn_app (goodIn_of _ (by decide +kernel)) ggX13_readFactor_X13_readSum
theorem gT_X13_readFactor_X13_readFactor : GoodIn wsT_X13_readFactor (wsV RX13 113 RX13 yX13_readFactor wsT_X13_readFactor) := gT_call gX13_readFactor_X13_readFactor gT_nx
theorem gT_X13_readFactor_X13_readSum : GoodIn wsT_X13_readFactor (wsV RX13 128 RX13 yX13_readSum wsT_X13_readSum) := gT_call gX13_readFactor_X13_readSum gT_nx
set_option maxHeartbeats 4000000 in
set_option maxRecDepth 100000 in
theorem S_X13_readFactor_v3 (l : Launch) (D : va_G) (K : Nat → ClassId) (a : Nat → Nat) (G : gS) (qs vs : Nat → Nat) (pb : ((G 0 5).toInt ≤ (G 0 3).toInt)) (s35 : (3 ≤ (G 0 20).toInt)) (m6 : ((G 12 ((G 0 20).toInt).toNat).toInt ≤ 6 * (G 0 21).toInt)) (hI : yI G) (sz : Nat) : KxvZ (yZ qs vs) l yX13_readFactor wsT_X13_readFactor 10 236 D [.ref (a 0), .int 3] (yW K a G) (tK K) sz (fun (G' : gS) => (yI G') ∧ (gu_un ycd [5, 6, 7, 8, 9, 10, 22, 1000, 1100, 1200] G G') ∧ (((G' 0 5).toInt ≤ (G 0 3).toInt ∧ (G 0 5).toInt ≤ (G' 0 5).toInt ∧ ((G' 0 6).toInt = 0 ∨ (G 0 5).toInt < (G' 0 5).toInt))) ∧ (ySg 3 (G 0 20).toInt G G') ∧ (yKp G G')) (fun (G' : gS) => (yI G') ∧ (gu_un ycd [5, 6, 7, 8, 9, 10, 22, 1000, 1100, 1200] G G') ∧ (yKp G G')) (a 1) (fun (G' : gS) => (yW K a G')) := by
  unfold KxvZ
  refine gxz_ofW (cc := cX13_readFactor) (lv := [(0, .ref (a 0)), (1, .int 3)]) (by decide) rfl (Nat.le_of_ble_eq_true rfl) rfl ?_
  intro p e s m args below meth c A Q hA hQ hZ F hr hex
  have hts := F.2.2.2.2.1
  have w_0 : (Cond.fieldLink RX13 134 "QuietCutModel" "parts" "I").before args s = true := hts _ (List.mem_of_getElem? (i := 2) rfl)
  have i_X13 : ∀ w ∈ u_ws RX13 TX13 73, w ∈ wsT_X13_readFactor := fun w h => List.mem_append_left _ ((show ∀ w ∈ u_ws RX13 TX13 73, w ∈ wsX13_readFactor from fun _ h => List.mem_cons_of_mem _ (List.mem_append_right _ h)) w h)
  have w_1 : (Cond.fieldLink RX13 31 "QuietCutModel" "hand" "I").before args s = true := hts _ (List.mem_of_getElem? (i := 1) rfl)
  have w_2 : (Cond.fieldLink RX13 41 "QuietCutModel" "value" "I").before args s = true := hts _ (List.mem_of_getElem? (i := 3) rfl)
  have b1 : (0 : Int) ≤ (G 0 3).toInt ∧ (G 0 3).toInt ≤ 1000 := hI 0 3
  have b2 : (0 : Int) ≤ (G 0 5).toInt ∧ (G 0 5).toInt ≤ 1000 := hI 0 5
  have b3 : (0 : Int) ≤ (G 0 6).toInt ∧ (G 0 6).toInt ≤ 4 := hI 0 6
  have b4 : (0 : Int) ≤ (G 0 20).toInt ∧ (G 0 20).toInt ≤ 5 := hI 0 20
  have b5 : (0 : Int) ≤ (G 0 21).toInt ∧ (G 0 21).toInt ≤ 12 := hI 0 21
  refine g_aload_n F 0 dX13_readFactor_0 rfl rfl ?_
  refine g_bipush F 45 dX13_readFactor_1 (by decide) ?_
  refine u_callVi (k := 0) (n := 0) (b := a 0) (As := [.int 45]) (st := []) F (fun sz => S_X13_isSign l D K a G 45 45 rfl hI sz) (cwV 1 hts (gT_left gX13_readFactor_X13_isSign) rfl rfl rfl (by decide +kernel) ⟨Nat.le_of_ble_eq_true rfl, Nat.le_of_ble_eq_true rfl⟩) rfl 0 yc_0 rfl (Nat.le_of_ble_eq_true rfl) ⟨Nat.zero_le _, Nat.zero_le _⟩ dX13_readFactor_3 (fun r6 _ hw7 => ?_)
  rcases hw7 with ⟨rfl, q9⟩ | ⟨rfl, q10⟩
  · have q9 : ((G 0 6).toInt = 3 ∧ (G 0 7).toInt = (45 : Int)) := q9
    refine g_istore_n F [(2, .int 1), (0, .ref (a 0)), (1, .int 3)] dX13_readFactor_6 rfl (by decide) rfl ?_
    refine g_iload_n F 0 dX13_readFactor_7 rfl rfl ?_
    refine v_if_ne F 20 dX13_readFactor_8 (by decide) 1 rfl (fun c11 => ?_) (fun c11 => absurd c11 (by decide))
    refine g_aload_n F 1 dX13_readFactor_20 rfl rfl ?_
    refine g_iload_n F 2 dX13_readFactor_21 rfl rfl ?_
    refine g_iconst F 4 dX13_readFactor_22 (by decide) ?_
    refine v_icmp_ge F 30 dX13_readFactor_23 (by decide) 3 4 rfl rfl (fun c12 => absurd c12 (by decide)) (fun c12 => ?_)
    refine g_iconst F 1 dX13_readFactor_26 (by decide) ?_
    refine g_goto F 31 dX13_readFactor_27 (by decide) ?_
    refine g_iconst F 4 dX13_readFactor_31 (by decide) ?_
    refine ux_callvv (k := 0) (n := 0) (b := a 0) (As := [.int 1, .int 4]) (st := []) F (fun sz => S_X13_need l D K a G 1 1 4 4 rfl (by decide) rfl hI sz) (cwV 2 hts gT_X13_readFactor_X13_need rfl rfl rfl (by decide +kernel) ⟨Nat.le_of_ble_eq_true rfl, Nat.le_of_ble_eq_true rfl⟩) rfl 0 yc_0 rfl (Nat.le_of_ble_eq_true rfl) ⟨Nat.zero_le _, Nat.zero_le _⟩ dX13_readFactor_32 hex hA hQ (fun u9 h9 => ⟨h9.1, gu_un.tr gu_un.rf (gu_un.su h9.2.1 rfl), (yKp.un yKp.rf h9.2.1 rfl)⟩) (fun G15 hw14 => ?_)
    have hI16 : yI G15 := hw14.1
    have hU17 : gu_un ycd [9, 10] G G15 := hw14.2.1
    have hp18 := hw14.2.2
    have q19 : ((1 : Int) ≠ 0) := hp18
    clear hp18 hw14
    refine g_aload_n F 1 dX13_readFactor_35 rfl rfl ?_
    refine u_callVv (k := 0) (n := 0) (b := a 0) (As := []) (st := []) F (fun sz => S_X13_scan l D K a G15  (by have e9_0_3 : G15 0 3 = (G 0 3) := hU17 0 3 (by decide); have e9_0_5 : G15 0 5 = (G 0 5) := hU17 0 5 (by decide); (try simp only [e9_0_3, e9_0_5, true_and, and_true]) <;> (first | omega | (simp only [Int32.reduceToInt, true_and, and_true, ne_eq, not_true_eq_false, false_and, or_false, false_or, true_or, or_true, false_implies] <;> omega))) hI16 sz) (cwV 0 hts (gT_left gX13_readFactor_X13_scan) rfl rfl rfl (by decide +kernel) ⟨Nat.le_of_ble_eq_true rfl, Nat.le_of_ble_eq_true rfl⟩) rfl 0 yc_0 rfl (Nat.le_of_ble_eq_true rfl) ⟨Nat.zero_le _, Nat.zero_le _⟩ dX13_readFactor_36 (fun G22 hw21 => ?_)
    have hI23 : yI G22 := hw21.1
    have hU24 : gu_un ycd [5, 6, 7, 8] G15 G22 := hw21.2.1
    have hp25 := hw21.2.2
    have b26 : (0 : Int) ≤ (G22 0 5).toInt ∧ (G22 0 5).toInt ≤ 1000 := hI23 0 5
    have b27 : (0 : Int) ≤ (G22 0 4).toInt ∧ (G22 0 4).toInt ≤ 1000 := hI23 0 4
    have q28 : ((G22 0 5).toInt ≤ (G 0 3).toInt ∧ (G 0 5).toInt ≤ (G22 0 4).toInt ∧ (G22 0 4).toInt ≤ (G22 0 5).toInt) := by have h9 := hp25.1; (try simp only [(show G15 0 3 = (G 0 3) from hU17 0 3 (by decide)), (show G15 0 5 = (G 0 5) from hU17 0 5 (by decide))] at h9); first | exact h9 | omega
    have b29 : (0 : Int) ≤ (G22 0 6).toInt ∧ (G22 0 6).toInt ≤ 4 := hI23 0 6
    have q30 : (((G22 0 6).toInt = 0 ∧ (G22 0 4).toInt = (G 0 3).toInt) ∨ ((G22 0 6).toInt ≠ 0 ∧ (G22 0 4).toInt < (G22 0 5).toInt)) := by have h9 := hp25.2.1; (try simp only [(show G15 0 3 = (G 0 3) from hU17 0 3 (by decide))] at h9); first | exact h9 | omega
    have q31 : tTok (G 2) (G 0 3).toInt (G 0 5).toInt (G22 0 6).toInt (G22 0 4).toInt (G22 0 7).toInt (G22 0 5).toInt := by have h9 := hp25.2.2; (try simp only [(show G15 0 3 = (G 0 3) from hU17 0 3 (by decide)), (show G15 0 5 = (G 0 5) from hU17 0 5 (by decide)), (show G15 2 = (G 2) from (show G15 2 = G 2 from funext fun k_ => hU17 2 k_ (show (200 : Nat) ∉ ([9, 10] : List Nat) by decide)))] at h9); first | exact h9 | omega
    clear hp25 hw21
    refine g_iload_n F 0 dX13_readFactor_39 rfl rfl ?_
    refine v_if_eq F 60 dX13_readFactor_40 (by decide) 1 rfl (fun c32 => absurd c32 (by decide)) (fun c32 => ?_)
    refine g_aload_n F 1 dX13_readFactor_43 rfl rfl ?_
    refine g_iload_n F 2 dX13_readFactor_44 rfl rfl ?_
    refine g_iconst F 1 dX13_readFactor_45 (by decide) ?_
    refine g_iadd F dX13_readFactor_46 ?_
    refine g_fold 4 (by decide) ?_
    refine uxz_callvv (k := 0) (n := 0) (b := a 0) (As := [.int 4]) (st := []) F yZ_st hZ (fun sz => S_X13_readFactor_v4 l D K a G22 qs vs  (by have e9_0_3 : G22 0 3 = (G 0 3) := (hU24 0 3 (by decide)).trans (hU17 0 3 (by decide)); (try simp only [e9_0_3, true_and, and_true]) <;> (first | omega | (simp only [Int32.reduceToInt, true_and, and_true, ne_eq, not_true_eq_false, false_and, or_false, false_or, true_or, or_true, false_implies] <;> omega))) (by have e9_0_20 : G22 0 20 = (G 0 20) := (hU24 0 20 (by decide)).trans (hU17 0 20 (by decide)); (try simp only [e9_0_20, true_and, and_true]) <;> (first | omega | (simp only [Int32.reduceToInt, true_and, and_true, ne_eq, not_true_eq_false, false_and, or_false, false_or, true_or, or_true, false_implies] <;> omega))) (by rw [show G22 0 20 = G 0 20 from (hU24 0 20 (by decide)).trans (hU17 0 20 (by decide))]; exact (y_m6 m6 (show gu_un ycd [5, 6, 7, 8, 9, 10] G G22 from (gu_un.tr (gu_un.tr gu_un.rf (gu_un.su hU17 rfl)) (gu_un.su hU24 rfl))) rfl rfl)) hI23 sz) (cwV 1 hts gT_X13_readFactor_X13_readFactor rfl rfl rfl (by decide +kernel) ⟨Nat.le_of_ble_eq_true rfl, Nat.le_of_ble_eq_true rfl⟩) rfl 0 yc_0 rfl (Nat.le_of_ble_eq_true rfl) ⟨Nat.zero_le _, Nat.zero_le _⟩ dX13_readFactor_47 hex hA hQ (fun u9 h9 => ⟨h9.1, gu_un.tr (gu_un.tr (gu_un.tr gu_un.rf (gu_un.su hU17 rfl)) (gu_un.su hU24 rfl)) (gu_un.su h9.2.1 rfl), (yKp.tr (yKp.un yKp.rf (show gu_un ycd [5, 6, 7, 8, 9, 10] G G22 from (gu_un.tr (gu_un.tr gu_un.rf (gu_un.su hU17 rfl)) (gu_un.su hU24 rfl))) rfl) h9.2.2)⟩) (fun G35 hw34 => ?_)
    have hI36 : yI G35 := hw34.1
    have hU37 : gu_un ycd [5, 6, 7, 8, 9, 10, 22, 1000, 1100, 1200] G22 G35 := hw34.2.1
    have hp38 := hw34.2.2
    have b39 : (0 : Int) ≤ (G35 0 5).toInt ∧ (G35 0 5).toInt ≤ 1000 := hI36 0 5
    have b40 : (0 : Int) ≤ (G35 0 6).toInt ∧ (G35 0 6).toInt ≤ 4 := hI36 0 6
    have q41 : ((G35 0 5).toInt ≤ (G 0 3).toInt ∧ (G22 0 5).toInt ≤ (G35 0 5).toInt ∧ ((G35 0 6).toInt = 0 ∨ (G22 0 5).toInt < (G35 0 5).toInt)) := by have h9 := hp38.1; (try simp only [(show G22 0 3 = (G 0 3) from (hU24 0 3 (by decide)).trans (hU17 0 3 (by decide)))] at h9); first | exact h9 | omega
    have q42 : ySg 2 (G 0 20).toInt G22 G35 := by have h9 := hp38.2.1; (try simp only [(show G22 0 20 = (G 0 20) from (hU24 0 20 (by decide)).trans (hU17 0 20 (by decide)))] at h9); first | exact h9 | omega
    have q43 : yKp G22 G35 := hp38.2.2
    have kp44 : yKp G G35 := yKp.tr (yKp.un yKp.rf (show gu_un ycd [5, 6, 7, 8, 9, 10] G G22 from (gu_un.tr (gu_un.tr gu_un.rf (gu_un.su hU17 rfl)) (gu_un.su hU24 rfl))) rfl) q43
    have sg45 : ySg 2 (G 0 20).toInt G G35 := ySg.un0 q42 (show gu_un ycd [5, 6, 7, 8, 9, 10] G G22 from (gu_un.tr (gu_un.tr gu_un.rf (gu_un.su hU17 rfl)) (gu_un.su hU24 rfl))) rfl rfl
    clear hp38 hw34
    refine g_aload_n F 1 dX13_readFactor_50 rfl rfl ?_
    refine g_iconst F 2 dX13_readFactor_51 (by decide) ?_
    refine g_bipush F 33 dX13_readFactor_52 (by decide) ?_
    refine u_callVv (k := 0) (n := 0) (b := a 0) (As := [.int 2, .int 33]) (st := []) F (fun sz => S_X13_mark l D K a G35 2 2 33 33 rfl (by decide) rfl (by rw [show G35 0 20 = G 0 20 from (hU37 0 20 (by decide)).trans ((hU24 0 20 (by decide)).trans (hU17 0 20 (by decide)))]; have h9 : (G35 12 ((G 0 20).toInt).toNat).toInt ≤ 6 * (G35 0 21).toInt := (ySg.m6 (c := 2) sg45 (by decide) (by decide) m6); have h8 : (0 : Int) ≤ (G35 0 21).toInt ∧ (G35 0 21).toInt ≤ 12 := hI36 0 21; show (G35 12 ((G 0 20).toInt).toNat).toInt ≤ 79; omega) hI36 sz) (cwV 2 hts (gT_left gX13_readFactor_X13_mark) rfl rfl rfl (by decide +kernel) ⟨Nat.le_of_ble_eq_true rfl, Nat.le_of_ble_eq_true rfl⟩) rfl 0 yc_0 rfl (Nat.le_of_ble_eq_true rfl) ⟨Nat.zero_le _, Nat.zero_le _⟩ dX13_readFactor_54 (fun G48 hw47 => ?_)
    have hI49 : yI G48 := hw47.1
    have hU50 : gu_un ycd [1000, 1100, 1200] G35 G48 := hw47.2.1
    have hp51 := hw47.2.2
    have q52 : yMk 2 33 (G 0 20).toInt G35 G48 := by have h9 := hp51; (try simp only [(show G35 0 20 = (G 0 20) from (hU37 0 20 (by decide)).trans ((hU24 0 20 (by decide)).trans (hU17 0 20 (by decide))))] at h9); first | exact h9 | omega
    have m0 : 0 ≤ (G 12 ((G 0 20).toInt).toNat).toInt := (show (0 : Int) ≤ (G 12 ((G 0 20).toInt).toNat).toInt ∧ (G 12 ((G 0 20).toInt).toNat).toInt ≤ 80 from hI 12 _).1
    have m1 : 0 ≤ (G35 12 ((G 0 20).toInt).toNat).toInt := (show (0 : Int) ≤ (G35 12 ((G 0 20).toInt).toNat).toInt ∧ (G35 12 ((G 0 20).toInt).toNat).toInt ≤ 80 from hI36 12 _).1
    have kp53 : yKp G G48 := yKp.tr kp44 (q52.kp (by omega) m1)
    have sg54 : ySg 3 (G 0 20).toInt G G48 := ySg.neg sg45 q52 (by decide) (by decide) (by decide) (by decide) (by omega) m0 (by have h9 : (G35 12 ((G 0 20).toInt).toNat).toInt ≤ 6 * (G35 0 21).toInt := (ySg.m6 (c := 2) sg45 (by decide) (by decide) m6); have h8 : (0 : Int) ≤ (G35 0 21).toInt ∧ (G35 0 21).toInt ≤ 12 := hI36 0 21; omega)
    clear hp51 hw47
    refine g_goto F 82 dX13_readFactor_57 (by decide) ?_
    exact ux_vret F hA hQ hr G48 (⟨hI49, (gu_un.tr (gu_un.tr (gu_un.tr (gu_un.tr gu_un.rf (gu_un.su hU17 rfl)) (gu_un.su hU24 rfl)) (gu_un.su hU37 rfl)) (gu_un.su hU50 rfl)), (by show ((G48 0 5).toInt ≤ (G 0 3).toInt ∧ (G 0 5).toInt ≤ (G48 0 5).toInt ∧ ((G48 0 6).toInt = 0 ∨ (G 0 5).toInt < (G48 0 5).toInt)); have e9_0_5 : G48 0 5 = (G35 0 5) := hU50 0 5 (by decide); have e9_0_6 : G48 0 6 = (G35 0 6) := hU50 0 6 (by decide); (try simp only [e9_0_5, e9_0_6, true_and, and_true]) <;> (first | omega | (simp only [Int32.reduceToInt, true_and, and_true, ne_eq, not_true_eq_false, false_and, or_false, false_or, true_or, or_true, false_implies] <;> omega))), (sg54), (kp53)⟩) rfl rfl dX13_readFactor_82
  · have q10 : ((G 0 6).toInt ≠ 3 ∨ (G 0 7).toInt ≠ (45 : Int)) := q10
    refine g_istore_n F [(2, .int 0), (0, .ref (a 0)), (1, .int 3)] dX13_readFactor_6 rfl (by decide) rfl ?_
    refine g_iload_n F 0 dX13_readFactor_7 rfl rfl ?_
    refine v_if_ne F 20 dX13_readFactor_8 (by decide) 0 rfl (fun c55 => absurd c55 (by decide)) (fun c55 => ?_)
    refine g_aload_n F 1 dX13_readFactor_11 rfl rfl ?_
    refine g_bipush F 40 dX13_readFactor_12 (by decide) ?_
    refine u_callVi (k := 0) (n := 0) (b := a 0) (As := [.int 40]) (st := []) F (fun sz => S_X13_isSign l D K a G 40 40 rfl hI sz) (cwV 1 hts (gT_left gX13_readFactor_X13_isSign) rfl rfl rfl (by decide +kernel) ⟨Nat.le_of_ble_eq_true rfl, Nat.le_of_ble_eq_true rfl⟩) rfl 0 yc_0 rfl (Nat.le_of_ble_eq_true rfl) ⟨Nat.zero_le _, Nat.zero_le _⟩ dX13_readFactor_14 (fun r56 _ hw57 => ?_)
    rcases hw57 with ⟨rfl, q59⟩ | ⟨rfl, q60⟩
    · have q59 : ((G 0 6).toInt = 3 ∧ (G 0 7).toInt = (40 : Int)) := q59
      refine v_if_eq F 83 dX13_readFactor_17 (by decide) 1 rfl (fun c61 => absurd c61 (by decide)) (fun c61 => ?_)
      refine g_aload_n F 1 dX13_readFactor_20 rfl rfl ?_
      refine g_iload_n F 2 dX13_readFactor_21 rfl rfl ?_
      refine g_iconst F 4 dX13_readFactor_22 (by decide) ?_
      refine v_icmp_ge F 30 dX13_readFactor_23 (by decide) 3 4 rfl rfl (fun c62 => absurd c62 (by decide)) (fun c62 => ?_)
      refine g_iconst F 1 dX13_readFactor_26 (by decide) ?_
      refine g_goto F 31 dX13_readFactor_27 (by decide) ?_
      refine g_iconst F 4 dX13_readFactor_31 (by decide) ?_
      refine ux_callvv (k := 0) (n := 0) (b := a 0) (As := [.int 1, .int 4]) (st := []) F (fun sz => S_X13_need l D K a G 1 1 4 4 rfl (by decide) rfl hI sz) (cwV 2 hts gT_X13_readFactor_X13_need rfl rfl rfl (by decide +kernel) ⟨Nat.le_of_ble_eq_true rfl, Nat.le_of_ble_eq_true rfl⟩) rfl 0 yc_0 rfl (Nat.le_of_ble_eq_true rfl) ⟨Nat.zero_le _, Nat.zero_le _⟩ dX13_readFactor_32 hex hA hQ (fun u9 h9 => ⟨h9.1, gu_un.tr gu_un.rf (gu_un.su h9.2.1 rfl), (yKp.un yKp.rf h9.2.1 rfl)⟩) (fun G65 hw64 => ?_)
      have hI66 : yI G65 := hw64.1
      have hU67 : gu_un ycd [9, 10] G G65 := hw64.2.1
      have hp68 := hw64.2.2
      have q69 : ((1 : Int) ≠ 0) := hp68
      clear hp68 hw64
      refine g_aload_n F 1 dX13_readFactor_35 rfl rfl ?_
      refine u_callVv (k := 0) (n := 0) (b := a 0) (As := []) (st := []) F (fun sz => S_X13_scan l D K a G65  (by have e9_0_3 : G65 0 3 = (G 0 3) := hU67 0 3 (by decide); have e9_0_5 : G65 0 5 = (G 0 5) := hU67 0 5 (by decide); (try simp only [e9_0_3, e9_0_5, true_and, and_true]) <;> (first | omega | (simp only [Int32.reduceToInt, true_and, and_true, ne_eq, not_true_eq_false, false_and, or_false, false_or, true_or, or_true, false_implies] <;> omega))) hI66 sz) (cwV 0 hts (gT_left gX13_readFactor_X13_scan) rfl rfl rfl (by decide +kernel) ⟨Nat.le_of_ble_eq_true rfl, Nat.le_of_ble_eq_true rfl⟩) rfl 0 yc_0 rfl (Nat.le_of_ble_eq_true rfl) ⟨Nat.zero_le _, Nat.zero_le _⟩ dX13_readFactor_36 (fun G72 hw71 => ?_)
      have hI73 : yI G72 := hw71.1
      have hU74 : gu_un ycd [5, 6, 7, 8] G65 G72 := hw71.2.1
      have hp75 := hw71.2.2
      have b76 : (0 : Int) ≤ (G72 0 5).toInt ∧ (G72 0 5).toInt ≤ 1000 := hI73 0 5
      have b77 : (0 : Int) ≤ (G72 0 4).toInt ∧ (G72 0 4).toInt ≤ 1000 := hI73 0 4
      have q78 : ((G72 0 5).toInt ≤ (G 0 3).toInt ∧ (G 0 5).toInt ≤ (G72 0 4).toInt ∧ (G72 0 4).toInt ≤ (G72 0 5).toInt) := by have h9 := hp75.1; (try simp only [(show G65 0 3 = (G 0 3) from hU67 0 3 (by decide)), (show G65 0 5 = (G 0 5) from hU67 0 5 (by decide))] at h9); first | exact h9 | omega
      have b79 : (0 : Int) ≤ (G72 0 6).toInt ∧ (G72 0 6).toInt ≤ 4 := hI73 0 6
      have q80 : (((G72 0 6).toInt = 0 ∧ (G72 0 4).toInt = (G 0 3).toInt) ∨ ((G72 0 6).toInt ≠ 0 ∧ (G72 0 4).toInt < (G72 0 5).toInt)) := by have h9 := hp75.2.1; (try simp only [(show G65 0 3 = (G 0 3) from hU67 0 3 (by decide))] at h9); first | exact h9 | omega
      have q81 : tTok (G 2) (G 0 3).toInt (G 0 5).toInt (G72 0 6).toInt (G72 0 4).toInt (G72 0 7).toInt (G72 0 5).toInt := by have h9 := hp75.2.2; (try simp only [(show G65 0 3 = (G 0 3) from hU67 0 3 (by decide)), (show G65 0 5 = (G 0 5) from hU67 0 5 (by decide)), (show G65 2 = (G 2) from (show G65 2 = G 2 from funext fun k_ => hU67 2 k_ (show (200 : Nat) ∉ ([9, 10] : List Nat) by decide)))] at h9); first | exact h9 | omega
      clear hp75 hw71
      refine g_iload_n F 0 dX13_readFactor_39 rfl rfl ?_
      refine v_if_eq F 60 dX13_readFactor_40 (by decide) 0 rfl (fun c82 => ?_) (fun c82 => absurd c82 (by decide))
      refine g_aload_n F 1 dX13_readFactor_60 rfl rfl ?_
      refine g_iload_n F 2 dX13_readFactor_61 rfl rfl ?_
      refine g_iconst F 1 dX13_readFactor_62 (by decide) ?_
      refine g_iadd F dX13_readFactor_63 ?_
      refine g_fold 4 (by decide) ?_
      refine uxz_callvv (k := 0) (n := 0) (b := a 0) (As := [.int 4]) (st := []) F yZ_st hZ (fun sz => S_X13_readSum_v4 l D K a G72 qs vs  (by have e9_0_3 : G72 0 3 = (G 0 3) := (hU74 0 3 (by decide)).trans (hU67 0 3 (by decide)); (try simp only [e9_0_3, true_and, and_true]) <;> (first | omega | (simp only [Int32.reduceToInt, true_and, and_true, ne_eq, not_true_eq_false, false_and, or_false, false_or, true_or, or_true, false_implies] <;> omega))) (by have e9_0_20 : G72 0 20 = (G 0 20) := (hU74 0 20 (by decide)).trans (hU67 0 20 (by decide)); (try simp only [e9_0_20, true_and, and_true]) <;> (first | omega | (simp only [Int32.reduceToInt, true_and, and_true, ne_eq, not_true_eq_false, false_and, or_false, false_or, true_or, or_true, false_implies] <;> omega))) (by rw [show G72 0 20 = G 0 20 from (hU74 0 20 (by decide)).trans (hU67 0 20 (by decide))]; exact (y_m6 m6 (show gu_un ycd [5, 6, 7, 8, 9, 10] G G72 from (gu_un.tr (gu_un.tr gu_un.rf (gu_un.su hU67 rfl)) (gu_un.su hU74 rfl))) rfl rfl)) hI73 sz) (cwV 1 hts gT_X13_readFactor_X13_readSum rfl rfl rfl (by decide +kernel) ⟨Nat.le_of_ble_eq_true rfl, Nat.le_of_ble_eq_true rfl⟩) rfl 0 yc_0 rfl (Nat.le_of_ble_eq_true rfl) ⟨Nat.zero_le _, Nat.zero_le _⟩ dX13_readFactor_64 hex hA hQ (fun u9 h9 => ⟨h9.1, gu_un.tr (gu_un.tr (gu_un.tr gu_un.rf (gu_un.su hU67 rfl)) (gu_un.su hU74 rfl)) (gu_un.su h9.2.1 rfl), (yKp.tr (yKp.un yKp.rf (show gu_un ycd [5, 6, 7, 8, 9, 10] G G72 from (gu_un.tr (gu_un.tr gu_un.rf (gu_un.su hU67 rfl)) (gu_un.su hU74 rfl))) rfl) h9.2.2)⟩) (fun G85 hw84 => ?_)
      have hI86 : yI G85 := hw84.1
      have hU87 : gu_un ycd [5, 6, 7, 8, 9, 10, 22, 1000, 1100, 1200] G72 G85 := hw84.2.1
      have hp88 := hw84.2.2
      have b89 : (0 : Int) ≤ (G85 0 5).toInt ∧ (G85 0 5).toInt ≤ 1000 := hI86 0 5
      have b90 : (0 : Int) ≤ (G85 0 6).toInt ∧ (G85 0 6).toInt ≤ 4 := hI86 0 6
      have q91 : ((G85 0 5).toInt ≤ (G 0 3).toInt ∧ (G72 0 5).toInt ≤ (G85 0 5).toInt ∧ ((G85 0 6).toInt = 0 ∨ (G72 0 5).toInt < (G85 0 5).toInt)) := by have h9 := hp88.1; (try simp only [(show G72 0 3 = (G 0 3) from (hU74 0 3 (by decide)).trans (hU67 0 3 (by decide)))] at h9); first | exact h9 | omega
      have q92 : ySg 2 (G 0 20).toInt G72 G85 := by have h9 := hp88.2.1; (try simp only [(show G72 0 20 = (G 0 20) from (hU74 0 20 (by decide)).trans (hU67 0 20 (by decide)))] at h9); first | exact h9 | omega
      have q93 : yKp G72 G85 := hp88.2.2
      have kp94 : yKp G G85 := yKp.tr (yKp.un yKp.rf (show gu_un ycd [5, 6, 7, 8, 9, 10] G G72 from (gu_un.tr (gu_un.tr gu_un.rf (gu_un.su hU67 rfl)) (gu_un.su hU74 rfl))) rfl) q93
      have sg95 : ySg 2 (G 0 20).toInt G G85 := ySg.un0 q92 (show gu_un ycd [5, 6, 7, 8, 9, 10] G G72 from (gu_un.tr (gu_un.tr gu_un.rf (gu_un.su hU67 rfl)) (gu_un.su hU74 rfl))) rfl rfl
      clear hp88 hw84
      refine g_aload_n F 1 dX13_readFactor_67 rfl rfl ?_
      refine g_aload_n F 1 dX13_readFactor_68 rfl rfl ?_
      refine g_bipush F 41 dX13_readFactor_69 (by decide) ?_
      refine u_callVi (k := 0) (n := 0) (b := a 0) (As := [.int 41]) (st := [.ref (a 0)]) F (fun sz => S_X13_isSign l D K a G85 41 41 rfl hI86 sz) (cwV 1 hts (gT_left gX13_readFactor_X13_isSign) rfl rfl rfl (by decide +kernel) ⟨Nat.le_of_ble_eq_true rfl, Nat.le_of_ble_eq_true rfl⟩) rfl 0 yc_0 rfl (Nat.le_of_ble_eq_true rfl) ⟨Nat.zero_le _, Nat.zero_le _⟩ dX13_readFactor_71 (fun r96 _ hw97 => ?_)
      rcases hw97 with ⟨rfl, q99⟩ | ⟨rfl, q100⟩
      · have q99 : ((G85 0 6).toInt = 3 ∧ (G85 0 7).toInt = (41 : Int)) := q99
        refine g_iconst F 1 dX13_readFactor_74 (by decide) ?_
        refine ux_callvv (k := 0) (n := 0) (b := a 0) (As := [.int 1, .int 1]) (st := []) F (fun sz => S_X13_need l D K a G85 1 1 1 1 rfl (by decide) rfl hI86 sz) (cwV 2 hts gT_X13_readFactor_X13_need rfl rfl rfl (by decide +kernel) ⟨Nat.le_of_ble_eq_true rfl, Nat.le_of_ble_eq_true rfl⟩) rfl 0 yc_0 rfl (Nat.le_of_ble_eq_true rfl) ⟨Nat.zero_le _, Nat.zero_le _⟩ dX13_readFactor_75 hex hA hQ (fun u9 h9 => ⟨h9.1, gu_un.tr (gu_un.tr (gu_un.tr (gu_un.tr gu_un.rf (gu_un.su hU67 rfl)) (gu_un.su hU74 rfl)) (gu_un.su hU87 rfl)) (gu_un.su h9.2.1 rfl), (yKp.un kp94 h9.2.1 rfl)⟩) (fun G103 hw102 => ?_)
        have hI104 : yI G103 := hw102.1
        have hU105 : gu_un ycd [9, 10] G85 G103 := hw102.2.1
        have hp106 := hw102.2.2
        have q107 : ((1 : Int) ≠ 0) := hp106
        clear hp106 hw102
        refine g_aload_n F 1 dX13_readFactor_78 rfl rfl ?_
        refine u_callVv (k := 0) (n := 0) (b := a 0) (As := []) (st := []) F (fun sz => S_X13_scan l D K a G103  (by have e9_0_3 : G103 0 3 = (G 0 3) := (hU105 0 3 (by decide)).trans ((hU87 0 3 (by decide)).trans ((hU74 0 3 (by decide)).trans (hU67 0 3 (by decide)))); have e9_0_5 : G103 0 5 = (G85 0 5) := hU105 0 5 (by decide); (try simp only [e9_0_3, e9_0_5, true_and, and_true]) <;> (first | omega | (simp only [Int32.reduceToInt, true_and, and_true, ne_eq, not_true_eq_false, false_and, or_false, false_or, true_or, or_true, false_implies] <;> omega))) hI104 sz) (cwV 0 hts (gT_left gX13_readFactor_X13_scan) rfl rfl rfl (by decide +kernel) ⟨Nat.le_of_ble_eq_true rfl, Nat.le_of_ble_eq_true rfl⟩) rfl 0 yc_0 rfl (Nat.le_of_ble_eq_true rfl) ⟨Nat.zero_le _, Nat.zero_le _⟩ dX13_readFactor_79 (fun G110 hw109 => ?_)
        have hI111 : yI G110 := hw109.1
        have hU112 : gu_un ycd [5, 6, 7, 8] G103 G110 := hw109.2.1
        have hp113 := hw109.2.2
        have b114 : (0 : Int) ≤ (G110 0 5).toInt ∧ (G110 0 5).toInt ≤ 1000 := hI111 0 5
        have b115 : (0 : Int) ≤ (G110 0 4).toInt ∧ (G110 0 4).toInt ≤ 1000 := hI111 0 4
        have q116 : ((G110 0 5).toInt ≤ (G 0 3).toInt ∧ (G85 0 5).toInt ≤ (G110 0 4).toInt ∧ (G110 0 4).toInt ≤ (G110 0 5).toInt) := by have h9 := hp113.1; (try simp only [(show G103 0 3 = (G 0 3) from (hU105 0 3 (by decide)).trans ((hU87 0 3 (by decide)).trans ((hU74 0 3 (by decide)).trans (hU67 0 3 (by decide))))), (show G103 0 5 = (G85 0 5) from hU105 0 5 (by decide))] at h9); first | exact h9 | omega
        have b117 : (0 : Int) ≤ (G110 0 6).toInt ∧ (G110 0 6).toInt ≤ 4 := hI111 0 6
        have q118 : (((G110 0 6).toInt = 0 ∧ (G110 0 4).toInt = (G 0 3).toInt) ∨ ((G110 0 6).toInt ≠ 0 ∧ (G110 0 4).toInt < (G110 0 5).toInt)) := by have h9 := hp113.2.1; (try simp only [(show G103 0 3 = (G 0 3) from (hU105 0 3 (by decide)).trans ((hU87 0 3 (by decide)).trans ((hU74 0 3 (by decide)).trans (hU67 0 3 (by decide)))))] at h9); first | exact h9 | omega
        have q119 : tTok (G 2) (G 0 3).toInt (G85 0 5).toInt (G110 0 6).toInt (G110 0 4).toInt (G110 0 7).toInt (G110 0 5).toInt := by have h9 := hp113.2.2; (try simp only [(show G103 0 3 = (G 0 3) from (hU105 0 3 (by decide)).trans ((hU87 0 3 (by decide)).trans ((hU74 0 3 (by decide)).trans (hU67 0 3 (by decide))))), (show G103 0 5 = (G85 0 5) from hU105 0 5 (by decide)), (show G103 2 = (G 2) from (show G103 2 = G85 2 from funext fun k_ => hU105 2 k_ (show (200 : Nat) ∉ ([9, 10] : List Nat) by decide)).trans ((show G85 2 = G72 2 from funext fun k_ => hU87 2 k_ (show (200 : Nat) ∉ ([5, 6, 7, 8, 9, 10, 22, 1000, 1100, 1200] : List Nat) by decide)).trans ((show G72 2 = G65 2 from funext fun k_ => hU74 2 k_ (show (200 : Nat) ∉ ([5, 6, 7, 8] : List Nat) by decide)).trans ((show G65 2 = G 2 from funext fun k_ => hU67 2 k_ (show (200 : Nat) ∉ ([9, 10] : List Nat) by decide))))))] at h9); first | exact h9 | omega
        clear hp113 hw109
        exact ux_vret F hA hQ hr G110 (⟨hI111, (gu_un.tr (gu_un.tr (gu_un.tr (gu_un.tr (gu_un.tr gu_un.rf (gu_un.su hU67 rfl)) (gu_un.su hU74 rfl)) (gu_un.su hU87 rfl)) (gu_un.su hU105 rfl)) (gu_un.su hU112 rfl)), (by show ((G110 0 5).toInt ≤ (G 0 3).toInt ∧ (G 0 5).toInt ≤ (G110 0 5).toInt ∧ ((G110 0 6).toInt = 0 ∨ (G 0 5).toInt < (G110 0 5).toInt)); (first | omega | (simp only [Int32.reduceToInt, true_and, and_true, ne_eq, not_true_eq_false, false_and, or_false, false_or, true_or, or_true, false_implies] <;> omega))), (((sg95.un (show gu_un ycd [5, 6, 7, 8, 9, 10] G85 G110 from (gu_un.tr (gu_un.tr gu_un.rf (gu_un.su hU105 rfl)) (gu_un.su hU112 rfl))) rfl rfl)).up (by decide) (by decide)), ((yKp.un kp94 (show gu_un ycd [5, 6, 7, 8, 9, 10] G85 G110 from (gu_un.tr (gu_un.tr gu_un.rf (gu_un.su hU105 rfl)) (gu_un.su hU112 rfl))) rfl))⟩) rfl rfl dX13_readFactor_82
      · have q100 : ((G85 0 6).toInt ≠ 3 ∨ (G85 0 7).toInt ≠ (41 : Int)) := q100
        refine g_iconst F 1 dX13_readFactor_74 (by decide) ?_
        refine ux_callvv (k := 0) (n := 0) (b := a 0) (As := [.int 0, .int 1]) (st := []) F (fun sz => S_X13_need l D K a G85 0 0 1 1 rfl (by decide) rfl hI86 sz) (cwV 2 hts gT_X13_readFactor_X13_need rfl rfl rfl (by decide +kernel) ⟨Nat.le_of_ble_eq_true rfl, Nat.le_of_ble_eq_true rfl⟩) rfl 0 yc_0 rfl (Nat.le_of_ble_eq_true rfl) ⟨Nat.zero_le _, Nat.zero_le _⟩ dX13_readFactor_75 hex hA hQ (fun u9 h9 => ⟨h9.1, gu_un.tr (gu_un.tr (gu_un.tr (gu_un.tr gu_un.rf (gu_un.su hU67 rfl)) (gu_un.su hU74 rfl)) (gu_un.su hU87 rfl)) (gu_un.su h9.2.1 rfl), (yKp.un kp94 h9.2.1 rfl)⟩) (fun G122 hw121 => ?_)
        have hI123 : yI G122 := hw121.1
        have hU124 : gu_un ycd [9, 10] G85 G122 := hw121.2.1
        have hp125 := hw121.2.2
        have q126 : ((0 : Int) ≠ 0) := hp125
        exfalso; omega
    · have q60 : ((G 0 6).toInt ≠ 3 ∨ (G 0 7).toInt ≠ (40 : Int)) := q60
      refine v_if_eq F 83 dX13_readFactor_17 (by decide) 0 rfl (fun c127 => ?_) (fun c127 => absurd c127 (by decide))
      refine g_aload_n F 1 dX13_readFactor_83 rfl rfl ?_
      refine uz_callVi (k := 0) (n := 0) (b := a 0) (As := []) (st := []) F yZ_st hZ (fun sz => S_X13_letterAtHand l D K a G qs vs  (by (first | omega | (simp only [Int32.reduceToInt, true_and, and_true, ne_eq, not_true_eq_false, false_and, or_false, false_or, true_or, or_true, false_implies] <;> omega))) hI sz) (cwV 0 hts (gT_left gX13_readFactor_X13_letterAtHand) rfl rfl rfl (by decide +kernel) ⟨Nat.le_of_ble_eq_true rfl, Nat.le_of_ble_eq_true rfl⟩) rfl 0 yc_0 rfl (Nat.le_of_ble_eq_true rfl) ⟨Nat.zero_le _, Nat.zero_le _⟩ dX13_readFactor_84 (fun r128 _ hw129 => ?_)
      have q131 : (r128.toInt = yLt ((G 0 20).toInt - 3) G) := hw129.2
      have rg132 := hw129.1
      clear hw129
      refine g_istore_n F [(3, .int r128), (2, .int 0), (0, .ref (a 0)), (1, .int 3)] dX13_readFactor_87 rfl (by decide) rfl ?_
      refine g_aload_n F 2 dX13_readFactor_88 rfl rfl ?_
      refine g_iload_n F 0 dX13_readFactor_89 rfl rfl ?_
      refine g_iconst F (-1) dX13_readFactor_90 (by decide) ?_
      refine v_icmp_ne F 102 dX13_readFactor_91 (by decide) r128.toInt (-1) rfl rfl (fun c133 => ?_) (fun c133 => ?_)
      · refine g_iconst F 1 dX13_readFactor_102 (by decide) ?_
        refine g_goto F 107 dX13_readFactor_103 (by decide) ?_
        refine g_iconst F 1 dX13_readFactor_107 (by decide) ?_
        refine ux_callvv (k := 0) (n := 0) (b := a 0) (As := [.int 1, .int 1]) (st := []) F (fun sz => S_X13_need l D K a G 1 1 1 1 rfl (by decide) rfl hI sz) (cwV 2 hts gT_X13_readFactor_X13_need rfl rfl rfl (by decide +kernel) ⟨Nat.le_of_ble_eq_true rfl, Nat.le_of_ble_eq_true rfl⟩) rfl 0 yc_0 rfl (Nat.le_of_ble_eq_true rfl) ⟨Nat.zero_le _, Nat.zero_le _⟩ dX13_readFactor_108 hex hA hQ (fun u9 h9 => ⟨h9.1, gu_un.tr gu_un.rf (gu_un.su h9.2.1 rfl), (yKp.un yKp.rf h9.2.1 rfl)⟩) (fun G136 hw135 => ?_)
        have hI137 : yI G136 := hw135.1
        have hU138 : gu_un ycd [9, 10] G G136 := hw135.2.1
        have hp139 := hw135.2.2
        have q140 : ((1 : Int) ≠ 0) := hp139
        clear hp139 hw135
        refine g_aload_n F 2 dX13_readFactor_111 rfl rfl ?_
        refine g_aload_n F 2 dX13_readFactor_112 rfl rfl ?_
        refine yg_0_21 F i_X13 w_0 dX13_readFactor_113 (G 0 21) (hU138 0 21 (by decide)) ?_
        refine g_bipush F 12 dX13_readFactor_116 (by decide) ?_
        refine v_icmp_ge F 125 dX13_readFactor_118 (by decide) (G 0 21).toInt 12 rfl rfl (fun c141 => ?_) (fun c141 => ?_)
        · refine g_iconst F 0 dX13_readFactor_125 (by decide) ?_
          refine g_iconst F 4 dX13_readFactor_126 (by decide) ?_
          refine ux_callvv (k := 0) (n := 0) (b := a 0) (As := [.int 0, .int 4]) (st := []) F (fun sz => S_X13_need l D K a G136 0 0 4 4 rfl (by decide) rfl hI137 sz) (cwV 2 hts gT_X13_readFactor_X13_need rfl rfl rfl (by decide +kernel) ⟨Nat.le_of_ble_eq_true rfl, Nat.le_of_ble_eq_true rfl⟩) rfl 0 yc_0 rfl (Nat.le_of_ble_eq_true rfl) ⟨Nat.zero_le _, Nat.zero_le _⟩ dX13_readFactor_127 hex hA hQ (fun u9 h9 => ⟨h9.1, gu_un.tr (gu_un.tr gu_un.rf (gu_un.su hU138 rfl)) (gu_un.su h9.2.1 rfl), (yKp.un (yKp.un yKp.rf (show gu_un ycd [9, 10] G G136 from (gu_un.tr gu_un.rf (gu_un.su hU138 rfl))) rfl) h9.2.1 rfl)⟩) (fun G144 hw143 => ?_)
          have hI145 : yI G144 := hw143.1
          have hU146 : gu_un ycd [9, 10] G136 G144 := hw143.2.1
          have hp147 := hw143.2.2
          have q148 : ((0 : Int) ≠ 0) := hp147
          exfalso; omega
        · refine g_iconst F 1 dX13_readFactor_121 (by decide) ?_
          refine g_goto F 126 dX13_readFactor_122 (by decide) ?_
          refine g_iconst F 4 dX13_readFactor_126 (by decide) ?_
          refine ux_callvv (k := 0) (n := 0) (b := a 0) (As := [.int 1, .int 4]) (st := []) F (fun sz => S_X13_need l D K a G136 1 1 4 4 rfl (by decide) rfl hI137 sz) (cwV 2 hts gT_X13_readFactor_X13_need rfl rfl rfl (by decide +kernel) ⟨Nat.le_of_ble_eq_true rfl, Nat.le_of_ble_eq_true rfl⟩) rfl 0 yc_0 rfl (Nat.le_of_ble_eq_true rfl) ⟨Nat.zero_le _, Nat.zero_le _⟩ dX13_readFactor_127 hex hA hQ (fun u9 h9 => ⟨h9.1, gu_un.tr (gu_un.tr gu_un.rf (gu_un.su hU138 rfl)) (gu_un.su h9.2.1 rfl), (yKp.un (yKp.un yKp.rf (show gu_un ycd [9, 10] G G136 from (gu_un.tr gu_un.rf (gu_un.su hU138 rfl))) rfl) h9.2.1 rfl)⟩) (fun G151 hw150 => ?_)
          have hI152 : yI G151 := hw150.1
          have hU153 : gu_un ycd [9, 10] G136 G151 := hw150.2.1
          have hp154 := hw150.2.2
          have q155 : ((1 : Int) ≠ 0) := hp154
          clear hp154 hw150
          refine g_aload_n F 2 dX13_readFactor_130 rfl rfl ?_
          refine g_dup F dX13_readFactor_131 rfl ?_
          refine yg_0_21 F i_X13 w_0 dX13_readFactor_132 (G 0 21) ((hU153 0 21 (by decide)).trans (hU138 0 21 (by decide))) ?_
          refine g_iconst F 1 dX13_readFactor_135 (by decide) ?_
          refine u_iadd F dX13_readFactor_136 (G 0 21).toInt 1 rfl rfl (by omega) (by omega) (fun y156 ey156 => ?_)
          refine yp_0_21 F i_X13 w_0 dX13_readFactor_137 ?_
          refine g_aload_n F 2 dX13_readFactor_140 rfl rfl ?_
          refine g_iload_n F 0 dX13_readFactor_141 rfl rfl ?_
          refine g_iconst F (-1) dX13_readFactor_142 (by decide) ?_
          refine v_icmp_ne F 150 dX13_readFactor_143 (by decide) r128.toInt (-1) rfl rfl (fun c157 => ?_) (fun c157 => absurd c157 (by omega))
          refine g_iconst F 1 dX13_readFactor_150 (by decide) ?_
          refine g_iload_n F 0 dX13_readFactor_151 rfl rfl ?_
          refine g_iconst F (-1) dX13_readFactor_152 (by decide) ?_
          refine v_icmp_ne F 163 dX13_readFactor_153 (by decide) r128.toInt (-1) rfl rfl (fun c158 => ?_) (fun c158 => absurd c158 (by omega))
          refine g_iload_n F 0 dX13_readFactor_163 rfl rfl ?_
          refine u_callVv (k := 0) (n := 0) (b := a 0) (As := [.int 1, .int r128]) (st := []) F (fun sz => S_X13_mark l D K a (gu_up G151 0 21 y156) 1 1 r128 r128.toInt rfl (by decide) rfl (by rw [show (gu_up G151 0 21 y156) 0 20 = G 0 20 from (hU153 0 20 (by decide)).trans (hU138 0 20 (by decide))]; have h9 : (G151 12 ((G 0 20).toInt).toNat).toInt ≤ 6 * (G151 0 21).toInt := (y_m6 m6 (show gu_un ycd [9, 10] G G151 from (gu_un.tr (gu_un.tr gu_un.rf (gu_un.su hU138 rfl)) (gu_un.su hU153 rfl))) rfl rfl); have h8 : (0 : Int) ≤ (G151 0 21).toInt ∧ (G151 0 21).toInt ≤ 12 := hI152 0 21; show (G151 12 ((G 0 20).toInt).toNat).toInt ≤ 79; omega) (gu_I.up (j := 0) (k := 21) (v := y156) hI152 (show (0 : Int) ≤ Int32.toInt y156 by omega) (show Int32.toInt y156 ≤ 12 by omega)) sz) (cwV 2 hts (gT_left gX13_readFactor_X13_mark) rfl rfl rfl (by decide +kernel) ⟨Nat.le_of_ble_eq_true rfl, Nat.le_of_ble_eq_true rfl⟩) rfl 0 yc_0 rfl (Nat.le_of_ble_eq_true rfl) ⟨Nat.zero_le _, Nat.zero_le _⟩ dX13_readFactor_164 (fun G161 hw160 => ?_)
          have hI162 : yI G161 := hw160.1
          have hU163 : gu_un ycd [1000, 1100, 1200] (gu_up G151 0 21 y156) G161 := hw160.2.1
          have hp164 := hw160.2.2
          have q165 : yMk 1 r128 (G 0 20).toInt (gu_up G151 0 21 y156) G161 := by have h9 := hp164; (try simp only [(show (gu_up G151 0 21 y156) 0 20 = (G 0 20) from (hU153 0 20 (by decide)).trans (hU138 0 20 (by decide)))] at h9); first | exact h9 | omega
          have m0 : 0 ≤ (G 12 ((G 0 20).toInt).toNat).toInt := (show (0 : Int) ≤ (G 12 ((G 0 20).toInt).toNat).toInt ∧ (G 12 ((G 0 20).toInt).toNat).toInt ≤ 80 from hI 12 _).1
          have m1 : 0 ≤ ((gu_up G151 0 21 y156) 12 ((G 0 20).toInt).toNat).toInt := (show (0 : Int) ≤ (G151 12 ((G 0 20).toInt).toNat).toInt ∧ (G151 12 ((G 0 20).toInt).toNat).toInt ≤ 80 from hI152 12 _).1
          have kp166 : yKp G G161 := yKp.tr (yKp.un yKp.rf (show gu_un ycd [9, 10, 22] G (gu_up G151 0 21 y156) from (gu_un.up (j := 0) (k := 21) (v := y156) (gu_un.tr (gu_un.tr gu_un.rf (gu_un.su hU138 rfl)) (gu_un.su hU153 rfl)) (show (22 : Nat) ∈ ([9, 10, 22] : List Nat) by decide))) rfl) (q165.kp (by omega) m1)
          have sg167 : ySg 3 (G 0 20).toInt G G161 := yMk.leaf q165 (by first | decide | omega) (by decide) (by omega) (show (gu_up G151 0 21 y156) 10 = G 10 from (show G151 10 = G136 10 from funext fun k_ => hU153 10 k_ (show (1000 : Nat) ∉ ([9, 10] : List Nat) by decide)).trans ((show G136 10 = G 10 from funext fun k_ => hU138 10 k_ (show (1000 : Nat) ∉ ([9, 10] : List Nat) by decide)))) (show (gu_up G151 0 21 y156) 11 = G 11 from (show G151 11 = G136 11 from funext fun k_ => hU153 11 k_ (show (1100 : Nat) ∉ ([9, 10] : List Nat) by decide)).trans ((show G136 11 = G 11 from funext fun k_ => hU138 11 k_ (show (1100 : Nat) ∉ ([9, 10] : List Nat) by decide)))) (show (gu_up G151 0 21 y156) 12 = G 12 from (show G151 12 = G136 12 from funext fun k_ => hU153 12 k_ (show (1200 : Nat) ∉ ([9, 10] : List Nat) by decide)).trans ((show G136 12 = G 12 from funext fun k_ => hU138 12 k_ (show (1200 : Nat) ∉ ([9, 10] : List Nat) by decide)))) m0 (by omega) (show (y156 : Int32).toInt = _ by omega)
          clear hp164 hw160
          refine g_aload_n F 2 dX13_readFactor_167 rfl rfl ?_
          refine u_callVv (k := 0) (n := 0) (b := a 0) (As := []) (st := []) F (fun sz => S_X13_scan l D K a G161  (by have e9_0_3 : G161 0 3 = (G 0 3) := (hU163 0 3 (by decide)).trans ((hU153 0 3 (by decide)).trans (hU138 0 3 (by decide))); have e9_0_5 : G161 0 5 = (G 0 5) := (hU163 0 5 (by decide)).trans ((hU153 0 5 (by decide)).trans (hU138 0 5 (by decide))); (try simp only [e9_0_3, e9_0_5, true_and, and_true]) <;> (first | omega | (simp only [Int32.reduceToInt, true_and, and_true, ne_eq, not_true_eq_false, false_and, or_false, false_or, true_or, or_true, false_implies] <;> omega))) hI162 sz) (cwV 0 hts (gT_left gX13_readFactor_X13_scan) rfl rfl rfl (by decide +kernel) ⟨Nat.le_of_ble_eq_true rfl, Nat.le_of_ble_eq_true rfl⟩) rfl 0 yc_0 rfl (Nat.le_of_ble_eq_true rfl) ⟨Nat.zero_le _, Nat.zero_le _⟩ dX13_readFactor_168 (fun G170 hw169 => ?_)
          have hI171 : yI G170 := hw169.1
          have hU172 : gu_un ycd [5, 6, 7, 8] G161 G170 := hw169.2.1
          have hp173 := hw169.2.2
          have b174 : (0 : Int) ≤ (G170 0 5).toInt ∧ (G170 0 5).toInt ≤ 1000 := hI171 0 5
          have b175 : (0 : Int) ≤ (G170 0 4).toInt ∧ (G170 0 4).toInt ≤ 1000 := hI171 0 4
          have q176 : ((G170 0 5).toInt ≤ (G 0 3).toInt ∧ (G 0 5).toInt ≤ (G170 0 4).toInt ∧ (G170 0 4).toInt ≤ (G170 0 5).toInt) := by have h9 := hp173.1; (try simp only [(show G161 0 3 = (G 0 3) from (hU163 0 3 (by decide)).trans ((hU153 0 3 (by decide)).trans (hU138 0 3 (by decide)))), (show G161 0 5 = (G 0 5) from (hU163 0 5 (by decide)).trans ((hU153 0 5 (by decide)).trans (hU138 0 5 (by decide))))] at h9); first | exact h9 | omega
          have b177 : (0 : Int) ≤ (G170 0 6).toInt ∧ (G170 0 6).toInt ≤ 4 := hI171 0 6
          have q178 : (((G170 0 6).toInt = 0 ∧ (G170 0 4).toInt = (G 0 3).toInt) ∨ ((G170 0 6).toInt ≠ 0 ∧ (G170 0 4).toInt < (G170 0 5).toInt)) := by have h9 := hp173.2.1; (try simp only [(show G161 0 3 = (G 0 3) from (hU163 0 3 (by decide)).trans ((hU153 0 3 (by decide)).trans (hU138 0 3 (by decide))))] at h9); first | exact h9 | omega
          have q179 : tTok (G 2) (G 0 3).toInt (G 0 5).toInt (G170 0 6).toInt (G170 0 4).toInt (G170 0 7).toInt (G170 0 5).toInt := by have h9 := hp173.2.2; (try simp only [(show G161 0 3 = (G 0 3) from (hU163 0 3 (by decide)).trans ((hU153 0 3 (by decide)).trans (hU138 0 3 (by decide)))), (show G161 0 5 = (G 0 5) from (hU163 0 5 (by decide)).trans ((hU153 0 5 (by decide)).trans (hU138 0 5 (by decide)))), (show G161 2 = (G 2) from (show G161 2 = (gu_up G151 0 21 y156) 2 from funext fun k_ => hU163 2 k_ (show (200 : Nat) ∉ ([1000, 1100, 1200] : List Nat) by decide)).trans ((show G151 2 = G136 2 from funext fun k_ => hU153 2 k_ (show (200 : Nat) ∉ ([9, 10] : List Nat) by decide)).trans ((show G136 2 = G 2 from funext fun k_ => hU138 2 k_ (show (200 : Nat) ∉ ([9, 10] : List Nat) by decide)))))] at h9); first | exact h9 | omega
          clear hp173 hw169
          exact ux_vret F hA hQ hr G170 (⟨hI171, (gu_un.tr (gu_un.tr (gu_un.up (j := 0) (k := 21) (v := y156) (gu_un.tr (gu_un.tr gu_un.rf (gu_un.su hU138 rfl)) (gu_un.su hU153 rfl)) (show (22 : Nat) ∈ ([5, 6, 7, 8, 9, 10, 22, 1000, 1100, 1200] : List Nat) by decide)) (gu_un.su hU163 rfl)) (gu_un.su hU172 rfl)), (by show ((G170 0 5).toInt ≤ (G 0 3).toInt ∧ (G 0 5).toInt ≤ (G170 0 5).toInt ∧ ((G170 0 6).toInt = 0 ∨ (G 0 5).toInt < (G170 0 5).toInt)); (first | omega | (simp only [Int32.reduceToInt, true_and, and_true, ne_eq, not_true_eq_false, false_and, or_false, false_or, true_or, or_true, false_implies] <;> omega))), ((sg167.un (show gu_un ycd [5, 6, 7, 8] G161 G170 from (gu_un.tr gu_un.rf (gu_un.su hU172 rfl))) rfl rfl)), ((yKp.un kp166 (show gu_un ycd [5, 6, 7, 8] G161 G170 from (gu_un.tr gu_un.rf (gu_un.su hU172 rfl))) rfl))⟩) rfl rfl dX13_readFactor_171
      · refine g_aload_n F 2 dX13_readFactor_94 rfl rfl ?_
        refine yg_0_6 F i_X13 w_1 dX13_readFactor_95 (G 0 6) (rfl) ?_
        refine g_iconst F 2 dX13_readFactor_98 (by decide) ?_
        refine v_icmp_ne F 106 dX13_readFactor_99 (by decide) (G 0 6).toInt 2 rfl rfl (fun c180 => ?_) (fun c180 => ?_)
        · refine g_iconst F 0 dX13_readFactor_106 (by decide) ?_
          refine g_iconst F 1 dX13_readFactor_107 (by decide) ?_
          refine ux_callvv (k := 0) (n := 0) (b := a 0) (As := [.int 0, .int 1]) (st := []) F (fun sz => S_X13_need l D K a G 0 0 1 1 rfl (by decide) rfl hI sz) (cwV 2 hts gT_X13_readFactor_X13_need rfl rfl rfl (by decide +kernel) ⟨Nat.le_of_ble_eq_true rfl, Nat.le_of_ble_eq_true rfl⟩) rfl 0 yc_0 rfl (Nat.le_of_ble_eq_true rfl) ⟨Nat.zero_le _, Nat.zero_le _⟩ dX13_readFactor_108 hex hA hQ (fun u9 h9 => ⟨h9.1, gu_un.tr gu_un.rf (gu_un.su h9.2.1 rfl), (yKp.un yKp.rf h9.2.1 rfl)⟩) (fun G183 hw182 => ?_)
          have hI184 : yI G183 := hw182.1
          have hU185 : gu_un ycd [9, 10] G G183 := hw182.2.1
          have hp186 := hw182.2.2
          have q187 : ((0 : Int) ≠ 0) := hp186
          exfalso; omega
        · refine g_iconst F 1 dX13_readFactor_102 (by decide) ?_
          refine g_goto F 107 dX13_readFactor_103 (by decide) ?_
          refine g_iconst F 1 dX13_readFactor_107 (by decide) ?_
          refine ux_callvv (k := 0) (n := 0) (b := a 0) (As := [.int 1, .int 1]) (st := []) F (fun sz => S_X13_need l D K a G 1 1 1 1 rfl (by decide) rfl hI sz) (cwV 2 hts gT_X13_readFactor_X13_need rfl rfl rfl (by decide +kernel) ⟨Nat.le_of_ble_eq_true rfl, Nat.le_of_ble_eq_true rfl⟩) rfl 0 yc_0 rfl (Nat.le_of_ble_eq_true rfl) ⟨Nat.zero_le _, Nat.zero_le _⟩ dX13_readFactor_108 hex hA hQ (fun u9 h9 => ⟨h9.1, gu_un.tr gu_un.rf (gu_un.su h9.2.1 rfl), (yKp.un yKp.rf h9.2.1 rfl)⟩) (fun G190 hw189 => ?_)
          have hI191 : yI G190 := hw189.1
          have hU192 : gu_un ycd [9, 10] G G190 := hw189.2.1
          have hp193 := hw189.2.2
          have q194 : ((1 : Int) ≠ 0) := hp193
          clear hp193 hw189
          refine g_aload_n F 2 dX13_readFactor_111 rfl rfl ?_
          refine g_aload_n F 2 dX13_readFactor_112 rfl rfl ?_
          refine yg_0_21 F i_X13 w_0 dX13_readFactor_113 (G 0 21) (hU192 0 21 (by decide)) ?_
          refine g_bipush F 12 dX13_readFactor_116 (by decide) ?_
          refine v_icmp_ge F 125 dX13_readFactor_118 (by decide) (G 0 21).toInt 12 rfl rfl (fun c195 => ?_) (fun c195 => ?_)
          · refine g_iconst F 0 dX13_readFactor_125 (by decide) ?_
            refine g_iconst F 4 dX13_readFactor_126 (by decide) ?_
            refine ux_callvv (k := 0) (n := 0) (b := a 0) (As := [.int 0, .int 4]) (st := []) F (fun sz => S_X13_need l D K a G190 0 0 4 4 rfl (by decide) rfl hI191 sz) (cwV 2 hts gT_X13_readFactor_X13_need rfl rfl rfl (by decide +kernel) ⟨Nat.le_of_ble_eq_true rfl, Nat.le_of_ble_eq_true rfl⟩) rfl 0 yc_0 rfl (Nat.le_of_ble_eq_true rfl) ⟨Nat.zero_le _, Nat.zero_le _⟩ dX13_readFactor_127 hex hA hQ (fun u9 h9 => ⟨h9.1, gu_un.tr (gu_un.tr gu_un.rf (gu_un.su hU192 rfl)) (gu_un.su h9.2.1 rfl), (yKp.un (yKp.un yKp.rf (show gu_un ycd [9, 10] G G190 from (gu_un.tr gu_un.rf (gu_un.su hU192 rfl))) rfl) h9.2.1 rfl)⟩) (fun G198 hw197 => ?_)
            have hI199 : yI G198 := hw197.1
            have hU200 : gu_un ycd [9, 10] G190 G198 := hw197.2.1
            have hp201 := hw197.2.2
            have q202 : ((0 : Int) ≠ 0) := hp201
            exfalso; omega
          · refine g_iconst F 1 dX13_readFactor_121 (by decide) ?_
            refine g_goto F 126 dX13_readFactor_122 (by decide) ?_
            refine g_iconst F 4 dX13_readFactor_126 (by decide) ?_
            refine ux_callvv (k := 0) (n := 0) (b := a 0) (As := [.int 1, .int 4]) (st := []) F (fun sz => S_X13_need l D K a G190 1 1 4 4 rfl (by decide) rfl hI191 sz) (cwV 2 hts gT_X13_readFactor_X13_need rfl rfl rfl (by decide +kernel) ⟨Nat.le_of_ble_eq_true rfl, Nat.le_of_ble_eq_true rfl⟩) rfl 0 yc_0 rfl (Nat.le_of_ble_eq_true rfl) ⟨Nat.zero_le _, Nat.zero_le _⟩ dX13_readFactor_127 hex hA hQ (fun u9 h9 => ⟨h9.1, gu_un.tr (gu_un.tr gu_un.rf (gu_un.su hU192 rfl)) (gu_un.su h9.2.1 rfl), (yKp.un (yKp.un yKp.rf (show gu_un ycd [9, 10] G G190 from (gu_un.tr gu_un.rf (gu_un.su hU192 rfl))) rfl) h9.2.1 rfl)⟩) (fun G205 hw204 => ?_)
            have hI206 : yI G205 := hw204.1
            have hU207 : gu_un ycd [9, 10] G190 G205 := hw204.2.1
            have hp208 := hw204.2.2
            have q209 : ((1 : Int) ≠ 0) := hp208
            clear hp208 hw204
            refine g_aload_n F 2 dX13_readFactor_130 rfl rfl ?_
            refine g_dup F dX13_readFactor_131 rfl ?_
            refine yg_0_21 F i_X13 w_0 dX13_readFactor_132 (G 0 21) ((hU207 0 21 (by decide)).trans (hU192 0 21 (by decide))) ?_
            refine g_iconst F 1 dX13_readFactor_135 (by decide) ?_
            refine u_iadd F dX13_readFactor_136 (G 0 21).toInt 1 rfl rfl (by omega) (by omega) (fun y210 ey210 => ?_)
            refine yp_0_21 F i_X13 w_0 dX13_readFactor_137 ?_
            refine g_aload_n F 2 dX13_readFactor_140 rfl rfl ?_
            refine g_iload_n F 0 dX13_readFactor_141 rfl rfl ?_
            refine g_iconst F (-1) dX13_readFactor_142 (by decide) ?_
            refine v_icmp_ne F 150 dX13_readFactor_143 (by decide) r128.toInt (-1) rfl rfl (fun c211 => absurd c211 (by omega)) (fun c211 => ?_)
            refine g_iconst F 0 dX13_readFactor_146 (by decide) ?_
            refine g_goto F 151 dX13_readFactor_147 (by decide) ?_
            refine g_iload_n F 0 dX13_readFactor_151 rfl rfl ?_
            refine g_iconst F (-1) dX13_readFactor_152 (by decide) ?_
            refine v_icmp_ne F 163 dX13_readFactor_153 (by decide) r128.toInt (-1) rfl rfl (fun c212 => absurd c212 (by omega)) (fun c212 => ?_)
            refine g_aload_n F 2 dX13_readFactor_156 rfl rfl ?_
            refine yg_0_7 F i_X13 w_2 dX13_readFactor_157 (G 0 7) ((hU207 0 7 (by decide)).trans (hU192 0 7 (by decide))) ?_
            refine g_goto F 164 dX13_readFactor_160 (by decide) ?_
            refine u_callVv (k := 0) (n := 0) (b := a 0) (As := [.int 0, .int (G 0 7)]) (st := []) F (fun sz => S_X13_mark l D K a (gu_up G205 0 21 y210) 0 0 (G 0 7) (G 0 7).toInt rfl (by decide) rfl (by rw [show (gu_up G205 0 21 y210) 0 20 = G 0 20 from (hU207 0 20 (by decide)).trans (hU192 0 20 (by decide))]; have h9 : (G205 12 ((G 0 20).toInt).toNat).toInt ≤ 6 * (G205 0 21).toInt := (y_m6 m6 (show gu_un ycd [9, 10] G G205 from (gu_un.tr (gu_un.tr gu_un.rf (gu_un.su hU192 rfl)) (gu_un.su hU207 rfl))) rfl rfl); have h8 : (0 : Int) ≤ (G205 0 21).toInt ∧ (G205 0 21).toInt ≤ 12 := hI206 0 21; show (G205 12 ((G 0 20).toInt).toNat).toInt ≤ 79; omega) (gu_I.up (j := 0) (k := 21) (v := y210) hI206 (show (0 : Int) ≤ Int32.toInt y210 by omega) (show Int32.toInt y210 ≤ 12 by omega)) sz) (cwV 2 hts (gT_left gX13_readFactor_X13_mark) rfl rfl rfl (by decide +kernel) ⟨Nat.le_of_ble_eq_true rfl, Nat.le_of_ble_eq_true rfl⟩) rfl 0 yc_0 rfl (Nat.le_of_ble_eq_true rfl) ⟨Nat.zero_le _, Nat.zero_le _⟩ dX13_readFactor_164 (fun G215 hw214 => ?_)
            have hI216 : yI G215 := hw214.1
            have hU217 : gu_un ycd [1000, 1100, 1200] (gu_up G205 0 21 y210) G215 := hw214.2.1
            have hp218 := hw214.2.2
            have q219 : yMk 0 (G 0 7) (G 0 20).toInt (gu_up G205 0 21 y210) G215 := by have h9 := hp218; (try simp only [(show (gu_up G205 0 21 y210) 0 20 = (G 0 20) from (hU207 0 20 (by decide)).trans (hU192 0 20 (by decide)))] at h9); first | exact h9 | omega
            have m0 : 0 ≤ (G 12 ((G 0 20).toInt).toNat).toInt := (show (0 : Int) ≤ (G 12 ((G 0 20).toInt).toNat).toInt ∧ (G 12 ((G 0 20).toInt).toNat).toInt ≤ 80 from hI 12 _).1
            have m1 : 0 ≤ ((gu_up G205 0 21 y210) 12 ((G 0 20).toInt).toNat).toInt := (show (0 : Int) ≤ (G205 12 ((G 0 20).toInt).toNat).toInt ∧ (G205 12 ((G 0 20).toInt).toNat).toInt ≤ 80 from hI206 12 _).1
            have kp220 : yKp G G215 := yKp.tr (yKp.un yKp.rf (show gu_un ycd [9, 10, 22] G (gu_up G205 0 21 y210) from (gu_un.up (j := 0) (k := 21) (v := y210) (gu_un.tr (gu_un.tr gu_un.rf (gu_un.su hU192 rfl)) (gu_un.su hU207 rfl)) (show (22 : Nat) ∈ ([9, 10, 22] : List Nat) by decide))) rfl) (q219.kp (by omega) m1)
            have sg221 : ySg 3 (G 0 20).toInt G G215 := yMk.leaf q219 (by first | decide | omega) (by decide) (by omega) (show (gu_up G205 0 21 y210) 10 = G 10 from (show G205 10 = G190 10 from funext fun k_ => hU207 10 k_ (show (1000 : Nat) ∉ ([9, 10] : List Nat) by decide)).trans ((show G190 10 = G 10 from funext fun k_ => hU192 10 k_ (show (1000 : Nat) ∉ ([9, 10] : List Nat) by decide)))) (show (gu_up G205 0 21 y210) 11 = G 11 from (show G205 11 = G190 11 from funext fun k_ => hU207 11 k_ (show (1100 : Nat) ∉ ([9, 10] : List Nat) by decide)).trans ((show G190 11 = G 11 from funext fun k_ => hU192 11 k_ (show (1100 : Nat) ∉ ([9, 10] : List Nat) by decide)))) (show (gu_up G205 0 21 y210) 12 = G 12 from (show G205 12 = G190 12 from funext fun k_ => hU207 12 k_ (show (1200 : Nat) ∉ ([9, 10] : List Nat) by decide)).trans ((show G190 12 = G 12 from funext fun k_ => hU192 12 k_ (show (1200 : Nat) ∉ ([9, 10] : List Nat) by decide)))) m0 (by omega) (show (y210 : Int32).toInt = _ by omega)
            clear hp218 hw214
            refine g_aload_n F 2 dX13_readFactor_167 rfl rfl ?_
            refine u_callVv (k := 0) (n := 0) (b := a 0) (As := []) (st := []) F (fun sz => S_X13_scan l D K a G215  (by have e9_0_3 : G215 0 3 = (G 0 3) := (hU217 0 3 (by decide)).trans ((hU207 0 3 (by decide)).trans (hU192 0 3 (by decide))); have e9_0_5 : G215 0 5 = (G 0 5) := (hU217 0 5 (by decide)).trans ((hU207 0 5 (by decide)).trans (hU192 0 5 (by decide))); (try simp only [e9_0_3, e9_0_5, true_and, and_true]) <;> (first | omega | (simp only [Int32.reduceToInt, true_and, and_true, ne_eq, not_true_eq_false, false_and, or_false, false_or, true_or, or_true, false_implies] <;> omega))) hI216 sz) (cwV 0 hts (gT_left gX13_readFactor_X13_scan) rfl rfl rfl (by decide +kernel) ⟨Nat.le_of_ble_eq_true rfl, Nat.le_of_ble_eq_true rfl⟩) rfl 0 yc_0 rfl (Nat.le_of_ble_eq_true rfl) ⟨Nat.zero_le _, Nat.zero_le _⟩ dX13_readFactor_168 (fun G224 hw223 => ?_)
            have hI225 : yI G224 := hw223.1
            have hU226 : gu_un ycd [5, 6, 7, 8] G215 G224 := hw223.2.1
            have hp227 := hw223.2.2
            have b228 : (0 : Int) ≤ (G224 0 5).toInt ∧ (G224 0 5).toInt ≤ 1000 := hI225 0 5
            have b229 : (0 : Int) ≤ (G224 0 4).toInt ∧ (G224 0 4).toInt ≤ 1000 := hI225 0 4
            have q230 : ((G224 0 5).toInt ≤ (G 0 3).toInt ∧ (G 0 5).toInt ≤ (G224 0 4).toInt ∧ (G224 0 4).toInt ≤ (G224 0 5).toInt) := by have h9 := hp227.1; (try simp only [(show G215 0 3 = (G 0 3) from (hU217 0 3 (by decide)).trans ((hU207 0 3 (by decide)).trans (hU192 0 3 (by decide)))), (show G215 0 5 = (G 0 5) from (hU217 0 5 (by decide)).trans ((hU207 0 5 (by decide)).trans (hU192 0 5 (by decide))))] at h9); first | exact h9 | omega
            have b231 : (0 : Int) ≤ (G224 0 6).toInt ∧ (G224 0 6).toInt ≤ 4 := hI225 0 6
            have q232 : (((G224 0 6).toInt = 0 ∧ (G224 0 4).toInt = (G 0 3).toInt) ∨ ((G224 0 6).toInt ≠ 0 ∧ (G224 0 4).toInt < (G224 0 5).toInt)) := by have h9 := hp227.2.1; (try simp only [(show G215 0 3 = (G 0 3) from (hU217 0 3 (by decide)).trans ((hU207 0 3 (by decide)).trans (hU192 0 3 (by decide))))] at h9); first | exact h9 | omega
            have q233 : tTok (G 2) (G 0 3).toInt (G 0 5).toInt (G224 0 6).toInt (G224 0 4).toInt (G224 0 7).toInt (G224 0 5).toInt := by have h9 := hp227.2.2; (try simp only [(show G215 0 3 = (G 0 3) from (hU217 0 3 (by decide)).trans ((hU207 0 3 (by decide)).trans (hU192 0 3 (by decide)))), (show G215 0 5 = (G 0 5) from (hU217 0 5 (by decide)).trans ((hU207 0 5 (by decide)).trans (hU192 0 5 (by decide)))), (show G215 2 = (G 2) from (show G215 2 = (gu_up G205 0 21 y210) 2 from funext fun k_ => hU217 2 k_ (show (200 : Nat) ∉ ([1000, 1100, 1200] : List Nat) by decide)).trans ((show G205 2 = G190 2 from funext fun k_ => hU207 2 k_ (show (200 : Nat) ∉ ([9, 10] : List Nat) by decide)).trans ((show G190 2 = G 2 from funext fun k_ => hU192 2 k_ (show (200 : Nat) ∉ ([9, 10] : List Nat) by decide)))))] at h9); first | exact h9 | omega
            clear hp227 hw223
            exact ux_vret F hA hQ hr G224 (⟨hI225, (gu_un.tr (gu_un.tr (gu_un.up (j := 0) (k := 21) (v := y210) (gu_un.tr (gu_un.tr gu_un.rf (gu_un.su hU192 rfl)) (gu_un.su hU207 rfl)) (show (22 : Nat) ∈ ([5, 6, 7, 8, 9, 10, 22, 1000, 1100, 1200] : List Nat) by decide)) (gu_un.su hU217 rfl)) (gu_un.su hU226 rfl)), (by show ((G224 0 5).toInt ≤ (G 0 3).toInt ∧ (G 0 5).toInt ≤ (G224 0 5).toInt ∧ ((G224 0 6).toInt = 0 ∨ (G 0 5).toInt < (G224 0 5).toInt)); (first | omega | (simp only [Int32.reduceToInt, true_and, and_true, ne_eq, not_true_eq_false, false_and, or_false, false_or, true_or, or_true, false_implies] <;> omega))), ((sg221.un (show gu_un ycd [5, 6, 7, 8] G215 G224 from (gu_un.tr gu_un.rf (gu_un.su hU226 rfl))) rfl rfl)), ((yKp.un kp220 (show gu_un ycd [5, 6, 7, 8] G215 G224 from (gu_un.tr gu_un.rf (gu_un.su hU226 rfl))) rfl))⟩) rfl rfl dX13_readFactor_171


set_option maxHeartbeats 4000000 in
set_option maxRecDepth 100000 in
theorem S_X13_readProduct_v3 (l : Launch) (D : va_G) (K : Nat → ClassId) (a : Nat → Nat) (G : gS) (qs vs : Nat → Nat) (pb : ((G 0 5).toInt ≤ (G 0 3).toInt)) (s35 : (3 ≤ (G 0 20).toInt)) (m6 : ((G 12 ((G 0 20).toInt).toNat).toInt ≤ 6 * (G 0 21).toInt)) (hI : yI G) (sz : Nat) : KxvZ (yZ qs vs) l yX13_readProduct wsT_X13_readProduct 11 259 D [.ref (a 0), .int 3] (yW K a G) (tK K) sz (fun (G' : gS) => (yI G') ∧ (gu_un ycd [5, 6, 7, 8, 9, 10, 22, 1000, 1100, 1200] G G') ∧ (((G' 0 5).toInt ≤ (G 0 3).toInt ∧ (G 0 5).toInt ≤ (G' 0 5).toInt ∧ ((G' 0 6).toInt = 0 ∨ (G 0 5).toInt < (G' 0 5).toInt))) ∧ (ySg 3 (G 0 20).toInt G G') ∧ (yKp G G')) (fun (G' : gS) => (yI G') ∧ (gu_un ycd [5, 6, 7, 8, 9, 10, 22, 1000, 1100, 1200] G G') ∧ (yKp G G')) (a 1) (fun (G' : gS) => (yW K a G')) := by
  unfold KxvZ
  refine gxz_ofW (cc := cX13_readProduct) (lv := [(0, .ref (a 0)), (1, .int 3)]) (by decide) rfl (Nat.le_of_ble_eq_true rfl) rfl ?_
  intro p e s m args below meth c A Q hA hQ hZ F hr hex
  have hts := F.2.2.2.2.1
  have w_0 : (Cond.fieldLink RX13 41 "QuietCutModel" "value" "I").before args s = true := hts _ (List.mem_of_getElem? (i := 1) rfl)
  have i_X13 : ∀ w ∈ u_ws RX13 TX13 73, w ∈ wsT_X13_readProduct := fun w h => List.mem_append_left _ ((show ∀ w ∈ u_ws RX13 TX13 73, w ∈ wsX13_readProduct from fun _ h => List.mem_cons_of_mem _ (List.mem_append_right _ h)) w h)
  have b1 : (0 : Int) ≤ (G 0 3).toInt ∧ (G 0 3).toInt ≤ 1000 := hI 0 3
  have b2 : (0 : Int) ≤ (G 0 5).toInt ∧ (G 0 5).toInt ≤ 1000 := hI 0 5
  have b3 : (0 : Int) ≤ (G 0 6).toInt ∧ (G 0 6).toInt ≤ 4 := hI 0 6
  have b4 : (0 : Int) ≤ (G 0 20).toInt ∧ (G 0 20).toInt ≤ 5 := hI 0 20
  have b5 : (0 : Int) ≤ (G 0 21).toInt ∧ (G 0 21).toInt ≤ 12 := hI 0 21
  have J_5 : ∀ (fuel : Nat) (Gj5 : gS), (8 * (1000 - (Gj5 0 5).toInt) + (Gj5 0 6).toInt).toNat < fuel → (yI Gj5) → (gu_un ycd [5, 6, 7, 8, 9, 10, 22, 1000, 1100, 1200] G Gj5) → (ySg 3 (G 0 20).toInt G Gj5) → (yKp G Gj5) → (((Gj5 0 5).toInt ≤ (G 0 3).toInt)) → (((G 0 5).toInt ≤ (Gj5 0 5).toInt ∧ ((Gj5 0 6).toInt = 0 ∨ (G 0 5).toInt < (Gj5 0 5).toInt))) → gG p l e (gR 11 0 0 259) s m args below meth c D A 3 Q 0 0 (yW K a Gj5) (tK K) [(0, .ref (a 0)), (1, .int 3)] 5 [] := by
    intro fuel
    induction fuel with
    | zero => intro Gj5 hm; exact absurd hm (Nat.not_lt_zero _)
    | succ fuel_5 ih_5 =>
      intro Gj5 hm_5 jI5 jU5 sg5 kp5 bl_5 bm_5
      have J_32 : ∀ (_ : Unit), (((Gj5 0 6).toInt = 3 ∧ (Gj5 0 7).toInt ≠ 33 ∧ xsg (Gj5 0 7).toInt = 2)) → (((Gj5 0 5).toInt ≤ (G 0 3).toInt)) → (((G 0 5).toInt ≤ (Gj5 0 5).toInt ∧ ((Gj5 0 6).toInt = 0 ∨ (G 0 5).toInt < (Gj5 0 5).toInt))) → gG p l e (gR 11 0 0 259) s m args below meth c D A 3 Q 0 0 (yW K a Gj5) (tK K) [(0, .ref (a 0)), (1, .int 3)] 32 [] := by
        intro _ sn bl_32 bm_32
        refine g_aload_n F 0 dX13_readProduct_32 rfl rfl ?_
        refine yg_0_7 F i_X13 w_0 dX13_readProduct_33 (Gj5 0 7) (rfl) ?_
        refine g_istore_n F [(2, .int (Gj5 0 7)), (0, .ref (a 0)), (1, .int 3)] dX13_readProduct_36 rfl (by decide) rfl ?_
        refine g_aload_n F 1 dX13_readProduct_37 rfl rfl ?_
        have b6 : (0 : Int) ≤ (Gj5 0 5).toInt ∧ (Gj5 0 5).toInt ≤ 1000 := jI5 0 5
        refine u_callVv (k := 0) (n := 0) (b := a 0) (As := []) (st := []) F (fun sz => S_X13_scan l D K a Gj5  (by have e9_0_3 : Gj5 0 3 = (G 0 3) := jU5 0 3 (by decide); (try simp only [e9_0_3, true_and, and_true]) <;> (first | omega | (simp only [Int32.reduceToInt, true_and, and_true, ne_eq, not_true_eq_false, false_and, or_false, false_or, true_or, or_true, false_implies] <;> omega))) jI5 sz) (cwV 0 hts (gT_left gX13_readProduct_X13_scan) rfl rfl rfl (by decide +kernel) ⟨Nat.le_of_ble_eq_true rfl, Nat.le_of_ble_eq_true rfl⟩) rfl 0 yc_0 rfl (Nat.le_of_ble_eq_true rfl) ⟨Nat.zero_le _, Nat.zero_le _⟩ dX13_readProduct_38 (fun G9 hw8 => ?_)
        have hI10 : yI G9 := hw8.1
        have hU11 : gu_un ycd [5, 6, 7, 8] Gj5 G9 := hw8.2.1
        have hp12 := hw8.2.2
        have b13 : (0 : Int) ≤ (G9 0 5).toInt ∧ (G9 0 5).toInt ≤ 1000 := hI10 0 5
        have b14 : (0 : Int) ≤ (G9 0 4).toInt ∧ (G9 0 4).toInt ≤ 1000 := hI10 0 4
        have q15 : ((G9 0 5).toInt ≤ (G 0 3).toInt ∧ (Gj5 0 5).toInt ≤ (G9 0 4).toInt ∧ (G9 0 4).toInt ≤ (G9 0 5).toInt) := by have h9 := hp12.1; (try simp only [(show Gj5 0 3 = (G 0 3) from jU5 0 3 (by decide))] at h9); first | exact h9 | omega
        have b16 : (0 : Int) ≤ (G9 0 6).toInt ∧ (G9 0 6).toInt ≤ 4 := hI10 0 6
        have q17 : (((G9 0 6).toInt = 0 ∧ (G9 0 4).toInt = (G 0 3).toInt) ∨ ((G9 0 6).toInt ≠ 0 ∧ (G9 0 4).toInt < (G9 0 5).toInt)) := by have h9 := hp12.2.1; (try simp only [(show Gj5 0 3 = (G 0 3) from jU5 0 3 (by decide))] at h9); first | exact h9 | omega
        have q18 : tTok (G 2) (G 0 3).toInt (Gj5 0 5).toInt (G9 0 6).toInt (G9 0 4).toInt (G9 0 7).toInt (G9 0 5).toInt := by have h9 := hp12.2.2; (try simp only [(show Gj5 0 3 = (G 0 3) from jU5 0 3 (by decide)), (show Gj5 2 = (G 2) from (show Gj5 2 = G 2 from funext fun k_ => jU5 2 k_ (show (200 : Nat) ∉ ([5, 6, 7, 8, 9, 10, 22, 1000, 1100, 1200] : List Nat) by decide)))] at h9); first | exact h9 | omega
        clear hp12 hw8
        refine g_aload_n F 1 dX13_readProduct_41 rfl rfl ?_
        refine g_iload_n F 2 dX13_readProduct_42 rfl rfl ?_
        refine uxz_callvv (k := 0) (n := 0) (b := a 0) (As := [.int 3]) (st := []) F yZ_st hZ (fun sz => S_X13_readFactor_v3 l D K a G9 qs vs  (by have e9_0_3 : G9 0 3 = (G 0 3) := (hU11 0 3 (by decide)).trans (jU5 0 3 (by decide)); (try simp only [e9_0_3, true_and, and_true]) <;> (first | omega | (simp only [Int32.reduceToInt, true_and, and_true, ne_eq, not_true_eq_false, false_and, or_false, false_or, true_or, or_true, false_implies] <;> omega))) (by have e9_0_20 : G9 0 20 = (G 0 20) := (hU11 0 20 (by decide)).trans (jU5 0 20 (by decide)); (try simp only [e9_0_20, true_and, and_true]) <;> (first | omega | (simp only [Int32.reduceToInt, true_and, and_true, ne_eq, not_true_eq_false, false_and, or_false, false_or, true_or, or_true, false_implies] <;> omega))) (by rw [show G9 0 20 = G 0 20 from (hU11 0 20 (by decide)).trans (jU5 0 20 (by decide))]; exact (ySg.m6 (c := 3) (sg5.un (show gu_un ycd [5, 6, 7, 8] Gj5 G9 from (gu_un.tr gu_un.rf (gu_un.su hU11 rfl))) rfl rfl) (by decide) (by decide) m6)) hI10 sz) (cwV 1 hts gT_X13_readProduct_X13_readFactor rfl rfl rfl (by decide +kernel) ⟨Nat.le_of_ble_eq_true rfl, Nat.le_of_ble_eq_true rfl⟩) rfl 0 yc_0 rfl (Nat.le_of_ble_eq_true rfl) ⟨Nat.zero_le _, Nat.zero_le _⟩ dX13_readProduct_43 hex hA hQ (fun u9 h9 => ⟨h9.1, gu_un.tr (gu_un.tr (gu_un.tr gu_un.rf (gu_un.su jU5 rfl)) (gu_un.su hU11 rfl)) (gu_un.su h9.2.1 rfl), (yKp.tr (yKp.un kp5 (show gu_un ycd [5, 6, 7, 8] Gj5 G9 from (gu_un.tr gu_un.rf (gu_un.su hU11 rfl))) rfl) h9.2.2)⟩) (fun G21 hw20 => ?_)
        have hI22 : yI G21 := hw20.1
        have hU23 : gu_un ycd [5, 6, 7, 8, 9, 10, 22, 1000, 1100, 1200] G9 G21 := hw20.2.1
        have hp24 := hw20.2.2
        have b25 : (0 : Int) ≤ (G21 0 5).toInt ∧ (G21 0 5).toInt ≤ 1000 := hI22 0 5
        have b26 : (0 : Int) ≤ (G21 0 6).toInt ∧ (G21 0 6).toInt ≤ 4 := hI22 0 6
        have q27 : ((G21 0 5).toInt ≤ (G 0 3).toInt ∧ (G9 0 5).toInt ≤ (G21 0 5).toInt ∧ ((G21 0 6).toInt = 0 ∨ (G9 0 5).toInt < (G21 0 5).toInt)) := by have h9 := hp24.1; (try simp only [(show G9 0 3 = (G 0 3) from (hU11 0 3 (by decide)).trans (jU5 0 3 (by decide)))] at h9); first | exact h9 | omega
        have q28 : ySg 3 (G 0 20).toInt G9 G21 := by have h9 := hp24.2.1; (try simp only [(show G9 0 20 = (G 0 20) from (hU11 0 20 (by decide)).trans (jU5 0 20 (by decide)))] at h9); first | exact h9 | omega
        have q29 : yKp G9 G21 := hp24.2.2
        have kp30 : yKp G G21 := yKp.tr (yKp.un kp5 (show gu_un ycd [5, 6, 7, 8] Gj5 G9 from (gu_un.tr gu_un.rf (gu_un.su hU11 rfl))) rfl) q29
        clear hp24 hw20
        refine g_aload_n F 1 dX13_readProduct_46 rfl rfl ?_
        refine g_iconst F 2 dX13_readProduct_47 (by decide) ?_
        refine g_iload_n F 0 dX13_readProduct_48 rfl rfl ?_
        refine u_callVv (k := 0) (n := 0) (b := a 0) (As := [.int 2, .int (Gj5 0 7)]) (st := []) F (fun sz => S_X13_mark l D K a G21 2 2 (Gj5 0 7) (Gj5 0 7).toInt rfl (by decide) rfl (by rw [show G21 0 20 = G 0 20 from (hU23 0 20 (by decide)).trans ((hU11 0 20 (by decide)).trans (jU5 0 20 (by decide)))]; have h9 : (G21 12 ((G 0 20).toInt).toNat).toInt ≤ 6 * (G21 0 21).toInt := (ySg.m6 (c := 3) q28 (by decide) (by decide) (ySg.m6 (c := 3) (sg5.un (show gu_un ycd [5, 6, 7, 8] Gj5 G9 from (gu_un.tr gu_un.rf (gu_un.su hU11 rfl))) rfl rfl) (by decide) (by decide) m6)); have h8 : (0 : Int) ≤ (G21 0 21).toInt ∧ (G21 0 21).toInt ≤ 12 := hI22 0 21; show (G21 12 ((G 0 20).toInt).toNat).toInt ≤ 79; omega) hI22 sz) (cwV 2 hts (gT_left gX13_readProduct_X13_mark) rfl rfl rfl (by decide +kernel) ⟨Nat.le_of_ble_eq_true rfl, Nat.le_of_ble_eq_true rfl⟩) rfl 0 yc_0 rfl (Nat.le_of_ble_eq_true rfl) ⟨Nat.zero_le _, Nat.zero_le _⟩ dX13_readProduct_49 (fun G33 hw32 => ?_)
        have hI34 : yI G33 := hw32.1
        have hU35 : gu_un ycd [1000, 1100, 1200] G21 G33 := hw32.2.1
        have hp36 := hw32.2.2
        have q37 : yMk 2 (Gj5 0 7) (G 0 20).toInt G21 G33 := by have h9 := hp36; (try simp only [(show G21 0 20 = (G 0 20) from (hU23 0 20 (by decide)).trans ((hU11 0 20 (by decide)).trans (jU5 0 20 (by decide))))] at h9); first | exact h9 | omega
        have m0 : 0 ≤ (G 12 ((G 0 20).toInt).toNat).toInt := (show (0 : Int) ≤ (G 12 ((G 0 20).toInt).toNat).toInt ∧ (G 12 ((G 0 20).toInt).toNat).toInt ≤ 80 from hI 12 _).1
        have m1 : 0 ≤ (G21 12 ((G 0 20).toInt).toNat).toInt := (show (0 : Int) ≤ (G21 12 ((G 0 20).toInt).toNat).toInt ∧ (G21 12 ((G 0 20).toInt).toNat).toInt ≤ 80 from hI22 12 _).1
        have kp38 : yKp G G33 := yKp.tr kp30 (q37.kp (by omega) m1)
        have sg39 : ySg 3 (G 0 20).toInt G G33 := ySg.join (sg5.un (show gu_un ycd [5, 6, 7, 8] Gj5 G9 from (gu_un.tr gu_un.rf (gu_un.su hU11 rfl))) rfl rfl) q28 q37 (by decide) (by omega) (by omega) m0 (by have h9 : (G21 12 ((G 0 20).toInt).toNat).toInt ≤ 6 * (G21 0 21).toInt := (ySg.m6 (c := 3) q28 (by decide) (by decide) (ySg.m6 (c := 3) (sg5.un (show gu_un ycd [5, 6, 7, 8] Gj5 G9 from (gu_un.tr gu_un.rf (gu_un.su hU11 rfl))) rfl rfl) (by decide) (by decide) m6)); have h8 : (0 : Int) ≤ (G21 0 21).toInt ∧ (G21 0 21).toInt ≤ 12 := hI22 0 21; omega)
        clear hp36 hw32
        refine g_goto F 5 dX13_readProduct_52 (by decide) ?_
        refine g_locals [(0, .ref (a 0)), (1, .int 3)] [1, 2] rfl ?_
        exact ih_5 G33 (by have e9_0_5 : G33 0 5 = (G21 0 5) := hU35 0 5 (by decide); have e9_0_6 : G33 0 6 = (G21 0 6) := hU35 0 6 (by decide); (try simp only [e9_0_5, e9_0_6, true_and, and_true]) <;> omega) hI34 (gu_un.tr (gu_un.tr (gu_un.tr (gu_un.tr gu_un.rf (gu_un.su jU5 rfl)) (gu_un.su hU11 rfl)) (gu_un.su hU23 rfl)) (gu_un.su hU35 rfl)) (sg39) (kp38) (by have e9_0_3 : G33 0 3 = (G 0 3) := (hU35 0 3 (by decide)).trans ((hU23 0 3 (by decide)).trans ((hU11 0 3 (by decide)).trans (jU5 0 3 (by decide)))); have e9_0_5 : G33 0 5 = (G21 0 5) := hU35 0 5 (by decide); (try simp only [e9_0_3, e9_0_5, true_and, and_true]) <;> (first | omega | (simp only [Int32.reduceToInt, true_and, and_true, ne_eq, not_true_eq_false, false_and, or_false, false_or, true_or, or_true, false_implies] <;> omega))) (by have e9_0_5 : G33 0 5 = (G21 0 5) := hU35 0 5 (by decide); have e9_0_6 : G33 0 6 = (G21 0 6) := hU35 0 6 (by decide); (try simp only [e9_0_5, e9_0_6, true_and, and_true]) <;> (first | omega | (simp only [Int32.reduceToInt, true_and, and_true, ne_eq, not_true_eq_false, false_and, or_false, false_or, true_or, or_true, false_implies] <;> omega)))
      refine g_aload_n F 0 dX13_readProduct_5 rfl rfl ?_
      refine g_bipush F 42 dX13_readProduct_6 (by decide) ?_
      refine u_callVi (k := 0) (n := 0) (b := a 0) (As := [.int 42]) (st := []) F (fun sz => S_X13_isSign l D K a Gj5 42 42 rfl jI5 sz) (cwV 1 hts (gT_left gX13_readProduct_X13_isSign) rfl rfl rfl (by decide +kernel) ⟨Nat.le_of_ble_eq_true rfl, Nat.le_of_ble_eq_true rfl⟩) rfl 0 yc_0 rfl (Nat.le_of_ble_eq_true rfl) ⟨Nat.zero_le _, Nat.zero_le _⟩ dX13_readProduct_8 (fun r40 _ hw41 => ?_)
      rcases hw41 with ⟨rfl, q43⟩ | ⟨rfl, q44⟩
      · have b45 : (0 : Int) ≤ (Gj5 0 6).toInt ∧ (Gj5 0 6).toInt ≤ 4 := jI5 0 6
        have q43 : ((Gj5 0 6).toInt = 3 ∧ (Gj5 0 7).toInt = (42 : Int)) := q43
        refine v_if_ne F 32 dX13_readProduct_11 (by decide) 1 rfl (fun c46 => ?_) (fun c46 => absurd c46 (by decide))
        have b47 : (0 : Int) ≤ (Gj5 0 5).toInt ∧ (Gj5 0 5).toInt ≤ 1000 := jI5 0 5
        exact J_32 () (⟨by omega, by omega, xsg_2.mpr (by omega)⟩) (by have e9_0_3 : Gj5 0 3 = (G 0 3) := jU5 0 3 (by decide); (try simp only [e9_0_3, true_and, and_true]) <;> (first | omega | (simp only [Int32.reduceToInt, true_and, and_true, ne_eq, not_true_eq_false, false_and, or_false, false_or, true_or, or_true, false_implies] <;> omega))) (by (first | omega | (simp only [Int32.reduceToInt, true_and, and_true, ne_eq, not_true_eq_false, false_and, or_false, false_or, true_or, or_true, false_implies] <;> omega)))
      · have b48 : (0 : Int) ≤ (Gj5 0 6).toInt ∧ (Gj5 0 6).toInt ≤ 4 := jI5 0 6
        have q44 : ((Gj5 0 6).toInt ≠ 3 ∨ (Gj5 0 7).toInt ≠ (42 : Int)) := q44
        refine v_if_ne F 32 dX13_readProduct_11 (by decide) 0 rfl (fun c49 => absurd c49 (by decide)) (fun c49 => ?_)
        refine g_aload_n F 0 dX13_readProduct_14 rfl rfl ?_
        refine g_bipush F 47 dX13_readProduct_15 (by decide) ?_
        refine u_callVi (k := 0) (n := 0) (b := a 0) (As := [.int 47]) (st := []) F (fun sz => S_X13_isSign l D K a Gj5 47 47 rfl jI5 sz) (cwV 1 hts (gT_left gX13_readProduct_X13_isSign) rfl rfl rfl (by decide +kernel) ⟨Nat.le_of_ble_eq_true rfl, Nat.le_of_ble_eq_true rfl⟩) rfl 0 yc_0 rfl (Nat.le_of_ble_eq_true rfl) ⟨Nat.zero_le _, Nat.zero_le _⟩ dX13_readProduct_17 (fun r50 _ hw51 => ?_)
        rcases hw51 with ⟨rfl, q53⟩ | ⟨rfl, q54⟩
        · have q53 : ((Gj5 0 6).toInt = 3 ∧ (Gj5 0 7).toInt = (47 : Int)) := q53
          refine v_if_ne F 32 dX13_readProduct_20 (by decide) 1 rfl (fun c55 => ?_) (fun c55 => absurd c55 (by decide))
          have b56 : (0 : Int) ≤ (Gj5 0 5).toInt ∧ (Gj5 0 5).toInt ≤ 1000 := jI5 0 5
          exact J_32 () (⟨by omega, by omega, xsg_2.mpr (by omega)⟩) (by have e9_0_3 : Gj5 0 3 = (G 0 3) := jU5 0 3 (by decide); (try simp only [e9_0_3, true_and, and_true]) <;> (first | omega | (simp only [Int32.reduceToInt, true_and, and_true, ne_eq, not_true_eq_false, false_and, or_false, false_or, true_or, or_true, false_implies] <;> omega))) (by (first | omega | (simp only [Int32.reduceToInt, true_and, and_true, ne_eq, not_true_eq_false, false_and, or_false, false_or, true_or, or_true, false_implies] <;> omega)))
        · have q54 : ((Gj5 0 6).toInt ≠ 3 ∨ (Gj5 0 7).toInt ≠ (47 : Int)) := q54
          refine v_if_ne F 32 dX13_readProduct_20 (by decide) 0 rfl (fun c57 => absurd c57 (by decide)) (fun c57 => ?_)
          refine g_aload_n F 0 dX13_readProduct_23 rfl rfl ?_
          refine g_bipush F 37 dX13_readProduct_24 (by decide) ?_
          refine u_callVi (k := 0) (n := 0) (b := a 0) (As := [.int 37]) (st := []) F (fun sz => S_X13_isSign l D K a Gj5 37 37 rfl jI5 sz) (cwV 1 hts (gT_left gX13_readProduct_X13_isSign) rfl rfl rfl (by decide +kernel) ⟨Nat.le_of_ble_eq_true rfl, Nat.le_of_ble_eq_true rfl⟩) rfl 0 yc_0 rfl (Nat.le_of_ble_eq_true rfl) ⟨Nat.zero_le _, Nat.zero_le _⟩ dX13_readProduct_26 (fun r58 _ hw59 => ?_)
          rcases hw59 with ⟨rfl, q61⟩ | ⟨rfl, q62⟩
          · have q61 : ((Gj5 0 6).toInt = 3 ∧ (Gj5 0 7).toInt = (37 : Int)) := q61
            refine v_if_eq F 55 dX13_readProduct_29 (by decide) 1 rfl (fun c63 => absurd c63 (by decide)) (fun c63 => ?_)
            have b64 : (0 : Int) ≤ (Gj5 0 5).toInt ∧ (Gj5 0 5).toInt ≤ 1000 := jI5 0 5
            exact J_32 () (⟨by omega, by omega, xsg_2.mpr (by omega)⟩) (by have e9_0_3 : Gj5 0 3 = (G 0 3) := jU5 0 3 (by decide); (try simp only [e9_0_3, true_and, and_true]) <;> (first | omega | (simp only [Int32.reduceToInt, true_and, and_true, ne_eq, not_true_eq_false, false_and, or_false, false_or, true_or, or_true, false_implies] <;> omega))) (by (first | omega | (simp only [Int32.reduceToInt, true_and, and_true, ne_eq, not_true_eq_false, false_and, or_false, false_or, true_or, or_true, false_implies] <;> omega)))
          · have q62 : ((Gj5 0 6).toInt ≠ 3 ∨ (Gj5 0 7).toInt ≠ (37 : Int)) := q62
            refine v_if_eq F 55 dX13_readProduct_29 (by decide) 0 rfl (fun c65 => ?_) (fun c65 => absurd c65 (by decide))
            have b66 : (0 : Int) ≤ (Gj5 0 5).toInt ∧ (Gj5 0 5).toInt ≤ 1000 := jI5 0 5
            exact ux_vret F hA hQ hr Gj5 (⟨jI5, (gu_un.tr gu_un.rf (gu_un.su jU5 rfl)), (by show ((Gj5 0 5).toInt ≤ (G 0 3).toInt ∧ (G 0 5).toInt ≤ (Gj5 0 5).toInt ∧ ((Gj5 0 6).toInt = 0 ∨ (G 0 5).toInt < (Gj5 0 5).toInt)); (first | omega | (simp only [Int32.reduceToInt, true_and, and_true, ne_eq, not_true_eq_false, false_and, or_false, false_or, true_or, or_true, false_implies] <;> omega))), (sg5), (kp5)⟩) rfl rfl dX13_readProduct_55
  refine g_aload_n F 0 dX13_readProduct_0 rfl rfl ?_
  refine g_iload_n F 1 dX13_readProduct_1 rfl rfl ?_
  refine uxz_callvv (k := 0) (n := 0) (b := a 0) (As := [.int 3]) (st := []) F yZ_st hZ (fun sz => S_X13_readFactor_v3 l D K a G qs vs  (by (first | omega | (simp only [Int32.reduceToInt, true_and, and_true, ne_eq, not_true_eq_false, false_and, or_false, false_or, true_or, or_true, false_implies] <;> omega))) (by (first | omega | (simp only [Int32.reduceToInt, true_and, and_true, ne_eq, not_true_eq_false, false_and, or_false, false_or, true_or, or_true, false_implies] <;> omega))) (m6) hI sz) (cwV 1 hts gT_X13_readProduct_X13_readFactor rfl rfl rfl (by decide +kernel) ⟨Nat.le_of_ble_eq_true rfl, Nat.le_of_ble_eq_true rfl⟩) rfl 0 yc_0 rfl (Nat.le_of_ble_eq_true rfl) ⟨Nat.zero_le _, Nat.zero_le _⟩ dX13_readProduct_2 hex hA hQ (fun u9 h9 => ⟨h9.1, gu_un.tr gu_un.rf (gu_un.su h9.2.1 rfl), (yKp.tr yKp.rf h9.2.2)⟩) (fun G69 hw68 => ?_)
  have hI70 : yI G69 := hw68.1
  have hU71 : gu_un ycd [5, 6, 7, 8, 9, 10, 22, 1000, 1100, 1200] G G69 := hw68.2.1
  have hp72 := hw68.2.2
  have b73 : (0 : Int) ≤ (G69 0 5).toInt ∧ (G69 0 5).toInt ≤ 1000 := hI70 0 5
  have b74 : (0 : Int) ≤ (G69 0 6).toInt ∧ (G69 0 6).toInt ≤ 4 := hI70 0 6
  have q75 : ((G69 0 5).toInt ≤ (G 0 3).toInt ∧ (G 0 5).toInt ≤ (G69 0 5).toInt ∧ ((G69 0 6).toInt = 0 ∨ (G 0 5).toInt < (G69 0 5).toInt)) := hp72.1
  have q76 : ySg 3 (G 0 20).toInt G G69 := hp72.2.1
  have q77 : yKp G G69 := hp72.2.2
  have kp78 : yKp G G69 := yKp.tr yKp.rf q77
  have sg79 : ySg 3 (G 0 20).toInt G G69 := q76
  clear hp72 hw68
  exact J_5 _ G69 (Nat.lt_succ_self _) hI70 (gu_un.tr gu_un.rf (gu_un.su hU71 rfl)) (sg79) (kp78) (by have e9_0_3 : G69 0 3 = (G 0 3) := hU71 0 3 (by decide); (try simp only [e9_0_3, true_and, and_true]) <;> (first | omega | (simp only [Int32.reduceToInt, true_and, and_true, ne_eq, not_true_eq_false, false_and, or_false, false_or, true_or, or_true, false_implies] <;> omega))) (by (first | omega | (simp only [Int32.reduceToInt, true_and, and_true, ne_eq, not_true_eq_false, false_and, or_false, false_or, true_or, or_true, false_implies] <;> omega)))


set_option maxHeartbeats 4000000 in
set_option maxRecDepth 100000 in
theorem S_X13_readSum_v3 (l : Launch) (D : va_G) (K : Nat → ClassId) (a : Nat → Nat) (G : gS) (qs vs : Nat → Nat) (pb : ((G 0 5).toInt ≤ (G 0 3).toInt)) (s35 : (3 ≤ (G 0 20).toInt)) (m6 : ((G 12 ((G 0 20).toInt).toNat).toInt ≤ 6 * (G 0 21).toInt)) (hI : yI G) (sz : Nat) : KxvZ (yZ qs vs) l yX13_readSum wsT_X13_readSum 12 281 D [.ref (a 0), .int 3] (yW K a G) (tK K) sz (fun (G' : gS) => (yI G') ∧ (gu_un ycd [5, 6, 7, 8, 9, 10, 22, 1000, 1100, 1200] G G') ∧ (((G' 0 5).toInt ≤ (G 0 3).toInt ∧ (G 0 5).toInt ≤ (G' 0 5).toInt ∧ ((G' 0 6).toInt = 0 ∨ (G 0 5).toInt < (G' 0 5).toInt))) ∧ (ySg 3 (G 0 20).toInt G G') ∧ (yKp G G')) (fun (G' : gS) => (yI G') ∧ (gu_un ycd [5, 6, 7, 8, 9, 10, 22, 1000, 1100, 1200] G G') ∧ (yKp G G')) (a 1) (fun (G' : gS) => (yW K a G')) := by
  unfold KxvZ
  refine gxz_ofW (cc := cX13_readSum) (lv := [(0, .ref (a 0)), (1, .int 3)]) (by decide) rfl (Nat.le_of_ble_eq_true rfl) rfl ?_
  intro p e s m args below meth c A Q hA hQ hZ F hr hex
  have hts := F.2.2.2.2.1
  have w_0 : (Cond.fieldLink RX13 41 "QuietCutModel" "value" "I").before args s = true := hts _ (List.mem_of_getElem? (i := 1) rfl)
  have i_X13 : ∀ w ∈ u_ws RX13 TX13 73, w ∈ wsT_X13_readSum := fun w h => List.mem_append_left _ ((show ∀ w ∈ u_ws RX13 TX13 73, w ∈ wsX13_readSum from fun _ h => List.mem_cons_of_mem _ (List.mem_append_right _ h)) w h)
  have b1 : (0 : Int) ≤ (G 0 3).toInt ∧ (G 0 3).toInt ≤ 1000 := hI 0 3
  have b2 : (0 : Int) ≤ (G 0 5).toInt ∧ (G 0 5).toInt ≤ 1000 := hI 0 5
  have b3 : (0 : Int) ≤ (G 0 6).toInt ∧ (G 0 6).toInt ≤ 4 := hI 0 6
  have b4 : (0 : Int) ≤ (G 0 20).toInt ∧ (G 0 20).toInt ≤ 5 := hI 0 20
  have b5 : (0 : Int) ≤ (G 0 21).toInt ∧ (G 0 21).toInt ≤ 12 := hI 0 21
  have J_5 : ∀ (fuel : Nat) (Gj5 : gS), (8 * (1000 - (Gj5 0 5).toInt) + (Gj5 0 6).toInt).toNat < fuel → (yI Gj5) → (gu_un ycd [5, 6, 7, 8, 9, 10, 22, 1000, 1100, 1200] G Gj5) → (ySg 3 (G 0 20).toInt G Gj5) → (yKp G Gj5) → (((Gj5 0 5).toInt ≤ (G 0 3).toInt)) → (((G 0 5).toInt ≤ (Gj5 0 5).toInt ∧ ((Gj5 0 6).toInt = 0 ∨ (G 0 5).toInt < (Gj5 0 5).toInt))) → gG p l e (gR 12 0 0 281) s m args below meth c D A 3 Q 0 0 (yW K a Gj5) (tK K) [(0, .ref (a 0)), (1, .int 3)] 5 [] := by
    intro fuel
    induction fuel with
    | zero => intro Gj5 hm; exact absurd hm (Nat.not_lt_zero _)
    | succ fuel_5 ih_5 =>
      intro Gj5 hm_5 jI5 jU5 sg5 kp5 bl_5 bm_5
      have J_23 : ∀ (_ : Unit), (((Gj5 0 6).toInt = 3 ∧ (Gj5 0 7).toInt ≠ 33 ∧ xsg (Gj5 0 7).toInt = 1)) → (((Gj5 0 5).toInt ≤ (G 0 3).toInt)) → (((G 0 5).toInt ≤ (Gj5 0 5).toInt ∧ ((Gj5 0 6).toInt = 0 ∨ (G 0 5).toInt < (Gj5 0 5).toInt))) → gG p l e (gR 12 0 0 281) s m args below meth c D A 3 Q 0 0 (yW K a Gj5) (tK K) [(0, .ref (a 0)), (1, .int 3)] 23 [] := by
        intro _ sn bl_23 bm_23
        refine g_aload_n F 0 dX13_readSum_23 rfl rfl ?_
        refine yg_0_7 F i_X13 w_0 dX13_readSum_24 (Gj5 0 7) (rfl) ?_
        refine g_istore_n F [(2, .int (Gj5 0 7)), (0, .ref (a 0)), (1, .int 3)] dX13_readSum_27 rfl (by decide) rfl ?_
        refine g_aload_n F 1 dX13_readSum_28 rfl rfl ?_
        have b6 : (0 : Int) ≤ (Gj5 0 5).toInt ∧ (Gj5 0 5).toInt ≤ 1000 := jI5 0 5
        refine u_callVv (k := 0) (n := 0) (b := a 0) (As := []) (st := []) F (fun sz => S_X13_scan l D K a Gj5  (by have e9_0_3 : Gj5 0 3 = (G 0 3) := jU5 0 3 (by decide); (try simp only [e9_0_3, true_and, and_true]) <;> (first | omega | (simp only [Int32.reduceToInt, true_and, and_true, ne_eq, not_true_eq_false, false_and, or_false, false_or, true_or, or_true, false_implies] <;> omega))) jI5 sz) (cwV 0 hts (gT_left gX13_readSum_X13_scan) rfl rfl rfl (by decide +kernel) ⟨Nat.le_of_ble_eq_true rfl, Nat.le_of_ble_eq_true rfl⟩) rfl 0 yc_0 rfl (Nat.le_of_ble_eq_true rfl) ⟨Nat.zero_le _, Nat.zero_le _⟩ dX13_readSum_29 (fun G9 hw8 => ?_)
        have hI10 : yI G9 := hw8.1
        have hU11 : gu_un ycd [5, 6, 7, 8] Gj5 G9 := hw8.2.1
        have hp12 := hw8.2.2
        have b13 : (0 : Int) ≤ (G9 0 5).toInt ∧ (G9 0 5).toInt ≤ 1000 := hI10 0 5
        have b14 : (0 : Int) ≤ (G9 0 4).toInt ∧ (G9 0 4).toInt ≤ 1000 := hI10 0 4
        have q15 : ((G9 0 5).toInt ≤ (G 0 3).toInt ∧ (Gj5 0 5).toInt ≤ (G9 0 4).toInt ∧ (G9 0 4).toInt ≤ (G9 0 5).toInt) := by have h9 := hp12.1; (try simp only [(show Gj5 0 3 = (G 0 3) from jU5 0 3 (by decide))] at h9); first | exact h9 | omega
        have b16 : (0 : Int) ≤ (G9 0 6).toInt ∧ (G9 0 6).toInt ≤ 4 := hI10 0 6
        have q17 : (((G9 0 6).toInt = 0 ∧ (G9 0 4).toInt = (G 0 3).toInt) ∨ ((G9 0 6).toInt ≠ 0 ∧ (G9 0 4).toInt < (G9 0 5).toInt)) := by have h9 := hp12.2.1; (try simp only [(show Gj5 0 3 = (G 0 3) from jU5 0 3 (by decide))] at h9); first | exact h9 | omega
        have q18 : tTok (G 2) (G 0 3).toInt (Gj5 0 5).toInt (G9 0 6).toInt (G9 0 4).toInt (G9 0 7).toInt (G9 0 5).toInt := by have h9 := hp12.2.2; (try simp only [(show Gj5 0 3 = (G 0 3) from jU5 0 3 (by decide)), (show Gj5 2 = (G 2) from (show Gj5 2 = G 2 from funext fun k_ => jU5 2 k_ (show (200 : Nat) ∉ ([5, 6, 7, 8, 9, 10, 22, 1000, 1100, 1200] : List Nat) by decide)))] at h9); first | exact h9 | omega
        clear hp12 hw8
        refine g_aload_n F 1 dX13_readSum_32 rfl rfl ?_
        refine g_iload_n F 2 dX13_readSum_33 rfl rfl ?_
        refine uxz_callvv (k := 0) (n := 0) (b := a 0) (As := [.int 3]) (st := []) F yZ_st hZ (fun sz => S_X13_readProduct_v3 l D K a G9 qs vs  (by have e9_0_3 : G9 0 3 = (G 0 3) := (hU11 0 3 (by decide)).trans (jU5 0 3 (by decide)); (try simp only [e9_0_3, true_and, and_true]) <;> (first | omega | (simp only [Int32.reduceToInt, true_and, and_true, ne_eq, not_true_eq_false, false_and, or_false, false_or, true_or, or_true, false_implies] <;> omega))) (by have e9_0_20 : G9 0 20 = (G 0 20) := (hU11 0 20 (by decide)).trans (jU5 0 20 (by decide)); (try simp only [e9_0_20, true_and, and_true]) <;> (first | omega | (simp only [Int32.reduceToInt, true_and, and_true, ne_eq, not_true_eq_false, false_and, or_false, false_or, true_or, or_true, false_implies] <;> omega))) (by rw [show G9 0 20 = G 0 20 from (hU11 0 20 (by decide)).trans (jU5 0 20 (by decide))]; exact (ySg.m6 (c := 3) (sg5.un (show gu_un ycd [5, 6, 7, 8] Gj5 G9 from (gu_un.tr gu_un.rf (gu_un.su hU11 rfl))) rfl rfl) (by decide) (by decide) m6)) hI10 sz) (cwV 1 hts gT_X13_readSum_X13_readProduct rfl rfl rfl (by decide +kernel) ⟨Nat.le_of_ble_eq_true rfl, Nat.le_of_ble_eq_true rfl⟩) rfl 0 yc_0 rfl (Nat.le_of_ble_eq_true rfl) ⟨Nat.zero_le _, Nat.zero_le _⟩ dX13_readSum_34 hex hA hQ (fun u9 h9 => ⟨h9.1, gu_un.tr (gu_un.tr (gu_un.tr gu_un.rf (gu_un.su jU5 rfl)) (gu_un.su hU11 rfl)) (gu_un.su h9.2.1 rfl), (yKp.tr (yKp.un kp5 (show gu_un ycd [5, 6, 7, 8] Gj5 G9 from (gu_un.tr gu_un.rf (gu_un.su hU11 rfl))) rfl) h9.2.2)⟩) (fun G21 hw20 => ?_)
        have hI22 : yI G21 := hw20.1
        have hU23 : gu_un ycd [5, 6, 7, 8, 9, 10, 22, 1000, 1100, 1200] G9 G21 := hw20.2.1
        have hp24 := hw20.2.2
        have b25 : (0 : Int) ≤ (G21 0 5).toInt ∧ (G21 0 5).toInt ≤ 1000 := hI22 0 5
        have b26 : (0 : Int) ≤ (G21 0 6).toInt ∧ (G21 0 6).toInt ≤ 4 := hI22 0 6
        have q27 : ((G21 0 5).toInt ≤ (G 0 3).toInt ∧ (G9 0 5).toInt ≤ (G21 0 5).toInt ∧ ((G21 0 6).toInt = 0 ∨ (G9 0 5).toInt < (G21 0 5).toInt)) := by have h9 := hp24.1; (try simp only [(show G9 0 3 = (G 0 3) from (hU11 0 3 (by decide)).trans (jU5 0 3 (by decide)))] at h9); first | exact h9 | omega
        have q28 : ySg 3 (G 0 20).toInt G9 G21 := by have h9 := hp24.2.1; (try simp only [(show G9 0 20 = (G 0 20) from (hU11 0 20 (by decide)).trans (jU5 0 20 (by decide)))] at h9); first | exact h9 | omega
        have q29 : yKp G9 G21 := hp24.2.2
        have kp30 : yKp G G21 := yKp.tr (yKp.un kp5 (show gu_un ycd [5, 6, 7, 8] Gj5 G9 from (gu_un.tr gu_un.rf (gu_un.su hU11 rfl))) rfl) q29
        clear hp24 hw20
        refine g_aload_n F 1 dX13_readSum_37 rfl rfl ?_
        refine g_iconst F 2 dX13_readSum_38 (by decide) ?_
        refine g_iload_n F 0 dX13_readSum_39 rfl rfl ?_
        refine u_callVv (k := 0) (n := 0) (b := a 0) (As := [.int 2, .int (Gj5 0 7)]) (st := []) F (fun sz => S_X13_mark l D K a G21 2 2 (Gj5 0 7) (Gj5 0 7).toInt rfl (by decide) rfl (by rw [show G21 0 20 = G 0 20 from (hU23 0 20 (by decide)).trans ((hU11 0 20 (by decide)).trans (jU5 0 20 (by decide)))]; have h9 : (G21 12 ((G 0 20).toInt).toNat).toInt ≤ 6 * (G21 0 21).toInt := (ySg.m6 (c := 3) q28 (by decide) (by decide) (ySg.m6 (c := 3) (sg5.un (show gu_un ycd [5, 6, 7, 8] Gj5 G9 from (gu_un.tr gu_un.rf (gu_un.su hU11 rfl))) rfl rfl) (by decide) (by decide) m6)); have h8 : (0 : Int) ≤ (G21 0 21).toInt ∧ (G21 0 21).toInt ≤ 12 := hI22 0 21; show (G21 12 ((G 0 20).toInt).toNat).toInt ≤ 79; omega) hI22 sz) (cwV 2 hts (gT_left gX13_readSum_X13_mark) rfl rfl rfl (by decide +kernel) ⟨Nat.le_of_ble_eq_true rfl, Nat.le_of_ble_eq_true rfl⟩) rfl 0 yc_0 rfl (Nat.le_of_ble_eq_true rfl) ⟨Nat.zero_le _, Nat.zero_le _⟩ dX13_readSum_40 (fun G33 hw32 => ?_)
        have hI34 : yI G33 := hw32.1
        have hU35 : gu_un ycd [1000, 1100, 1200] G21 G33 := hw32.2.1
        have hp36 := hw32.2.2
        have q37 : yMk 2 (Gj5 0 7) (G 0 20).toInt G21 G33 := by have h9 := hp36; (try simp only [(show G21 0 20 = (G 0 20) from (hU23 0 20 (by decide)).trans ((hU11 0 20 (by decide)).trans (jU5 0 20 (by decide))))] at h9); first | exact h9 | omega
        have m0 : 0 ≤ (G 12 ((G 0 20).toInt).toNat).toInt := (show (0 : Int) ≤ (G 12 ((G 0 20).toInt).toNat).toInt ∧ (G 12 ((G 0 20).toInt).toNat).toInt ≤ 80 from hI 12 _).1
        have m1 : 0 ≤ (G21 12 ((G 0 20).toInt).toNat).toInt := (show (0 : Int) ≤ (G21 12 ((G 0 20).toInt).toNat).toInt ∧ (G21 12 ((G 0 20).toInt).toNat).toInt ≤ 80 from hI22 12 _).1
        have kp38 : yKp G G33 := yKp.tr kp30 (q37.kp (by omega) m1)
        have sg39 : ySg 3 (G 0 20).toInt G G33 := ySg.join (sg5.un (show gu_un ycd [5, 6, 7, 8] Gj5 G9 from (gu_un.tr gu_un.rf (gu_un.su hU11 rfl))) rfl rfl) q28 q37 (by decide) (by omega) (by omega) m0 (by have h9 : (G21 12 ((G 0 20).toInt).toNat).toInt ≤ 6 * (G21 0 21).toInt := (ySg.m6 (c := 3) q28 (by decide) (by decide) (ySg.m6 (c := 3) (sg5.un (show gu_un ycd [5, 6, 7, 8] Gj5 G9 from (gu_un.tr gu_un.rf (gu_un.su hU11 rfl))) rfl rfl) (by decide) (by decide) m6)); have h8 : (0 : Int) ≤ (G21 0 21).toInt ∧ (G21 0 21).toInt ≤ 12 := hI22 0 21; omega)
        clear hp36 hw32
        refine g_goto F 5 dX13_readSum_43 (by decide) ?_
        refine g_locals [(0, .ref (a 0)), (1, .int 3)] [1, 2] rfl ?_
        exact ih_5 G33 (by have e9_0_5 : G33 0 5 = (G21 0 5) := hU35 0 5 (by decide); have e9_0_6 : G33 0 6 = (G21 0 6) := hU35 0 6 (by decide); (try simp only [e9_0_5, e9_0_6, true_and, and_true]) <;> omega) hI34 (gu_un.tr (gu_un.tr (gu_un.tr (gu_un.tr gu_un.rf (gu_un.su jU5 rfl)) (gu_un.su hU11 rfl)) (gu_un.su hU23 rfl)) (gu_un.su hU35 rfl)) (sg39) (kp38) (by have e9_0_3 : G33 0 3 = (G 0 3) := (hU35 0 3 (by decide)).trans ((hU23 0 3 (by decide)).trans ((hU11 0 3 (by decide)).trans (jU5 0 3 (by decide)))); have e9_0_5 : G33 0 5 = (G21 0 5) := hU35 0 5 (by decide); (try simp only [e9_0_3, e9_0_5, true_and, and_true]) <;> (first | omega | (simp only [Int32.reduceToInt, true_and, and_true, ne_eq, not_true_eq_false, false_and, or_false, false_or, true_or, or_true, false_implies] <;> omega))) (by have e9_0_5 : G33 0 5 = (G21 0 5) := hU35 0 5 (by decide); have e9_0_6 : G33 0 6 = (G21 0 6) := hU35 0 6 (by decide); (try simp only [e9_0_5, e9_0_6, true_and, and_true]) <;> (first | omega | (simp only [Int32.reduceToInt, true_and, and_true, ne_eq, not_true_eq_false, false_and, or_false, false_or, true_or, or_true, false_implies] <;> omega)))
      refine g_aload_n F 0 dX13_readSum_5 rfl rfl ?_
      refine g_bipush F 43 dX13_readSum_6 (by decide) ?_
      refine u_callVi (k := 0) (n := 0) (b := a 0) (As := [.int 43]) (st := []) F (fun sz => S_X13_isSign l D K a Gj5 43 43 rfl jI5 sz) (cwV 1 hts (gT_left gX13_readSum_X13_isSign) rfl rfl rfl (by decide +kernel) ⟨Nat.le_of_ble_eq_true rfl, Nat.le_of_ble_eq_true rfl⟩) rfl 0 yc_0 rfl (Nat.le_of_ble_eq_true rfl) ⟨Nat.zero_le _, Nat.zero_le _⟩ dX13_readSum_8 (fun r40 _ hw41 => ?_)
      rcases hw41 with ⟨rfl, q43⟩ | ⟨rfl, q44⟩
      · have b45 : (0 : Int) ≤ (Gj5 0 6).toInt ∧ (Gj5 0 6).toInt ≤ 4 := jI5 0 6
        have q43 : ((Gj5 0 6).toInt = 3 ∧ (Gj5 0 7).toInt = (43 : Int)) := q43
        refine v_if_ne F 23 dX13_readSum_11 (by decide) 1 rfl (fun c46 => ?_) (fun c46 => absurd c46 (by decide))
        have b47 : (0 : Int) ≤ (Gj5 0 5).toInt ∧ (Gj5 0 5).toInt ≤ 1000 := jI5 0 5
        exact J_23 () (⟨by omega, by omega, xsg_1.mpr (by omega)⟩) (by have e9_0_3 : Gj5 0 3 = (G 0 3) := jU5 0 3 (by decide); (try simp only [e9_0_3, true_and, and_true]) <;> (first | omega | (simp only [Int32.reduceToInt, true_and, and_true, ne_eq, not_true_eq_false, false_and, or_false, false_or, true_or, or_true, false_implies] <;> omega))) (by (first | omega | (simp only [Int32.reduceToInt, true_and, and_true, ne_eq, not_true_eq_false, false_and, or_false, false_or, true_or, or_true, false_implies] <;> omega)))
      · have b48 : (0 : Int) ≤ (Gj5 0 6).toInt ∧ (Gj5 0 6).toInt ≤ 4 := jI5 0 6
        have q44 : ((Gj5 0 6).toInt ≠ 3 ∨ (Gj5 0 7).toInt ≠ (43 : Int)) := q44
        refine v_if_ne F 23 dX13_readSum_11 (by decide) 0 rfl (fun c49 => absurd c49 (by decide)) (fun c49 => ?_)
        refine g_aload_n F 0 dX13_readSum_14 rfl rfl ?_
        refine g_bipush F 45 dX13_readSum_15 (by decide) ?_
        refine u_callVi (k := 0) (n := 0) (b := a 0) (As := [.int 45]) (st := []) F (fun sz => S_X13_isSign l D K a Gj5 45 45 rfl jI5 sz) (cwV 1 hts (gT_left gX13_readSum_X13_isSign) rfl rfl rfl (by decide +kernel) ⟨Nat.le_of_ble_eq_true rfl, Nat.le_of_ble_eq_true rfl⟩) rfl 0 yc_0 rfl (Nat.le_of_ble_eq_true rfl) ⟨Nat.zero_le _, Nat.zero_le _⟩ dX13_readSum_17 (fun r50 _ hw51 => ?_)
        rcases hw51 with ⟨rfl, q53⟩ | ⟨rfl, q54⟩
        · have q53 : ((Gj5 0 6).toInt = 3 ∧ (Gj5 0 7).toInt = (45 : Int)) := q53
          refine v_if_eq F 46 dX13_readSum_20 (by decide) 1 rfl (fun c55 => absurd c55 (by decide)) (fun c55 => ?_)
          have b56 : (0 : Int) ≤ (Gj5 0 5).toInt ∧ (Gj5 0 5).toInt ≤ 1000 := jI5 0 5
          exact J_23 () (⟨by omega, by omega, xsg_1.mpr (by omega)⟩) (by have e9_0_3 : Gj5 0 3 = (G 0 3) := jU5 0 3 (by decide); (try simp only [e9_0_3, true_and, and_true]) <;> (first | omega | (simp only [Int32.reduceToInt, true_and, and_true, ne_eq, not_true_eq_false, false_and, or_false, false_or, true_or, or_true, false_implies] <;> omega))) (by (first | omega | (simp only [Int32.reduceToInt, true_and, and_true, ne_eq, not_true_eq_false, false_and, or_false, false_or, true_or, or_true, false_implies] <;> omega)))
        · have q54 : ((Gj5 0 6).toInt ≠ 3 ∨ (Gj5 0 7).toInt ≠ (45 : Int)) := q54
          refine v_if_eq F 46 dX13_readSum_20 (by decide) 0 rfl (fun c57 => ?_) (fun c57 => absurd c57 (by decide))
          have b58 : (0 : Int) ≤ (Gj5 0 5).toInt ∧ (Gj5 0 5).toInt ≤ 1000 := jI5 0 5
          exact ux_vret F hA hQ hr Gj5 (⟨jI5, (gu_un.tr gu_un.rf (gu_un.su jU5 rfl)), (by show ((Gj5 0 5).toInt ≤ (G 0 3).toInt ∧ (G 0 5).toInt ≤ (Gj5 0 5).toInt ∧ ((Gj5 0 6).toInt = 0 ∨ (G 0 5).toInt < (Gj5 0 5).toInt)); (first | omega | (simp only [Int32.reduceToInt, true_and, and_true, ne_eq, not_true_eq_false, false_and, or_false, false_or, true_or, or_true, false_implies] <;> omega))), (sg5), (kp5)⟩) rfl rfl dX13_readSum_46
  refine g_aload_n F 0 dX13_readSum_0 rfl rfl ?_
  refine g_iload_n F 1 dX13_readSum_1 rfl rfl ?_
  refine uxz_callvv (k := 0) (n := 0) (b := a 0) (As := [.int 3]) (st := []) F yZ_st hZ (fun sz => S_X13_readProduct_v3 l D K a G qs vs  (by (first | omega | (simp only [Int32.reduceToInt, true_and, and_true, ne_eq, not_true_eq_false, false_and, or_false, false_or, true_or, or_true, false_implies] <;> omega))) (by (first | omega | (simp only [Int32.reduceToInt, true_and, and_true, ne_eq, not_true_eq_false, false_and, or_false, false_or, true_or, or_true, false_implies] <;> omega))) (m6) hI sz) (cwV 1 hts gT_X13_readSum_X13_readProduct rfl rfl rfl (by decide +kernel) ⟨Nat.le_of_ble_eq_true rfl, Nat.le_of_ble_eq_true rfl⟩) rfl 0 yc_0 rfl (Nat.le_of_ble_eq_true rfl) ⟨Nat.zero_le _, Nat.zero_le _⟩ dX13_readSum_2 hex hA hQ (fun u9 h9 => ⟨h9.1, gu_un.tr gu_un.rf (gu_un.su h9.2.1 rfl), (yKp.tr yKp.rf h9.2.2)⟩) (fun G61 hw60 => ?_)
  have hI62 : yI G61 := hw60.1
  have hU63 : gu_un ycd [5, 6, 7, 8, 9, 10, 22, 1000, 1100, 1200] G G61 := hw60.2.1
  have hp64 := hw60.2.2
  have b65 : (0 : Int) ≤ (G61 0 5).toInt ∧ (G61 0 5).toInt ≤ 1000 := hI62 0 5
  have b66 : (0 : Int) ≤ (G61 0 6).toInt ∧ (G61 0 6).toInt ≤ 4 := hI62 0 6
  have q67 : ((G61 0 5).toInt ≤ (G 0 3).toInt ∧ (G 0 5).toInt ≤ (G61 0 5).toInt ∧ ((G61 0 6).toInt = 0 ∨ (G 0 5).toInt < (G61 0 5).toInt)) := hp64.1
  have q68 : ySg 3 (G 0 20).toInt G G61 := hp64.2.1
  have q69 : yKp G G61 := hp64.2.2
  have kp70 : yKp G G61 := yKp.tr yKp.rf q69
  have sg71 : ySg 3 (G 0 20).toInt G G61 := q68
  clear hp64 hw60
  exact J_5 _ G61 (Nat.lt_succ_self _) hI62 (gu_un.tr gu_un.rf (gu_un.su hU63 rfl)) (sg71) (kp70) (by have e9_0_3 : G61 0 3 = (G 0 3) := hU63 0 3 (by decide); (try simp only [e9_0_3, true_and, and_true]) <;> (first | omega | (simp only [Int32.reduceToInt, true_and, and_true, ne_eq, not_true_eq_false, false_and, or_false, false_or, true_or, or_true, false_implies] <;> omega))) (by (first | omega | (simp only [Int32.reduceToInt, true_and, and_true, ne_eq, not_true_eq_false, false_and, or_false, false_or, true_or, or_true, false_implies] <;> omega)))
