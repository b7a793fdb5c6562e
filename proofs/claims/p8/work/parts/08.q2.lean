
set_option maxHeartbeats 4000000 in
set_option maxRecDepth 100000 in
theorem S_X13_readFactor_v2 (l : Launch) (D : va_G) (K : Nat → ClassId) (a : Nat → Nat) (G : gS) (qs vs : Nat → Nat) (pb : ((G 0 5).toInt ≤ (G 0 3).toInt)) (s35 : (3 ≤ (G 0 20).toInt)) (m6 : ((G 12 ((G 0 20).toInt).toNat).toInt ≤ 6 * (G 0 21).toInt)) (hI : yI G) (sz : Nat) : KxvZ (yZ qs vs) l yX13_readFactor wsT_X13_readFactor 13 303 D [.ref (a 0), .int 2] (yW K a G) (tK K) sz (fun (G' : gS) => (yI G') ∧ (gu_un ycd [5, 6, 7, 8, 9, 10, 22, 1000, 1100, 1200] G G') ∧ (((G' 0 5).toInt ≤ (G 0 3).toInt ∧ (G 0 5).toInt ≤ (G' 0 5).toInt ∧ ((G' 0 6).toInt = 0 ∨ (G 0 5).toInt < (G' 0 5).toInt))) ∧ (ySg 4 (G 0 20).toInt G G') ∧ (yKp G G')) (fun (G' : gS) => (yI G') ∧ (gu_un ycd [5, 6, 7, 8, 9, 10, 22, 1000, 1100, 1200] G G') ∧ (yKp G G')) (a 1) (fun (G' : gS) => (yW K a G')) := by
  unfold KxvZ
  refine gxz_ofW (cc := cX13_readFactor) (lv := [(0, .ref (a 0)), (1, .int 2)]) (by decide) rfl (Nat.le_of_ble_eq_true rfl) rfl ?_
  intro p e s m args below meth c A Q hA hQ hZ F hr hex
  have hts := F.2.2.2.2.1
  have w_0 : (Cond.fieldLink RX13 134 "QuietCutModel" "parts" "I").before args s = true := hts _ (List.mem_of_getElem? (i := 2) rfl)
  have i_X13 : ∀ w ∈ u_ws RX13 TX13 73, w ∈ wsT_X13_readFactor := fun w h => List.mem_append_left _ ((show ∀ w ∈ u_ws RX13 TX13 73, w ∈ wsX13_readFactor from fun _ h => List.mem_cons_of_mem _ (List.mem_append_right _ h)) w h)
  have w_1 : (Cond.fieldLink RX13 31 "QuietCutModel" "hand" "I").before args s = true := hts _ (List.mem_of_getElem? (i := 1) rfl)
  have w_2 : (Cond.fieldLink RX13 41 "QuietCutModel" "value" "I").before args s = true := hts _ (List.mem_of_getElem? (i := 3) rfl)
  have b1 : (0 : Int) ≤ (G 0 3).toInt ∧ (G 0 3).toInt ≤ 1000 := hI 0 3
  have b2 : (0 : Int) ≤ (G 0 5).toInt ∧ (G 0 5).toInt ≤ 1000 := hI 0 5
  have b3 : (0 : Int) ≤ (G 0 6).toInt ∧ (G 0 6).toInt ≤ 4 := hI 0 6
  have b4 : (0 : Int) ≤ (G 0 20).toInt ∧ (G 0 20).toInt ≤ 5 := hI 0 20
  have b5 : (0 : Int) ≤ (G 0 21).toInt ∧ (G 0 21).toInt ≤ 12 := hI 0 21
  refine g_aload_n F 0 dX13_readFactor_0 rfl rfl ?_
  refine g_bipush F 45 dX13_readFactor_1 (by decide) ?_
  refine u_callVi (k := 0) (n := 0) (b := a 0) (As := [.int 45]) (st := []) F (fun sz => S_X13_isSign l D K a G 45 45 rfl hI sz) (cwV 1 hts (gT_left gX13_readFactor_X13_isSign) rfl rfl rfl (by decide +kernel) ⟨Nat.le_of_ble_eq_true rfl, Nat.le_of_ble_eq_true rfl⟩) rfl 0 yc_0 rfl (Nat.le_of_ble_eq_true rfl) ⟨Nat.zero_le _, Nat.zero_le _⟩ dX13_readFactor_3 (fun r6 _ hw7 => ?_)
  rcases hw7 with ⟨rfl, q9⟩ | ⟨rfl, q10⟩
  · have q9 : ((G 0 6).toInt = 3 ∧ (G 0 7).toInt = (45 : Int)) := q9
    refine g_istore_n F [(2, .int 1), (0, .ref (a 0)), (1, .int 2)] dX13_readFactor_6 rfl (by decide) rfl ?_
    refine g_iload_n F 0 dX13_readFactor_7 rfl rfl ?_
    refine v_if_ne F 20 dX13_readFactor_8 (by decide) 1 rfl (fun c11 => ?_) (fun c11 => absurd c11 (by decide))
    refine g_aload_n F 1 dX13_readFactor_20 rfl rfl ?_
    refine g_iload_n F 2 dX13_readFactor_21 rfl rfl ?_
    refine g_iconst F 4 dX13_readFactor_22 (by decide) ?_
    refine v_icmp_ge F 30 dX13_readFactor_23 (by decide) 2 4 rfl rfl (fun c12 => absurd c12 (by decide)) (fun c12 => ?_)
    refine g_iconst F 1 dX13_readFactor_26 (by decide) ?_
    refine g_goto F 31 dX13_readFactor_27 (by decide) ?_
    refine g_iconst F 4 dX13_readFactor_31 (by decide) ?_
    refine ux_callvv (k := 0) (n := 0) (b := a 0) (As := [.int 1, .int 4]) (st := []) F (fun sz => S_X13_need l D K a G 1 1 4 4 rfl (by decide) rfl hI sz) (cwV 2 hts gT_X13_readFactor_X13_need rfl rfl rfl (by decide +kernel) ⟨Nat.le_of_ble_eq_true rfl, Nat.le_of_ble_eq_true rfl⟩) rfl 0 yc_0 rfl (Nat.le_of_ble_eq_true rfl) ⟨Nat.zero_le _, Nat.zero_le _⟩ dX13_readFactor_32 hex hA hQ (fun u9 h9 => ⟨h9.1, gu_un.tr gu_un.rf (gu_un.su h9.2 rfl), (yKp.un yKp.rf h9.2 rfl)⟩) (fun G15 hw14 => ?_)
    have hI16 : yI G15 := hw14.1
    have hU17 : gu_un ycd [9, 10] G G15 := hw14.2.1
    have hp18 := hw14.2.2
    have q19 : ((1 : Int) ≠ 0) := hp18
    refine g_aload_n F 1 dX13_readFactor_35 rfl rfl ?_
    refine u_callVv (k := 0) (n := 0) (b := a 0) (As := []) (st := []) F (fun sz => S_X13_scan l D K a G15  (by have e9_0_3 : G15 0 3 = (G 0 3) := hU17 0 3 (by decide); have e9_0_5 : G15 0 5 = (G 0 5) := hU17 0 5 (by decide); (try simp only [e9_0_3, e9_0_5, true_and, and_true]) <;> (first | omega | (simp only [Int32.reduceToInt, true_and, and_true, ne_eq, not_true_eq_false, false_and, or_false, false_or, true_or, or_true, false_implies] <;> omega))) hI16 sz) (cwV 0 hts (gT_left gX13_readFactor_X13_scan) rfl rfl rfl (by decide +kernel) ⟨Nat.le_of_ble_eq_true rfl, Nat.le_of_ble_eq_true rfl⟩) rfl 0 yc_0 rfl (Nat.le_of_ble_eq_true rfl) ⟨Nat.zero_le _, Nat.zero_le _⟩ dX13_readFactor_36 (fun G22 hw21 => ?_)
    have hI23 : yI G22 := hw21.1
    have hU24 : gu_un ycd [5, 6, 7, 8] G15 G22 := hw21.2.1
    have hp25 := hw21.2.2
    have b26 : (0 : Int) ≤ (G22 0 5).toInt ∧ (G22 0 5).toInt ≤ 1000 := hI23 0 5
    have b27 : (0 : Int) ≤ (G22 0 4).toInt ∧ (G22 0 4).toInt ≤ 1000 := hI23 0 4
    have q28 : ((G22 0 5).toInt ≤ (G 0 3).toInt ∧ (G 0 5).toInt ≤ (G22 0 4).toInt ∧ (G22 0 4).toInt ≤ (G22 0 5).toInt) := by have h9 := hp25.1; (try simp only [(show G15 0 3 = (G 0 3) from hU17 0 3 (by decide)), (show G15 0 5 = (G 0 5) from hU17 0 5 (by decide))] at h9); first | exact h9 | omega
    have b29 : (0 : Int) ≤ (G22 0 6).toInt ∧ (G22 0 6).toInt ≤ 4 := hI23 0 6
    have q30 : (((G22 0 6).toInt = 0 ∧ (G22 0 4).toInt = (G 0 3).toInt) ∨ ((G22 0 6).toInt ≠ 0 ∧ (G22 0 4).toInt < (G22 0 5).toInt)) := by have h9 := hp25.2; (try simp only [(show G15 0 3 = (G 0 3) from hU17 0 3 (by decide))] at h9); first | exact h9 | omega
    refine g_iload_n F 0 dX13_readFactor_39 rfl rfl ?_
    refine v_if_eq F 60 dX13_readFactor_40 (by decide) 1 rfl (fun c31 => absurd c31 (by decide)) (fun c31 => ?_)
    refine g_aload_n F 1 dX13_readFactor_43 rfl rfl ?_
    refine g_iload_n F 2 dX13_readFactor_44 rfl rfl ?_
    refine g_iconst F 1 dX13_readFactor_45 (by decide) ?_
    refine g_iadd F dX13_readFactor_46 ?_
    refine g_fold 3 (by decide) ?_
    refine uxz_callvv (k := 0) (n := 0) (b := a 0) (As := [.int 3]) (st := []) F yZ_st hZ (fun sz => S_X13_readFactor_v3 l D K a G22 qs vs  (by have e9_0_3 : G22 0 3 = (G 0 3) := (hU24 0 3 (by decide)).trans (hU17 0 3 (by decide)); (try simp only [e9_0_3, true_and, and_true]) <;> (first | omega | (simp only [Int32.reduceToInt, true_and, and_true, ne_eq, not_true_eq_false, false_and, or_false, false_or, true_or, or_true, false_implies] <;> omega))) (by have e9_0_20 : G22 0 20 = (G 0 20) := (hU24 0 20 (by decide)).trans (hU17 0 20 (by decide)); (try simp only [e9_0_20, true_and, and_true]) <;> (first | omega | (simp only [Int32.reduceToInt, true_and, and_true, ne_eq, not_true_eq_false, false_and, or_false, false_or, true_or, or_true, false_implies] <;> omega))) (by rw [show G22 0 20 = G 0 20 from (hU24 0 20 (by decide)).trans (hU17 0 20 (by decide))]; exact (y_m6 m6 (show gu_un ycd [5, 6, 7, 8, 9, 10] G G22 from (gu_un.tr (gu_un.tr gu_un.rf (gu_un.su hU17 rfl)) (gu_un.su hU24 rfl))) rfl rfl)) hI23 sz) (cwV 1 hts gT_X13_readFactor_X13_readFactor rfl rfl rfl (by decide +kernel) ⟨Nat.le_of_ble_eq_true rfl, Nat.le_of_ble_eq_true rfl⟩) rfl 0 yc_0 rfl (Nat.le_of_ble_eq_true rfl) ⟨Nat.zero_le _, Nat.zero_le _⟩ dX13_readFactor_47 hex hA hQ (fun u9 h9 => ⟨h9.1, gu_un.tr (gu_un.tr (gu_un.tr gu_un.rf (gu_un.su hU17 rfl)) (gu_un.su hU24 rfl)) (gu_un.su h9.2.1 rfl), (yKp.tr (yKp.un yKp.rf (show gu_un ycd [5, 6, 7, 8, 9, 10] G G22 from (gu_un.tr (gu_un.tr gu_un.rf (gu_un.su hU17 rfl)) (gu_un.su hU24 rfl))) rfl) h9.2.2)⟩) (fun G34 hw33 => ?_)
    have hI35 : yI G34 := hw33.1
    have hU36 : gu_un ycd [5, 6, 7, 8, 9, 10, 22, 1000, 1100, 1200] G22 G34 := hw33.2.1
    have hp37 := hw33.2.2
    have b38 : (0 : Int) ≤ (G34 0 5).toInt ∧ (G34 0 5).toInt ≤ 1000 := hI35 0 5
    have b39 : (0 : Int) ≤ (G34 0 6).toInt ∧ (G34 0 6).toInt ≤ 4 := hI35 0 6
    have q40 : ((G34 0 5).toInt ≤ (G 0 3).toInt ∧ (G22 0 5).toInt ≤ (G34 0 5).toInt ∧ ((G34 0 6).toInt = 0 ∨ (G22 0 5).toInt < (G34 0 5).toInt)) := by have h9 := hp37.1; (try simp only [(show G22 0 3 = (G 0 3) from (hU24 0 3 (by decide)).trans (hU17 0 3 (by decide)))] at h9); first | exact h9 | omega
    have q41 : ySg 3 (G 0 20).toInt G22 G34 := by have h9 := hp37.2.1; (try simp only [(show G22 0 20 = (G 0 20) from (hU24 0 20 (by decide)).trans (hU17 0 20 (by decide)))] at h9); first | exact h9 | omega
    have q42 : yKp G22 G34 := hp37.2.2
    have kp43 : yKp G G34 := yKp.tr (yKp.un yKp.rf (show gu_un ycd [5, 6, 7, 8, 9, 10] G G22 from (gu_un.tr (gu_un.tr gu_un.rf (gu_un.su hU17 rfl)) (gu_un.su hU24 rfl))) rfl) q42
    have sg44 : ySg 3 (G 0 20).toInt G G34 := ySg.un0 q41 (show gu_un ycd [5, 6, 7, 8, 9, 10] G G22 from (gu_un.tr (gu_un.tr gu_un.rf (gu_un.su hU17 rfl)) (gu_un.su hU24 rfl))) rfl rfl
    refine g_aload_n F 1 dX13_readFactor_50 rfl rfl ?_
    refine g_iconst F 2 dX13_readFactor_51 (by decide) ?_
    refine g_bipush F 33 dX13_readFactor_52 (by decide) ?_
    refine u_callVv (k := 0) (n := 0) (b := a 0) (As := [.int 2, .int 33]) (st := []) F (fun sz => S_X13_mark l D K a G34 2 2 33 33 rfl (by decide) rfl (by rw [show G34 0 20 = G 0 20 from (hU36 0 20 (by decide)).trans ((hU24 0 20 (by decide)).trans (hU17 0 20 (by decide)))]; have h9 : (G34 12 ((G 0 20).toInt).toNat).toInt ≤ 6 * (G34 0 21).toInt := (ySg.m6 (c := 3) sg44 (by decide) (by decide) m6); have h8 : (0 : Int) ≤ (G34 0 21).toInt ∧ (G34 0 21).toInt ≤ 12 := hI35 0 21; show (G34 12 ((G 0 20).toInt).toNat).toInt ≤ 79; omega) hI35 sz) (cwV 2 hts (gT_left gX13_readFactor_X13_mark) rfl rfl rfl (by decide +kernel) ⟨Nat.le_of_ble_eq_true rfl, Nat.le_of_ble_eq_true rfl⟩) rfl 0 yc_0 rfl (Nat.le_of_ble_eq_true rfl) ⟨Nat.zero_le _, Nat.zero_le _⟩ dX13_readFactor_54 (fun G47 hw46 => ?_)
    have hI48 : yI G47 := hw46.1
    have hU49 : gu_un ycd [1000, 1100, 1200] G34 G47 := hw46.2.1
    have hp50 := hw46.2.2
    have q51 : yMk 2 33 (G 0 20).toInt G34 G47 := by have h9 := hp50; (try simp only [(show G34 0 20 = (G 0 20) from (hU36 0 20 (by decide)).trans ((hU24 0 20 (by decide)).trans (hU17 0 20 (by decide))))] at h9); first | exact h9 | omega
    have m0 : 0 ≤ (G 12 ((G 0 20).toInt).toNat).toInt := (show (0 : Int) ≤ (G 12 ((G 0 20).toInt).toNat).toInt ∧ (G 12 ((G 0 20).toInt).toNat).toInt ≤ 80 from hI 12 _).1
    have m1 : 0 ≤ (G34 12 ((G 0 20).toInt).toNat).toInt := (show (0 : Int) ≤ (G34 12 ((G 0 20).toInt).toNat).toInt ∧ (G34 12 ((G 0 20).toInt).toNat).toInt ≤ 80 from hI35 12 _).1
    have kp52 : yKp G G47 := yKp.tr kp43 (q51.kp (by omega) m1)
    have sg53 : ySg 4 (G 0 20).toInt G G47 := ySg.neg sg44 q51 (by decide) (by decide) (by decide) (by decide) (by omega) m0 (by have h9 : (G34 12 ((G 0 20).toInt).toNat).toInt ≤ 6 * (G34 0 21).toInt := (ySg.m6 (c := 3) sg44 (by decide) (by decide) m6); have h8 : (0 : Int) ≤ (G34 0 21).toInt ∧ (G34 0 21).toInt ≤ 12 := hI35 0 21; omega)
    refine g_goto F 82 dX13_readFactor_57 (by decide) ?_
    exact ux_vret F hA hQ hr G47 (⟨hI48, (gu_un.tr (gu_un.tr (gu_un.tr (gu_un.tr gu_un.rf (gu_un.su hU17 rfl)) (gu_un.su hU24 rfl)) (gu_un.su hU36 rfl)) (gu_un.su hU49 rfl)), (by show ((G47 0 5).toInt ≤ (G 0 3).toInt ∧ (G 0 5).toInt ≤ (G47 0 5).toInt ∧ ((G47 0 6).toInt = 0 ∨ (G 0 5).toInt < (G47 0 5).toInt)); have e9_0_5 : G47 0 5 = (G34 0 5) := hU49 0 5 (by decide); have e9_0_6 : G47 0 6 = (G34 0 6) := hU49 0 6 (by decide); (try simp only [e9_0_5, e9_0_6, true_and, and_true]) <;> (first | omega | (simp only [Int32.reduceToInt, true_and, and_true, ne_eq, not_true_eq_false, false_and, or_false, false_or, true_or, or_true, false_implies] <;> omega))), (sg53), (kp52)⟩) rfl rfl dX13_readFactor_82
  · have q10 : ((G 0 6).toInt ≠ 3 ∨ (G 0 7).toInt ≠ (45 : Int)) := q10
    refine g_istore_n F [(2, .int 0), (0, .ref (a 0)), (1, .int 2)] dX13_readFactor_6 rfl (by decide) rfl ?_
    refine g_iload_n F 0 dX13_readFactor_7 rfl rfl ?_
    refine v_if_ne F 20 dX13_readFactor_8 (by decide) 0 rfl (fun c54 => absurd c54 (by decide)) (fun c54 => ?_)
    refine g_aload_n F 1 dX13_readFactor_11 rfl rfl ?_
    refine g_bipush F 40 dX13_readFactor_12 (by decide) ?_
    refine u_callVi (k := 0) (n := 0) (b := a 0) (As := [.int 40]) (st := []) F (fun sz => S_X13_isSign l D K a G 40 40 rfl hI sz) (cwV 1 hts (gT_left gX13_readFactor_X13_isSign) rfl rfl rfl (by decide +kernel) ⟨Nat.le_of_ble_eq_true rfl, Nat.le_of_ble_eq_true rfl⟩) rfl 0 yc_0 rfl (Nat.le_of_ble_eq_true rfl) ⟨Nat.zero_le _, Nat.zero_le _⟩ dX13_readFactor_14 (fun r55 _ hw56 => ?_)
    rcases hw56 with ⟨rfl, q58⟩ | ⟨rfl, q59⟩
    · have q58 : ((G 0 6).toInt = 3 ∧ (G 0 7).toInt = (40 : Int)) := q58
      refine v_if_eq F 83 dX13_readFactor_17 (by decide) 1 rfl (fun c60 => absurd c60 (by decide)) (fun c60 => ?_)
      refine g_aload_n F 1 dX13_readFactor_20 rfl rfl ?_
      refine g_iload_n F 2 dX13_readFactor_21 rfl rfl ?_
      refine g_iconst F 4 dX13_readFactor_22 (by decide) ?_
      refine v_icmp_ge F 30 dX13_readFactor_23 (by decide) 2 4 rfl rfl (fun c61 => absurd c61 (by decide)) (fun c61 => ?_)
      refine g_iconst F 1 dX13_readFactor_26 (by decide) ?_
      refine g_goto F 31 dX13_readFactor_27 (by decide) ?_
      refine g_iconst F 4 dX13_readFactor_31 (by decide) ?_
      refine ux_callvv (k := 0) (n := 0) (b := a 0) (As := [.int 1, .int 4]) (st := []) F (fun sz => S_X13_need l D K a G 1 1 4 4 rfl (by decide) rfl hI sz) (cwV 2 hts gT_X13_readFactor_X13_need rfl rfl rfl (by decide +kernel) ⟨Nat.le_of_ble_eq_true rfl, Nat.le_of_ble_eq_true rfl⟩) rfl 0 yc_0 rfl (Nat.le_of_ble_eq_true rfl) ⟨Nat.zero_le _, Nat.zero_le _⟩ dX13_readFactor_32 hex hA hQ (fun u9 h9 => ⟨h9.1, gu_un.tr gu_un.rf (gu_un.su h9.2 rfl), (yKp.un yKp.rf h9.2 rfl)⟩) (fun G64 hw63 => ?_)
      have hI65 : yI G64 := hw63.1
      have hU66 : gu_un ycd [9, 10] G G64 := hw63.2.1
      have hp67 := hw63.2.2
      have q68 : ((1 : Int) ≠ 0) := hp67
      refine g_aload_n F 1 dX13_readFactor_35 rfl rfl ?_
      refine u_callVv (k := 0) (n := 0) (b := a 0) (As := []) (st := []) F (fun sz => S_X13_scan l D K a G64  (by have e9_0_3 : G64 0 3 = (G 0 3) := hU66 0 3 (by decide); have e9_0_5 : G64 0 5 = (G 0 5) := hU66 0 5 (by decide); (try simp only [e9_0_3, e9_0_5, true_and, and_true]) <;> (first | omega | (simp only [Int32.reduceToInt, true_and, and_true, ne_eq, not_true_eq_false, false_and, or_false, false_or, true_or, or_true, false_implies] <;> omega))) hI65 sz) (cwV 0 hts (gT_left gX13_readFactor_X13_scan) rfl rfl rfl (by decide +kernel) ⟨Nat.le_of_ble_eq_true rfl, Nat.le_of_ble_eq_true rfl⟩) rfl 0 yc_0 rfl (Nat.le_of_ble_eq_true rfl) ⟨Nat.zero_le _, Nat.zero_le _⟩ dX13_readFactor_36 (fun G71 hw70 => ?_)
      have hI72 : yI G71 := hw70.1
      have hU73 : gu_un ycd [5, 6, 7, 8] G64 G71 := hw70.2.1
      have hp74 := hw70.2.2
      have b75 : (0 : Int) ≤ (G71 0 5).toInt ∧ (G71 0 5).toInt ≤ 1000 := hI72 0 5
      have b76 : (0 : Int) ≤ (G71 0 4).toInt ∧ (G71 0 4).toInt ≤ 1000 := hI72 0 4
      have q77 : ((G71 0 5).toInt ≤ (G 0 3).toInt ∧ (G 0 5).toInt ≤ (G71 0 4).toInt ∧ (G71 0 4).toInt ≤ (G71 0 5).toInt) := by have h9 := hp74.1; (try simp only [(show G64 0 3 = (G 0 3) from hU66 0 3 (by decide)), (show G64 0 5 = (G 0 5) from hU66 0 5 (by decide))] at h9); first | exact h9 | omega
      have b78 : (0 : Int) ≤ (G71 0 6).toInt ∧ (G71 0 6).toInt ≤ 4 := hI72 0 6
      have q79 : (((G71 0 6).toInt = 0 ∧ (G71 0 4).toInt = (G 0 3).toInt) ∨ ((G71 0 6).toInt ≠ 0 ∧ (G71 0 4).toInt < (G71 0 5).toInt)) := by have h9 := hp74.2; (try simp only [(show G64 0 3 = (G 0 3) from hU66 0 3 (by decide))] at h9); first | exact h9 | omega
      refine g_iload_n F 0 dX13_readFactor_39 rfl rfl ?_
      refine v_if_eq F 60 dX13_readFactor_40 (by decide) 0 rfl (fun c80 => ?_) (fun c80 => absurd c80 (by decide))
      refine g_aload_n F 1 dX13_readFactor_60 rfl rfl ?_
      refine g_iload_n F 2 dX13_readFactor_61 rfl rfl ?_
      refine g_iconst F 1 dX13_readFactor_62 (by decide) ?_
      refine g_iadd F dX13_readFactor_63 ?_
      refine g_fold 3 (by decide) ?_
      refine uxz_callvv (k := 0) (n := 0) (b := a 0) (As := [.int 3]) (st := []) F yZ_st hZ (fun sz => S_X13_readSum_v3 l D K a G71 qs vs  (by have e9_0_3 : G71 0 3 = (G 0 3) := (hU73 0 3 (by decide)).trans (hU66 0 3 (by decide)); (try simp only [e9_0_3, true_and, and_true]) <;> (first | omega | (simp only [Int32.reduceToInt, true_and, and_true, ne_eq, not_true_eq_false, false_and, or_false, false_or, true_or, or_true, false_implies] <;> omega))) (by have e9_0_20 : G71 0 20 = (G 0 20) := (hU73 0 20 (by decide)).trans (hU66 0 20 (by decide)); (try simp only [e9_0_20, true_and, and_true]) <;> (first | omega | (simp only [Int32.reduceToInt, true_and, and_true, ne_eq, not_true_eq_false, false_and, or_false, false_or, true_or, or_true, false_implies] <;> omega))) (by rw [show G71 0 20 = G 0 20 from (hU73 0 20 (by decide)).trans (hU66 0 20 (by decide))]; exact (y_m6 m6 (show gu_un ycd [5, 6, 7, 8, 9, 10] G G71 from (gu_un.tr (gu_un.tr gu_un.rf (gu_un.su hU66 rfl)) (gu_un.su hU73 rfl))) rfl rfl)) hI72 sz) (cwV 1 hts gT_X13_readFactor_X13_readSum rfl rfl rfl (by decide +kernel) ⟨Nat.le_of_ble_eq_true rfl, Nat.le_of_ble_eq_true rfl⟩) rfl 0 yc_0 rfl (Nat.le_of_ble_eq_true rfl) ⟨Nat.zero_le _, Nat.zero_le _⟩ dX13_readFactor_64 hex hA hQ (fun u9 h9 => ⟨h9.1, gu_un.tr (gu_un.tr (gu_un.tr gu_un.rf (gu_un.su hU66 rfl)) (gu_un.su hU73 rfl)) (gu_un.su h9.2.1 rfl), (yKp.tr (yKp.un yKp.rf (show gu_un ycd [5, 6, 7, 8, 9, 10] G G71 from (gu_un.tr (gu_un.tr gu_un.rf (gu_un.su hU66 rfl)) (gu_un.su hU73 rfl))) rfl) h9.2.2)⟩) (fun G83 hw82 => ?_)
      have hI84 : yI G83 := hw82.1
      have hU85 : gu_un ycd [5, 6, 7, 8, 9, 10, 22, 1000, 1100, 1200] G71 G83 := hw82.2.1
      have hp86 := hw82.2.2
      have b87 : (0 : Int) ≤ (G83 0 5).toInt ∧ (G83 0 5).toInt ≤ 1000 := hI84 0 5
      have b88 : (0 : Int) ≤ (G83 0 6).toInt ∧ (G83 0 6).toInt ≤ 4 := hI84 0 6
      have q89 : ((G83 0 5).toInt ≤ (G 0 3).toInt ∧ (G71 0 5).toInt ≤ (G83 0 5).toInt ∧ ((G83 0 6).toInt = 0 ∨ (G71 0 5).toInt < (G83 0 5).toInt)) := by have h9 := hp86.1; (try simp only [(show G71 0 3 = (G 0 3) from (hU73 0 3 (by decide)).trans (hU66 0 3 (by decide)))] at h9); first | exact h9 | omega
      have q90 : ySg 3 (G 0 20).toInt G71 G83 := by have h9 := hp86.2.1; (try simp only [(show G71 0 20 = (G 0 20) from (hU73 0 20 (by decide)).trans (hU66 0 20 (by decide)))] at h9); first | exact h9 | omega
      have q91 : yKp G71 G83 := hp86.2.2
      have kp92 : yKp G G83 := yKp.tr (yKp.un yKp.rf (show gu_un ycd [5, 6, 7, 8, 9, 10] G G71 from (gu_un.tr (gu_un.tr gu_un.rf (gu_un.su hU66 rfl)) (gu_un.su hU73 rfl))) rfl) q91
      have sg93 : ySg 3 (G 0 20).toInt G G83 := ySg.un0 q90 (show gu_un ycd [5, 6, 7, 8, 9, 10] G G71 from (gu_un.tr (gu_un.tr gu_un.rf (gu_un.su hU66 rfl)) (gu_un.su hU73 rfl))) rfl rfl
      refine g_aload_n F 1 dX13_readFactor_67 rfl rfl ?_
      refine g_aload_n F 1 dX13_readFactor_68 rfl rfl ?_
      refine g_bipush F 41 dX13_readFactor_69 (by decide) ?_
      refine u_callVi (k := 0) (n := 0) (b := a 0) (As := [.int 41]) (st := [.ref (a 0)]) F (fun sz => S_X13_isSign l D K a G83 41 41 rfl hI84 sz) (cwV 1 hts (gT_left gX13_readFactor_X13_isSign) rfl rfl rfl (by decide +kernel) ⟨Nat.le_of_ble_eq_true rfl, Nat.le_of_ble_eq_true rfl⟩) rfl 0 yc_0 rfl (Nat.le_of_ble_eq_true rfl) ⟨Nat.zero_le _, Nat.zero_le _⟩ dX13_readFactor_71 (fun r94 _ hw95 => ?_)
      rcases hw95 with ⟨rfl, q97⟩ | ⟨rfl, q98⟩
      · have q97 : ((G83 0 6).toInt = 3 ∧ (G83 0 7).toInt = (41 : Int)) := q97
        refine g_iconst F 1 dX13_readFactor_74 (by decide) ?_
        refine ux_callvv (k := 0) (n := 0) (b := a 0) (As := [.int 1, .int 1]) (st := []) F (fun sz => S_X13_need l D K a G83 1 1 1 1 rfl (by decide) rfl hI84 sz) (cwV 2 hts gT_X13_readFactor_X13_need rfl rfl rfl (by decide +kernel) ⟨Nat.le_of_ble_eq_true rfl, Nat.le_of_ble_eq_true rfl⟩) rfl 0 yc_0 rfl (Nat.le_of_ble_eq_true rfl) ⟨Nat.zero_le _, Nat.zero_le _⟩ dX13_readFactor_75 hex hA hQ (fun u9 h9 => ⟨h9.1, gu_un.tr (gu_un.tr (gu_un.tr (gu_un.tr gu_un.rf (gu_un.su hU66 rfl)) (gu_un.su hU73 rfl)) (gu_un.su hU85 rfl)) (gu_un.su h9.2 rfl), (yKp.un kp92 h9.2 rfl)⟩) (fun G101 hw100 => ?_)
        have hI102 : yI G101 := hw100.1
        have hU103 : gu_un ycd [9, 10] G83 G101 := hw100.2.1
        have hp104 := hw100.2.2
        have q105 : ((1 : Int) ≠ 0) := hp104
        refine g_aload_n F 1 dX13_readFactor_78 rfl rfl ?_
        refine u_callVv (k := 0) (n := 0) (b := a 0) (As := []) (st := []) F (fun sz => S_X13_scan l D K a G101  (by have e9_0_3 : G101 0 3 = (G 0 3) := (hU103 0 3 (by decide)).trans ((hU85 0 3 (by decide)).trans ((hU73 0 3 (by decide)).trans (hU66 0 3 (by decide)))); have e9_0_5 : G101 0 5 = (G83 0 5) := hU103 0 5 (by decide); (try simp only [e9_0_3, e9_0_5, true_and, and_true]) <;> (first | omega | (simp only [Int32.reduceToInt, true_and, and_true, ne_eq, not_true_eq_false, false_and, or_false, false_or, true_or, or_true, false_implies] <;> omega))) hI102 sz) (cwV 0 hts (gT_left gX13_readFactor_X13_scan) rfl rfl rfl (by decide +kernel) ⟨Nat.le_of_ble_eq_true rfl, Nat.le_of_ble_eq_true rfl⟩) rfl 0 yc_0 rfl (Nat.le_of_ble_eq_true rfl) ⟨Nat.zero_le _, Nat.zero_le _⟩ dX13_readFactor_79 (fun G108 hw107 => ?_)
        have hI109 : yI G108 := hw107.1
        have hU110 : gu_un ycd [5, 6, 7, 8] G101 G108 := hw107.2.1
        have hp111 := hw107.2.2
        have b112 : (0 : Int) ≤ (G108 0 5).toInt ∧ (G108 0 5).toInt ≤ 1000 := hI109 0 5
        have b113 : (0 : Int) ≤ (G108 0 4).toInt ∧ (G108 0 4).toInt ≤ 1000 := hI109 0 4
        have q114 : ((G108 0 5).toInt ≤ (G 0 3).toInt ∧ (G83 0 5).toInt ≤ (G108 0 4).toInt ∧ (G108 0 4).toInt ≤ (G108 0 5).toInt) := by have h9 := hp111.1; (try simp only [(show G101 0 3 = (G 0 3) from (hU103 0 3 (by decide)).trans ((hU85 0 3 (by decide)).trans ((hU73 0 3 (by decide)).trans (hU66 0 3 (by decide))))), (show G101 0 5 = (G83 0 5) from hU103 0 5 (by decide))] at h9); first | exact h9 | omega
        have b115 : (0 : Int) ≤ (G108 0 6).toInt ∧ (G108 0 6).toInt ≤ 4 := hI109 0 6
        have q116 : (((G108 0 6).toInt = 0 ∧ (G108 0 4).toInt = (G 0 3).toInt) ∨ ((G108 0 6).toInt ≠ 0 ∧ (G108 0 4).toInt < (G108 0 5).toInt)) := by have h9 := hp111.2; (try simp only [(show G101 0 3 = (G 0 3) from (hU103 0 3 (by decide)).trans ((hU85 0 3 (by decide)).trans ((hU73 0 3 (by decide)).trans (hU66 0 3 (by decide)))))] at h9); first | exact h9 | omega
        exact ux_vret F hA hQ hr G108 (⟨hI109, (gu_un.tr (gu_un.tr (gu_un.tr (gu_un.tr (gu_un.tr gu_un.rf (gu_un.su hU66 rfl)) (gu_un.su hU73 rfl)) (gu_un.su hU85 rfl)) (gu_un.su hU103 rfl)) (gu_un.su hU110 rfl)), (by show ((G108 0 5).toInt ≤ (G 0 3).toInt ∧ (G 0 5).toInt ≤ (G108 0 5).toInt ∧ ((G108 0 6).toInt = 0 ∨ (G 0 5).toInt < (G108 0 5).toInt)); (first | omega | (simp only [Int32.reduceToInt, true_and, and_true, ne_eq, not_true_eq_false, false_and, or_false, false_or, true_or, or_true, false_implies] <;> omega))), (((sg93.un (show gu_un ycd [5, 6, 7, 8, 9, 10] G83 G108 from (gu_un.tr (gu_un.tr gu_un.rf (gu_un.su hU103 rfl)) (gu_un.su hU110 rfl))) rfl rfl)).up (by decide) (by decide)), ((yKp.un kp92 (show gu_un ycd [5, 6, 7, 8, 9, 10] G83 G108 from (gu_un.tr (gu_un.tr gu_un.rf (gu_un.su hU103 rfl)) (gu_un.su hU110 rfl))) rfl))⟩) rfl rfl dX13_readFactor_82
      · have q98 : ((G83 0 6).toInt ≠ 3 ∨ (G83 0 7).toInt ≠ (41 : Int)) := q98
        refine g_iconst F 1 dX13_readFactor_74 (by decide) ?_
        refine ux_callvv (k := 0) (n := 0) (b := a 0) (As := [.int 0, .int 1]) (st := []) F (fun sz => S_X13_need l D K a G83 0 0 1 1 rfl (by decide) rfl hI84 sz) (cwV 2 hts gT_X13_readFactor_X13_need rfl rfl rfl (by decide +kernel) ⟨Nat.le_of_ble_eq_true rfl, Nat.le_of_ble_eq_true rfl⟩) rfl 0 yc_0 rfl (Nat.le_of_ble_eq_true rfl) ⟨Nat.zero_le _, Nat.zero_le _⟩ dX13_readFactor_75 hex hA hQ (fun u9 h9 => ⟨h9.1, gu_un.tr (gu_un.tr (gu_un.tr (gu_un.tr gu_un.rf (gu_un.su hU66 rfl)) (gu_un.su hU73 rfl)) (gu_un.su hU85 rfl)) (gu_un.su h9.2 rfl), (yKp.un kp92 h9.2 rfl)⟩) (fun G119 hw118 => ?_)
        have hI120 : yI G119 := hw118.1
        have hU121 : gu_un ycd [9, 10] G83 G119 := hw118.2.1
        have hp122 := hw118.2.2
        have q123 : ((0 : Int) ≠ 0) := hp122
        exfalso; omega
    · have q59 : ((G 0 6).toInt ≠ 3 ∨ (G 0 7).toInt ≠ (40 : Int)) := q59
      refine v_if_eq F 83 dX13_readFactor_17 (by decide) 0 rfl (fun c124 => ?_) (fun c124 => absurd c124 (by decide))
      refine g_aload_n F 1 dX13_readFactor_83 rfl rfl ?_
      refine uz_callVi (k := 0) (n := 0) (b := a 0) (As := []) (st := []) F yZ_st hZ (fun sz => S_X13_letterAtHand l D K a G qs vs  (by (first | omega | (simp only [Int32.reduceToInt, true_and, and_true, ne_eq, not_true_eq_false, false_and, or_false, false_or, true_or, or_true, false_implies] <;> omega))) hI sz) (cwV 0 hts (gT_left gX13_readFactor_X13_letterAtHand) rfl rfl rfl (by decide +kernel) ⟨Nat.le_of_ble_eq_true rfl, Nat.le_of_ble_eq_true rfl⟩) rfl 0 yc_0 rfl (Nat.le_of_ble_eq_true rfl) ⟨Nat.zero_le _, Nat.zero_le _⟩ dX13_readFactor_84 (fun r125 _ hw126 => ?_)
      refine g_istore_n F [(3, .int r125), (2, .int 0), (0, .ref (a 0)), (1, .int 2)] dX13_readFactor_87 rfl (by decide) rfl ?_
      refine g_aload_n F 2 dX13_readFactor_88 rfl rfl ?_
      refine g_iload_n F 0 dX13_readFactor_89 rfl rfl ?_
      refine g_iconst F (-1) dX13_readFactor_90 (by decide) ?_
      refine v_icmp_ne F 102 dX13_readFactor_91 (by decide) r125.toInt (-1) rfl rfl (fun c128 => ?_) (fun c128 => ?_)
      · refine g_iconst F 1 dX13_readFactor_102 (by decide) ?_
        refine g_goto F 107 dX13_readFactor_103 (by decide) ?_
        refine g_iconst F 1 dX13_readFactor_107 (by decide) ?_
        refine ux_callvv (k := 0) (n := 0) (b := a 0) (As := [.int 1, .int 1]) (st := []) F (fun sz => S_X13_need l D K a G 1 1 1 1 rfl (by decide) rfl hI sz) (cwV 2 hts gT_X13_readFactor_X13_need rfl rfl rfl (by decide +kernel) ⟨Nat.le_of_ble_eq_true rfl, Nat.le_of_ble_eq_true rfl⟩) rfl 0 yc_0 rfl (Nat.le_of_ble_eq_true rfl) ⟨Nat.zero_le _, Nat.zero_le _⟩ dX13_readFactor_108 hex hA hQ (fun u9 h9 => ⟨h9.1, gu_un.tr gu_un.rf (gu_un.su h9.2 rfl), (yKp.un yKp.rf h9.2 rfl)⟩) (fun G131 hw130 => ?_)
        have hI132 : yI G131 := hw130.1
        have hU133 : gu_un ycd [9, 10] G G131 := hw130.2.1
        have hp134 := hw130.2.2
        have q135 : ((1 : Int) ≠ 0) := hp134
        refine g_aload_n F 2 dX13_readFactor_111 rfl rfl ?_
        refine g_aload_n F 2 dX13_readFactor_112 rfl rfl ?_
        refine yg_0_21 F i_X13 w_0 dX13_readFactor_113 (G 0 21) (hU133 0 21 (by decide)) ?_
        refine g_bipush F 12 dX13_readFactor_116 (by decide) ?_
        refine v_icmp_ge F 125 dX13_readFactor_118 (by decide) (G 0 21).toInt 12 rfl rfl (fun c136 => ?_) (fun c136 => ?_)
        · refine g_iconst F 0 dX13_readFactor_125 (by decide) ?_
          refine g_iconst F 4 dX13_readFactor_126 (by decide) ?_
          refine ux_callvv (k := 0) (n := 0) (b := a 0) (As := [.int 0, .int 4]) (st := []) F (fun sz => S_X13_need l D K a G131 0 0 4 4 rfl (by decide) rfl hI132 sz) (cwV 2 hts gT_X13_readFactor_X13_need rfl rfl rfl (by decide +kernel) ⟨Nat.le_of_ble_eq_true rfl, Nat.le_of_ble_eq_true rfl⟩) rfl 0 yc_0 rfl (Nat.le_of_ble_eq_true rfl) ⟨Nat.zero_le _, Nat.zero_le _⟩ dX13_readFactor_127 hex hA hQ (fun u9 h9 => ⟨h9.1, gu_un.tr (gu_un.tr gu_un.rf (gu_un.su hU133 rfl)) (gu_un.su h9.2 rfl), (yKp.un (yKp.un yKp.rf (show gu_un ycd [9, 10] G G131 from (gu_un.tr gu_un.rf (gu_un.su hU133 rfl))) rfl) h9.2 rfl)⟩) (fun G139 hw138 => ?_)
          have hI140 : yI G139 := hw138.1
          have hU141 : gu_un ycd [9, 10] G131 G139 := hw138.2.1
          have hp142 := hw138.2.2
          have q143 : ((0 : Int) ≠ 0) := hp142
          exfalso; omega
        · refine g_iconst F 1 dX13_readFactor_121 (by decide) ?_
          refine g_goto F 126 dX13_readFactor_122 (by decide) ?_
          refine g_iconst F 4 dX13_readFactor_126 (by decide) ?_
          refine ux_callvv (k := 0) (n := 0) (b := a 0) (As := [.int 1, .int 4]) (st := []) F (fun sz => S_X13_need l D K a G131 1 1 4 4 rfl (by decide) rfl hI132 sz) (cwV 2 hts gT_X13_readFactor_X13_need rfl rfl rfl (by decide +kernel) ⟨Nat.le_of_ble_eq_true rfl, Nat.le_of_ble_eq_true rfl⟩) rfl 0 yc_0 rfl (Nat.le_of_ble_eq_true rfl) ⟨Nat.zero_le _, Nat.zero_le _⟩ dX13_readFactor_127 hex hA hQ (fun u9 h9 => ⟨h9.1, gu_un.tr (gu_un.tr gu_un.rf (gu_un.su hU133 rfl)) (gu_un.su h9.2 rfl), (yKp.un (yKp.un yKp.rf (show gu_un ycd [9, 10] G G131 from (gu_un.tr gu_un.rf (gu_un.su hU133 rfl))) rfl) h9.2 rfl)⟩) (fun G146 hw145 => ?_)
          have hI147 : yI G146 := hw145.1
          have hU148 : gu_un ycd [9, 10] G131 G146 := hw145.2.1
          have hp149 := hw145.2.2
          have q150 : ((1 : Int) ≠ 0) := hp149
          refine g_aload_n F 2 dX13_readFactor_130 rfl rfl ?_
          refine g_dup F dX13_readFactor_131 rfl ?_
          refine yg_0_21 F i_X13 w_0 dX13_readFactor_132 (G 0 21) ((hU148 0 21 (by decide)).trans (hU133 0 21 (by decide))) ?_
          refine g_iconst F 1 dX13_readFactor_135 (by decide) ?_
          refine u_iadd F dX13_readFactor_136 (G 0 21).toInt 1 rfl rfl (by omega) (by omega) (fun y151 ey151 => ?_)
          refine yp_0_21 F i_X13 w_0 dX13_readFactor_137 ?_
          refine g_aload_n F 2 dX13_readFactor_140 rfl rfl ?_
          refine g_iload_n F 0 dX13_readFactor_141 rfl rfl ?_
          refine g_iconst F (-1) dX13_readFactor_142 (by decide) ?_
          refine v_icmp_ne F 150 dX13_readFactor_143 (by decide) r125.toInt (-1) rfl rfl (fun c152 => ?_) (fun c152 => absurd c152 (by omega))
          refine g_iconst F 1 dX13_readFactor_150 (by decide) ?_
          refine g_iload_n F 0 dX13_readFactor_151 rfl rfl ?_
          refine g_iconst F (-1) dX13_readFactor_152 (by decide) ?_
          refine v_icmp_ne F 163 dX13_readFactor_153 (by decide) r125.toInt (-1) rfl rfl (fun c153 => ?_) (fun c153 => absurd c153 (by omega))
          refine g_iload_n F 0 dX13_readFactor_163 rfl rfl ?_
          refine u_callVv (k := 0) (n := 0) (b := a 0) (As := [.int 1, .int r125]) (st := []) F (fun sz => S_X13_mark l D K a (gu_up G146 0 21 y151) 1 1 r125 r125.toInt rfl (by decide) rfl (by rw [show (gu_up G146 0 21 y151) 0 20 = G 0 20 from (hU148 0 20 (by decide)).trans (hU133 0 20 (by decide))]; have h9 : (G146 12 ((G 0 20).toInt).toNat).toInt ≤ 6 * (G146 0 21).toInt := (y_m6 m6 (show gu_un ycd [9, 10] G G146 from (gu_un.tr (gu_un.tr gu_un.rf (gu_un.su hU133 rfl)) (gu_un.su hU148 rfl))) rfl rfl); have h8 : (0 : Int) ≤ (G146 0 21).toInt ∧ (G146 0 21).toInt ≤ 12 := hI147 0 21; show (G146 12 ((G 0 20).toInt).toNat).toInt ≤ 79; omega) (gu_I.up (j := 0) (k := 21) (v := y151) hI147 (show (0 : Int) ≤ Int32.toInt y151 by omega) (show Int32.toInt y151 ≤ 12 by omega)) sz) (cwV 2 hts (gT_left gX13_readFactor_X13_mark) rfl rfl rfl (by decide +kernel) ⟨Nat.le_of_ble_eq_true rfl, Nat.le_of_ble_eq_true rfl⟩) rfl 0 yc_0 rfl (Nat.le_of_ble_eq_true rfl) ⟨Nat.zero_le _, Nat.zero_le _⟩ dX13_readFactor_164 (fun G156 hw155 => ?_)
          have hI157 : yI G156 := hw155.1
          have hU158 : gu_un ycd [1000, 1100, 1200] (gu_up G146 0 21 y151) G156 := hw155.2.1
          have hp159 := hw155.2.2
          have q160 : yMk 1 r125 (G 0 20).toInt (gu_up G146 0 21 y151) G156 := by have h9 := hp159; (try simp only [(show (gu_up G146 0 21 y151) 0 20 = (G 0 20) from (hU148 0 20 (by decide)).trans (hU133 0 20 (by decide)))] at h9); first | exact h9 | omega
          have m0 : 0 ≤ (G 12 ((G 0 20).toInt).toNat).toInt := (show (0 : Int) ≤ (G 12 ((G 0 20).toInt).toNat).toInt ∧ (G 12 ((G 0 20).toInt).toNat).toInt ≤ 80 from hI 12 _).1
          have m1 : 0 ≤ ((gu_up G146 0 21 y151) 12 ((G 0 20).toInt).toNat).toInt := (show (0 : Int) ≤ (G146 12 ((G 0 20).toInt).toNat).toInt ∧ (G146 12 ((G 0 20).toInt).toNat).toInt ≤ 80 from hI147 12 _).1
          have kp161 : yKp G G156 := yKp.tr (yKp.un yKp.rf (show gu_un ycd [9, 10, 22] G (gu_up G146 0 21 y151) from (gu_un.up (j := 0) (k := 21) (v := y151) (gu_un.tr (gu_un.tr gu_un.rf (gu_un.su hU133 rfl)) (gu_un.su hU148 rfl)) (show (22 : Nat) ∈ ([9, 10, 22] : List Nat) by decide))) rfl) (q160.kp (by omega) m1)
          have sg162 : ySg 4 (G 0 20).toInt G G156 := yMk.leaf q160 (by first | decide | omega) (by decide) (by omega) (show (gu_up G146 0 21 y151) 10 = G 10 from (show G146 10 = G131 10 from funext fun k_ => hU148 10 k_ (show (1000 : Nat) ∉ ([9, 10] : List Nat) by decide)).trans ((show G131 10 = G 10 from funext fun k_ => hU133 10 k_ (show (1000 : Nat) ∉ ([9, 10] : List Nat) by decide)))) (show (gu_up G146 0 21 y151) 11 = G 11 from (show G146 11 = G131 11 from funext fun k_ => hU148 11 k_ (show (1100 : Nat) ∉ ([9, 10] : List Nat) by decide)).trans ((show G131 11 = G 11 from funext fun k_ => hU133 11 k_ (show (1100 : Nat) ∉ ([9, 10] : List Nat) by decide)))) (show (gu_up G146 0 21 y151) 12 = G 12 from (show G146 12 = G131 12 from funext fun k_ => hU148 12 k_ (show (1200 : Nat) ∉ ([9, 10] : List Nat) by decide)).trans ((show G131 12 = G 12 from funext fun k_ => hU133 12 k_ (show (1200 : Nat) ∉ ([9, 10] : List Nat) by decide)))) m0 (by omega) (show (y151 : Int32).toInt = _ by omega)
          refine g_aload_n F 2 dX13_readFactor_167 rfl rfl ?_
          refine u_callVv (k := 0) (n := 0) (b := a 0) (As := []) (st := []) F (fun sz => S_X13_scan l D K a G156  (by have e9_0_3 : G156 0 3 = (G 0 3) := (hU158 0 3 (by decide)).trans ((hU148 0 3 (by decide)).trans (hU133 0 3 (by decide))); have e9_0_5 : G156 0 5 = (G 0 5) := (hU158 0 5 (by decide)).trans ((hU148 0 5 (by decide)).trans (hU133 0 5 (by decide))); (try simp only [e9_0_3, e9_0_5, true_and, and_true]) <;> (first | omega | (simp only [Int32.reduceToInt, true_and, and_true, ne_eq, not_true_eq_false, false_and, or_false, false_or, true_or, or_true, false_implies] <;> omega))) hI157 sz) (cwV 0 hts (gT_left gX13_readFactor_X13_scan) rfl rfl rfl (by decide +kernel) ⟨Nat.le_of_ble_eq_true rfl, Nat.le_of_ble_eq_true rfl⟩) rfl 0 yc_0 rfl (Nat.le_of_ble_eq_true rfl) ⟨Nat.zero_le _, Nat.zero_le _⟩ dX13_readFactor_168 (fun G165 hw164 => ?_)
          have hI166 : yI G165 := hw164.1
          have hU167 : gu_un ycd [5, 6, 7, 8] G156 G165 := hw164.2.1
          have hp168 := hw164.2.2
          have b169 : (0 : Int) ≤ (G165 0 5).toInt ∧ (G165 0 5).toInt ≤ 1000 := hI166 0 5
          have b170 : (0 : Int) ≤ (G165 0 4).toInt ∧ (G165 0 4).toInt ≤ 1000 := hI166 0 4
          have q171 : ((G165 0 5).toInt ≤ (G 0 3).toInt ∧ (G 0 5).toInt ≤ (G165 0 4).toInt ∧ (G165 0 4).toInt ≤ (G165 0 5).toInt) := by have h9 := hp168.1; (try simp only [(show G156 0 3 = (G 0 3) from (hU158 0 3 (by decide)).trans ((hU148 0 3 (by decide)).trans (hU133 0 3 (by decide)))), (show G156 0 5 = (G 0 5) from (hU158 0 5 (by decide)).trans ((hU148 0 5 (by decide)).trans (hU133 0 5 (by decide))))] at h9); first | exact h9 | omega
          have b172 : (0 : Int) ≤ (G165 0 6).toInt ∧ (G165 0 6).toInt ≤ 4 := hI166 0 6
          have q173 : (((G165 0 6).toInt = 0 ∧ (G165 0 4).toInt = (G 0 3).toInt) ∨ ((G165 0 6).toInt ≠ 0 ∧ (G165 0 4).toInt < (G165 0 5).toInt)) := by have h9 := hp168.2; (try simp only [(show G156 0 3 = (G 0 3) from (hU158 0 3 (by decide)).trans ((hU148 0 3 (by decide)).trans (hU133 0 3 (by decide))))] at h9); first | exact h9 | omega
          exact ux_vret F hA hQ hr G165 (⟨hI166, (gu_un.tr (gu_un.tr (gu_un.up (j := 0) (k := 21) (v := y151) (gu_un.tr (gu_un.tr gu_un.rf (gu_un.su hU133 rfl)) (gu_un.su hU148 rfl)) (show (22 : Nat) ∈ ([5, 6, 7, 8, 9, 10, 22, 1000, 1100, 1200] : List Nat) by decide)) (gu_un.su hU158 rfl)) (gu_un.su hU167 rfl)), (by show ((G165 0 5).toInt ≤ (G 0 3).toInt ∧ (G 0 5).toInt ≤ (G165 0 5).toInt ∧ ((G165 0 6).toInt = 0 ∨ (G 0 5).toInt < (G165 0 5).toInt)); (first | omega | (simp only [Int32.reduceToInt, true_and, and_true, ne_eq, not_true_eq_false, false_and, or_false, false_or, true_or, or_true, false_implies] <;> omega))), ((sg162.un (show gu_un ycd [5, 6, 7, 8] G156 G165 from (gu_un.tr gu_un.rf (gu_un.su hU167 rfl))) rfl rfl)), ((yKp.un kp161 (show gu_un ycd [5, 6, 7, 8] G156 G165 from (gu_un.tr gu_un.rf (gu_un.su hU167 rfl))) rfl))⟩) rfl rfl dX13_readFactor_171
      · refine g_aload_n F 2 dX13_readFactor_94 rfl rfl ?_
        refine yg_0_6 F i_X13 w_1 dX13_readFactor_95 (G 0 6) (rfl) ?_
        refine g_iconst F 2 dX13_readFactor_98 (by decide) ?_
        refine v_icmp_ne F 106 dX13_readFactor_99 (by decide) (G 0 6).toInt 2 rfl rfl (fun c174 => ?_) (fun c174 => ?_)
        · refine g_iconst F 0 dX13_readFactor_106 (by decide) ?_
          refine g_iconst F 1 dX13_readFactor_107 (by decide) ?_
          refine ux_callvv (k := 0) (n := 0) (b := a 0) (As := [.int 0, .int 1]) (st := []) F (fun sz => S_X13_need l D K a G 0 0 1 1 rfl (by decide) rfl hI sz) (cwV 2 hts gT_X13_readFactor_X13_need rfl rfl rfl (by decide +kernel) ⟨Nat.le_of_ble_eq_true rfl, Nat.le_of_ble_eq_true rfl⟩) rfl 0 yc_0 rfl (Nat.le_of_ble_eq_true rfl) ⟨Nat.zero_le _, Nat.zero_le _⟩ dX13_readFactor_108 hex hA hQ (fun u9 h9 => ⟨h9.1, gu_un.tr gu_un.rf (gu_un.su h9.2 rfl), (yKp.un yKp.rf h9.2 rfl)⟩) (fun G177 hw176 => ?_)
          have hI178 : yI G177 := hw176.1
          have hU179 : gu_un ycd [9, 10] G G177 := hw176.2.1
          have hp180 := hw176.2.2
          have q181 : ((0 : Int) ≠ 0) := hp180
          exfalso; omega
        · refine g_iconst F 1 dX13_readFactor_102 (by decide) ?_
          refine g_goto F 107 dX13_readFactor_103 (by decide) ?_
          refine g_iconst F 1 dX13_readFactor_107 (by decide) ?_
          refine ux_callvv (k := 0) (n := 0) (b := a 0) (As := [.int 1, .int 1]) (st := []) F (fun sz => S_X13_need l D K a G 1 1 1 1 rfl (by decide) rfl hI sz) (cwV 2 hts gT_X13_readFactor_X13_need rfl rfl rfl (by decide +kernel) ⟨Nat.le_of_ble_eq_true rfl, Nat.le_of_ble_eq_true rfl⟩) rfl 0 yc_0 rfl (Nat.le_of_ble_eq_true rfl) ⟨Nat.zero_le _, Nat.zero_le _⟩ dX13_readFactor_108 hex hA hQ (fun u9 h9 => ⟨h9.1, gu_un.tr gu_un.rf (gu_un.su h9.2 rfl), (yKp.un yKp.rf h9.2 rfl)⟩) (fun G184 hw183 => ?_)
          have hI185 : yI G184 := hw183.1
          have hU186 : gu_un ycd [9, 10] G G184 := hw183.2.1
          have hp187 := hw183.2.2
          have q188 : ((1 : Int) ≠ 0) := hp187
          refine g_aload_n F 2 dX13_readFactor_111 rfl rfl ?_
          refine g_aload_n F 2 dX13_readFactor_112 rfl rfl ?_
          refine yg_0_21 F i_X13 w_0 dX13_readFactor_113 (G 0 21) (hU186 0 21 (by decide)) ?_
          refine g_bipush F 12 dX13_readFactor_116 (by decide) ?_
          refine v_icmp_ge F 125 dX13_readFactor_118 (by decide) (G 0 21).toInt 12 rfl rfl (fun c189 => ?_) (fun c189 => ?_)
          · refine g_iconst F 0 dX13_readFactor_125 (by decide) ?_
            refine g_iconst F 4 dX13_readFactor_126 (by decide) ?_
            refine ux_callvv (k := 0) (n := 0) (b := a 0) (As := [.int 0, .int 4]) (st := []) F (fun sz => S_X13_need l D K a G184 0 0 4 4 rfl (by decide) rfl hI185 sz) (cwV 2 hts gT_X13_readFactor_X13_need rfl rfl rfl (by decide +kernel) ⟨Nat.le_of_ble_eq_true rfl, Nat.le_of_ble_eq_true rfl⟩) rfl 0 yc_0 rfl (Nat.le_of_ble_eq_true rfl) ⟨Nat.zero_le _, Nat.zero_le _⟩ dX13_readFactor_127 hex hA hQ (fun u9 h9 => ⟨h9.1, gu_un.tr (gu_un.tr gu_un.rf (gu_un.su hU186 rfl)) (gu_un.su h9.2 rfl), (yKp.un (yKp.un yKp.rf (show gu_un ycd [9, 10] G G184 from (gu_un.tr gu_un.rf (gu_un.su hU186 rfl))) rfl) h9.2 rfl)⟩) (fun G192 hw191 => ?_)
            have hI193 : yI G192 := hw191.1
            have hU194 : gu_un ycd [9, 10] G184 G192 := hw191.2.1
            have hp195 := hw191.2.2
            have q196 : ((0 : Int) ≠ 0) := hp195
            exfalso; omega
          · refine g_iconst F 1 dX13_readFactor_121 (by decide) ?_
            refine g_goto F 126 dX13_readFactor_122 (by decide) ?_
            refine g_iconst F 4 dX13_readFactor_126 (by decide) ?_
            refine ux_callvv (k := 0) (n := 0) (b := a 0) (As := [.int 1, .int 4]) (st := []) F (fun sz => S_X13_need l D K a G184 1 1 4 4 rfl (by decide) rfl hI185 sz) (cwV 2 hts gT_X13_readFactor_X13_need rfl rfl rfl (by decide +kernel) ⟨Nat.le_of_ble_eq_true rfl, Nat.le_of_ble_eq_true rfl⟩) rfl 0 yc_0 rfl (Nat.le_of_ble_eq_true rfl) ⟨Nat.zero_le _, Nat.zero_le _⟩ dX13_readFactor_127 hex hA hQ (fun u9 h9 => ⟨h9.1, gu_un.tr (gu_un.tr gu_un.rf (gu_un.su hU186 rfl)) (gu_un.su h9.2 rfl), (yKp.un (yKp.un yKp.rf (show gu_un ycd [9, 10] G G184 from (gu_un.tr gu_un.rf (gu_un.su hU186 rfl))) rfl) h9.2 rfl)⟩) (fun G199 hw198 => ?_)
            have hI200 : yI G199 := hw198.1
            have hU201 : gu_un ycd [9, 10] G184 G199 := hw198.2.1
            have hp202 := hw198.2.2
            have q203 : ((1 : Int) ≠ 0) := hp202
            refine g_aload_n F 2 dX13_readFactor_130 rfl rfl ?_
            refine g_dup F dX13_readFactor_131 rfl ?_
            refine yg_0_21 F i_X13 w_0 dX13_readFactor_132 (G 0 21) ((hU201 0 21 (by decide)).trans (hU186 0 21 (by decide))) ?_
            refine g_iconst F 1 dX13_readFactor_135 (by decide) ?_
            refine u_iadd F dX13_readFactor_136 (G 0 21).toInt 1 rfl rfl (by omega) (by omega) (fun y204 ey204 => ?_)
            refine yp_0_21 F i_X13 w_0 dX13_readFactor_137 ?_
            refine g_aload_n F 2 dX13_readFactor_140 rfl rfl ?_
            refine g_iload_n F 0 dX13_readFactor_141 rfl rfl ?_
            refine g_iconst F (-1) dX13_readFactor_142 (by decide) ?_
            refine v_icmp_ne F 150 dX13_readFactor_143 (by decide) r125.toInt (-1) rfl rfl (fun c205 => absurd c205 (by omega)) (fun c205 => ?_)
            refine g_iconst F 0 dX13_readFactor_146 (by decide) ?_
            refine g_goto F 151 dX13_readFactor_147 (by decide) ?_
            refine g_iload_n F 0 dX13_readFactor_151 rfl rfl ?_
            refine g_iconst F (-1) dX13_readFactor_152 (by decide) ?_
            refine v_icmp_ne F 163 dX13_readFactor_153 (by decide) r125.toInt (-1) rfl rfl (fun c206 => absurd c206 (by omega)) (fun c206 => ?_)
            refine g_aload_n F 2 dX13_readFactor_156 rfl rfl ?_
            refine yg_0_7 F i_X13 w_2 dX13_readFactor_157 (G 0 7) ((hU201 0 7 (by decide)).trans (hU186 0 7 (by decide))) ?_
            refine g_goto F 164 dX13_readFactor_160 (by decide) ?_
            refine u_callVv (k := 0) (n := 0) (b := a 0) (As := [.int 0, .int (G 0 7)]) (st := []) F (fun sz => S_X13_mark l D K a (gu_up G199 0 21 y204) 0 0 (G 0 7) (G 0 7).toInt rfl (by decide) rfl (by rw [show (gu_up G199 0 21 y204) 0 20 = G 0 20 from (hU201 0 20 (by decide)).trans (hU186 0 20 (by decide))]; have h9 : (G199 12 ((G 0 20).toInt).toNat).toInt ≤ 6 * (G199 0 21).toInt := (y_m6 m6 (show gu_un ycd [9, 10] G G199 from (gu_un.tr (gu_un.tr gu_un.rf (gu_un.su hU186 rfl)) (gu_un.su hU201 rfl))) rfl rfl); have h8 : (0 : Int) ≤ (G199 0 21).toInt ∧ (G199 0 21).toInt ≤ 12 := hI200 0 21; show (G199 12 ((G 0 20).toInt).toNat).toInt ≤ 79; omega) (gu_I.up (j := 0) (k := 21) (v := y204) hI200 (show (0 : Int) ≤ Int32.toInt y204 by omega) (show Int32.toInt y204 ≤ 12 by omega)) sz) (cwV 2 hts (gT_left gX13_readFactor_X13_mark) rfl rfl rfl (by decide +kernel) ⟨Nat.le_of_ble_eq_true rfl, Nat.le_of_ble_eq_true rfl⟩) rfl 0 yc_0 rfl (Nat.le_of_ble_eq_true rfl) ⟨Nat.zero_le _, Nat.zero_le _⟩ dX13_readFactor_164 (fun G209 hw208 => ?_)
            have hI210 : yI G209 := hw208.1
            have hU211 : gu_un ycd [1000, 1100, 1200] (gu_up G199 0 21 y204) G209 := hw208.2.1
            have hp212 := hw208.2.2
            have q213 : yMk 0 (G 0 7) (G 0 20).toInt (gu_up G199 0 21 y204) G209 := by have h9 := hp212; (try simp only [(show (gu_up G199 0 21 y204) 0 20 = (G 0 20) from (hU201 0 20 (by decide)).trans (hU186 0 20 (by decide)))] at h9); first | exact h9 | omega
            have m0 : 0 ≤ (G 12 ((G 0 20).toInt).toNat).toInt := (show (0 : Int) ≤ (G 12 ((G 0 20).toInt).toNat).toInt ∧ (G 12 ((G 0 20).toInt).toNat).toInt ≤ 80 from hI 12 _).1
            have m1 : 0 ≤ ((gu_up G199 0 21 y204) 12 ((G 0 20).toInt).toNat).toInt := (show (0 : Int) ≤ (G199 12 ((G 0 20).toInt).toNat).toInt ∧ (G199 12 ((G 0 20).toInt).toNat).toInt ≤ 80 from hI200 12 _).1
            have kp214 : yKp G G209 := yKp.tr (yKp.un yKp.rf (show gu_un ycd [9, 10, 22] G (gu_up G199 0 21 y204) from (gu_un.up (j := 0) (k := 21) (v := y204) (gu_un.tr (gu_un.tr gu_un.rf (gu_un.su hU186 rfl)) (gu_un.su hU201 rfl)) (show (22 : Nat) ∈ ([9, 10, 22] : List Nat) by decide))) rfl) (q213.kp (by omega) m1)
            have sg215 : ySg 4 (G 0 20).toInt G G209 := yMk.leaf q213 (by first | decide | omega) (by decide) (by omega) (show (gu_up G199 0 21 y204) 10 = G 10 from (show G199 10 = G184 10 from funext fun k_ => hU201 10 k_ (show (1000 : Nat) ∉ ([9, 10] : List Nat) by decide)).trans ((show G184 10 = G 10 from funext fun k_ => hU186 10 k_ (show (1000 : Nat) ∉ ([9, 10] : List Nat) by decide)))) (show (gu_up G199 0 21 y204) 11 = G 11 from (show G199 11 = G184 11 from funext fun k_ => hU201 11 k_ (show (1100 : Nat) ∉ ([9, 10] : List Nat) by decide)).trans ((show G184 11 = G 11 from funext fun k_ => hU186 11 k_ (show (1100 : Nat) ∉ ([9, 10] : List Nat) by decide)))) (show (gu_up G199 0 21 y204) 12 = G 12 from (show G199 12 = G184 12 from funext fun k_ => hU201 12 k_ (show (1200 : Nat) ∉ ([9, 10] : List Nat) by decide)).trans ((show G184 12 = G 12 from funext fun k_ => hU186 12 k_ (show (1200 : Nat) ∉ ([9, 10] : List Nat) by decide)))) m0 (by omega) (show (y204 : Int32).toInt = _ by omega)
            refine g_aload_n F 2 dX13_readFactor_167 rfl rfl ?_
            refine u_callVv (k := 0) (n := 0) (b := a 0) (As := []) (st := []) F (fun sz => S_X13_scan l D K a G209  (by have e9_0_3 : G209 0 3 = (G 0 3) := (hU211 0 3 (by decide)).trans ((hU201 0 3 (by decide)).trans (hU186 0 3 (by decide))); have e9_0_5 : G209 0 5 = (G 0 5) := (hU211 0 5 (by decide)).trans ((hU201 0 5 (by decide)).trans (hU186 0 5 (by decide))); (try simp only [e9_0_3, e9_0_5, true_and, and_true]) <;> (first | omega | (simp only [Int32.reduceToInt, true_and, and_true, ne_eq, not_true_eq_false, false_and, or_false, false_or, true_or, or_true, false_implies] <;> omega))) hI210 sz) (cwV 0 hts (gT_left gX13_readFactor_X13_scan) rfl rfl rfl (by decide +kernel) ⟨Nat.le_of_ble_eq_true rfl, Nat.le_of_ble_eq_true rfl⟩) rfl 0 yc_0 rfl (Nat.le_of_ble_eq_true rfl) ⟨Nat.zero_le _, Nat.zero_le _⟩ dX13_readFactor_168 (fun G218 hw217 => ?_)
            have hI219 : yI G218 := hw217.1
            have hU220 : gu_un ycd [5, 6, 7, 8] G209 G218 := hw217.2.1
            have hp221 := hw217.2.2
            have b222 : (0 : Int) ≤ (G218 0 5).toInt ∧ (G218 0 5).toInt ≤ 1000 := hI219 0 5
            have b223 : (0 : Int) ≤ (G218 0 4).toInt ∧ (G218 0 4).toInt ≤ 1000 := hI219 0 4
            have q224 : ((G218 0 5).toInt ≤ (G 0 3).toInt ∧ (G 0 5).toInt ≤ (G218 0 4).toInt ∧ (G218 0 4).toInt ≤ (G218 0 5).toInt) := by have h9 := hp221.1; (try simp only [(show G209 0 3 = (G 0 3) from (hU211 0 3 (by decide)).trans ((hU201 0 3 (by decide)).trans (hU186 0 3 (by decide)))), (show G209 0 5 = (G 0 5) from (hU211 0 5 (by decide)).trans ((hU201 0 5 (by decide)).trans (hU186 0 5 (by decide))))] at h9); first | exact h9 | omega
            have b225 : (0 : Int) ≤ (G218 0 6).toInt ∧ (G218 0 6).toInt ≤ 4 := hI219 0 6
            have q226 : (((G218 0 6).toInt = 0 ∧ (G218 0 4).toInt = (G 0 3).toInt) ∨ ((G218 0 6).toInt ≠ 0 ∧ (G218 0 4).toInt < (G218 0 5).toInt)) := by have h9 := hp221.2; (try simp only [(show G209 0 3 = (G 0 3) from (hU211 0 3 (by decide)).trans ((hU201 0 3 (by decide)).trans (hU186 0 3 (by decide))))] at h9); first | exact h9 | omega
            exact ux_vret F hA hQ hr G218 (⟨hI219, (gu_un.tr (gu_un.tr (gu_un.up (j := 0) (k := 21) (v := y204) (gu_un.tr (gu_un.tr gu_un.rf (gu_un.su hU186 rfl)) (gu_un.su hU201 rfl)) (show (22 : Nat) ∈ ([5, 6, 7, 8, 9, 10, 22, 1000, 1100, 1200] : List Nat) by decide)) (gu_un.su hU211 rfl)) (gu_un.su hU220 rfl)), (by show ((G218 0 5).toInt ≤ (G 0 3).toInt ∧ (G 0 5).toInt ≤ (G218 0 5).toInt ∧ ((G218 0 6).toInt = 0 ∨ (G 0 5).toInt < (G218 0 5).toInt)); (first | omega | (simp only [Int32.reduceToInt, true_and, and_true, ne_eq, not_true_eq_false, false_and, or_false, false_or, true_or, or_true, false_implies] <;> omega))), ((sg215.un (show gu_un ycd [5, 6, 7, 8] G209 G218 from (gu_un.tr gu_un.rf (gu_un.su hU220 rfl))) rfl rfl)), ((yKp.un kp214 (show gu_un ycd [5, 6, 7, 8] G209 G218 from (gu_un.tr gu_un.rf (gu_un.su hU220 rfl))) rfl))⟩) rfl rfl dX13_readFactor_171


set_option maxHeartbeats 4000000 in
set_option maxRecDepth 100000 in
theorem S_X13_readProduct_v2 (l : Launch) (D : va_G) (K : Nat → ClassId) (a : Nat → Nat) (G : gS) (qs vs : Nat → Nat) (pb : ((G 0 5).toInt ≤ (G 0 3).toInt)) (s35 : (3 ≤ (G 0 20).toInt)) (m6 : ((G 12 ((G 0 20).toInt).toNat).toInt ≤ 6 * (G 0 21).toInt)) (hI : yI G) (sz : Nat) : KxvZ (yZ qs vs) l yX13_readProduct wsT_X13_readProduct 14 326 D [.ref (a 0), .int 2] (yW K a G) (tK K) sz (fun (G' : gS) => (yI G') ∧ (gu_un ycd [5, 6, 7, 8, 9, 10, 22, 1000, 1100, 1200] G G') ∧ (((G' 0 5).toInt ≤ (G 0 3).toInt ∧ (G 0 5).toInt ≤ (G' 0 5).toInt ∧ ((G' 0 6).toInt = 0 ∨ (G 0 5).toInt < (G' 0 5).toInt))) ∧ (ySg 4 (G 0 20).toInt G G') ∧ (yKp G G')) (fun (G' : gS) => (yI G') ∧ (gu_un ycd [5, 6, 7, 8, 9, 10, 22, 1000, 1100, 1200] G G') ∧ (yKp G G')) (a 1) (fun (G' : gS) => (yW K a G')) := by
  unfold KxvZ
  refine gxz_ofW (cc := cX13_readProduct) (lv := [(0, .ref (a 0)), (1, .int 2)]) (by decide) rfl (Nat.le_of_ble_eq_true rfl) rfl ?_
  intro p e s m args below meth c A Q hA hQ hZ F hr hex
  have hts := F.2.2.2.2.1
  have w_0 : (Cond.fieldLink RX13 41 "QuietCutModel" "value" "I").before args s = true := hts _ (List.mem_of_getElem? (i := 1) rfl)
  have i_X13 : ∀ w ∈ u_ws RX13 TX13 73, w ∈ wsT_X13_readProduct := fun w h => List.mem_append_left _ ((show ∀ w ∈ u_ws RX13 TX13 73, w ∈ wsX13_readProduct from fun _ h => List.mem_cons_of_mem _ (List.mem_append_right _ h)) w h)
  have b1 : (0 : Int) ≤ (G 0 3).toInt ∧ (G 0 3).toInt ≤ 1000 := hI 0 3
  have b2 : (0 : Int) ≤ (G 0 5).toInt ∧ (G 0 5).toInt ≤ 1000 := hI 0 5
  have b3 : (0 : Int) ≤ (G 0 6).toInt ∧ (G 0 6).toInt ≤ 4 := hI 0 6
  have b4 : (0 : Int) ≤ (G 0 20).toInt ∧ (G 0 20).toInt ≤ 5 := hI 0 20
  have b5 : (0 : Int) ≤ (G 0 21).toInt ∧ (G 0 21).toInt ≤ 12 := hI 0 21
  have J_5 : ∀ (fuel : Nat) (Gj5 : gS), (8 * (1000 - (Gj5 0 5).toInt) + (Gj5 0 6).toInt).toNat < fuel → (yI Gj5) → (gu_un ycd [5, 6, 7, 8, 9, 10, 22, 1000, 1100, 1200] G Gj5) → (ySg 4 (G 0 20).toInt G Gj5) → (yKp G Gj5) → (((Gj5 0 5).toInt ≤ (G 0 3).toInt)) → (((G 0 5).toInt ≤ (Gj5 0 5).toInt ∧ ((Gj5 0 6).toInt = 0 ∨ (G 0 5).toInt < (Gj5 0 5).toInt))) → gG p l e (gR 14 0 0 326) s m args below meth c D A 3 Q 0 0 (yW K a Gj5) (tK K) [(0, .ref (a 0)), (1, .int 2)] 5 [] := by
    intro fuel
    induction fuel with
    | zero => intro Gj5 hm; exact absurd hm (Nat.not_lt_zero _)
    | succ fuel_5 ih_5 =>
      intro Gj5 hm_5 jI5 jU5 sg5 kp5 bl_5 bm_5
      have J_32 : ∀ (_ : Unit), (((Gj5 0 6).toInt = 3 ∧ (Gj5 0 7).toInt ≠ 33)) → (((Gj5 0 5).toInt ≤ (G 0 3).toInt)) → (((G 0 5).toInt ≤ (Gj5 0 5).toInt ∧ ((Gj5 0 6).toInt = 0 ∨ (G 0 5).toInt < (Gj5 0 5).toInt))) → gG p l e (gR 14 0 0 326) s m args below meth c D A 3 Q 0 0 (yW K a Gj5) (tK K) [(0, .ref (a 0)), (1, .int 2)] 32 [] := by
        intro _ sn bl_32 bm_32
        refine g_aload_n F 0 dX13_readProduct_32 rfl rfl ?_
        refine yg_0_7 F i_X13 w_0 dX13_readProduct_33 (Gj5 0 7) (rfl) ?_
        refine g_istore_n F [(2, .int (Gj5 0 7)), (0, .ref (a 0)), (1, .int 2)] dX13_readProduct_36 rfl (by decide) rfl ?_
        refine g_aload_n F 1 dX13_readProduct_37 rfl rfl ?_
        have b6 : (0 : Int) ≤ (Gj5 0 5).toInt ∧ (Gj5 0 5).toInt ≤ 1000 := jI5 0 5
        refine u_callVv (k := 0) (n := 0) (b := a 0) (As := []) (st := []) F (fun sz => S_X13_scan l D K a Gj5  (by have e9_0_3 : Gj5 0 3 = (G 0 3) := jU5 0 3 (by decide); (try simp only [e9_0_3, true_and, and_true]) <;> (first | omega | (simp only [Int32.reduceToInt, true_and, and_true, ne_eq, not_true_eq_false, false_and, or_false, false_or, true_or, or_true, false_implies] <;> omega))) jI5 sz) (cwV 0 hts (gT_left gX13_readProduct_X13_scan) rfl rfl rfl (by decide +kernel) ⟨Nat.le_of_ble_eq_true rfl, Nat.le_of_ble_eq_true rfl⟩) rfl 0 yc_0 rfl (Nat.le_of_ble_eq_true rfl) ⟨Nat.zero_le _, Nat.zero_le _⟩ dX13_readProduct_38 (fun G9 hw8 => ?_)
        have hI10 : yI G9 := hw8.1
        have hU11 : gu_un ycd [5, 6, 7, 8] Gj5 G9 := hw8.2.1
        have hp12 := hw8.2.2
        have b13 : (0 : Int) ≤ (G9 0 5).toInt ∧ (G9 0 5).toInt ≤ 1000 := hI10 0 5
        have b14 : (0 : Int) ≤ (G9 0 4).toInt ∧ (G9 0 4).toInt ≤ 1000 := hI10 0 4
        have q15 : ((G9 0 5).toInt ≤ (G 0 3).toInt ∧ (Gj5 0 5).toInt ≤ (G9 0 4).toInt ∧ (G9 0 4).toInt ≤ (G9 0 5).toInt) := by have h9 := hp12.1; (try simp only [(show Gj5 0 3 = (G 0 3) from jU5 0 3 (by decide))] at h9); first | exact h9 | omega
        have b16 : (0 : Int) ≤ (G9 0 6).toInt ∧ (G9 0 6).toInt ≤ 4 := hI10 0 6
        have q17 : (((G9 0 6).toInt = 0 ∧ (G9 0 4).toInt = (G 0 3).toInt) ∨ ((G9 0 6).toInt ≠ 0 ∧ (G9 0 4).toInt < (G9 0 5).toInt)) := by have h9 := hp12.2; (try simp only [(show Gj5 0 3 = (G 0 3) from jU5 0 3 (by decide))] at h9); first | exact h9 | omega
        refine g_aload_n F 1 dX13_readProduct_41 rfl rfl ?_
        refine g_iload_n F 2 dX13_readProduct_42 rfl rfl ?_
        refine uxz_callvv (k := 0) (n := 0) (b := a 0) (As := [.int 2]) (st := []) F yZ_st hZ (fun sz => S_X13_readFactor_v2 l D K a G9 qs vs  (by have e9_0_3 : G9 0 3 = (G 0 3) := (hU11 0 3 (by decide)).trans (jU5 0 3 (by decide)); (try simp only [e9_0_3, true_and, and_true]) <;> (first | omega | (simp only [Int32.reduceToInt, true_and, and_true, ne_eq, not_true_eq_false, false_and, or_false, false_or, true_or, or_true, false_implies] <;> omega))) (by have e9_0_20 : G9 0 20 = (G 0 20) := (hU11 0 20 (by decide)).trans (jU5 0 20 (by decide)); (try simp only [e9_0_20, true_and, and_true]) <;> (first | omega | (simp only [Int32.reduceToInt, true_and, and_true, ne_eq, not_true_eq_false, false_and, or_false, false_or, true_or, or_true, false_implies] <;> omega))) (by rw [show G9 0 20 = G 0 20 from (hU11 0 20 (by decide)).trans (jU5 0 20 (by decide))]; exact (ySg.m6 (c := 4) (sg5.un (show gu_un ycd [5, 6, 7, 8] Gj5 G9 from (gu_un.tr gu_un.rf (gu_un.su hU11 rfl))) rfl rfl) (by decide) (by decide) m6)) hI10 sz) (cwV 1 hts gT_X13_readProduct_X13_readFactor rfl rfl rfl (by decide +kernel) ⟨Nat.le_of_ble_eq_true rfl, Nat.le_of_ble_eq_true rfl⟩) rfl 0 yc_0 rfl (Nat.le_of_ble_eq_true rfl) ⟨Nat.zero_le _, Nat.zero_le _⟩ dX13_readProduct_43 hex hA hQ (fun u9 h9 => ⟨h9.1, gu_un.tr (gu_un.tr (gu_un.tr gu_un.rf (gu_un.su jU5 rfl)) (gu_un.su hU11 rfl)) (gu_un.su h9.2.1 rfl), (yKp.tr (yKp.un kp5 (show gu_un ycd [5, 6, 7, 8] Gj5 G9 from (gu_un.tr gu_un.rf (gu_un.su hU11 rfl))) rfl) h9.2.2)⟩) (fun G20 hw19 => ?_)
        have hI21 : yI G20 := hw19.1
        have hU22 : gu_un ycd [5, 6, 7, 8, 9, 10, 22, 1000, 1100, 1200] G9 G20 := hw19.2.1
        have hp23 := hw19.2.2
        have b24 : (0 : Int) ≤ (G20 0 5).toInt ∧ (G20 0 5).toInt ≤ 1000 := hI21 0 5
        have b25 : (0 : Int) ≤ (G20 0 6).toInt ∧ (G20 0 6).toInt ≤ 4 := hI21 0 6
        have q26 : ((G20 0 5).toInt ≤ (G 0 3).toInt ∧ (G9 0 5).toInt ≤ (G20 0 5).toInt ∧ ((G20 0 6).toInt = 0 ∨ (G9 0 5).toInt < (G20 0 5).toInt)) := by have h9 := hp23.1; (try simp only [(show G9 0 3 = (G 0 3) from (hU11 0 3 (by decide)).trans (jU5 0 3 (by decide)))] at h9); first | exact h9 | omega
        have q27 : ySg 4 (G 0 20).toInt G9 G20 := by have h9 := hp23.2.1; (try simp only [(show G9 0 20 = (G 0 20) from (hU11 0 20 (by decide)).trans (jU5 0 20 (by decide)))] at h9); first | exact h9 | omega
        have q28 : yKp G9 G20 := hp23.2.2
        have kp29 : yKp G G20 := yKp.tr (yKp.un kp5 (show gu_un ycd [5, 6, 7, 8] Gj5 G9 from (gu_un.tr gu_un.rf (gu_un.su hU11 rfl))) rfl) q28
        refine g_aload_n F 1 dX13_readProduct_46 rfl rfl ?_
        refine g_iconst F 2 dX13_readProduct_47 (by decide) ?_
        refine g_iload_n F 0 dX13_readProduct_48 rfl rfl ?_
        refine u_callVv (k := 0) (n := 0) (b := a 0) (As := [.int 2, .int (Gj5 0 7)]) (st := []) F (fun sz => S_X13_mark l D K a G20 2 2 (Gj5 0 7) (Gj5 0 7).toInt rfl (by decide) rfl (by rw [show G20 0 20 = G 0 20 from (hU22 0 20 (by decide)).trans ((hU11 0 20 (by decide)).trans (jU5 0 20 (by decide)))]; have h9 : (G20 12 ((G 0 20).toInt).toNat).toInt ≤ 6 * (G20 0 21).toInt := (ySg.m6 (c := 4) q27 (by decide) (by decide) (ySg.m6 (c := 4) (sg5.un (show gu_un ycd [5, 6, 7, 8] Gj5 G9 from (gu_un.tr gu_un.rf (gu_un.su hU11 rfl))) rfl rfl) (by decide) (by decide) m6)); have h8 : (0 : Int) ≤ (G20 0 21).toInt ∧ (G20 0 21).toInt ≤ 12 := hI21 0 21; show (G20 12 ((G 0 20).toInt).toNat).toInt ≤ 79; omega) hI21 sz) (cwV 2 hts (gT_left gX13_readProduct_X13_mark) rfl rfl rfl (by decide +kernel) ⟨Nat.le_of_ble_eq_true rfl, Nat.le_of_ble_eq_true rfl⟩) rfl 0 yc_0 rfl (Nat.le_of_ble_eq_true rfl) ⟨Nat.zero_le _, Nat.zero_le _⟩ dX13_readProduct_49 (fun G32 hw31 => ?_)
        have hI33 : yI G32 := hw31.1
        have hU34 : gu_un ycd [1000, 1100, 1200] G20 G32 := hw31.2.1
        have hp35 := hw31.2.2
        have q36 : yMk 2 (Gj5 0 7) (G 0 20).toInt G20 G32 := by have h9 := hp35; (try simp only [(show G20 0 20 = (G 0 20) from (hU22 0 20 (by decide)).trans ((hU11 0 20 (by decide)).trans (jU5 0 20 (by decide))))] at h9); first | exact h9 | omega
        have m0 : 0 ≤ (G 12 ((G 0 20).toInt).toNat).toInt := (show (0 : Int) ≤ (G 12 ((G 0 20).toInt).toNat).toInt ∧ (G 12 ((G 0 20).toInt).toNat).toInt ≤ 80 from hI 12 _).1
        have m1 : 0 ≤ (G20 12 ((G 0 20).toInt).toNat).toInt := (show (0 : Int) ≤ (G20 12 ((G 0 20).toInt).toNat).toInt ∧ (G20 12 ((G 0 20).toInt).toNat).toInt ≤ 80 from hI21 12 _).1
        have kp37 : yKp G G32 := yKp.tr kp29 (q36.kp (by omega) m1)
        have sg38 : ySg 4 (G 0 20).toInt G G32 := ySg.join (sg5.un (show gu_un ycd [5, 6, 7, 8] Gj5 G9 from (gu_un.tr gu_un.rf (gu_un.su hU11 rfl))) rfl rfl) q27 q36 (by decide) (by omega) (by omega) m0 (by have h9 : (G20 12 ((G 0 20).toInt).toNat).toInt ≤ 6 * (G20 0 21).toInt := (ySg.m6 (c := 4) q27 (by decide) (by decide) (ySg.m6 (c := 4) (sg5.un (show gu_un ycd [5, 6, 7, 8] Gj5 G9 from (gu_un.tr gu_un.rf (gu_un.su hU11 rfl))) rfl rfl) (by decide) (by decide) m6)); have h8 : (0 : Int) ≤ (G20 0 21).toInt ∧ (G20 0 21).toInt ≤ 12 := hI21 0 21; omega)
        refine g_goto F 5 dX13_readProduct_52 (by decide) ?_
        refine g_locals [(0, .ref (a 0)), (1, .int 2)] [1, 2] rfl ?_
        exact ih_5 G32 (by have e9_0_5 : G32 0 5 = (G20 0 5) := hU34 0 5 (by decide); have e9_0_6 : G32 0 6 = (G20 0 6) := hU34 0 6 (by decide); (try simp only [e9_0_5, e9_0_6, true_and, and_true]) <;> omega) hI33 (gu_un.tr (gu_un.tr (gu_un.tr (gu_un.tr gu_un.rf (gu_un.su jU5 rfl)) (gu_un.su hU11 rfl)) (gu_un.su hU22 rfl)) (gu_un.su hU34 rfl)) (sg38) (kp37) (by have e9_0_3 : G32 0 3 = (G 0 3) := (hU34 0 3 (by decide)).trans ((hU22 0 3 (by decide)).trans ((hU11 0 3 (by decide)).trans (jU5 0 3 (by decide)))); have e9_0_5 : G32 0 5 = (G20 0 5) := hU34 0 5 (by decide); (try simp only [e9_0_3, e9_0_5, true_and, and_true]) <;> (first | omega | (simp only [Int32.reduceToInt, true_and, and_true, ne_eq, not_true_eq_false, false_and, or_false, false_or, true_or, or_true, false_implies] <;> omega))) (by have e9_0_5 : G32 0 5 = (G20 0 5) := hU34 0 5 (by decide); have e9_0_6 : G32 0 6 = (G20 0 6) := hU34 0 6 (by decide); (try simp only [e9_0_5, e9_0_6, true_and, and_true]) <;> (first | omega | (simp only [Int32.reduceToInt, true_and, and_true, ne_eq, not_true_eq_false, false_and, or_false, false_or, true_or, or_true, false_implies] <;> omega)))
      refine g_aload_n F 0 dX13_readProduct_5 rfl rfl ?_
      refine g_bipush F 42 dX13_readProduct_6 (by decide) ?_
      refine u_callVi (k := 0) (n := 0) (b := a 0) (As := [.int 42]) (st := []) F (fun sz => S_X13_isSign l D K a Gj5 42 42 rfl jI5 sz) (cwV 1 hts (gT_left gX13_readProduct_X13_isSign) rfl rfl rfl (by decide +kernel) ⟨Nat.le_of_ble_eq_true rfl, Nat.le_of_ble_eq_true rfl⟩) rfl 0 yc_0 rfl (Nat.le_of_ble_eq_true rfl) ⟨Nat.zero_le _, Nat.zero_le _⟩ dX13_readProduct_8 (fun r39 _ hw40 => ?_)
      rcases hw40 with ⟨rfl, q42⟩ | ⟨rfl, q43⟩
      · have b44 : (0 : Int) ≤ (Gj5 0 6).toInt ∧ (Gj5 0 6).toInt ≤ 4 := jI5 0 6
        have q42 : ((Gj5 0 6).toInt = 3 ∧ (Gj5 0 7).toInt = (42 : Int)) := q42
        refine v_if_ne F 32 dX13_readProduct_11 (by decide) 1 rfl (fun c45 => ?_) (fun c45 => absurd c45 (by decide))
        have b46 : (0 : Int) ≤ (Gj5 0 5).toInt ∧ (Gj5 0 5).toInt ≤ 1000 := jI5 0 5
        exact J_32 () (by (first | omega | (simp only [Int32.reduceToInt, true_and, and_true, ne_eq, not_true_eq_false, false_and, or_false, false_or, true_or, or_true, false_implies] <;> omega))) (by have e9_0_3 : Gj5 0 3 = (G 0 3) := jU5 0 3 (by decide); (try simp only [e9_0_3, true_and, and_true]) <;> (first | omega | (simp only [Int32.reduceToInt, true_and, and_true, ne_eq, not_true_eq_false, false_and, or_false, false_or, true_or, or_true, false_implies] <;> omega))) (by (first | omega | (simp only [Int32.reduceToInt, true_and, and_true, ne_eq, not_true_eq_false, false_and, or_false, false_or, true_or, or_true, false_implies] <;> omega)))
      · have b47 : (0 : Int) ≤ (Gj5 0 6).toInt ∧ (Gj5 0 6).toInt ≤ 4 := jI5 0 6
        have q43 : ((Gj5 0 6).toInt ≠ 3 ∨ (Gj5 0 7).toInt ≠ (42 : Int)) := q43
        refine v_if_ne F 32 dX13_readProduct_11 (by decide) 0 rfl (fun c48 => absurd c48 (by decide)) (fun c48 => ?_)
        refine g_aload_n F 0 dX13_readProduct_14 rfl rfl ?_
        refine g_bipush F 47 dX13_readProduct_15 (by decide) ?_
        refine u_callVi (k := 0) (n := 0) (b := a 0) (As := [.int 47]) (st := []) F (fun sz => S_X13_isSign l D K a Gj5 47 47 rfl jI5 sz) (cwV 1 hts (gT_left gX13_readProduct_X13_isSign) rfl rfl rfl (by decide +kernel) ⟨Nat.le_of_ble_eq_true rfl, Nat.le_of_ble_eq_true rfl⟩) rfl 0 yc_0 rfl (Nat.le_of_ble_eq_true rfl) ⟨Nat.zero_le _, Nat.zero_le _⟩ dX13_readProduct_17 (fun r49 _ hw50 => ?_)
        rcases hw50 with ⟨rfl, q52⟩ | ⟨rfl, q53⟩
        · have q52 : ((Gj5 0 6).toInt = 3 ∧ (Gj5 0 7).toInt = (47 : Int)) := q52
          refine v_if_ne F 32 dX13_readProduct_20 (by decide) 1 rfl (fun c54 => ?_) (fun c54 => absurd c54 (by decide))
          have b55 : (0 : Int) ≤ (Gj5 0 5).toInt ∧ (Gj5 0 5).toInt ≤ 1000 := jI5 0 5
          exact J_32 () (by (first | omega | (simp only [Int32.reduceToInt, true_and, and_true, ne_eq, not_true_eq_false, false_and, or_false, false_or, true_or, or_true, false_implies] <;> omega))) (by have e9_0_3 : Gj5 0 3 = (G 0 3) := jU5 0 3 (by decide); (try simp only [e9_0_3, true_and, and_true]) <;> (first | omega | (simp only [Int32.reduceToInt, true_and, and_true, ne_eq, not_true_eq_false, false_and, or_false, false_or, true_or, or_true, false_implies] <;> omega))) (by (first | omega | (simp only [Int32.reduceToInt, true_and, and_true, ne_eq, not_true_eq_false, false_and, or_false, false_or, true_or, or_true, false_implies] <;> omega)))
        · have q53 : ((Gj5 0 6).toInt ≠ 3 ∨ (Gj5 0 7).toInt ≠ (47 : Int)) := q53
          refine v_if_ne F 32 dX13_readProduct_20 (by decide) 0 rfl (fun c56 => absurd c56 (by decide)) (fun c56 => ?_)
          refine g_aload_n F 0 dX13_readProduct_23 rfl rfl ?_
          refine g_bipush F 37 dX13_readProduct_24 (by decide) ?_
          refine u_callVi (k := 0) (n := 0) (b := a 0) (As := [.int 37]) (st := []) F (fun sz => S_X13_isSign l D K a Gj5 37 37 rfl jI5 sz) (cwV 1 hts (gT_left gX13_readProduct_X13_isSign) rfl rfl rfl (by decide +kernel) ⟨Nat.le_of_ble_eq_true rfl, Nat.le_of_ble_eq_true rfl⟩) rfl 0 yc_0 rfl (Nat.le_of_ble_eq_true rfl) ⟨Nat.zero_le _, Nat.zero_le _⟩ dX13_readProduct_26 (fun r57 _ hw58 => ?_)
          rcases hw58 with ⟨rfl, q60⟩ | ⟨rfl, q61⟩
          · have q60 : ((Gj5 0 6).toInt = 3 ∧ (Gj5 0 7).toInt = (37 : Int)) := q60
            refine v_if_eq F 55 dX13_readProduct_29 (by decide) 1 rfl (fun c62 => absurd c62 (by decide)) (fun c62 => ?_)
            have b63 : (0 : Int) ≤ (Gj5 0 5).toInt ∧ (Gj5 0 5).toInt ≤ 1000 := jI5 0 5
            exact J_32 () (by (first | omega | (simp only [Int32.reduceToInt, true_and, and_true, ne_eq, not_true_eq_false, false_and, or_false, false_or, true_or, or_true, false_implies] <;> omega))) (by have e9_0_3 : Gj5 0 3 = (G 0 3) := jU5 0 3 (by decide); (try simp only [e9_0_3, true_and, and_true]) <;> (first | omega | (simp only [Int32.reduceToInt, true_and, and_true, ne_eq, not_true_eq_false, false_and, or_false, false_or, true_or, or_true, false_implies] <;> omega))) (by (first | omega | (simp only [Int32.reduceToInt, true_and, and_true, ne_eq, not_true_eq_false, false_and, or_false, false_or, true_or, or_true, false_implies] <;> omega)))
          · have q61 : ((Gj5 0 6).toInt ≠ 3 ∨ (Gj5 0 7).toInt ≠ (37 : Int)) := q61
            refine v_if_eq F 55 dX13_readProduct_29 (by decide) 0 rfl (fun c64 => ?_) (fun c64 => absurd c64 (by decide))
            have b65 : (0 : Int) ≤ (Gj5 0 5).toInt ∧ (Gj5 0 5).toInt ≤ 1000 := jI5 0 5
            exact ux_vret F hA hQ hr Gj5 (⟨jI5, (gu_un.tr gu_un.rf (gu_un.su jU5 rfl)), (by show ((Gj5 0 5).toInt ≤ (G 0 3).toInt ∧ (G 0 5).toInt ≤ (Gj5 0 5).toInt ∧ ((Gj5 0 6).toInt = 0 ∨ (G 0 5).toInt < (Gj5 0 5).toInt)); (first | omega | (simp only [Int32.reduceToInt, true_and, and_true, ne_eq, not_true_eq_false, false_and, or_false, false_or, true_or, or_true, false_implies] <;> omega))), (sg5), (kp5)⟩) rfl rfl dX13_readProduct_55
  refine g_aload_n F 0 dX13_readProduct_0 rfl rfl ?_
  refine g_iload_n F 1 dX13_readProduct_1 rfl rfl ?_
  refine uxz_callvv (k := 0) (n := 0) (b := a 0) (As := [.int 2]) (st := []) F yZ_st hZ (fun sz => S_X13_readFactor_v2 l D K a G qs vs  (by (first | omega | (simp only [Int32.reduceToInt, true_and, and_true, ne_eq, not_true_eq_false, false_and, or_false, false_or, true_or, or_true, false_implies] <;> omega))) (by (first | omega | (simp only [Int32.reduceToInt, true_and, and_true, ne_eq, not_true_eq_false, false_and, or_false, false_or, true_or, or_true, false_implies] <;> omega))) (m6) hI sz) (cwV 1 hts gT_X13_readProduct_X13_readFactor rfl rfl rfl (by decide +kernel) ⟨Nat.le_of_ble_eq_true rfl, Nat.le_of_ble_eq_true rfl⟩) rfl 0 yc_0 rfl (Nat.le_of_ble_eq_true rfl) ⟨Nat.zero_le _, Nat.zero_le _⟩ dX13_readProduct_2 hex hA hQ (fun u9 h9 => ⟨h9.1, gu_un.tr gu_un.rf (gu_un.su h9.2.1 rfl), (yKp.tr yKp.rf h9.2.2)⟩) (fun G68 hw67 => ?_)
  have hI69 : yI G68 := hw67.1
  have hU70 : gu_un ycd [5, 6, 7, 8, 9, 10, 22, 1000, 1100, 1200] G G68 := hw67.2.1
  have hp71 := hw67.2.2
  have b72 : (0 : Int) ≤ (G68 0 5).toInt ∧ (G68 0 5).toInt ≤ 1000 := hI69 0 5
  have b73 : (0 : Int) ≤ (G68 0 6).toInt ∧ (G68 0 6).toInt ≤ 4 := hI69 0 6
  have q74 : ((G68 0 5).toInt ≤ (G 0 3).toInt ∧ (G 0 5).toInt ≤ (G68 0 5).toInt ∧ ((G68 0 6).toInt = 0 ∨ (G 0 5).toInt < (G68 0 5).toInt)) := hp71.1
  have q75 : ySg 4 (G 0 20).toInt G G68 := hp71.2.1
  have q76 : yKp G G68 := hp71.2.2
  have kp77 : yKp G G68 := yKp.tr yKp.rf q76
  have sg78 : ySg 4 (G 0 20).toInt G G68 := q75
  exact J_5 _ G68 (Nat.lt_succ_self _) hI69 (gu_un.tr gu_un.rf (gu_un.su hU70 rfl)) (sg78) (kp77) (by have e9_0_3 : G68 0 3 = (G 0 3) := hU70 0 3 (by decide); (try simp only [e9_0_3, true_and, and_true]) <;> (first | omega | (simp only [Int32.reduceToInt, true_and, and_true, ne_eq, not_true_eq_false, false_and, or_false, false_or, true_or, or_true, false_implies] <;> omega))) (by (first | omega | (simp only [Int32.reduceToInt, true_and, and_true, ne_eq, not_true_eq_false, false_and, or_false, false_or, true_or, or_true, false_implies] <;> omega)))


set_option maxHeartbeats 4000000 in
set_option maxRecDepth 100000 in
theorem S_X13_readSum_v2 (l : Launch) (D : va_G) (K : Nat → ClassId) (a : Nat → Nat) (G : gS) (qs vs : Nat → Nat) (pb : ((G 0 5).toInt ≤ (G 0 3).toInt)) (s35 : (3 ≤ (G 0 20).toInt)) (m6 : ((G 12 ((G 0 20).toInt).toNat).toInt ≤ 6 * (G 0 21).toInt)) (hI : yI G) (sz : Nat) : KxvZ (yZ qs vs) l yX13_readSum wsT_X13_readSum 15 348 D [.ref (a 0), .int 2] (yW K a G) (tK K) sz (fun (G' : gS) => (yI G') ∧ (gu_un ycd [5, 6, 7, 8, 9, 10, 22, 1000, 1100, 1200] G G') ∧ (((G' 0 5).toInt ≤ (G 0 3).toInt ∧ (G 0 5).toInt ≤ (G' 0 5).toInt ∧ ((G' 0 6).toInt = 0 ∨ (G 0 5).toInt < (G' 0 5).toInt))) ∧ (ySg 4 (G 0 20).toInt G G') ∧ (yKp G G')) (fun (G' : gS) => (yI G') ∧ (gu_un ycd [5, 6, 7, 8, 9, 10, 22, 1000, 1100, 1200] G G') ∧ (yKp G G')) (a 1) (fun (G' : gS) => (yW K a G')) := by
  unfold KxvZ
  refine gxz_ofW (cc := cX13_readSum) (lv := [(0, .ref (a 0)), (1, .int 2)]) (by decide) rfl (Nat.le_of_ble_eq_true rfl) rfl ?_
  intro p e s m args below meth c A Q hA hQ hZ F hr hex
  have hts := F.2.2.2.2.1
  have w_0 : (Cond.fieldLink RX13 41 "QuietCutModel" "value" "I").before args s = true := hts _ (List.mem_of_getElem? (i := 1) rfl)
  have i_X13 : ∀ w ∈ u_ws RX13 TX13 73, w ∈ wsT_X13_readSum := fun w h => List.mem_append_left _ ((show ∀ w ∈ u_ws RX13 TX13 73, w ∈ wsX13_readSum from fun _ h => List.mem_cons_of_mem _ (List.mem_append_right _ h)) w h)
  have b1 : (0 : Int) ≤ (G 0 3).toInt ∧ (G 0 3).toInt ≤ 1000 := hI 0 3
  have b2 : (0 : Int) ≤ (G 0 5).toInt ∧ (G 0 5).toInt ≤ 1000 := hI 0 5
  have b3 : (0 : Int) ≤ (G 0 6).toInt ∧ (G 0 6).toInt ≤ 4 := hI 0 6
  have b4 : (0 : Int) ≤ (G 0 20).toInt ∧ (G 0 20).toInt ≤ 5 := hI 0 20
  have b5 : (0 : Int) ≤ (G 0 21).toInt ∧ (G 0 21).toInt ≤ 12 := hI 0 21
  have J_5 : ∀ (fuel : Nat) (Gj5 : gS), (8 * (1000 - (Gj5 0 5).toInt) + (Gj5 0 6).toInt).toNat < fuel → (yI Gj5) → (gu_un ycd [5, 6, 7, 8, 9, 10, 22, 1000, 1100, 1200] G Gj5) → (ySg 4 (G 0 20).toInt G Gj5) → (yKp G Gj5) → (((Gj5 0 5).toInt ≤ (G 0 3).toInt)) → (((G 0 5).toInt ≤ (Gj5 0 5).toInt ∧ ((Gj5 0 6).toInt = 0 ∨ (G 0 5).toInt < (Gj5 0 5).toInt))) → gG p l e (gR 15 0 0 348) s m args below meth c D A 3 Q 0 0 (yW K a Gj5) (tK K) [(0, .ref (a 0)), (1, .int 2)] 5 [] := by
    intro fuel
    induction fuel with
    | zero => intro Gj5 hm; exact absurd hm (Nat.not_lt_zero _)
    | succ fuel_5 ih_5 =>
      intro Gj5 hm_5 jI5 jU5 sg5 kp5 bl_5 bm_5
      have J_23 : ∀ (_ : Unit), (((Gj5 0 6).toInt = 3 ∧ (Gj5 0 7).toInt ≠ 33)) → (((Gj5 0 5).toInt ≤ (G 0 3).toInt)) → (((G 0 5).toInt ≤ (Gj5 0 5).toInt ∧ ((Gj5 0 6).toInt = 0 ∨ (G 0 5).toInt < (Gj5 0 5).toInt))) → gG p l e (gR 15 0 0 348) s m args below meth c D A 3 Q 0 0 (yW K a Gj5) (tK K) [(0, .ref (a 0)), (1, .int 2)] 23 [] := by
        intro _ sn bl_23 bm_23
        refine g_aload_n F 0 dX13_readSum_23 rfl rfl ?_
        refine yg_0_7 F i_X13 w_0 dX13_readSum_24 (Gj5 0 7) (rfl) ?_
        refine g_istore_n F [(2, .int (Gj5 0 7)), (0, .ref (a 0)), (1, .int 2)] dX13_readSum_27 rfl (by decide) rfl ?_
        refine g_aload_n F 1 dX13_readSum_28 rfl rfl ?_
        have b6 : (0 : Int) ≤ (Gj5 0 5).toInt ∧ (Gj5 0 5).toInt ≤ 1000 := jI5 0 5
        refine u_callVv (k := 0) (n := 0) (b := a 0) (As := []) (st := []) F (fun sz => S_X13_scan l D K a Gj5  (by have e9_0_3 : Gj5 0 3 = (G 0 3) := jU5 0 3 (by decide); (try simp only [e9_0_3, true_and, and_true]) <;> (first | omega | (simp only [Int32.reduceToInt, true_and, and_true, ne_eq, not_true_eq_false, false_and, or_false, false_or, true_or, or_true, false_implies] <;> omega))) jI5 sz) (cwV 0 hts (gT_left gX13_readSum_X13_scan) rfl rfl rfl (by decide +kernel) ⟨Nat.le_of_ble_eq_true rfl, Nat.le_of_ble_eq_true rfl⟩) rfl 0 yc_0 rfl (Nat.le_of_ble_eq_true rfl) ⟨Nat.zero_le _, Nat.zero_le _⟩ dX13_readSum_29 (fun G9 hw8 => ?_)
        have hI10 : yI G9 := hw8.1
        have hU11 : gu_un ycd [5, 6, 7, 8] Gj5 G9 := hw8.2.1
        have hp12 := hw8.2.2
        have b13 : (0 : Int) ≤ (G9 0 5).toInt ∧ (G9 0 5).toInt ≤ 1000 := hI10 0 5
        have b14 : (0 : Int) ≤ (G9 0 4).toInt ∧ (G9 0 4).toInt ≤ 1000 := hI10 0 4
        have q15 : ((G9 0 5).toInt ≤ (G 0 3).toInt ∧ (Gj5 0 5).toInt ≤ (G9 0 4).toInt ∧ (G9 0 4).toInt ≤ (G9 0 5).toInt) := by have h9 := hp12.1; (try simp only [(show Gj5 0 3 = (G 0 3) from jU5 0 3 (by decide))] at h9); first | exact h9 | omega
        have b16 : (0 : Int) ≤ (G9 0 6).toInt ∧ (G9 0 6).toInt ≤ 4 := hI10 0 6
        have q17 : (((G9 0 6).toInt = 0 ∧ (G9 0 4).toInt = (G 0 3).toInt) ∨ ((G9 0 6).toInt ≠ 0 ∧ (G9 0 4).toInt < (G9 0 5).toInt)) := by have h9 := hp12.2; (try simp only [(show Gj5 0 3 = (G 0 3) from jU5 0 3 (by decide))] at h9); first | exact h9 | omega
        refine g_aload_n F 1 dX13_readSum_32 rfl rfl ?_
        refine g_iload_n F 2 dX13_readSum_33 rfl rfl ?_
        refine uxz_callvv (k := 0) (n := 0) (b := a 0) (As := [.int 2]) (st := []) F yZ_st hZ (fun sz => S_X13_readProduct_v2 l D K a G9 qs vs  (by have e9_0_3 : G9 0 3 = (G 0 3) := (hU11 0 3 (by decide)).trans (jU5 0 3 (by decide)); (try simp only [e9_0_3, true_and, and_true]) <;> (first | omega | (simp only [Int32.reduceToInt, true_and, and_true, ne_eq, not_true_eq_false, false_and, or_false, false_or, true_or, or_true, false_implies] <;> omega))) (by have e9_0_20 : G9 0 20 = (G 0 20) := (hU11 0 20 (by decide)).trans (jU5 0 20 (by decide)); (try simp only [e9_0_20, true_and, and_true]) <;> (first | omega | (simp only [Int32.reduceToInt, true_and, and_true, ne_eq, not_true_eq_false, false_and, or_false, false_or, true_or, or_true, false_implies] <;> omega))) (by rw [show G9 0 20 = G 0 20 from (hU11 0 20 (by decide)).trans (jU5 0 20 (by decide))]; exact (ySg.m6 (c := 4) (sg5.un (show gu_un ycd [5, 6, 7, 8] Gj5 G9 from (gu_un.tr gu_un.rf (gu_un.su hU11 rfl))) rfl rfl) (by decide) (by decide) m6)) hI10 sz) (cwV 1 hts gT_X13_readSum_X13_readProduct rfl rfl rfl (by decide +kernel) ⟨Nat.le_of_ble_eq_true rfl, Nat.le_of_ble_eq_true rfl⟩) rfl 0 yc_0 rfl (Nat.le_of_ble_eq_true rfl) ⟨Nat.zero_le _, Nat.zero_le _⟩ dX13_readSum_34 hex hA hQ (fun u9 h9 => ⟨h9.1, gu_un.tr (gu_un.tr (gu_un.tr gu_un.rf (gu_un.su jU5 rfl)) (gu_un.su hU11 rfl)) (gu_un.su h9.2.1 rfl), (yKp.tr (yKp.un kp5 (show gu_un ycd [5, 6, 7, 8] Gj5 G9 from (gu_un.tr gu_un.rf (gu_un.su hU11 rfl))) rfl) h9.2.2)⟩) (fun G20 hw19 => ?_)
        have hI21 : yI G20 := hw19.1
        have hU22 : gu_un ycd [5, 6, 7, 8, 9, 10, 22, 1000, 1100, 1200] G9 G20 := hw19.2.1
        have hp23 := hw19.2.2
        have b24 : (0 : Int) ≤ (G20 0 5).toInt ∧ (G20 0 5).toInt ≤ 1000 := hI21 0 5
        have b25 : (0 : Int) ≤ (G20 0 6).toInt ∧ (G20 0 6).toInt ≤ 4 := hI21 0 6
        have q26 : ((G20 0 5).toInt ≤ (G 0 3).toInt ∧ (G9 0 5).toInt ≤ (G20 0 5).toInt ∧ ((G20 0 6).toInt = 0 ∨ (G9 0 5).toInt < (G20 0 5).toInt)) := by have h9 := hp23.1; (try simp only [(show G9 0 3 = (G 0 3) from (hU11 0 3 (by decide)).trans (jU5 0 3 (by decide)))] at h9); first | exact h9 | omega
        have q27 : ySg 4 (G 0 20).toInt G9 G20 := by have h9 := hp23.2.1; (try simp only [(show G9 0 20 = (G 0 20) from (hU11 0 20 (by decide)).trans (jU5 0 20 (by decide)))] at h9); first | exact h9 | omega
        have q28 : yKp G9 G20 := hp23.2.2
        have kp29 : yKp G G20 := yKp.tr (yKp.un kp5 (show gu_un ycd [5, 6, 7, 8] Gj5 G9 from (gu_un.tr gu_un.rf (gu_un.su hU11 rfl))) rfl) q28
        refine g_aload_n F 1 dX13_readSum_37 rfl rfl ?_
        refine g_iconst F 2 dX13_readSum_38 (by decide) ?_
        refine g_iload_n F 0 dX13_readSum_39 rfl rfl ?_
        refine u_callVv (k := 0) (n := 0) (b := a 0) (As := [.int 2, .int (Gj5 0 7)]) (st := []) F (fun sz => S_X13_mark l D K a G20 2 2 (Gj5 0 7) (Gj5 0 7).toInt rfl (by decide) rfl (by rw [show G20 0 20 = G 0 20 from (hU22 0 20 (by decide)).trans ((hU11 0 20 (by decide)).trans (jU5 0 20 (by decide)))]; have h9 : (G20 12 ((G 0 20).toInt).toNat).toInt ≤ 6 * (G20 0 21).toInt := (ySg.m6 (c := 4) q27 (by decide) (by decide) (ySg.m6 (c := 4) (sg5.un (show gu_un ycd [5, 6, 7, 8] Gj5 G9 from (gu_un.tr gu_un.rf (gu_un.su hU11 rfl))) rfl rfl) (by decide) (by decide) m6)); have h8 : (0 : Int) ≤ (G20 0 21).toInt ∧ (G20 0 21).toInt ≤ 12 := hI21 0 21; show (G20 12 ((G 0 20).toInt).toNat).toInt ≤ 79; omega) hI21 sz) (cwV 2 hts (gT_left gX13_readSum_X13_mark) rfl rfl rfl (by decide +kernel) ⟨Nat.le_of_ble_eq_true rfl, Nat.le_of_ble_eq_true rfl⟩) rfl 0 yc_0 rfl (Nat.le_of_ble_eq_true rfl) ⟨Nat.zero_le _, Nat.zero_le _⟩ dX13_readSum_40 (fun G32 hw31 => ?_)
        have hI33 : yI G32 := hw31.1
        have hU34 : gu_un ycd [1000, 1100, 1200] G20 G32 := hw31.2.1
        have hp35 := hw31.2.2
        have q36 : yMk 2 (Gj5 0 7) (G 0 20).toInt G20 G32 := by have h9 := hp35; (try simp only [(show G20 0 20 = (G 0 20) from (hU22 0 20 (by decide)).trans ((hU11 0 20 (by decide)).trans (jU5 0 20 (by decide))))] at h9); first | exact h9 | omega
        have m0 : 0 ≤ (G 12 ((G 0 20).toInt).toNat).toInt := (show (0 : Int) ≤ (G 12 ((G 0 20).toInt).toNat).toInt ∧ (G 12 ((G 0 20).toInt).toNat).toInt ≤ 80 from hI 12 _).1
        have m1 : 0 ≤ (G20 12 ((G 0 20).toInt).toNat).toInt := (show (0 : Int) ≤ (G20 12 ((G 0 20).toInt).toNat).toInt ∧ (G20 12 ((G 0 20).toInt).toNat).toInt ≤ 80 from hI21 12 _).1
        have kp37 : yKp G G32 := yKp.tr kp29 (q36.kp (by omega) m1)
        have sg38 : ySg 4 (G 0 20).toInt G G32 := ySg.join (sg5.un (show gu_un ycd [5, 6, 7, 8] Gj5 G9 from (gu_un.tr gu_un.rf (gu_un.su hU11 rfl))) rfl rfl) q27 q36 (by decide) (by omega) (by omega) m0 (by have h9 : (G20 12 ((G 0 20).toInt).toNat).toInt ≤ 6 * (G20 0 21).toInt := (ySg.m6 (c := 4) q27 (by decide) (by decide) (ySg.m6 (c := 4) (sg5.un (show gu_un ycd [5, 6, 7, 8] Gj5 G9 from (gu_un.tr gu_un.rf (gu_un.su hU11 rfl))) rfl rfl) (by decide) (by decide) m6)); have h8 : (0 : Int) ≤ (G20 0 21).toInt ∧ (G20 0 21).toInt ≤ 12 := hI21 0 21; omega)
        refine g_goto F 5 dX13_readSum_43 (by decide) ?_
        refine g_locals [(0, .ref (a 0)), (1, .int 2)] [1, 2] rfl ?_
        exact ih_5 G32 (by have e9_0_5 : G32 0 5 = (G20 0 5) := hU34 0 5 (by decide); have e9_0_6 : G32 0 6 = (G20 0 6) := hU34 0 6 (by decide); (try simp only [e9_0_5, e9_0_6, true_and, and_true]) <;> omega) hI33 (gu_un.tr (gu_un.tr (gu_un.tr (gu_un.tr gu_un.rf (gu_un.su jU5 rfl)) (gu_un.su hU11 rfl)) (gu_un.su hU22 rfl)) (gu_un.su hU34 rfl)) (sg38) (kp37) (by have e9_0_3 : G32 0 3 = (G 0 3) := (hU34 0 3 (by decide)).trans ((hU22 0 3 (by decide)).trans ((hU11 0 3 (by decide)).trans (jU5 0 3 (by decide)))); have e9_0_5 : G32 0 5 = (G20 0 5) := hU34 0 5 (by decide); (try simp only [e9_0_3, e9_0_5, true_and, and_true]) <;> (first | omega | (simp only [Int32.reduceToInt, true_and, and_true, ne_eq, not_true_eq_false, false_and, or_false, false_or, true_or, or_true, false_implies] <;> omega))) (by have e9_0_5 : G32 0 5 = (G20 0 5) := hU34 0 5 (by decide); have e9_0_6 : G32 0 6 = (G20 0 6) := hU34 0 6 (by decide); (try simp only [e9_0_5, e9_0_6, true_and, and_true]) <;> (first | omega | (simp only [Int32.reduceToInt, true_and, and_true, ne_eq, not_true_eq_false, false_and, or_false, false_or, true_or, or_true, false_implies] <;> omega)))
      refine g_aload_n F 0 dX13_readSum_5 rfl rfl ?_
      refine g_bipush F 43 dX13_readSum_6 (by decide) ?_
      refine u_callVi (k := 0) (n := 0) (b := a 0) (As := [.int 43]) (st := []) F (fun sz => S_X13_isSign l D K a Gj5 43 43 rfl jI5 sz) (cwV 1 hts (gT_left gX13_readSum_X13_isSign) rfl rfl rfl (by decide +kernel) ⟨Nat.le_of_ble_eq_true rfl, Nat.le_of_ble_eq_true rfl⟩) rfl 0 yc_0 rfl (Nat.le_of_ble_eq_true rfl) ⟨Nat.zero_le _, Nat.zero_le _⟩ dX13_readSum_8 (fun r39 _ hw40 => ?_)
      rcases hw40 with ⟨rfl, q42⟩ | ⟨rfl, q43⟩
      · have b44 : (0 : Int) ≤ (Gj5 0 6).toInt ∧ (Gj5 0 6).toInt ≤ 4 := jI5 0 6
        have q42 : ((Gj5 0 6).toInt = 3 ∧ (Gj5 0 7).toInt = (43 : Int)) := q42
        refine v_if_ne F 23 dX13_readSum_11 (by decide) 1 rfl (fun c45 => ?_) (fun c45 => absurd c45 (by decide))
        have b46 : (0 : Int) ≤ (Gj5 0 5).toInt ∧ (Gj5 0 5).toInt ≤ 1000 := jI5 0 5
        exact J_23 () (by (first | omega | (simp only [Int32.reduceToInt, true_and, and_true, ne_eq, not_true_eq_false, false_and, or_false, false_or, true_or, or_true, false_implies] <;> omega))) (by have e9_0_3 : Gj5 0 3 = (G 0 3) := jU5 0 3 (by decide); (try simp only [e9_0_3, true_and, and_true]) <;> (first | omega | (simp only [Int32.reduceToInt, true_and, and_true, ne_eq, not_true_eq_false, false_and, or_false, false_or, true_or, or_true, false_implies] <;> omega))) (by (first | omega | (simp only [Int32.reduceToInt, true_and, and_true, ne_eq, not_true_eq_false, false_and, or_false, false_or, true_or, or_true, false_implies] <;> omega)))
      · have b47 : (0 : Int) ≤ (Gj5 0 6).toInt ∧ (Gj5 0 6).toInt ≤ 4 := jI5 0 6
        have q43 : ((Gj5 0 6).toInt ≠ 3 ∨ (Gj5 0 7).toInt ≠ (43 : Int)) := q43
        refine v_if_ne F 23 dX13_readSum_11 (by decide) 0 rfl (fun c48 => absurd c48 (by decide)) (fun c48 => ?_)
        refine g_aload_n F 0 dX13_readSum_14 rfl rfl ?_
        refine g_bipush F 45 dX13_readSum_15 (by decide) ?_
        refine u_callVi (k := 0) (n := 0) (b := a 0) (As := [.int 45]) (st := []) F (fun sz => S_X13_isSign l D K a Gj5 45 45 rfl jI5 sz) (cwV 1 hts (gT_left gX13_readSum_X13_isSign) rfl rfl rfl (by decide +kernel) ⟨Nat.le_of_ble_eq_true rfl, Nat.le_of_ble_eq_true rfl⟩) rfl 0 yc_0 rfl (Nat.le_of_ble_eq_true rfl) ⟨Nat.zero_le _, Nat.zero_le _⟩ dX13_readSum_17 (fun r49 _ hw50 => ?_)
        rcases hw50 with ⟨rfl, q52⟩ | ⟨rfl, q53⟩
        · have q52 : ((Gj5 0 6).toInt = 3 ∧ (Gj5 0 7).toInt = (45 : Int)) := q52
          refine v_if_eq F 46 dX13_readSum_20 (by decide) 1 rfl (fun c54 => absurd c54 (by decide)) (fun c54 => ?_)
          have b55 : (0 : Int) ≤ (Gj5 0 5).toInt ∧ (Gj5 0 5).toInt ≤ 1000 := jI5 0 5
          exact J_23 () (by (first | omega | (simp only [Int32.reduceToInt, true_and, and_true, ne_eq, not_true_eq_false, false_and, or_false, false_or, true_or, or_true, false_implies] <;> omega))) (by have e9_0_3 : Gj5 0 3 = (G 0 3) := jU5 0 3 (by decide); (try simp only [e9_0_3, true_and, and_true]) <;> (first | omega | (simp only [Int32.reduceToInt, true_and, and_true, ne_eq, not_true_eq_false, false_and, or_false, false_or, true_or, or_true, false_implies] <;> omega))) (by (first | omega | (simp only [Int32.reduceToInt, true_and, and_true, ne_eq, not_true_eq_false, false_and, or_false, false_or, true_or, or_true, false_implies] <;> omega)))
        · have q53 : ((Gj5 0 6).toInt ≠ 3 ∨ (Gj5 0 7).toInt ≠ (45 : Int)) := q53
          refine v_if_eq F 46 dX13_readSum_20 (by decide) 0 rfl (fun c56 => ?_) (fun c56 => absurd c56 (by decide))
          have b57 : (0 : Int) ≤ (Gj5 0 5).toInt ∧ (Gj5 0 5).toInt ≤ 1000 := jI5 0 5
          exact ux_vret F hA hQ hr Gj5 (⟨jI5, (gu_un.tr gu_un.rf (gu_un.su jU5 rfl)), (by show ((Gj5 0 5).toInt ≤ (G 0 3).toInt ∧ (G 0 5).toInt ≤ (Gj5 0 5).toInt ∧ ((Gj5 0 6).toInt = 0 ∨ (G 0 5).toInt < (Gj5 0 5).toInt)); (first | omega | (simp only [Int32.reduceToInt, true_and, and_true, ne_eq, not_true_eq_false, false_and, or_false, false_or, true_or, or_true, false_implies] <;> omega))), (sg5), (kp5)⟩) rfl rfl dX13_readSum_46
  refine g_aload_n F 0 dX13_readSum_0 rfl rfl ?_
  refine g_iload_n F 1 dX13_readSum_1 rfl rfl ?_
  refine uxz_callvv (k := 0) (n := 0) (b := a 0) (As := [.int 2]) (st := []) F yZ_st hZ (fun sz => S_X13_readProduct_v2 l D K a G qs vs  (by (first | omega | (simp only [Int32.reduceToInt, true_and, and_true, ne_eq, not_true_eq_false, false_and, or_false, false_or, true_or, or_true, false_implies] <;> omega))) (by (first | omega | (simp only [Int32.reduceToInt, true_and, and_true, ne_eq, not_true_eq_false, false_and, or_false, false_or, true_or, or_true, false_implies] <;> omega))) (m6) hI sz) (cwV 1 hts gT_X13_readSum_X13_readProduct rfl rfl rfl (by decide +kernel) ⟨Nat.le_of_ble_eq_true rfl, Nat.le_of_ble_eq_true rfl⟩) rfl 0 yc_0 rfl (Nat.le_of_ble_eq_true rfl) ⟨Nat.zero_le _, Nat.zero_le _⟩ dX13_readSum_2 hex hA hQ (fun u9 h9 => ⟨h9.1, gu_un.tr gu_un.rf (gu_un.su h9.2.1 rfl), (yKp.tr yKp.rf h9.2.2)⟩) (fun G60 hw59 => ?_)
  have hI61 : yI G60 := hw59.1
  have hU62 : gu_un ycd [5, 6, 7, 8, 9, 10, 22, 1000, 1100, 1200] G G60 := hw59.2.1
  have hp63 := hw59.2.2
  have b64 : (0 : Int) ≤ (G60 0 5).toInt ∧ (G60 0 5).toInt ≤ 1000 := hI61 0 5
  have b65 : (0 : Int) ≤ (G60 0 6).toInt ∧ (G60 0 6).toInt ≤ 4 := hI61 0 6
  have q66 : ((G60 0 5).toInt ≤ (G 0 3).toInt ∧ (G 0 5).toInt ≤ (G60 0 5).toInt ∧ ((G60 0 6).toInt = 0 ∨ (G 0 5).toInt < (G60 0 5).toInt)) := hp63.1
  have q67 : ySg 4 (G 0 20).toInt G G60 := hp63.2.1
  have q68 : yKp G G60 := hp63.2.2
  have kp69 : yKp G G60 := yKp.tr yKp.rf q68
  have sg70 : ySg 4 (G 0 20).toInt G G60 := q67
  exact J_5 _ G60 (Nat.lt_succ_self _) hI61 (gu_un.tr gu_un.rf (gu_un.su hU62 rfl)) (sg70) (kp69) (by have e9_0_3 : G60 0 3 = (G 0 3) := hU62 0 3 (by decide); (try simp only [e9_0_3, true_and, and_true]) <;> (first | omega | (simp only [Int32.reduceToInt, true_and, and_true, ne_eq, not_true_eq_false, false_and, or_false, false_or, true_or, or_true, false_implies] <;> omega))) (by (first | omega | (simp only [Int32.reduceToInt, true_and, and_true, ne_eq, not_true_eq_false, false_and, or_false, false_or, true_or, or_true, false_implies] <;> omega)))
