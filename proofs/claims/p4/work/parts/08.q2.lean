
set_option maxHeartbeats 4000000 in
set_option maxRecDepth 100000 in
theorem S_X13_readFactor_v2 (l : Launch) (D : va_G) (K : Nat → ClassId) (a : Nat → Nat) (G : gS) (qs vs : Nat → Nat) (pb : ((G 0 5).toInt ≤ (G 0 3).toInt)) (s35 : (3 ≤ (G 0 20).toInt)) (m6 : ((G 12 ((G 0 20).toInt).toNat).toInt ≤ 6 * (G 0 21).toInt)) (hI : yI G) (sz : Nat) : KxvZ (yZ qs vs) l yX13_readFactor wsT_X13_readFactor 13 303 D [.ref (a 0), .int 2] (yW K a G) (tK K) sz (fun (G' : gS) => (yI G') ∧ (gu_un ycd [5, 6, 7, 8, 9, 10, 22, 1000, 1100, 1200] G G') ∧ (((G' 0 5).toInt ≤ (G 0 3).toInt ∧ (G 0 5).toInt ≤ (G' 0 5).toInt ∧ ((G' 0 6).toInt = 0 ∨ (G 0 5).toInt < (G' 0 5).toInt))) ∧ (ySg 4 (G 0 20).toInt G G') ∧ (yKp G G') ∧ (ySim cA ((G 0 20).toInt - 3).toNat (qW 2 (G 0 21).toInt (mL (G 0 20).toInt G)) (qF 2 (G' 0 21).toInt (mL (G 0 20).toInt G')) G G')) (fun (G' : gS) => (yI G') ∧ (gu_un ycd [5, 6, 7, 8, 9, 10, 22, 1000, 1100, 1200] G G') ∧ (yKp G G') ∧ (yThr cA ((G 0 20).toInt - 3).toNat (qW 2 (G 0 21).toInt (mL (G 0 20).toInt G)) G G') ∧ (((G' 0 8).toInt ≠ 0))) (a 1) (fun (G' : gS) => (yW K a G')) := by
  unfold KxvZ
  refine gxz_ofW (cc := cX13_readFactor) (lv := [(0, .ref (a 0)), (1, .int 2)]) (by decide) rfl (Nat.le_of_ble_eq_true rfl) rfl ?_
  intro p e s m args below meth c A Q hA hQ hZ F hr hex
  have hts := F.2.2.2.2.1
  have w_0 : (Cond.fieldLink RX13 134 "QuietCutModel" "parts" "I").before args s = true := hts _ (List.mem_of_getElem? (i := 2) rfl)
  have i_X13 : ∀ w ∈ u_ws RX13 TX13 73, w ∈ wsT_X13_readFactor := fun w h => List.mem_append_left _ ((show ∀ w ∈ u_ws RX13 TX13 73, w ∈ wsX13_readFactor from fun _ h => List.mem_cons_of_mem _ (List.mem_append_right _ h)) w h)
  have w_1 : (Cond.fieldLink RX13 31 "QuietCutModel" "hand" "I").before args s = true := hts _ (List.mem_of_getElem? (i := 1) rfl)
  have w_2 : (Cond.fieldLink RX13 41 "QuietCutModel" "value" "I").before args s = true := hts _ (List.mem_of_getElem? (i := 3) rfl)
  have b1 : (0 : Int) ≤ (G 0 3).toInt ∧ (G 0 3).toInt ≤ 1000 := hI 0 3
  have b2 : (0 : Int) ≤ (G 0 5).toInt ∧ (G 0 5).toInt ≤ 1000 := hI 0 5
  have b3 : (0 : Int) ≤ (G 0 6).toInt ∧ (G 0 6).toInt ≤ 4 := hI 0 6
  have b4 : (0 : Int) ≤ (G 0 20).toInt ∧ (G 0 20).toInt ≤ 5 := hI 0 20
  have b5 : (0 : Int) ≤ (G 0 21).toInt ∧ (G 0 21).toInt ≤ 12 := hI 0 21
  refine g_aload_n F 0 dX13_readFactor_0 rfl rfl ?_
  refine g_bipush F 45 dX13_readFactor_1 (by decide) ?_
  refine u_callVi (k := 0) (n := 0) (b := a 0) (As := [.int 45]) (st := []) F (fun sz => S_X13_isSign l D K a G 45 45 rfl hI sz) (cwV 1 hts (gT_left gX13_readFactor_X13_isSign) rfl rfl rfl (by decide +kernel) ⟨Nat.le_of_ble_eq_true rfl, Nat.le_of_ble_eq_true rfl⟩) rfl 0 yc_0 rfl (Nat.le_of_ble_eq_true rfl) ⟨Nat.zero_le _, Nat.zero_le _⟩ dX13_readFactor_3 (fun r6 _ hw7 => ?_)
  rcases hw7 with ⟨rfl, q9⟩ | ⟨rfl, q10⟩
  · have b11 : (0 : Int) ≤ (G 0 7).toInt ∧ (G 0 7).toInt ≤ 9999 := hI 0 7
    have q9 : ((G 0 6).toInt = 3 ∧ (G 0 7).toInt = (45 : Int)) := q9
    refine g_istore_n F [(2, .int 1), (0, .ref (a 0)), (1, .int 2)] dX13_readFactor_6 rfl (by decide) rfl ?_
    refine g_iload_n F 0 dX13_readFactor_7 rfl rfl ?_
    refine v_if_ne F 20 dX13_readFactor_8 (by decide) 1 rfl (fun c12 => ?_) (fun c12 => absurd c12 (by decide))
    refine g_aload_n F 1 dX13_readFactor_20 rfl rfl ?_
    refine g_iload_n F 2 dX13_readFactor_21 rfl rfl ?_
    refine g_iconst F 4 dX13_readFactor_22 (by decide) ?_
    refine v_icmp_ge F 30 dX13_readFactor_23 (by decide) 2 4 rfl rfl (fun c13 => absurd c13 (by decide)) (fun c13 => ?_)
    refine g_iconst F 1 dX13_readFactor_26 (by decide) ?_
    refine g_goto F 31 dX13_readFactor_27 (by decide) ?_
    refine g_iconst F 4 dX13_readFactor_31 (by decide) ?_
    refine ux_callvv (k := 0) (n := 0) (b := a 0) (As := [.int 1, .int 4]) (st := []) F (fun sz => S_X13_need l D K a G 1 1 4 4 rfl (by decide) rfl hI sz) (cwV 2 hts gT_X13_readFactor_X13_need rfl rfl rfl (by decide +kernel) ⟨Nat.le_of_ble_eq_true rfl, Nat.le_of_ble_eq_true rfl⟩) rfl 0 yc_0 rfl (Nat.le_of_ble_eq_true rfl) ⟨Nat.zero_le _, Nat.zero_le _⟩ dX13_readFactor_32 hex hA hQ (fun u9 h9 => ⟨h9.1, gu_un.tr gu_un.rf (gu_un.su h9.2.1 rfl), (yKp.un yKp.rf h9.2.1 rfl), (absurd h9.2.2.1 (by decide)), (absurd h9.2.2.1 (by decide))⟩) (fun G16 hw15 => ?_)
    have hI17 : yI G16 := hw15.1
    have hU18 : gu_un ycd [9, 10] G G16 := hw15.2.1
    have hp19 := hw15.2.2
    have q20 : ((1 : Int) ≠ 0) := hp19
    clear hp19 hw15
    refine g_aload_n F 1 dX13_readFactor_35 rfl rfl ?_
    refine u_callVv (k := 0) (n := 0) (b := a 0) (As := []) (st := []) F (fun sz => S_X13_scan l D K a G16  (by have e9_0_3 : G16 0 3 = (G 0 3) := hU18 0 3 (by decide); have e9_0_5 : G16 0 5 = (G 0 5) := hU18 0 5 (by decide); (try simp only [e9_0_3, e9_0_5, true_and, and_true]) <;> (first | omega | (simp only [Int32.reduceToInt, true_and, and_true, ne_eq, not_true_eq_false, false_and, or_false, false_or, true_or, or_true, false_implies] <;> omega))) hI17 sz) (cwV 0 hts (gT_left gX13_readFactor_X13_scan) rfl rfl rfl (by decide +kernel) ⟨Nat.le_of_ble_eq_true rfl, Nat.le_of_ble_eq_true rfl⟩) rfl 0 yc_0 rfl (Nat.le_of_ble_eq_true rfl) ⟨Nat.zero_le _, Nat.zero_le _⟩ dX13_readFactor_36 (fun G23 hw22 => ?_)
    have hI24 : yI G23 := hw22.1
    have hU25 : gu_un ycd [5, 6, 7, 8] G16 G23 := hw22.2.1
    have hp26 := hw22.2.2
    have b27 : (0 : Int) ≤ (G23 0 5).toInt ∧ (G23 0 5).toInt ≤ 1000 := hI24 0 5
    have b28 : (0 : Int) ≤ (G23 0 4).toInt ∧ (G23 0 4).toInt ≤ 1000 := hI24 0 4
    have q29 : ((G23 0 5).toInt ≤ (G 0 3).toInt ∧ (G 0 5).toInt ≤ (G23 0 4).toInt ∧ (G23 0 4).toInt ≤ (G23 0 5).toInt) := by have h9 := hp26.1; (try simp only [(show G16 0 3 = (G 0 3) from hU18 0 3 (by decide)), (show G16 0 5 = (G 0 5) from hU18 0 5 (by decide))] at h9); first | exact h9 | omega
    have b30 : (0 : Int) ≤ (G23 0 6).toInt ∧ (G23 0 6).toInt ≤ 4 := hI24 0 6
    have q31 : (((G23 0 6).toInt = 0 ∧ (G23 0 4).toInt = (G 0 3).toInt) ∨ ((G23 0 6).toInt ≠ 0 ∧ (G23 0 4).toInt < (G23 0 5).toInt)) := by have h9 := hp26.2.1; (try simp only [(show G16 0 3 = (G 0 3) from hU18 0 3 (by decide))] at h9); first | exact h9 | omega
    have b32 : (0 : Int) ≤ (G23 0 7).toInt ∧ (G23 0 7).toInt ≤ 9999 := hI24 0 7
    have q33 : tTok (G 2) (G 0 3).toInt (G 0 5).toInt (G23 0 6).toInt (G23 0 4).toInt (G23 0 7).toInt (G23 0 5).toInt := by have h9 := hp26.2.2; (try simp only [(show G16 0 3 = (G 0 3) from hU18 0 3 (by decide)), (show G16 0 5 = (G 0 5) from hU18 0 5 (by decide)), (show G16 2 = (G 2) from (show G16 2 = G 2 from funext fun k_ => hU18 2 k_ (show (200 : Nat) ∉ ([9, 10] : List Nat) by decide)))] at h9); first | exact h9 | omega
    clear hp26 hw22
    refine g_iload_n F 0 dX13_readFactor_39 rfl rfl ?_
    refine v_if_eq F 60 dX13_readFactor_40 (by decide) 1 rfl (fun c34 => absurd c34 (by decide)) (fun c34 => ?_)
    refine g_aload_n F 1 dX13_readFactor_43 rfl rfl ?_
    refine g_iload_n F 2 dX13_readFactor_44 rfl rfl ?_
    refine g_iconst F 1 dX13_readFactor_45 (by decide) ?_
    refine g_iadd F dX13_readFactor_46 ?_
    refine g_fold 3 (by decide) ?_
    refine uxz_callvv (k := 0) (n := 0) (b := a 0) (As := [.int 3]) (st := []) F yZ_st hZ (fun sz => S_X13_readFactor_v3 l D K a G23 qs vs  (by have e9_0_3 : G23 0 3 = (G 0 3) := (hU25 0 3 (by decide)).trans (hU18 0 3 (by decide)); (try simp only [e9_0_3, true_and, and_true]) <;> (first | omega | (simp only [Int32.reduceToInt, true_and, and_true, ne_eq, not_true_eq_false, false_and, or_false, false_or, true_or, or_true, false_implies] <;> omega))) (by have e9_0_20 : G23 0 20 = (G 0 20) := (hU25 0 20 (by decide)).trans (hU18 0 20 (by decide)); (try simp only [e9_0_20, true_and, and_true]) <;> (first | omega | (simp only [Int32.reduceToInt, true_and, and_true, ne_eq, not_true_eq_false, false_and, or_false, false_or, true_or, or_true, false_implies] <;> omega))) (by rw [show G23 0 20 = G 0 20 from (hU25 0 20 (by decide)).trans (hU18 0 20 (by decide))]; exact (y_m6 m6 (show gu_un ycd [5, 6, 7, 8, 9, 10] G G23 from (gu_un.tr (gu_un.tr gu_un.rf (gu_un.su hU18 rfl)) (gu_un.su hU25 rfl))) rfl rfl)) hI24 sz) (cwV 1 hts gT_X13_readFactor_X13_readFactor rfl rfl rfl (by decide +kernel) ⟨Nat.le_of_ble_eq_true rfl, Nat.le_of_ble_eq_true rfl⟩) rfl 0 yc_0 rfl (Nat.le_of_ble_eq_true rfl) ⟨Nat.zero_le _, Nat.zero_le _⟩ dX13_readFactor_47 hex hA hQ (fun u9 h9 => ⟨h9.1, gu_un.tr (gu_un.tr (gu_un.tr gu_un.rf (gu_un.su hU18 rfl)) (gu_un.su hU25 rfl)) (gu_un.su h9.2.1 rfl), (yKp.tr (yKp.un yKp.rf (show gu_un ycd [5, 6, 7, 8, 9, 10] G G23 from (gu_un.tr (gu_un.tr gu_un.rf (gu_un.su hU18 rfl)) (gu_un.su hU25 rfl))) rfl) h9.2.2.1), (by have h9 := h9.2.2.2.1; (try rw [show G23 0 20 = (G 0 20) from (hU25 0 20 (by decide)).trans (hU18 0 20 (by decide))] at h9); (try rw [show G23 0 21 = (G 0 21) from (hU25 0 21 (by decide)).trans (hU18 0 21 (by decide))] at h9); exact yF_negT (show yStp [9, 10] G G16 G23 from ⟨(show gu_un ycd [9, 10] G G16 from (gu_un.tr gu_un.rf (gu_un.su hU18 rfl))), rfl, by (try rw [show G16 2 = (G 2) from (show G16 2 = G 2 from funext fun k_ => hU18 2 k_ (show (200 : Nat) ∉ ([9, 10] : List Nat) by decide))]); (try rw [show G16 0 3 = (G 0 3) from hU18 0 3 (by decide)]); (try rw [show G16 0 5 = (G 0 5) from hU18 0 5 (by decide)]); exact q33, funext fun k_ => hU25 2 k_ (by simp [ycd]), hU25 0 3 (by decide)⟩) (by omega) (by omega) (by decide) (by decide) h9 rfl (mL_un (show gu_un ycd [5, 6, 7, 8, 9, 10] G G23 from (gu_un.tr (gu_un.tr gu_un.rf (gu_un.su hU18 rfl)) (gu_un.su hU25 rfl))) rfl)), (h9.2.2.2.2)⟩) (fun G37 hw36 => ?_)
    have hI38 : yI G37 := hw36.1
    have hU39 : gu_un ycd [5, 6, 7, 8, 9, 10, 22, 1000, 1100, 1200] G23 G37 := hw36.2.1
    have hp40 := hw36.2.2
    have b41 : (0 : Int) ≤ (G37 0 5).toInt ∧ (G37 0 5).toInt ≤ 1000 := hI38 0 5
    have b42 : (0 : Int) ≤ (G37 0 6).toInt ∧ (G37 0 6).toInt ≤ 4 := hI38 0 6
    have q43 : ((G37 0 5).toInt ≤ (G 0 3).toInt ∧ (G23 0 5).toInt ≤ (G37 0 5).toInt ∧ ((G37 0 6).toInt = 0 ∨ (G23 0 5).toInt < (G37 0 5).toInt)) := by have h9 := hp40.1; (try simp only [(show G23 0 3 = (G 0 3) from (hU25 0 3 (by decide)).trans (hU18 0 3 (by decide)))] at h9); first | exact h9 | omega
    have q44 : ySg 3 (G 0 20).toInt G23 G37 := by have h9 := hp40.2.1; (try simp only [(show G23 0 20 = (G 0 20) from (hU25 0 20 (by decide)).trans (hU18 0 20 (by decide)))] at h9); first | exact h9 | omega
    have q45 : yKp G23 G37 := hp40.2.2.1
    have b46 : (0 : Int) ≤ (G37 0 21).toInt ∧ (G37 0 21).toInt ≤ 12 := hI38 0 21
    have q47 : ySim cA ((G 0 20).toInt - 3).toNat (qW 3 (G 0 21).toInt (mL (G 0 20).toInt G23)) (qF 3 (G37 0 21).toInt (mL (G 0 20).toInt G37)) G23 G37 := by have h9 := hp40.2.2.2; (try simp only [(show G23 0 20 = (G 0 20) from (hU25 0 20 (by decide)).trans (hU18 0 20 (by decide))), (show G23 0 21 = (G 0 21) from (hU25 0 21 (by decide)).trans (hU18 0 21 (by decide))), (show G23 0 20 = (G 0 20) from (hU25 0 20 (by decide)).trans (hU18 0 20 (by decide))), (show G23 0 20 = (G 0 20) from (hU25 0 20 (by decide)).trans (hU18 0 20 (by decide)))] at h9); first | exact h9 | omega
    have kp48 : yKp G G37 := yKp.tr (yKp.un yKp.rf (show gu_un ycd [5, 6, 7, 8, 9, 10] G G23 from (gu_un.tr (gu_un.tr gu_un.rf (gu_un.su hU18 rfl)) (gu_un.su hU25 rfl))) rfl) q45
    have sg49 : ySg 3 (G 0 20).toInt G G37 := ySg.un0 q44 (show gu_un ycd [5, 6, 7, 8, 9, 10] G G23 from (gu_un.tr (gu_un.tr gu_un.rf (gu_un.su hU18 rfl)) (gu_un.su hU25 rfl))) rfl rfl
    clear hp40 hw36
    refine g_aload_n F 1 dX13_readFactor_50 rfl rfl ?_
    refine g_iconst F 2 dX13_readFactor_51 (by decide) ?_
    refine g_bipush F 33 dX13_readFactor_52 (by decide) ?_
    refine u_callVv (k := 0) (n := 0) (b := a 0) (As := [.int 2, .int 33]) (st := []) F (fun sz => S_X13_mark l D K a G37 2 2 33 33 rfl (by decide) rfl (by decide) (by rw [show G37 0 20 = G 0 20 from (hU39 0 20 (by decide)).trans ((hU25 0 20 (by decide)).trans (hU18 0 20 (by decide)))]; have h9 : (G37 12 ((G 0 20).toInt).toNat).toInt ≤ 6 * (G37 0 21).toInt := (ySg.m6 (c := 3) sg49 (by decide) (by decide) m6); have h8 : (0 : Int) ≤ (G37 0 21).toInt ∧ (G37 0 21).toInt ≤ 12 := hI38 0 21; show (G37 12 ((G 0 20).toInt).toNat).toInt ≤ 79; omega) hI38 sz) (cwV 2 hts (gT_left gX13_readFactor_X13_mark) rfl rfl rfl (by decide +kernel) ⟨Nat.le_of_ble_eq_true rfl, Nat.le_of_ble_eq_true rfl⟩) rfl 0 yc_0 rfl (Nat.le_of_ble_eq_true rfl) ⟨Nat.zero_le _, Nat.zero_le _⟩ dX13_readFactor_54 (fun G52 hw51 => ?_)
    have hI53 : yI G52 := hw51.1
    have hU54 : gu_un ycd [1000, 1100, 1200] G37 G52 := hw51.2.1
    have hp55 := hw51.2.2
    have q56 : yMk 2 33 (G 0 20).toInt G37 G52 := by have h9 := hp55; (try simp only [(show G37 0 20 = (G 0 20) from (hU39 0 20 (by decide)).trans ((hU25 0 20 (by decide)).trans (hU18 0 20 (by decide))))] at h9); first | exact h9 | omega
    have m0 : 0 ≤ (G 12 ((G 0 20).toInt).toNat).toInt := (show (0 : Int) ≤ (G 12 ((G 0 20).toInt).toNat).toInt ∧ (G 12 ((G 0 20).toInt).toNat).toInt ≤ 80 from hI 12 _).1
    have m1 : 0 ≤ (G37 12 ((G 0 20).toInt).toNat).toInt := (show (0 : Int) ≤ (G37 12 ((G 0 20).toInt).toNat).toInt ∧ (G37 12 ((G 0 20).toInt).toNat).toInt ≤ 80 from hI38 12 _).1
    have kp57 : yKp G G52 := yKp.tr kp48 (q56.kp (by omega) m1)
    have sg58 : ySg 4 (G 0 20).toInt G G52 := ySg.neg sg49 q56 (by decide) (by decide) (by decide) (by decide) (by omega) m0 (by have h9 : (G37 12 ((G 0 20).toInt).toNat).toInt ≤ 6 * (G37 0 21).toInt := (ySg.m6 (c := 3) sg49 (by decide) (by decide) m6); have h8 : (0 : Int) ≤ (G37 0 21).toInt ∧ (G37 0 21).toInt ≤ 12 := hI38 0 21; omega)
    clear hp55 hw51
    refine g_goto F 82 dX13_readFactor_57 (by decide) ?_
    exact ux_vret F hA hQ hr G52 (⟨hI53, (gu_un.tr (gu_un.tr (gu_un.tr (gu_un.tr gu_un.rf (gu_un.su hU18 rfl)) (gu_un.su hU25 rfl)) (gu_un.su hU39 rfl)) (gu_un.su hU54 rfl)), (by show ((G52 0 5).toInt ≤ (G 0 3).toInt ∧ (G 0 5).toInt ≤ (G52 0 5).toInt ∧ ((G52 0 6).toInt = 0 ∨ (G 0 5).toInt < (G52 0 5).toInt)); have e9_0_5 : G52 0 5 = (G37 0 5) := hU54 0 5 (by decide); have e9_0_6 : G52 0 6 = (G37 0 6) := hU54 0 6 (by decide); (try simp only [e9_0_5, e9_0_6, true_and, and_true]) <;> (first | omega | (simp only [Int32.reduceToInt, true_and, and_true, ne_eq, not_true_eq_false, false_and, or_false, false_or, true_or, or_true, false_implies] <;> omega))), (sg58), (kp57), (yF_neg (show yStp [9, 10] G G16 G23 from ⟨(show gu_un ycd [9, 10] G G16 from (gu_un.tr gu_un.rf (gu_un.su hU18 rfl))), rfl, by (try rw [show G16 2 = (G 2) from (show G16 2 = G 2 from funext fun k_ => hU18 2 k_ (show (200 : Nat) ∉ ([9, 10] : List Nat) by decide))]); (try rw [show G16 0 3 = (G 0 3) from hU18 0 3 (by decide)]); (try rw [show G16 0 5 = (G 0 5) from hU18 0 5 (by decide)]); exact q33, funext fun k_ => hU25 2 k_ (by simp [ycd]), hU25 0 3 (by decide)⟩) (by omega) (by omega) (by decide) (by decide) q47 rfl (mL_un (show gu_un ycd [5, 6, 7, 8, 9, 10] G G23 from (gu_un.tr (gu_un.tr gu_un.rf (gu_un.su hU18 rfl)) (gu_un.su hU25 rfl))) rfl) (show gu_un ycd _ _ G52 from (show gu_un ycd [1000, 1100, 1200] G37 G52 from (gu_un.tr gu_un.rf (gu_un.su hU54 rfl)))) rfl (by rw [q56.ml (by omega) (show (0 : Int) ≤ (G37 12 ((G 0 20).toInt).toNat).toInt from (hI38 12 _).1), mEn_3 (by decide) (by decide)]))⟩) rfl rfl dX13_readFactor_82
  · have b59 : (0 : Int) ≤ (G 0 7).toInt ∧ (G 0 7).toInt ≤ 9999 := hI 0 7
    have q10 : ((G 0 6).toInt ≠ 3 ∨ (G 0 7).toInt ≠ (45 : Int)) := q10
    refine g_istore_n F [(2, .int 0), (0, .ref (a 0)), (1, .int 2)] dX13_readFactor_6 rfl (by decide) rfl ?_
    refine g_iload_n F 0 dX13_readFactor_7 rfl rfl ?_
    refine v_if_ne F 20 dX13_readFactor_8 (by decide) 0 rfl (fun c60 => absurd c60 (by decide)) (fun c60 => ?_)
    refine g_aload_n F 1 dX13_readFactor_11 rfl rfl ?_
    refine g_bipush F 40 dX13_readFactor_12 (by decide) ?_
    refine u_callVi (k := 0) (n := 0) (b := a 0) (As := [.int 40]) (st := []) F (fun sz => S_X13_isSign l D K a G 40 40 rfl hI sz) (cwV 1 hts (gT_left gX13_readFactor_X13_isSign) rfl rfl rfl (by decide +kernel) ⟨Nat.le_of_ble_eq_true rfl, Nat.le_of_ble_eq_true rfl⟩) rfl 0 yc_0 rfl (Nat.le_of_ble_eq_true rfl) ⟨Nat.zero_le _, Nat.zero_le _⟩ dX13_readFactor_14 (fun r61 _ hw62 => ?_)
    rcases hw62 with ⟨rfl, q64⟩ | ⟨rfl, q65⟩
    · have q64 : ((G 0 6).toInt = 3 ∧ (G 0 7).toInt = (40 : Int)) := q64
      refine v_if_eq F 83 dX13_readFactor_17 (by decide) 1 rfl (fun c66 => absurd c66 (by decide)) (fun c66 => ?_)
      refine g_aload_n F 1 dX13_readFactor_20 rfl rfl ?_
      refine g_iload_n F 2 dX13_readFactor_21 rfl rfl ?_
      refine g_iconst F 4 dX13_readFactor_22 (by decide) ?_
      refine v_icmp_ge F 30 dX13_readFactor_23 (by decide) 2 4 rfl rfl (fun c67 => absurd c67 (by decide)) (fun c67 => ?_)
      refine g_iconst F 1 dX13_readFactor_26 (by decide) ?_
      refine g_goto F 31 dX13_readFactor_27 (by decide) ?_
      refine g_iconst F 4 dX13_readFactor_31 (by decide) ?_
      refine ux_callvv (k := 0) (n := 0) (b := a 0) (As := [.int 1, .int 4]) (st := []) F (fun sz => S_X13_need l D K a G 1 1 4 4 rfl (by decide) rfl hI sz) (cwV 2 hts gT_X13_readFactor_X13_need rfl rfl rfl (by decide +kernel) ⟨Nat.le_of_ble_eq_true rfl, Nat.le_of_ble_eq_true rfl⟩) rfl 0 yc_0 rfl (Nat.le_of_ble_eq_true rfl) ⟨Nat.zero_le _, Nat.zero_le _⟩ dX13_readFactor_32 hex hA hQ (fun u9 h9 => ⟨h9.1, gu_un.tr gu_un.rf (gu_un.su h9.2.1 rfl), (yKp.un yKp.rf h9.2.1 rfl), (absurd h9.2.2.1 (by decide)), (absurd h9.2.2.1 (by decide))⟩) (fun G70 hw69 => ?_)
      have hI71 : yI G70 := hw69.1
      have hU72 : gu_un ycd [9, 10] G G70 := hw69.2.1
      have hp73 := hw69.2.2
      have q74 : ((1 : Int) ≠ 0) := hp73
      clear hp73 hw69
      refine g_aload_n F 1 dX13_readFactor_35 rfl rfl ?_
      refine u_callVv (k := 0) (n := 0) (b := a 0) (As := []) (st := []) F (fun sz => S_X13_scan l D K a G70  (by have e9_0_3 : G70 0 3 = (G 0 3) := hU72 0 3 (by decide); have e9_0_5 : G70 0 5 = (G 0 5) := hU72 0 5 (by decide); (try simp only [e9_0_3, e9_0_5, true_and, and_true]) <;> (first | omega | (simp only [Int32.reduceToInt, true_and, and_true, ne_eq, not_true_eq_false, false_and, or_false, false_or, true_or, or_true, false_implies] <;> omega))) hI71 sz) (cwV 0 hts (gT_left gX13_readFactor_X13_scan) rfl rfl rfl (by decide +kernel) ⟨Nat.le_of_ble_eq_true rfl, Nat.le_of_ble_eq_true rfl⟩) rfl 0 yc_0 rfl (Nat.le_of_ble_eq_true rfl) ⟨Nat.zero_le _, Nat.zero_le _⟩ dX13_readFactor_36 (fun G77 hw76 => ?_)
      have hI78 : yI G77 := hw76.1
      have hU79 : gu_un ycd [5, 6, 7, 8] G70 G77 := hw76.2.1
      have hp80 := hw76.2.2
      have b81 : (0 : Int) ≤ (G77 0 5).toInt ∧ (G77 0 5).toInt ≤ 1000 := hI78 0 5
      have b82 : (0 : Int) ≤ (G77 0 4).toInt ∧ (G77 0 4).toInt ≤ 1000 := hI78 0 4
      have q83 : ((G77 0 5).toInt ≤ (G 0 3).toInt ∧ (G 0 5).toInt ≤ (G77 0 4).toInt ∧ (G77 0 4).toInt ≤ (G77 0 5).toInt) := by have h9 := hp80.1; (try simp only [(show G70 0 3 = (G 0 3) from hU72 0 3 (by decide)), (show G70 0 5 = (G 0 5) from hU72 0 5 (by decide))] at h9); first | exact h9 | omega
      have b84 : (0 : Int) ≤ (G77 0 6).toInt ∧ (G77 0 6).toInt ≤ 4 := hI78 0 6
      have q85 : (((G77 0 6).toInt = 0 ∧ (G77 0 4).toInt = (G 0 3).toInt) ∨ ((G77 0 6).toInt ≠ 0 ∧ (G77 0 4).toInt < (G77 0 5).toInt)) := by have h9 := hp80.2.1; (try simp only [(show G70 0 3 = (G 0 3) from hU72 0 3 (by decide))] at h9); first | exact h9 | omega
      have b86 : (0 : Int) ≤ (G77 0 7).toInt ∧ (G77 0 7).toInt ≤ 9999 := hI78 0 7
      have q87 : tTok (G 2) (G 0 3).toInt (G 0 5).toInt (G77 0 6).toInt (G77 0 4).toInt (G77 0 7).toInt (G77 0 5).toInt := by have h9 := hp80.2.2; (try simp only [(show G70 0 3 = (G 0 3) from hU72 0 3 (by decide)), (show G70 0 5 = (G 0 5) from hU72 0 5 (by decide)), (show G70 2 = (G 2) from (show G70 2 = G 2 from funext fun k_ => hU72 2 k_ (show (200 : Nat) ∉ ([9, 10] : List Nat) by decide)))] at h9); first | exact h9 | omega
      clear hp80 hw76
      refine g_iload_n F 0 dX13_readFactor_39 rfl rfl ?_
      refine v_if_eq F 60 dX13_readFactor_40 (by decide) 0 rfl (fun c88 => ?_) (fun c88 => absurd c88 (by decide))
      refine g_aload_n F 1 dX13_readFactor_60 rfl rfl ?_
      refine g_iload_n F 2 dX13_readFactor_61 rfl rfl ?_
      refine g_iconst F 1 dX13_readFactor_62 (by decide) ?_
      refine g_iadd F dX13_readFactor_63 ?_
      refine g_fold 3 (by decide) ?_
      refine uxz_callvv (k := 0) (n := 0) (b := a 0) (As := [.int 3]) (st := []) F yZ_st hZ (fun sz => S_X13_readSum_v3 l D K a G77 qs vs  (by have e9_0_3 : G77 0 3 = (G 0 3) := (hU79 0 3 (by decide)).trans (hU72 0 3 (by decide)); (try simp only [e9_0_3, true_and, and_true]) <;> (first | omega | (simp only [Int32.reduceToInt, true_and, and_true, ne_eq, not_true_eq_false, false_and, or_false, false_or, true_or, or_true, false_implies] <;> omega))) (by have e9_0_20 : G77 0 20 = (G 0 20) := (hU79 0 20 (by decide)).trans (hU72 0 20 (by decide)); (try simp only [e9_0_20, true_and, and_true]) <;> (first | omega | (simp only [Int32.reduceToInt, true_and, and_true, ne_eq, not_true_eq_false, false_and, or_false, false_or, true_or, or_true, false_implies] <;> omega))) (by rw [show G77 0 20 = G 0 20 from (hU79 0 20 (by decide)).trans (hU72 0 20 (by decide))]; exact (y_m6 m6 (show gu_un ycd [5, 6, 7, 8, 9, 10] G G77 from (gu_un.tr (gu_un.tr gu_un.rf (gu_un.su hU72 rfl)) (gu_un.su hU79 rfl))) rfl rfl)) hI78 sz) (cwV 1 hts gT_X13_readFactor_X13_readSum rfl rfl rfl (by decide +kernel) ⟨Nat.le_of_ble_eq_true rfl, Nat.le_of_ble_eq_true rfl⟩) rfl 0 yc_0 rfl (Nat.le_of_ble_eq_true rfl) ⟨Nat.zero_le _, Nat.zero_le _⟩ dX13_readFactor_64 hex hA hQ (fun u9 h9 => ⟨h9.1, gu_un.tr (gu_un.tr (gu_un.tr gu_un.rf (gu_un.su hU72 rfl)) (gu_un.su hU79 rfl)) (gu_un.su h9.2.1 rfl), (yKp.tr (yKp.un yKp.rf (show gu_un ycd [5, 6, 7, 8, 9, 10] G G77 from (gu_un.tr (gu_un.tr gu_un.rf (gu_un.su hU72 rfl)) (gu_un.su hU79 rfl))) rfl) h9.2.2.1), (by have h9 := h9.2.2.2.1; (try rw [show G77 0 20 = (G 0 20) from (hU79 0 20 (by decide)).trans (hU72 0 20 (by decide))] at h9); (try rw [show G77 0 21 = (G 0 21) from (hU79 0 21 (by decide)).trans (hU72 0 21 (by decide))] at h9); rw [show mL (G 0 20).toInt G77 = mL (G 0 20).toInt G from (mL_un (show gu_un ycd [5, 6, 7, 8, 9, 10] G G77 from (gu_un.tr (gu_un.tr gu_un.rf (gu_un.su hU72 rfl)) (gu_un.su hU79 rfl))) rfl)] at h9; exact yF_sumT (yF_open (o' := 3) (show yStp [9, 10] G G70 G77 from ⟨(show gu_un ycd [9, 10] G G70 from (gu_un.tr gu_un.rf (gu_un.su hU72 rfl))), rfl, by (try rw [show G70 2 = (G 2) from (show G70 2 = G 2 from funext fun k_ => hU72 2 k_ (show (200 : Nat) ∉ ([9, 10] : List Nat) by decide))]); (try rw [show G70 0 3 = (G 0 3) from hU72 0 3 (by decide)]); (try rw [show G70 0 5 = (G 0 5) from hU72 0 5 (by decide)]); exact q87, funext fun k_ => hU79 2 k_ (by simp [ycd]), hU79 0 3 (by decide)⟩) (by omega) (by omega) (by decide) (by decide)) h9), (h9.2.2.2.2)⟩) (fun G91 hw90 => ?_)
      have hI92 : yI G91 := hw90.1
      have hU93 : gu_un ycd [5, 6, 7, 8, 9, 10, 22, 1000, 1100, 1200] G77 G91 := hw90.2.1
      have hp94 := hw90.2.2
      have b95 : (0 : Int) ≤ (G91 0 5).toInt ∧ (G91 0 5).toInt ≤ 1000 := hI92 0 5
      have b96 : (0 : Int) ≤ (G91 0 6).toInt ∧ (G91 0 6).toInt ≤ 4 := hI92 0 6
      have q97 : ((G91 0 5).toInt ≤ (G 0 3).toInt ∧ (G77 0 5).toInt ≤ (G91 0 5).toInt ∧ ((G91 0 6).toInt = 0 ∨ (G77 0 5).toInt < (G91 0 5).toInt)) := by have h9 := hp94.1; (try simp only [(show G77 0 3 = (G 0 3) from (hU79 0 3 (by decide)).trans (hU72 0 3 (by decide)))] at h9); first | exact h9 | omega
      have q98 : ySg 3 (G 0 20).toInt G77 G91 := by have h9 := hp94.2.1; (try simp only [(show G77 0 20 = (G 0 20) from (hU79 0 20 (by decide)).trans (hU72 0 20 (by decide)))] at h9); first | exact h9 | omega
      have q99 : yKp G77 G91 := hp94.2.2.1
      have b100 : (0 : Int) ≤ (G91 0 21).toInt ∧ (G91 0 21).toInt ≤ 12 := hI92 0 21
      have q101 : ySim cS ((G 0 20).toInt - 3).toNat (qW 3 (G 0 21).toInt (mL (G 0 20).toInt G77)) (qD 3 (G91 0 21).toInt (mL (G 0 20).toInt G91)) G77 G91 := by have h9 := hp94.2.2.2.1; (try simp only [(show G77 0 20 = (G 0 20) from (hU79 0 20 (by decide)).trans (hU72 0 20 (by decide))), (show G77 0 21 = (G 0 21) from (hU79 0 21 (by decide)).trans (hU72 0 21 (by decide))), (show G77 0 20 = (G 0 20) from (hU79 0 20 (by decide)).trans (hU72 0 20 (by decide))), (show G77 0 20 = (G 0 20) from (hU79 0 20 (by decide)).trans (hU72 0 20 (by decide)))] at h9); first | exact h9 | omega
      have b102 : (0 : Int) ≤ (G91 0 7).toInt ∧ (G91 0 7).toInt ≤ 9999 := hI92 0 7
      have q103 : ((G91 0 6).toInt ≠ 3 ∨ xsg (G91 0 7).toInt = 0) := hp94.2.2.2.2
      have kp104 : yKp G G91 := yKp.tr (yKp.un yKp.rf (show gu_un ycd [5, 6, 7, 8, 9, 10] G G77 from (gu_un.tr (gu_un.tr gu_un.rf (gu_un.su hU72 rfl)) (gu_un.su hU79 rfl))) rfl) q99
      have sg105 : ySg 3 (G 0 20).toInt G G91 := ySg.un0 q98 (show gu_un ycd [5, 6, 7, 8, 9, 10] G G77 from (gu_un.tr (gu_un.tr gu_un.rf (gu_un.su hU72 rfl)) (gu_un.su hU79 rfl))) rfl rfl
      clear hp94 hw90
      refine g_aload_n F 1 dX13_readFactor_67 rfl rfl ?_
      refine g_aload_n F 1 dX13_readFactor_68 rfl rfl ?_
      refine g_bipush F 41 dX13_readFactor_69 (by decide) ?_
      refine u_callVi (k := 0) (n := 0) (b := a 0) (As := [.int 41]) (st := [.ref (a 0)]) F (fun sz => S_X13_isSign l D K a G91 41 41 rfl hI92 sz) (cwV 1 hts (gT_left gX13_readFactor_X13_isSign) rfl rfl rfl (by decide +kernel) ⟨Nat.le_of_ble_eq_true rfl, Nat.le_of_ble_eq_true rfl⟩) rfl 0 yc_0 rfl (Nat.le_of_ble_eq_true rfl) ⟨Nat.zero_le _, Nat.zero_le _⟩ dX13_readFactor_71 (fun r106 _ hw107 => ?_)
      rcases hw107 with ⟨rfl, q109⟩ | ⟨rfl, q110⟩
      · have q109 : ((G91 0 6).toInt = 3 ∧ (G91 0 7).toInt = (41 : Int)) := q109
        refine g_iconst F 1 dX13_readFactor_74 (by decide) ?_
        refine ux_callvv (k := 0) (n := 0) (b := a 0) (As := [.int 1, .int 1]) (st := []) F (fun sz => S_X13_need l D K a G91 1 1 1 1 rfl (by decide) rfl hI92 sz) (cwV 2 hts gT_X13_readFactor_X13_need rfl rfl rfl (by decide +kernel) ⟨Nat.le_of_ble_eq_true rfl, Nat.le_of_ble_eq_true rfl⟩) rfl 0 yc_0 rfl (Nat.le_of_ble_eq_true rfl) ⟨Nat.zero_le _, Nat.zero_le _⟩ dX13_readFactor_75 hex hA hQ (fun u9 h9 => ⟨h9.1, gu_un.tr (gu_un.tr (gu_un.tr (gu_un.tr gu_un.rf (gu_un.su hU72 rfl)) (gu_un.su hU79 rfl)) (gu_un.su hU93 rfl)) (gu_un.su h9.2.1 rfl), (yKp.un kp104 h9.2.1 rfl), (absurd h9.2.2.1 (by decide)), (absurd h9.2.2.1 (by decide))⟩) (fun G113 hw112 => ?_)
        have hI114 : yI G113 := hw112.1
        have hU115 : gu_un ycd [9, 10] G91 G113 := hw112.2.1
        have hp116 := hw112.2.2
        have q117 : ((1 : Int) ≠ 0) := hp116
        clear hp116 hw112
        refine g_aload_n F 1 dX13_readFactor_78 rfl rfl ?_
        refine u_callVv (k := 0) (n := 0) (b := a 0) (As := []) (st := []) F (fun sz => S_X13_scan l D K a G113  (by have e9_0_3 : G113 0 3 = (G 0 3) := (hU115 0 3 (by decide)).trans ((hU93 0 3 (by decide)).trans ((hU79 0 3 (by decide)).trans (hU72 0 3 (by decide)))); have e9_0_5 : G113 0 5 = (G91 0 5) := hU115 0 5 (by decide); (try simp only [e9_0_3, e9_0_5, true_and, and_true]) <;> (first | omega | (simp only [Int32.reduceToInt, true_and, and_true, ne_eq, not_true_eq_false, false_and, or_false, false_or, true_or, or_true, false_implies] <;> omega))) hI114 sz) (cwV 0 hts (gT_left gX13_readFactor_X13_scan) rfl rfl rfl (by decide +kernel) ⟨Nat.le_of_ble_eq_true rfl, Nat.le_of_ble_eq_true rfl⟩) rfl 0 yc_0 rfl (Nat.le_of_ble_eq_true rfl) ⟨Nat.zero_le _, Nat.zero_le _⟩ dX13_readFactor_79 (fun G120 hw119 => ?_)
        have hI121 : yI G120 := hw119.1
        have hU122 : gu_un ycd [5, 6, 7, 8] G113 G120 := hw119.2.1
        have hp123 := hw119.2.2
        have b124 : (0 : Int) ≤ (G120 0 5).toInt ∧ (G120 0 5).toInt ≤ 1000 := hI121 0 5
        have b125 : (0 : Int) ≤ (G120 0 4).toInt ∧ (G120 0 4).toInt ≤ 1000 := hI121 0 4
        have q126 : ((G120 0 5).toInt ≤ (G 0 3).toInt ∧ (G91 0 5).toInt ≤ (G120 0 4).toInt ∧ (G120 0 4).toInt ≤ (G120 0 5).toInt) := by have h9 := hp123.1; (try simp only [(show G113 0 3 = (G 0 3) from (hU115 0 3 (by decide)).trans ((hU93 0 3 (by decide)).trans ((hU79 0 3 (by decide)).trans (hU72 0 3 (by decide))))), (show G113 0 5 = (G91 0 5) from hU115 0 5 (by decide))] at h9); first | exact h9 | omega
        have b127 : (0 : Int) ≤ (G120 0 6).toInt ∧ (G120 0 6).toInt ≤ 4 := hI121 0 6
        have q128 : (((G120 0 6).toInt = 0 ∧ (G120 0 4).toInt = (G 0 3).toInt) ∨ ((G120 0 6).toInt ≠ 0 ∧ (G120 0 4).toInt < (G120 0 5).toInt)) := by have h9 := hp123.2.1; (try simp only [(show G113 0 3 = (G 0 3) from (hU115 0 3 (by decide)).trans ((hU93 0 3 (by decide)).trans ((hU79 0 3 (by decide)).trans (hU72 0 3 (by decide)))))] at h9); first | exact h9 | omega
        have b129 : (0 : Int) ≤ (G120 0 7).toInt ∧ (G120 0 7).toInt ≤ 9999 := hI121 0 7
        have q130 : tTok (G 2) (G 0 3).toInt (G91 0 5).toInt (G120 0 6).toInt (G120 0 4).toInt (G120 0 7).toInt (G120 0 5).toInt := by have h9 := hp123.2.2; (try simp only [(show G113 0 3 = (G 0 3) from (hU115 0 3 (by decide)).trans ((hU93 0 3 (by decide)).trans ((hU79 0 3 (by decide)).trans (hU72 0 3 (by decide))))), (show G113 0 5 = (G91 0 5) from hU115 0 5 (by decide)), (show G113 2 = (G 2) from (show G113 2 = G91 2 from funext fun k_ => hU115 2 k_ (show (200 : Nat) ∉ ([9, 10] : List Nat) by decide)).trans ((show G91 2 = G77 2 from funext fun k_ => hU93 2 k_ (show (200 : Nat) ∉ ([5, 6, 7, 8, 9, 10, 22, 1000, 1100, 1200] : List Nat) by decide)).trans ((show G77 2 = G70 2 from funext fun k_ => hU79 2 k_ (show (200 : Nat) ∉ ([5, 6, 7, 8] : List Nat) by decide)).trans ((show G70 2 = G 2 from funext fun k_ => hU72 2 k_ (show (200 : Nat) ∉ ([9, 10] : List Nat) by decide))))))] at h9); first | exact h9 | omega
        clear hp123 hw119
        exact ux_vret F hA hQ hr G120 (⟨hI121, (gu_un.tr (gu_un.tr (gu_un.tr (gu_un.tr (gu_un.tr gu_un.rf (gu_un.su hU72 rfl)) (gu_un.su hU79 rfl)) (gu_un.su hU93 rfl)) (gu_un.su hU115 rfl)) (gu_un.su hU122 rfl)), (by show ((G120 0 5).toInt ≤ (G 0 3).toInt ∧ (G 0 5).toInt ≤ (G120 0 5).toInt ∧ ((G120 0 6).toInt = 0 ∨ (G 0 5).toInt < (G120 0 5).toInt)); (first | omega | (simp only [Int32.reduceToInt, true_and, and_true, ne_eq, not_true_eq_false, false_and, or_false, false_or, true_or, or_true, false_implies] <;> omega))), (((sg105.un (show gu_un ycd [5, 6, 7, 8, 9, 10] G91 G120 from (gu_un.tr (gu_un.tr gu_un.rf (gu_un.su hU115 rfl)) (gu_un.su hU122 rfl))) rfl rfl)).up (by decide) (by decide)), ((yKp.un kp104 (show gu_un ycd [5, 6, 7, 8, 9, 10] G91 G120 from (gu_un.tr (gu_un.tr gu_un.rf (gu_un.su hU115 rfl)) (gu_un.su hU122 rfl))) rfl)), (yF_close (yF_sum (yF_open (o' := 3) (show yStp [9, 10] G G70 G77 from ⟨(show gu_un ycd [9, 10] G G70 from (gu_un.tr gu_un.rf (gu_un.su hU72 rfl))), rfl, by (try rw [show G70 2 = (G 2) from (show G70 2 = G 2 from funext fun k_ => hU72 2 k_ (show (200 : Nat) ∉ ([9, 10] : List Nat) by decide))]); (try rw [show G70 0 3 = (G 0 3) from hU72 0 3 (by decide)]); (try rw [show G70 0 5 = (G 0 5) from hU72 0 5 (by decide)]); exact q87, funext fun k_ => hU79 2 k_ (by simp [ycd]), hU79 0 3 (by decide)⟩) (by omega) (by omega) (by decide) (by decide)) (by have h9 := q101; rw [show mL (G 0 20).toInt G77 = mL (G 0 20).toInt G from (mL_un (show gu_un ycd [5, 6, 7, 8, 9, 10] G G77 from (gu_un.tr (gu_un.tr gu_un.rf (gu_un.su hU72 rfl)) (gu_un.su hU79 rfl))) rfl)] at h9; exact h9)) (by decide) (show yStp [9, 10] G91 G113 G120 from ⟨(show gu_un ycd [9, 10] G91 G113 from (gu_un.tr gu_un.rf (gu_un.su hU115 rfl))), rfl, by (try rw [show G113 2 = (G 2) from (show G113 2 = G91 2 from funext fun k_ => hU115 2 k_ (show (200 : Nat) ∉ ([9, 10] : List Nat) by decide)).trans ((show G91 2 = G77 2 from funext fun k_ => hU93 2 k_ (show (200 : Nat) ∉ ([5, 6, 7, 8, 9, 10, 22, 1000, 1100, 1200] : List Nat) by decide)).trans ((show G77 2 = G70 2 from funext fun k_ => hU79 2 k_ (show (200 : Nat) ∉ ([5, 6, 7, 8] : List Nat) by decide)).trans ((show G70 2 = G 2 from funext fun k_ => hU72 2 k_ (show (200 : Nat) ∉ ([9, 10] : List Nat) by decide)))))]); (try rw [show G113 0 3 = (G 0 3) from (hU115 0 3 (by decide)).trans ((hU93 0 3 (by decide)).trans ((hU79 0 3 (by decide)).trans (hU72 0 3 (by decide))))]); (try rw [show G113 0 5 = (G91 0 5) from hU115 0 5 (by decide)]); exact q130, funext fun k_ => hU122 2 k_ (by simp [ycd]), hU122 0 3 (by decide)⟩) (by omega) (by omega) (mL_un (show gu_un ycd [5, 6, 7, 8, 9, 10] G91 G120 from (gu_un.tr (gu_un.tr gu_un.rf (gu_un.su hU115 rfl)) (gu_un.su hU122 rfl))) rfl))⟩) rfl rfl dX13_readFactor_82
      · have q110 : ((G91 0 6).toInt ≠ 3 ∨ (G91 0 7).toInt ≠ (41 : Int)) := q110
        refine g_iconst F 1 dX13_readFactor_74 (by decide) ?_
        refine ux_callvv (k := 0) (n := 0) (b := a 0) (As := [.int 0, .int 1]) (st := []) F (fun sz => S_X13_need l D K a G91 0 0 1 1 rfl (by decide) rfl hI92 sz) (cwV 2 hts gT_X13_readFactor_X13_need rfl rfl rfl (by decide +kernel) ⟨Nat.le_of_ble_eq_true rfl, Nat.le_of_ble_eq_true rfl⟩) rfl 0 yc_0 rfl (Nat.le_of_ble_eq_true rfl) ⟨Nat.zero_le _, Nat.zero_le _⟩ dX13_readFactor_75 hex hA hQ (fun u9 h9 => ⟨h9.1, gu_un.tr (gu_un.tr (gu_un.tr (gu_un.tr gu_un.rf (gu_un.su hU72 rfl)) (gu_un.su hU79 rfl)) (gu_un.su hU93 rfl)) (gu_un.su h9.2.1 rfl), (yKp.un kp104 h9.2.1 rfl), (yF_off (yF_sum (yF_open (o' := 3) (show yStp [9, 10] G G70 G77 from ⟨(show gu_un ycd [9, 10] G G70 from (gu_un.tr gu_un.rf (gu_un.su hU72 rfl))), rfl, by (try rw [show G70 2 = (G 2) from (show G70 2 = G 2 from funext fun k_ => hU72 2 k_ (show (200 : Nat) ∉ ([9, 10] : List Nat) by decide))]); (try rw [show G70 0 3 = (G 0 3) from hU72 0 3 (by decide)]); (try rw [show G70 0 5 = (G 0 5) from hU72 0 5 (by decide)]); exact q87, funext fun k_ => hU79 2 k_ (by simp [ycd]), hU79 0 3 (by decide)⟩) (by omega) (by omega) (by decide) (by decide)) (by have h9 := q101; rw [show mL (G 0 20).toInt G77 = mL (G 0 20).toInt G from (mL_un (show gu_un ycd [5, 6, 7, 8, 9, 10] G G77 from (gu_un.tr (gu_un.tr gu_un.rf (gu_un.su hU72 rfl)) (gu_un.su hU79 rfl))) rfl)] at h9; exact h9)) (show gu_un ycd [] G91 G91 from gu_un.rf) rfl h9.2.2.2.1 h9.2.2.2.2 (by omega) (by have h7 := q103; omega)), (by have h9 := h9.2.2.2.1; omega)⟩) (fun G133 hw132 => ?_)
        have hI134 : yI G133 := hw132.1
        have hU135 : gu_un ycd [9, 10] G91 G133 := hw132.2.1
        have hp136 := hw132.2.2
        have q137 : ((0 : Int) ≠ 0) := hp136
        exfalso; omega
    · have q65 : ((G 0 6).toInt ≠ 3 ∨ (G 0 7).toInt ≠ (40 : Int)) := q65
      refine v_if_eq F 83 dX13_readFactor_17 (by decide) 0 rfl (fun c138 => ?_) (fun c138 => absurd c138 (by decide))
      refine g_aload_n F 1 dX13_readFactor_83 rfl rfl ?_
      refine uz_callVi (k := 0) (n := 0) (b := a 0) (As := []) (st := []) F yZ_st hZ (fun sz => S_X13_letterAtHand l D K a G qs vs  (by (first | omega | (simp only [Int32.reduceToInt, true_and, and_true, ne_eq, not_true_eq_false, false_and, or_false, false_or, true_or, or_true, false_implies] <;> omega))) hI sz) (cwV 0 hts (gT_left gX13_readFactor_X13_letterAtHand) rfl rfl rfl (by decide +kernel) ⟨Nat.le_of_ble_eq_true rfl, Nat.le_of_ble_eq_true rfl⟩) rfl 0 yc_0 rfl (Nat.le_of_ble_eq_true rfl) ⟨Nat.zero_le _, Nat.zero_le _⟩ dX13_readFactor_84 (fun r139 _ hw140 => ?_)
      have q142 : (r139.toInt = yLt ((G 0 20).toInt - 3) G) := hw140.2
      have rg143 := hw140.1
      clear hw140
      refine g_istore_n F [(3, .int r139), (2, .int 0), (0, .ref (a 0)), (1, .int 2)] dX13_readFactor_87 rfl (by decide) rfl ?_
      refine g_aload_n F 2 dX13_readFactor_88 rfl rfl ?_
      refine g_iload_n F 0 dX13_readFactor_89 rfl rfl ?_
      refine g_iconst F (-1) dX13_readFactor_90 (by decide) ?_
      refine v_icmp_ne F 102 dX13_readFactor_91 (by decide) r139.toInt (-1) rfl rfl (fun c144 => ?_) (fun c144 => ?_)
      · refine g_iconst F 1 dX13_readFactor_102 (by decide) ?_
        refine g_goto F 107 dX13_readFactor_103 (by decide) ?_
        refine g_iconst F 1 dX13_readFactor_107 (by decide) ?_
        refine ux_callvv (k := 0) (n := 0) (b := a 0) (As := [.int 1, .int 1]) (st := []) F (fun sz => S_X13_need l D K a G 1 1 1 1 rfl (by decide) rfl hI sz) (cwV 2 hts gT_X13_readFactor_X13_need rfl rfl rfl (by decide +kernel) ⟨Nat.le_of_ble_eq_true rfl, Nat.le_of_ble_eq_true rfl⟩) rfl 0 yc_0 rfl (Nat.le_of_ble_eq_true rfl) ⟨Nat.zero_le _, Nat.zero_le _⟩ dX13_readFactor_108 hex hA hQ (fun u9 h9 => ⟨h9.1, gu_un.tr gu_un.rf (gu_un.su h9.2.1 rfl), (yKp.un yKp.rf h9.2.1 rfl), (absurd h9.2.2.1 (by decide)), (absurd h9.2.2.1 (by decide))⟩) (fun G147 hw146 => ?_)
        have hI148 : yI G147 := hw146.1
        have hU149 : gu_un ycd [9, 10] G G147 := hw146.2.1
        have hp150 := hw146.2.2
        have q151 : ((1 : Int) ≠ 0) := hp150
        clear hp150 hw146
        refine g_aload_n F 2 dX13_readFactor_111 rfl rfl ?_
        refine g_aload_n F 2 dX13_readFactor_112 rfl rfl ?_
        refine yg_0_21 F i_X13 w_0 dX13_readFactor_113 (G 0 21) (hU149 0 21 (by decide)) ?_
        refine g_bipush F 12 dX13_readFactor_116 (by decide) ?_
        refine v_icmp_ge F 125 dX13_readFactor_118 (by decide) (G 0 21).toInt 12 rfl rfl (fun c152 => ?_) (fun c152 => ?_)
        · refine g_iconst F 0 dX13_readFactor_125 (by decide) ?_
          refine g_iconst F 4 dX13_readFactor_126 (by decide) ?_
          refine ux_callvv (k := 0) (n := 0) (b := a 0) (As := [.int 0, .int 4]) (st := []) F (fun sz => S_X13_need l D K a G147 0 0 4 4 rfl (by decide) rfl hI148 sz) (cwV 2 hts gT_X13_readFactor_X13_need rfl rfl rfl (by decide +kernel) ⟨Nat.le_of_ble_eq_true rfl, Nat.le_of_ble_eq_true rfl⟩) rfl 0 yc_0 rfl (Nat.le_of_ble_eq_true rfl) ⟨Nat.zero_le _, Nat.zero_le _⟩ dX13_readFactor_127 hex hA hQ (fun u9 h9 => ⟨h9.1, gu_un.tr (gu_un.tr gu_un.rf (gu_un.su hU149 rfl)) (gu_un.su h9.2.1 rfl), (yKp.un (yKp.un yKp.rf (show gu_un ycd [9, 10] G G147 from (gu_un.tr gu_un.rf (gu_un.su hU149 rfl))) rfl) h9.2.1 rfl), (by have h8 := q142; exact yF_many (show (((((G 0 20).toInt - 3).toNat : Nat)) : Int) = (G 0 20).toInt - 3 by omega) (show gu_un ycd [9, 10] G G147 from (gu_un.tr gu_un.rf (gu_un.su hU149 rfl))) rfl (by first | exact Or.inl (by omega) | exact Or.inr ⟨by unfold yLt at h8; split at h8 <;> omega, by rw [← q142]; omega⟩) (by omega) h9.2.2.2.1 h9.2.2.2.2), (by have h9 := h9.2.2.2.1; omega)⟩) (fun G155 hw154 => ?_)
          have hI156 : yI G155 := hw154.1
          have hU157 : gu_un ycd [9, 10] G147 G155 := hw154.2.1
          have hp158 := hw154.2.2
          have q159 : ((0 : Int) ≠ 0) := hp158
          exfalso; omega
        · refine g_iconst F 1 dX13_readFactor_121 (by decide) ?_
          refine g_goto F 126 dX13_readFactor_122 (by decide) ?_
          refine g_iconst F 4 dX13_readFactor_126 (by decide) ?_
          refine ux_callvv (k := 0) (n := 0) (b := a 0) (As := [.int 1, .int 4]) (st := []) F (fun sz => S_X13_need l D K a G147 1 1 4 4 rfl (by decide) rfl hI148 sz) (cwV 2 hts gT_X13_readFactor_X13_need rfl rfl rfl (by decide +kernel) ⟨Nat.le_of_ble_eq_true rfl, Nat.le_of_ble_eq_true rfl⟩) rfl 0 yc_0 rfl (Nat.le_of_ble_eq_true rfl) ⟨Nat.zero_le _, Nat.zero_le _⟩ dX13_readFactor_127 hex hA hQ (fun u9 h9 => ⟨h9.1, gu_un.tr (gu_un.tr gu_un.rf (gu_un.su hU149 rfl)) (gu_un.su h9.2.1 rfl), (yKp.un (yKp.un yKp.rf (show gu_un ycd [9, 10] G G147 from (gu_un.tr gu_un.rf (gu_un.su hU149 rfl))) rfl) h9.2.1 rfl), (absurd h9.2.2.1 (by decide)), (absurd h9.2.2.1 (by decide))⟩) (fun G162 hw161 => ?_)
          have hI163 : yI G162 := hw161.1
          have hU164 : gu_un ycd [9, 10] G147 G162 := hw161.2.1
          have hp165 := hw161.2.2
          have q166 : ((1 : Int) ≠ 0) := hp165
          clear hp165 hw161
          refine g_aload_n F 2 dX13_readFactor_130 rfl rfl ?_
          refine g_dup F dX13_readFactor_131 rfl ?_
          refine yg_0_21 F i_X13 w_0 dX13_readFactor_132 (G 0 21) ((hU164 0 21 (by decide)).trans (hU149 0 21 (by decide))) ?_
          refine g_iconst F 1 dX13_readFactor_135 (by decide) ?_
          refine u_iadd F dX13_readFactor_136 (G 0 21).toInt 1 rfl rfl (by omega) (by omega) (fun y167 ey167 => ?_)
          refine yp_0_21 F i_X13 w_0 dX13_readFactor_137 ?_
          refine g_aload_n F 2 dX13_readFactor_140 rfl rfl ?_
          refine g_iload_n F 0 dX13_readFactor_141 rfl rfl ?_
          refine g_iconst F (-1) dX13_readFactor_142 (by decide) ?_
          refine v_icmp_ne F 150 dX13_readFactor_143 (by decide) r139.toInt (-1) rfl rfl (fun c168 => ?_) (fun c168 => absurd c168 (by omega))
          refine g_iconst F 1 dX13_readFactor_150 (by decide) ?_
          refine g_iload_n F 0 dX13_readFactor_151 rfl rfl ?_
          refine g_iconst F (-1) dX13_readFactor_152 (by decide) ?_
          refine v_icmp_ne F 163 dX13_readFactor_153 (by decide) r139.toInt (-1) rfl rfl (fun c169 => ?_) (fun c169 => absurd c169 (by omega))
          refine g_iload_n F 0 dX13_readFactor_163 rfl rfl ?_
          refine u_callVv (k := 0) (n := 0) (b := a 0) (As := [.int 1, .int r139]) (st := []) F (fun sz => S_X13_mark l D K a (gu_up G162 0 21 y167) 1 1 r139 r139.toInt rfl (by decide) rfl (by omega) (by rw [show (gu_up G162 0 21 y167) 0 20 = G 0 20 from (hU164 0 20 (by decide)).trans (hU149 0 20 (by decide))]; have h9 : (G162 12 ((G 0 20).toInt).toNat).toInt ≤ 6 * (G162 0 21).toInt := (y_m6 m6 (show gu_un ycd [9, 10] G G162 from (gu_un.tr (gu_un.tr gu_un.rf (gu_un.su hU149 rfl)) (gu_un.su hU164 rfl))) rfl rfl); have h8 : (0 : Int) ≤ (G162 0 21).toInt ∧ (G162 0 21).toInt ≤ 12 := hI163 0 21; show (G162 12 ((G 0 20).toInt).toNat).toInt ≤ 79; omega) (gu_I.up (j := 0) (k := 21) (v := y167) hI163 (show (0 : Int) ≤ Int32.toInt y167 by omega) (show Int32.toInt y167 ≤ 12 by omega)) sz) (cwV 2 hts (gT_left gX13_readFactor_X13_mark) rfl rfl rfl (by decide +kernel) ⟨Nat.le_of_ble_eq_true rfl, Nat.le_of_ble_eq_true rfl⟩) rfl 0 yc_0 rfl (Nat.le_of_ble_eq_true rfl) ⟨Nat.zero_le _, Nat.zero_le _⟩ dX13_readFactor_164 (fun G172 hw171 => ?_)
          have hI173 : yI G172 := hw171.1
          have hU174 : gu_un ycd [1000, 1100, 1200] (gu_up G162 0 21 y167) G172 := hw171.2.1
          have hp175 := hw171.2.2
          have q176 : yMk 1 r139 (G 0 20).toInt (gu_up G162 0 21 y167) G172 := by have h9 := hp175; (try simp only [(show (gu_up G162 0 21 y167) 0 20 = (G 0 20) from (hU164 0 20 (by decide)).trans (hU149 0 20 (by decide)))] at h9); first | exact h9 | omega
          have m0 : 0 ≤ (G 12 ((G 0 20).toInt).toNat).toInt := (show (0 : Int) ≤ (G 12 ((G 0 20).toInt).toNat).toInt ∧ (G 12 ((G 0 20).toInt).toNat).toInt ≤ 80 from hI 12 _).1
          have m1 : 0 ≤ ((gu_up G162 0 21 y167) 12 ((G 0 20).toInt).toNat).toInt := (show (0 : Int) ≤ (G162 12 ((G 0 20).toInt).toNat).toInt ∧ (G162 12 ((G 0 20).toInt).toNat).toInt ≤ 80 from hI163 12 _).1
          have kp177 : yKp G G172 := yKp.tr (yKp.un yKp.rf (show gu_un ycd [9, 10, 22] G (gu_up G162 0 21 y167) from (gu_un.up (j := 0) (k := 21) (v := y167) (gu_un.tr (gu_un.tr gu_un.rf (gu_un.su hU149 rfl)) (gu_un.su hU164 rfl)) (show (22 : Nat) ∈ ([9, 10, 22] : List Nat) by decide))) rfl) (q176.kp (by omega) m1)
          have sg178 : ySg 4 (G 0 20).toInt G G172 := yMk.leaf q176 (by first | decide | omega) (by decide) (by omega) (show (gu_up G162 0 21 y167) 10 = G 10 from (show G162 10 = G147 10 from funext fun k_ => hU164 10 k_ (show (1000 : Nat) ∉ ([9, 10] : List Nat) by decide)).trans ((show G147 10 = G 10 from funext fun k_ => hU149 10 k_ (show (1000 : Nat) ∉ ([9, 10] : List Nat) by decide)))) (show (gu_up G162 0 21 y167) 11 = G 11 from (show G162 11 = G147 11 from funext fun k_ => hU164 11 k_ (show (1100 : Nat) ∉ ([9, 10] : List Nat) by decide)).trans ((show G147 11 = G 11 from funext fun k_ => hU149 11 k_ (show (1100 : Nat) ∉ ([9, 10] : List Nat) by decide)))) (show (gu_up G162 0 21 y167) 12 = G 12 from (show G162 12 = G147 12 from funext fun k_ => hU164 12 k_ (show (1200 : Nat) ∉ ([9, 10] : List Nat) by decide)).trans ((show G147 12 = G 12 from funext fun k_ => hU149 12 k_ (show (1200 : Nat) ∉ ([9, 10] : List Nat) by decide)))) m0 (by omega) (show (y167 : Int32).toInt = _ by omega)
          clear hp175 hw171
          refine g_aload_n F 2 dX13_readFactor_167 rfl rfl ?_
          refine u_callVv (k := 0) (n := 0) (b := a 0) (As := []) (st := []) F (fun sz => S_X13_scan l D K a G172  (by have e9_0_3 : G172 0 3 = (G 0 3) := (hU174 0 3 (by decide)).trans ((hU164 0 3 (by decide)).trans (hU149 0 3 (by decide))); have e9_0_5 : G172 0 5 = (G 0 5) := (hU174 0 5 (by decide)).trans ((hU164 0 5 (by decide)).trans (hU149 0 5 (by decide))); (try simp only [e9_0_3, e9_0_5, true_and, and_true]) <;> (first | omega | (simp only [Int32.reduceToInt, true_and, and_true, ne_eq, not_true_eq_false, false_and, or_false, false_or, true_or, or_true, false_implies] <;> omega))) hI173 sz) (cwV 0 hts (gT_left gX13_readFactor_X13_scan) rfl rfl rfl (by decide +kernel) ⟨Nat.le_of_ble_eq_true rfl, Nat.le_of_ble_eq_true rfl⟩) rfl 0 yc_0 rfl (Nat.le_of_ble_eq_true rfl) ⟨Nat.zero_le _, Nat.zero_le _⟩ dX13_readFactor_168 (fun G181 hw180 => ?_)
          have hI182 : yI G181 := hw180.1
          have hU183 : gu_un ycd [5, 6, 7, 8] G172 G181 := hw180.2.1
          have hp184 := hw180.2.2
          have b185 : (0 : Int) ≤ (G181 0 5).toInt ∧ (G181 0 5).toInt ≤ 1000 := hI182 0 5
          have b186 : (0 : Int) ≤ (G181 0 4).toInt ∧ (G181 0 4).toInt ≤ 1000 := hI182 0 4
          have q187 : ((G181 0 5).toInt ≤ (G 0 3).toInt ∧ (G 0 5).toInt ≤ (G181 0 4).toInt ∧ (G181 0 4).toInt ≤ (G181 0 5).toInt) := by have h9 := hp184.1; (try simp only [(show G172 0 3 = (G 0 3) from (hU174 0 3 (by decide)).trans ((hU164 0 3 (by decide)).trans (hU149 0 3 (by decide)))), (show G172 0 5 = (G 0 5) from (hU174 0 5 (by decide)).trans ((hU164 0 5 (by decide)).trans (hU149 0 5 (by decide))))] at h9); first | exact h9 | omega
          have b188 : (0 : Int) ≤ (G181 0 6).toInt ∧ (G181 0 6).toInt ≤ 4 := hI182 0 6
          have q189 : (((G181 0 6).toInt = 0 ∧ (G181 0 4).toInt = (G 0 3).toInt) ∨ ((G181 0 6).toInt ≠ 0 ∧ (G181 0 4).toInt < (G181 0 5).toInt)) := by have h9 := hp184.2.1; (try simp only [(show G172 0 3 = (G 0 3) from (hU174 0 3 (by decide)).trans ((hU164 0 3 (by decide)).trans (hU149 0 3 (by decide))))] at h9); first | exact h9 | omega
          have b190 : (0 : Int) ≤ (G181 0 7).toInt ∧ (G181 0 7).toInt ≤ 9999 := hI182 0 7
          have q191 : tTok (G 2) (G 0 3).toInt (G 0 5).toInt (G181 0 6).toInt (G181 0 4).toInt (G181 0 7).toInt (G181 0 5).toInt := by have h9 := hp184.2.2; (try simp only [(show G172 0 3 = (G 0 3) from (hU174 0 3 (by decide)).trans ((hU164 0 3 (by decide)).trans (hU149 0 3 (by decide)))), (show G172 0 5 = (G 0 5) from (hU174 0 5 (by decide)).trans ((hU164 0 5 (by decide)).trans (hU149 0 5 (by decide)))), (show G172 2 = (G 2) from (show G172 2 = (gu_up G162 0 21 y167) 2 from funext fun k_ => hU174 2 k_ (show (200 : Nat) ∉ ([1000, 1100, 1200] : List Nat) by decide)).trans ((show G162 2 = G147 2 from funext fun k_ => hU164 2 k_ (show (200 : Nat) ∉ ([9, 10] : List Nat) by decide)).trans ((show G147 2 = G 2 from funext fun k_ => hU149 2 k_ (show (200 : Nat) ∉ ([9, 10] : List Nat) by decide)))))] at h9); first | exact h9 | omega
          clear hp184 hw180
          exact ux_vret F hA hQ hr G181 (⟨hI182, (gu_un.tr (gu_un.tr (gu_un.up (j := 0) (k := 21) (v := y167) (gu_un.tr (gu_un.tr gu_un.rf (gu_un.su hU149 rfl)) (gu_un.su hU164 rfl)) (show (22 : Nat) ∈ ([5, 6, 7, 8, 9, 10, 22, 1000, 1100, 1200] : List Nat) by decide)) (gu_un.su hU174 rfl)) (gu_un.su hU183 rfl)), (by show ((G181 0 5).toInt ≤ (G 0 3).toInt ∧ (G 0 5).toInt ≤ (G181 0 5).toInt ∧ ((G181 0 6).toInt = 0 ∨ (G 0 5).toInt < (G181 0 5).toInt)); (first | omega | (simp only [Int32.reduceToInt, true_and, and_true, ne_eq, not_true_eq_false, false_and, or_false, false_or, true_or, or_true, false_implies] <;> omega))), ((sg178.un (show gu_un ycd [5, 6, 7, 8] G172 G181 from (gu_un.tr gu_un.rf (gu_un.su hU183 rfl))) rfl rfl)), ((yKp.un kp177 (show gu_un ycd [5, 6, 7, 8] G172 G181 from (gu_un.tr gu_un.rf (gu_un.su hU183 rfl))) rfl)), (by have h8 := q142; first | exact yF_num (show yStp [9, 10, 22, 1000, 1100, 1200] G G172 G181 from ⟨(show gu_un ycd [9, 10, 22, 1000, 1100, 1200] G G172 from (gu_un.tr (gu_un.up (j := 0) (k := 21) (v := y167) (gu_un.tr (gu_un.tr gu_un.rf (gu_un.su hU149 rfl)) (gu_un.su hU164 rfl)) (show (22 : Nat) ∈ ([9, 10, 22, 1000, 1100, 1200] : List Nat) by decide)) (gu_un.su hU174 rfl))), rfl, by (try rw [show G172 2 = (G 2) from (show G172 2 = (gu_up G162 0 21 y167) 2 from funext fun k_ => hU174 2 k_ (show (200 : Nat) ∉ ([1000, 1100, 1200] : List Nat) by decide)).trans ((show G162 2 = G147 2 from funext fun k_ => hU164 2 k_ (show (200 : Nat) ∉ ([9, 10] : List Nat) by decide)).trans ((show G147 2 = G 2 from funext fun k_ => hU149 2 k_ (show (200 : Nat) ∉ ([9, 10] : List Nat) by decide))))]); (try rw [show G172 0 3 = (G 0 3) from (hU174 0 3 (by decide)).trans ((hU164 0 3 (by decide)).trans (hU149 0 3 (by decide)))]); (try rw [show G172 0 5 = (G 0 5) from (hU174 0 5 (by decide)).trans ((hU164 0 5 (by decide)).trans (hU149 0 5 (by decide)))]); exact q191, funext fun k_ => hU183 2 k_ (by simp [ycd]), hU183 0 3 (by decide)⟩) (by omega) (by omega) (show (G181 0 21).toInt = (G 0 21).toInt + 1 by rw [show G181 0 21 = y167 from (hU183 0 21 (by decide)).trans (hU174 0 21 (by decide))]; omega) (by rw [show mL (G 0 20).toInt G181 = mL (G 0 20).toInt G172 from (mL_un (show gu_un ycd [5, 6, 7, 8] G172 G181 from (gu_un.tr gu_un.rf (gu_un.su hU183 rfl))) rfl)]; rw [q176.ml (by omega) (show (0 : Int) ≤ (G162 12 ((G 0 20).toInt).toNat).toInt from (hI163 12 _).1), mEn_0 (by decide)] <;> (rw [show mL (G 0 20).toInt (gu_up G162 0 21 y167) = mL (G 0 20).toInt G from (mL_un (show gu_un ycd [9, 10, 22] G (gu_up G162 0 21 y167) from (gu_un.up (j := 0) (k := 21) (v := y167) (gu_un.tr (gu_un.tr gu_un.rf (gu_un.su hU149 rfl)) (gu_un.su hU164 rfl)) (show (22 : Nat) ∈ ([9, 10, 22] : List Nat) by decide))) rfl)])) | exact yF_let (show (((((G 0 20).toInt - 3).toNat : Nat)) : Int) = (G 0 20).toInt - 3 by omega) (show yStp [9, 10, 22, 1000, 1100, 1200] G G172 G181 from ⟨(show gu_un ycd [9, 10, 22, 1000, 1100, 1200] G G172 from (gu_un.tr (gu_un.up (j := 0) (k := 21) (v := y167) (gu_un.tr (gu_un.tr gu_un.rf (gu_un.su hU149 rfl)) (gu_un.su hU164 rfl)) (show (22 : Nat) ∈ ([9, 10, 22, 1000, 1100, 1200] : List Nat) by decide)) (gu_un.su hU174 rfl))), rfl, by (try rw [show G172 2 = (G 2) from (show G172 2 = (gu_up G162 0 21 y167) 2 from funext fun k_ => hU174 2 k_ (show (200 : Nat) ∉ ([1000, 1100, 1200] : List Nat) by decide)).trans ((show G162 2 = G147 2 from funext fun k_ => hU164 2 k_ (show (200 : Nat) ∉ ([9, 10] : List Nat) by decide)).trans ((show G147 2 = G 2 from funext fun k_ => hU149 2 k_ (show (200 : Nat) ∉ ([9, 10] : List Nat) by decide))))]); (try rw [show G172 0 3 = (G 0 3) from (hU174 0 3 (by decide)).trans ((hU164 0 3 (by decide)).trans (hU149 0 3 (by decide)))]); (try rw [show G172 0 5 = (G 0 5) from (hU174 0 5 (by decide)).trans ((hU164 0 5 (by decide)).trans (hU149 0 5 (by decide)))]); exact q191, funext fun k_ => hU183 2 k_ (by simp [ycd]), hU183 0 3 (by decide)⟩) (by unfold yLt at h8; split at h8 <;> omega) (by rw [← q142]; omega) (by omega) (show (G181 0 21).toInt = (G 0 21).toInt + 1 by rw [show G181 0 21 = y167 from (hU183 0 21 (by decide)).trans (hU174 0 21 (by decide))]; omega) (by rw [← q142]; exact (by rw [show mL (G 0 20).toInt G181 = mL (G 0 20).toInt G172 from (mL_un (show gu_un ycd [5, 6, 7, 8] G172 G181 from (gu_un.tr gu_un.rf (gu_un.su hU183 rfl))) rfl)]; rw [q176.ml (by omega) (show (0 : Int) ≤ (G162 12 ((G 0 20).toInt).toNat).toInt from (hI163 12 _).1), mEn_1 (by decide) (by omega)] <;> (rw [show mL (G 0 20).toInt (gu_up G162 0 21 y167) = mL (G 0 20).toInt G from (mL_un (show gu_un ycd [9, 10, 22] G (gu_up G162 0 21 y167) from (gu_un.up (j := 0) (k := 21) (v := y167) (gu_un.tr (gu_un.tr gu_un.rf (gu_un.su hU149 rfl)) (gu_un.su hU164 rfl)) (show (22 : Nat) ∈ ([9, 10, 22] : List Nat) by decide))) rfl)]))))⟩) rfl rfl dX13_readFactor_171
      · refine g_aload_n F 2 dX13_readFactor_94 rfl rfl ?_
        refine yg_0_6 F i_X13 w_1 dX13_readFactor_95 (G 0 6) (rfl) ?_
        refine g_iconst F 2 dX13_readFactor_98 (by decide) ?_
        refine v_icmp_ne F 106 dX13_readFactor_99 (by decide) (G 0 6).toInt 2 rfl rfl (fun c192 => ?_) (fun c192 => ?_)
        · refine g_iconst F 0 dX13_readFactor_106 (by decide) ?_
          refine g_iconst F 1 dX13_readFactor_107 (by decide) ?_
          refine ux_callvv (k := 0) (n := 0) (b := a 0) (As := [.int 0, .int 1]) (st := []) F (fun sz => S_X13_need l D K a G 0 0 1 1 rfl (by decide) rfl hI sz) (cwV 2 hts gT_X13_readFactor_X13_need rfl rfl rfl (by decide +kernel) ⟨Nat.le_of_ble_eq_true rfl, Nat.le_of_ble_eq_true rfl⟩) rfl 0 yc_0 rfl (Nat.le_of_ble_eq_true rfl) ⟨Nat.zero_le _, Nat.zero_le _⟩ dX13_readFactor_108 hex hA hQ (fun u9 h9 => ⟨h9.1, gu_un.tr gu_un.rf (gu_un.su h9.2.1 rfl), (yKp.un yKp.rf h9.2.1 rfl), (yF_none (show (((((G 0 20).toInt - 3).toNat : Nat)) : Int) = (G 0 20).toInt - 3 by omega) (show gu_un ycd [] G G from gu_un.rf) rfl (by omega) (by omega) (fun h7 => by rw [← q142]; omega) h9.2.2.2.1 h9.2.2.2.2), (by have h9 := h9.2.2.2.1; omega)⟩) (fun G195 hw194 => ?_)
          have hI196 : yI G195 := hw194.1
          have hU197 : gu_un ycd [9, 10] G G195 := hw194.2.1
          have hp198 := hw194.2.2
          have q199 : ((0 : Int) ≠ 0) := hp198
          exfalso; omega
        · refine g_iconst F 1 dX13_readFactor_102 (by decide) ?_
          refine g_goto F 107 dX13_readFactor_103 (by decide) ?_
          refine g_iconst F 1 dX13_readFactor_107 (by decide) ?_
          refine ux_callvv (k := 0) (n := 0) (b := a 0) (As := [.int 1, .int 1]) (st := []) F (fun sz => S_X13_need l D K a G 1 1 1 1 rfl (by decide) rfl hI sz) (cwV 2 hts gT_X13_readFactor_X13_need rfl rfl rfl (by decide +kernel) ⟨Nat.le_of_ble_eq_true rfl, Nat.le_of_ble_eq_true rfl⟩) rfl 0 yc_0 rfl (Nat.le_of_ble_eq_true rfl) ⟨Nat.zero_le _, Nat.zero_le _⟩ dX13_readFactor_108 hex hA hQ (fun u9 h9 => ⟨h9.1, gu_un.tr gu_un.rf (gu_un.su h9.2.1 rfl), (yKp.un yKp.rf h9.2.1 rfl), (absurd h9.2.2.1 (by decide)), (absurd h9.2.2.1 (by decide))⟩) (fun G202 hw201 => ?_)
          have hI203 : yI G202 := hw201.1
          have hU204 : gu_un ycd [9, 10] G G202 := hw201.2.1
          have hp205 := hw201.2.2
          have q206 : ((1 : Int) ≠ 0) := hp205
          clear hp205 hw201
          refine g_aload_n F 2 dX13_readFactor_111 rfl rfl ?_
          refine g_aload_n F 2 dX13_readFactor_112 rfl rfl ?_
          refine yg_0_21 F i_X13 w_0 dX13_readFactor_113 (G 0 21) (hU204 0 21 (by decide)) ?_
          refine g_bipush F 12 dX13_readFactor_116 (by decide) ?_
          refine v_icmp_ge F 125 dX13_readFactor_118 (by decide) (G 0 21).toInt 12 rfl rfl (fun c207 => ?_) (fun c207 => ?_)
          · refine g_iconst F 0 dX13_readFactor_125 (by decide) ?_
            refine g_iconst F 4 dX13_readFactor_126 (by decide) ?_
            refine ux_callvv (k := 0) (n := 0) (b := a 0) (As := [.int 0, .int 4]) (st := []) F (fun sz => S_X13_need l D K a G202 0 0 4 4 rfl (by decide) rfl hI203 sz) (cwV 2 hts gT_X13_readFactor_X13_need rfl rfl rfl (by decide +kernel) ⟨Nat.le_of_ble_eq_true rfl, Nat.le_of_ble_eq_true rfl⟩) rfl 0 yc_0 rfl (Nat.le_of_ble_eq_true rfl) ⟨Nat.zero_le _, Nat.zero_le _⟩ dX13_readFactor_127 hex hA hQ (fun u9 h9 => ⟨h9.1, gu_un.tr (gu_un.tr gu_un.rf (gu_un.su hU204 rfl)) (gu_un.su h9.2.1 rfl), (yKp.un (yKp.un yKp.rf (show gu_un ycd [9, 10] G G202 from (gu_un.tr gu_un.rf (gu_un.su hU204 rfl))) rfl) h9.2.1 rfl), (by have h8 := q142; exact yF_many (show (((((G 0 20).toInt - 3).toNat : Nat)) : Int) = (G 0 20).toInt - 3 by omega) (show gu_un ycd [9, 10] G G202 from (gu_un.tr gu_un.rf (gu_un.su hU204 rfl))) rfl (by first | exact Or.inl (by omega) | exact Or.inr ⟨by unfold yLt at h8; split at h8 <;> omega, by rw [← q142]; omega⟩) (by omega) h9.2.2.2.1 h9.2.2.2.2), (by have h9 := h9.2.2.2.1; omega)⟩) (fun G210 hw209 => ?_)
            have hI211 : yI G210 := hw209.1
            have hU212 : gu_un ycd [9, 10] G202 G210 := hw209.2.1
            have hp213 := hw209.2.2
            have q214 : ((0 : Int) ≠ 0) := hp213
            exfalso; omega
          · refine g_iconst F 1 dX13_readFactor_121 (by decide) ?_
            refine g_goto F 126 dX13_readFactor_122 (by decide) ?_
            refine g_iconst F 4 dX13_readFactor_126 (by decide) ?_
            refine ux_callvv (k := 0) (n := 0) (b := a 0) (As := [.int 1, .int 4]) (st := []) F (fun sz => S_X13_need l D K a G202 1 1 4 4 rfl (by decide) rfl hI203 sz) (cwV 2 hts gT_X13_readFactor_X13_need rfl rfl rfl (by decide +kernel) ⟨Nat.le_of_ble_eq_true rfl, Nat.le_of_ble_eq_true rfl⟩) rfl 0 yc_0 rfl (Nat.le_of_ble_eq_true rfl) ⟨Nat.zero_le _, Nat.zero_le _⟩ dX13_readFactor_127 hex hA hQ (fun u9 h9 => ⟨h9.1, gu_un.tr (gu_un.tr gu_un.rf (gu_un.su hU204 rfl)) (gu_un.su h9.2.1 rfl), (yKp.un (yKp.un yKp.rf (show gu_un ycd [9, 10] G G202 from (gu_un.tr gu_un.rf (gu_un.su hU204 rfl))) rfl) h9.2.1 rfl), (absurd h9.2.2.1 (by decide)), (absurd h9.2.2.1 (by decide))⟩) (fun G217 hw216 => ?_)
            have hI218 : yI G217 := hw216.1
            have hU219 : gu_un ycd [9, 10] G202 G217 := hw216.2.1
            have hp220 := hw216.2.2
            have q221 : ((1 : Int) ≠ 0) := hp220
            clear hp220 hw216
            refine g_aload_n F 2 dX13_readFactor_130 rfl rfl ?_
            refine g_dup F dX13_readFactor_131 rfl ?_
            refine yg_0_21 F i_X13 w_0 dX13_readFactor_132 (G 0 21) ((hU219 0 21 (by decide)).trans (hU204 0 21 (by decide))) ?_
            refine g_iconst F 1 dX13_readFactor_135 (by decide) ?_
            refine u_iadd F dX13_readFactor_136 (G 0 21).toInt 1 rfl rfl (by omega) (by omega) (fun y222 ey222 => ?_)
            refine yp_0_21 F i_X13 w_0 dX13_readFactor_137 ?_
            refine g_aload_n F 2 dX13_readFactor_140 rfl rfl ?_
            refine g_iload_n F 0 dX13_readFactor_141 rfl rfl ?_
            refine g_iconst F (-1) dX13_readFactor_142 (by decide) ?_
            refine v_icmp_ne F 150 dX13_readFactor_143 (by decide) r139.toInt (-1) rfl rfl (fun c223 => absurd c223 (by omega)) (fun c223 => ?_)
            refine g_iconst F 0 dX13_readFactor_146 (by decide) ?_
            refine g_goto F 151 dX13_readFactor_147 (by decide) ?_
            refine g_iload_n F 0 dX13_readFactor_151 rfl rfl ?_
            refine g_iconst F (-1) dX13_readFactor_152 (by decide) ?_
            refine v_icmp_ne F 163 dX13_readFactor_153 (by decide) r139.toInt (-1) rfl rfl (fun c224 => absurd c224 (by omega)) (fun c224 => ?_)
            refine g_aload_n F 2 dX13_readFactor_156 rfl rfl ?_
            refine yg_0_7 F i_X13 w_2 dX13_readFactor_157 (G 0 7) ((hU219 0 7 (by decide)).trans (hU204 0 7 (by decide))) ?_
            refine g_goto F 164 dX13_readFactor_160 (by decide) ?_
            refine u_callVv (k := 0) (n := 0) (b := a 0) (As := [.int 0, .int (G 0 7)]) (st := []) F (fun sz => S_X13_mark l D K a (gu_up G217 0 21 y222) 0 0 (G 0 7) (G 0 7).toInt rfl (by decide) rfl (by omega) (by rw [show (gu_up G217 0 21 y222) 0 20 = G 0 20 from (hU219 0 20 (by decide)).trans (hU204 0 20 (by decide))]; have h9 : (G217 12 ((G 0 20).toInt).toNat).toInt ≤ 6 * (G217 0 21).toInt := (y_m6 m6 (show gu_un ycd [9, 10] G G217 from (gu_un.tr (gu_un.tr gu_un.rf (gu_un.su hU204 rfl)) (gu_un.su hU219 rfl))) rfl rfl); have h8 : (0 : Int) ≤ (G217 0 21).toInt ∧ (G217 0 21).toInt ≤ 12 := hI218 0 21; show (G217 12 ((G 0 20).toInt).toNat).toInt ≤ 79; omega) (gu_I.up (j := 0) (k := 21) (v := y222) hI218 (show (0 : Int) ≤ Int32.toInt y222 by omega) (show Int32.toInt y222 ≤ 12 by omega)) sz) (cwV 2 hts (gT_left gX13_readFactor_X13_mark) rfl rfl rfl (by decide +kernel) ⟨Nat.le_of_ble_eq_true rfl, Nat.le_of_ble_eq_true rfl⟩) rfl 0 yc_0 rfl (Nat.le_of_ble_eq_true rfl) ⟨Nat.zero_le _, Nat.zero_le _⟩ dX13_readFactor_164 (fun G227 hw226 => ?_)
            have hI228 : yI G227 := hw226.1
            have hU229 : gu_un ycd [1000, 1100, 1200] (gu_up G217 0 21 y222) G227 := hw226.2.1
            have hp230 := hw226.2.2
            have q231 : yMk 0 (G 0 7) (G 0 20).toInt (gu_up G217 0 21 y222) G227 := by have h9 := hp230; (try simp only [(show (gu_up G217 0 21 y222) 0 20 = (G 0 20) from (hU219 0 20 (by decide)).trans (hU204 0 20 (by decide)))] at h9); first | exact h9 | omega
            have m0 : 0 ≤ (G 12 ((G 0 20).toInt).toNat).toInt := (show (0 : Int) ≤ (G 12 ((G 0 20).toInt).toNat).toInt ∧ (G 12 ((G 0 20).toInt).toNat).toInt ≤ 80 from hI 12 _).1
            have m1 : 0 ≤ ((gu_up G217 0 21 y222) 12 ((G 0 20).toInt).toNat).toInt := (show (0 : Int) ≤ (G217 12 ((G 0 20).toInt).toNat).toInt ∧ (G217 12 ((G 0 20).toInt).toNat).toInt ≤ 80 from hI218 12 _).1
            have kp232 : yKp G G227 := yKp.tr (yKp.un yKp.rf (show gu_un ycd [9, 10, 22] G (gu_up G217 0 21 y222) from (gu_un.up (j := 0) (k := 21) (v := y222) (gu_un.tr (gu_un.tr gu_un.rf (gu_un.su hU204 rfl)) (gu_un.su hU219 rfl)) (show (22 : Nat) ∈ ([9, 10, 22] : List Nat) by decide))) rfl) (q231.kp (by omega) m1)
            have sg233 : ySg 4 (G 0 20).toInt G G227 := yMk.leaf q231 (by first | decide | omega) (by decide) (by omega) (show (gu_up G217 0 21 y222) 10 = G 10 from (show G217 10 = G202 10 from funext fun k_ => hU219 10 k_ (show (1000 : Nat) ∉ ([9, 10] : List Nat) by decide)).trans ((show G202 10 = G 10 from funext fun k_ => hU204 10 k_ (show (1000 : Nat) ∉ ([9, 10] : List Nat) by decide)))) (show (gu_up G217 0 21 y222) 11 = G 11 from (show G217 11 = G202 11 from funext fun k_ => hU219 11 k_ (show (1100 : Nat) ∉ ([9, 10] : List Nat) by decide)).trans ((show G202 11 = G 11 from funext fun k_ => hU204 11 k_ (show (1100 : Nat) ∉ ([9, 10] : List Nat) by decide)))) (show (gu_up G217 0 21 y222) 12 = G 12 from (show G217 12 = G202 12 from funext fun k_ => hU219 12 k_ (show (1200 : Nat) ∉ ([9, 10] : List Nat) by decide)).trans ((show G202 12 = G 12 from funext fun k_ => hU204 12 k_ (show (1200 : Nat) ∉ ([9, 10] : List Nat) by decide)))) m0 (by omega) (show (y222 : Int32).toInt = _ by omega)
            clear hp230 hw226
            refine g_aload_n F 2 dX13_readFactor_167 rfl rfl ?_
            refine u_callVv (k := 0) (n := 0) (b := a 0) (As := []) (st := []) F (fun sz => S_X13_scan l D K a G227  (by have e9_0_3 : G227 0 3 = (G 0 3) := (hU229 0 3 (by decide)).trans ((hU219 0 3 (by decide)).trans (hU204 0 3 (by decide))); have e9_0_5 : G227 0 5 = (G 0 5) := (hU229 0 5 (by decide)).trans ((hU219 0 5 (by decide)).trans (hU204 0 5 (by decide))); (try simp only [e9_0_3, e9_0_5, true_and, and_true]) <;> (first | omega | (simp only [Int32.reduceToInt, true_and, and_true, ne_eq, not_true_eq_false, false_and, or_false, false_or, true_or, or_true, false_implies] <;> omega))) hI228 sz) (cwV 0 hts (gT_left gX13_readFactor_X13_scan) rfl rfl rfl (by decide +kernel) ⟨Nat.le_of_ble_eq_true rfl, Nat.le_of_ble_eq_true rfl⟩) rfl 0 yc_0 rfl (Nat.le_of_ble_eq_true rfl) ⟨Nat.zero_le _, Nat.zero_le _⟩ dX13_readFactor_168 (fun G236 hw235 => ?_)
            have hI237 : yI G236 := hw235.1
            have hU238 : gu_un ycd [5, 6, 7, 8] G227 G236 := hw235.2.1
            have hp239 := hw235.2.2
            have b240 : (0 : Int) ≤ (G236 0 5).toInt ∧ (G236 0 5).toInt ≤ 1000 := hI237 0 5
            have b241 : (0 : Int) ≤ (G236 0 4).toInt ∧ (G236 0 4).toInt ≤ 1000 := hI237 0 4
            have q242 : ((G236 0 5).toInt ≤ (G 0 3).toInt ∧ (G 0 5).toInt ≤ (G236 0 4).toInt ∧ (G236 0 4).toInt ≤ (G236 0 5).toInt) := by have h9 := hp239.1; (try simp only [(show G227 0 3 = (G 0 3) from (hU229 0 3 (by decide)).trans ((hU219 0 3 (by decide)).trans (hU204 0 3 (by decide)))), (show G227 0 5 = (G 0 5) from (hU229 0 5 (by decide)).trans ((hU219 0 5 (by decide)).trans (hU204 0 5 (by decide))))] at h9); first | exact h9 | omega
            have b243 : (0 : Int) ≤ (G236 0 6).toInt ∧ (G236 0 6).toInt ≤ 4 := hI237 0 6
            have q244 : (((G236 0 6).toInt = 0 ∧ (G236 0 4).toInt = (G 0 3).toInt) ∨ ((G236 0 6).toInt ≠ 0 ∧ (G236 0 4).toInt < (G236 0 5).toInt)) := by have h9 := hp239.2.1; (try simp only [(show G227 0 3 = (G 0 3) from (hU229 0 3 (by decide)).trans ((hU219 0 3 (by decide)).trans (hU204 0 3 (by decide))))] at h9); first | exact h9 | omega
            have b245 : (0 : Int) ≤ (G236 0 7).toInt ∧ (G236 0 7).toInt ≤ 9999 := hI237 0 7
            have q246 : tTok (G 2) (G 0 3).toInt (G 0 5).toInt (G236 0 6).toInt (G236 0 4).toInt (G236 0 7).toInt (G236 0 5).toInt := by have h9 := hp239.2.2; (try simp only [(show G227 0 3 = (G 0 3) from (hU229 0 3 (by decide)).trans ((hU219 0 3 (by decide)).trans (hU204 0 3 (by decide)))), (show G227 0 5 = (G 0 5) from (hU229 0 5 (by decide)).trans ((hU219 0 5 (by decide)).trans (hU204 0 5 (by decide)))), (show G227 2 = (G 2) from (show G227 2 = (gu_up G217 0 21 y222) 2 from funext fun k_ => hU229 2 k_ (show (200 : Nat) ∉ ([1000, 1100, 1200] : List Nat) by decide)).trans ((show G217 2 = G202 2 from funext fun k_ => hU219 2 k_ (show (200 : Nat) ∉ ([9, 10] : List Nat) by decide)).trans ((show G202 2 = G 2 from funext fun k_ => hU204 2 k_ (show (200 : Nat) ∉ ([9, 10] : List Nat) by decide)))))] at h9); first | exact h9 | omega
            clear hp239 hw235
            exact ux_vret F hA hQ hr G236 (⟨hI237, (gu_un.tr (gu_un.tr (gu_un.up (j := 0) (k := 21) (v := y222) (gu_un.tr (gu_un.tr gu_un.rf (gu_un.su hU204 rfl)) (gu_un.su hU219 rfl)) (show (22 : Nat) ∈ ([5, 6, 7, 8, 9, 10, 22, 1000, 1100, 1200] : List Nat) by decide)) (gu_un.su hU229 rfl)) (gu_un.su hU238 rfl)), (by show ((G236 0 5).toInt ≤ (G 0 3).toInt ∧ (G 0 5).toInt ≤ (G236 0 5).toInt ∧ ((G236 0 6).toInt = 0 ∨ (G 0 5).toInt < (G236 0 5).toInt)); (first | omega | (simp only [Int32.reduceToInt, true_and, and_true, ne_eq, not_true_eq_false, false_and, or_false, false_or, true_or, or_true, false_implies] <;> omega))), ((sg233.un (show gu_un ycd [5, 6, 7, 8] G227 G236 from (gu_un.tr gu_un.rf (gu_un.su hU238 rfl))) rfl rfl)), ((yKp.un kp232 (show gu_un ycd [5, 6, 7, 8] G227 G236 from (gu_un.tr gu_un.rf (gu_un.su hU238 rfl))) rfl)), (by have h8 := q142; first | exact yF_num (show yStp [9, 10, 22, 1000, 1100, 1200] G G227 G236 from ⟨(show gu_un ycd [9, 10, 22, 1000, 1100, 1200] G G227 from (gu_un.tr (gu_un.up (j := 0) (k := 21) (v := y222) (gu_un.tr (gu_un.tr gu_un.rf (gu_un.su hU204 rfl)) (gu_un.su hU219 rfl)) (show (22 : Nat) ∈ ([9, 10, 22, 1000, 1100, 1200] : List Nat) by decide)) (gu_un.su hU229 rfl))), rfl, by (try rw [show G227 2 = (G 2) from (show G227 2 = (gu_up G217 0 21 y222) 2 from funext fun k_ => hU229 2 k_ (show (200 : Nat) ∉ ([1000, 1100, 1200] : List Nat) by decide)).trans ((show G217 2 = G202 2 from funext fun k_ => hU219 2 k_ (show (200 : Nat) ∉ ([9, 10] : List Nat) by decide)).trans ((show G202 2 = G 2 from funext fun k_ => hU204 2 k_ (show (200 : Nat) ∉ ([9, 10] : List Nat) by decide))))]); (try rw [show G227 0 3 = (G 0 3) from (hU229 0 3 (by decide)).trans ((hU219 0 3 (by decide)).trans (hU204 0 3 (by decide)))]); (try rw [show G227 0 5 = (G 0 5) from (hU229 0 5 (by decide)).trans ((hU219 0 5 (by decide)).trans (hU204 0 5 (by decide)))]); exact q246, funext fun k_ => hU238 2 k_ (by simp [ycd]), hU238 0 3 (by decide)⟩) (by omega) (by omega) (show (G236 0 21).toInt = (G 0 21).toInt + 1 by rw [show G236 0 21 = y222 from (hU238 0 21 (by decide)).trans (hU229 0 21 (by decide))]; omega) (by rw [show mL (G 0 20).toInt G236 = mL (G 0 20).toInt G227 from (mL_un (show gu_un ycd [5, 6, 7, 8] G227 G236 from (gu_un.tr gu_un.rf (gu_un.su hU238 rfl))) rfl)]; rw [q231.ml (by omega) (show (0 : Int) ≤ (G217 12 ((G 0 20).toInt).toNat).toInt from (hI218 12 _).1), mEn_0 (by decide)] <;> (rw [show mL (G 0 20).toInt (gu_up G217 0 21 y222) = mL (G 0 20).toInt G from (mL_un (show gu_un ycd [9, 10, 22] G (gu_up G217 0 21 y222) from (gu_un.up (j := 0) (k := 21) (v := y222) (gu_un.tr (gu_un.tr gu_un.rf (gu_un.su hU204 rfl)) (gu_un.su hU219 rfl)) (show (22 : Nat) ∈ ([9, 10, 22] : List Nat) by decide))) rfl)])) | exact yF_let (show (((((G 0 20).toInt - 3).toNat : Nat)) : Int) = (G 0 20).toInt - 3 by omega) (show yStp [9, 10, 22, 1000, 1100, 1200] G G227 G236 from ⟨(show gu_un ycd [9, 10, 22, 1000, 1100, 1200] G G227 from (gu_un.tr (gu_un.up (j := 0) (k := 21) (v := y222) (gu_un.tr (gu_un.tr gu_un.rf (gu_un.su hU204 rfl)) (gu_un.su hU219 rfl)) (show (22 : Nat) ∈ ([9, 10, 22, 1000, 1100, 1200] : List Nat) by decide)) (gu_un.su hU229 rfl))), rfl, by (try rw [show G227 2 = (G 2) from (show G227 2 = (gu_up G217 0 21 y222) 2 from funext fun k_ => hU229 2 k_ (show (200 : Nat) ∉ ([1000, 1100, 1200] : List Nat) by decide)).trans ((show G217 2 = G202 2 from funext fun k_ => hU219 2 k_ (show (200 : Nat) ∉ ([9, 10] : List Nat) by decide)).trans ((show G202 2 = G 2 from funext fun k_ => hU204 2 k_ (show (200 : Nat) ∉ ([9, 10] : List Nat) by decide))))]); (try rw [show G227 0 3 = (G 0 3) from (hU229 0 3 (by decide)).trans ((hU219 0 3 (by decide)).trans (hU204 0 3 (by decide)))]); (try rw [show G227 0 5 = (G 0 5) from (hU229 0 5 (by decide)).trans ((hU219 0 5 (by decide)).trans (hU204 0 5 (by decide)))]); exact q246, funext fun k_ => hU238 2 k_ (by simp [ycd]), hU238 0 3 (by decide)⟩) (by unfold yLt at h8; split at h8 <;> omega) (by rw [← q142]; omega) (by omega) (show (G236 0 21).toInt = (G 0 21).toInt + 1 by rw [show G236 0 21 = y222 from (hU238 0 21 (by decide)).trans (hU229 0 21 (by decide))]; omega) (by rw [← q142]; exact (by rw [show mL (G 0 20).toInt G236 = mL (G 0 20).toInt G227 from (mL_un (show gu_un ycd [5, 6, 7, 8] G227 G236 from (gu_un.tr gu_un.rf (gu_un.su hU238 rfl))) rfl)]; rw [q231.ml (by omega) (show (0 : Int) ≤ (G217 12 ((G 0 20).toInt).toNat).toInt from (hI218 12 _).1), mEn_1 (by decide) (by omega)] <;> (rw [show mL (G 0 20).toInt (gu_up G217 0 21 y222) = mL (G 0 20).toInt G from (mL_un (show gu_un ycd [9, 10, 22] G (gu_up G217 0 21 y222) from (gu_un.up (j := 0) (k := 21) (v := y222) (gu_un.tr (gu_un.tr gu_un.rf (gu_un.su hU204 rfl)) (gu_un.su hU219 rfl)) (show (22 : Nat) ∈ ([9, 10, 22] : List Nat) by decide))) rfl)]))))⟩) rfl rfl dX13_readFactor_171


set_option maxHeartbeats 4000000 in
set_option maxRecDepth 100000 in
theorem S_X13_readProduct_v2 (l : Launch) (D : va_G) (K : Nat → ClassId) (a : Nat → Nat) (G : gS) (qs vs : Nat → Nat) (pb : ((G 0 5).toInt ≤ (G 0 3).toInt)) (s35 : (3 ≤ (G 0 20).toInt)) (m6 : ((G 12 ((G 0 20).toInt).toNat).toInt ≤ 6 * (G 0 21).toInt)) (hI : yI G) (sz : Nat) : KxvZ (yZ qs vs) l yX13_readProduct wsT_X13_readProduct 14 326 D [.ref (a 0), .int 2] (yW K a G) (tK K) sz (fun (G' : gS) => (yI G') ∧ (gu_un ycd [5, 6, 7, 8, 9, 10, 22, 1000, 1100, 1200] G G') ∧ (((G' 0 5).toInt ≤ (G 0 3).toInt ∧ (G 0 5).toInt ≤ (G' 0 5).toInt ∧ ((G' 0 6).toInt = 0 ∨ (G 0 5).toInt < (G' 0 5).toInt))) ∧ (ySg 4 (G 0 20).toInt G G') ∧ (yKp G G') ∧ (ySim cP ((G 0 20).toInt - 3).toNat (qW 2 (G 0 21).toInt (mL (G 0 20).toInt G)) (qD 2 (G' 0 21).toInt (mL (G 0 20).toInt G')) G G') ∧ ((¬ ((G' 0 6).toInt = 3 ∧ xsg (G' 0 7).toInt = 2)))) (fun (G' : gS) => (yI G') ∧ (gu_un ycd [5, 6, 7, 8, 9, 10, 22, 1000, 1100, 1200] G G') ∧ (yKp G G') ∧ (yThr cP ((G 0 20).toInt - 3).toNat (qW 2 (G 0 21).toInt (mL (G 0 20).toInt G)) G G') ∧ (((G' 0 8).toInt ≠ 0))) (a 1) (fun (G' : gS) => (yW K a G')) := by
  unfold KxvZ
  refine gxz_ofW (cc := cX13_readProduct) (lv := [(0, .ref (a 0)), (1, .int 2)]) (by decide) rfl (Nat.le_of_ble_eq_true rfl) rfl ?_
  intro p e s m args below meth c A Q hA hQ hZ F hr hex
  have hts := F.2.2.2.2.1
  have w_0 : (Cond.fieldLink RX13 41 "QuietCutModel" "value" "I").before args s = true := hts _ (List.mem_of_getElem? (i := 1) rfl)
  have i_X13 : ∀ w ∈ u_ws RX13 TX13 73, w ∈ wsT_X13_readProduct := fun w h => List.mem_append_left _ ((show ∀ w ∈ u_ws RX13 TX13 73, w ∈ wsX13_readProduct from fun _ h => List.mem_cons_of_mem _ (List.mem_append_right _ h)) w h)
  have b1 : (0 : Int) ≤ (G 0 3).toInt ∧ (G 0 3).toInt ≤ 1000 := hI 0 3
  have b2 : (0 : Int) ≤ (G 0 5).toInt ∧ (G 0 5).toInt ≤ 1000 := hI 0 5
  have b3 : (0 : Int) ≤ (G 0 6).toInt ∧ (G 0 6).toInt ≤ 4 := hI 0 6
  have b4 : (0 : Int) ≤ (G 0 20).toInt ∧ (G 0 20).toInt ≤ 5 := hI 0 20
  have b5 : (0 : Int) ≤ (G 0 21).toInt ∧ (G 0 21).toInt ≤ 12 := hI 0 21
  have J_5 : ∀ (fuel : Nat) (Gj5 : gS), (8 * (1000 - (Gj5 0 5).toInt) + (Gj5 0 6).toInt).toNat < fuel → (yI Gj5) → (gu_un ycd [5, 6, 7, 8, 9, 10, 22, 1000, 1100, 1200] G Gj5) → (ySg 4 (G 0 20).toInt G Gj5) → (yKp G Gj5) → (ySim cP ((G 0 20).toInt - 3).toNat (qW 2 (G 0 21).toInt (mL (G 0 20).toInt G)) (qD 2 (Gj5 0 21).toInt (mL (G 0 20).toInt Gj5)) G Gj5) → (((Gj5 0 5).toInt ≤ (G 0 3).toInt)) → (((G 0 5).toInt ≤ (Gj5 0 5).toInt ∧ ((Gj5 0 6).toInt = 0 ∨ (G 0 5).toInt < (Gj5 0 5).toInt))) → gG p l e (gR 14 0 0 326) s m args below meth c D A 3 Q 0 0 (yW K a Gj5) (tK K) [(0, .ref (a 0)), (1, .int 2)] 5 [] := by
    intro fuel
    induction fuel with
    | zero => intro Gj5 hm; exact absurd hm (Nat.not_lt_zero _)
    | succ fuel_5 ih_5 =>
      intro Gj5 hm_5 jI5 jU5 sg5 kp5 pf5 bl_5 bm_5
      have J_32 : ∀ (_ : Unit), (((Gj5 0 6).toInt = 3 ∧ (Gj5 0 7).toInt ≠ 33 ∧ xsg (Gj5 0 7).toInt = 2)) → (((Gj5 0 5).toInt ≤ (G 0 3).toInt)) → (((G 0 5).toInt ≤ (Gj5 0 5).toInt ∧ ((Gj5 0 6).toInt = 0 ∨ (G 0 5).toInt < (Gj5 0 5).toInt))) → gG p l e (gR 14 0 0 326) s m args below meth c D A 3 Q 0 0 (yW K a Gj5) (tK K) [(0, .ref (a 0)), (1, .int 2)] 32 [] := by
        intro _ sn bl_32 bm_32
        refine g_aload_n F 0 dX13_readProduct_32 rfl rfl ?_
        refine yg_0_7 F i_X13 w_0 dX13_readProduct_33 (Gj5 0 7) (rfl) ?_
        refine g_istore_n F [(2, .int (Gj5 0 7)), (0, .ref (a 0)), (1, .int 2)] dX13_readProduct_36 rfl (by decide) rfl ?_
        refine g_aload_n F 1 dX13_readProduct_37 rfl rfl ?_
        have b6 : (0 : Int) ≤ (Gj5 0 5).toInt ∧ (Gj5 0 5).toInt ≤ 1000 := jI5 0 5
        refine u_callVv (k := 0) (n := 0) (b := a 0) (As := []) (st := []) F (fun sz => S_X13_scan l D K a Gj5  (by have e9_0_3 : Gj5 0 3 = (G 0 3) := jU5 0 3 (by decide); (try simp only [e9_0_3, true_and, and_true]) <;> (first | omega | (simp only [Int32.reduceToInt, true_and, and_true, ne_eq, not_true_eq_false, false_and, or_false, false_or, true_or, or_true, false_implies] <;> omega))) jI5 sz) (cwV 0 hts (gT_left gX13_readProduct_X13_scan) rfl rfl rfl (by decide +kernel) ⟨Nat.le_of_ble_eq_true rfl, Nat.le_of_ble_eq_true rfl⟩) rfl 0 yc_0 rfl (Nat.le_of_ble_eq_true rfl) ⟨Nat.zero_le _, Nat.zero_le _⟩ dX13_readProduct_38 (fun G9 hw8 => ?_)
        have hI10 : yI G9 := hw8.1
        have hU11 : gu_un ycd [5, 6, 7, 8] Gj5 G9 := hw8.2.1
        have hp12 := hw8.2.2
        have b13 : (0 : Int) ≤ (G9 0 5).toInt ∧ (G9 0 5).toInt ≤ 1000 := hI10 0 5
        have b14 : (0 : Int) ≤ (G9 0 4).toInt ∧ (G9 0 4).toInt ≤ 1000 := hI10 0 4
        have q15 : ((G9 0 5).toInt ≤ (G 0 3).toInt ∧ (Gj5 0 5).toInt ≤ (G9 0 4).toInt ∧ (G9 0 4).toInt ≤ (G9 0 5).toInt) := by have h9 := hp12.1; (try simp only [(show Gj5 0 3 = (G 0 3) from jU5 0 3 (by decide))] at h9); first | exact h9 | omega
        have b16 : (0 : Int) ≤ (G9 0 6).toInt ∧ (G9 0 6).toInt ≤ 4 := hI10 0 6
        have q17 : (((G9 0 6).toInt = 0 ∧ (G9 0 4).toInt = (G 0 3).toInt) ∨ ((G9 0 6).toInt ≠ 0 ∧ (G9 0 4).toInt < (G9 0 5).toInt)) := by have h9 := hp12.2.1; (try simp only [(show Gj5 0 3 = (G 0 3) from jU5 0 3 (by decide))] at h9); first | exact h9 | omega
        have b18 : (0 : Int) ≤ (G9 0 7).toInt ∧ (G9 0 7).toInt ≤ 9999 := hI10 0 7
        have q19 : tTok (G 2) (G 0 3).toInt (Gj5 0 5).toInt (G9 0 6).toInt (G9 0 4).toInt (G9 0 7).toInt (G9 0 5).toInt := by have h9 := hp12.2.2; (try simp only [(show Gj5 0 3 = (G 0 3) from jU5 0 3 (by decide)), (show Gj5 2 = (G 2) from (show Gj5 2 = G 2 from funext fun k_ => jU5 2 k_ (show (200 : Nat) ∉ ([5, 6, 7, 8, 9, 10, 22, 1000, 1100, 1200] : List Nat) by decide)))] at h9); first | exact h9 | omega
        clear hp12 hw8
        refine g_aload_n F 1 dX13_readProduct_41 rfl rfl ?_
        refine g_iload_n F 2 dX13_readProduct_42 rfl rfl ?_
        refine uxz_callvv (k := 0) (n := 0) (b := a 0) (As := [.int 2]) (st := []) F yZ_st hZ (fun sz => S_X13_readFactor_v2 l D K a G9 qs vs  (by have e9_0_3 : G9 0 3 = (G 0 3) := (hU11 0 3 (by decide)).trans (jU5 0 3 (by decide)); (try simp only [e9_0_3, true_and, and_true]) <;> (first | omega | (simp only [Int32.reduceToInt, true_and, and_true, ne_eq, not_true_eq_false, false_and, or_false, false_or, true_or, or_true, false_implies] <;> omega))) (by have e9_0_20 : G9 0 20 = (G 0 20) := (hU11 0 20 (by decide)).trans (jU5 0 20 (by decide)); (try simp only [e9_0_20, true_and, and_true]) <;> (first | omega | (simp only [Int32.reduceToInt, true_and, and_true, ne_eq, not_true_eq_false, false_and, or_false, false_or, true_or, or_true, false_implies] <;> omega))) (by rw [show G9 0 20 = G 0 20 from (hU11 0 20 (by decide)).trans (jU5 0 20 (by decide))]; exact (ySg.m6 (c := 4) (sg5.un (show gu_un ycd [5, 6, 7, 8] Gj5 G9 from (gu_un.tr gu_un.rf (gu_un.su hU11 rfl))) rfl rfl) (by decide) (by decide) m6)) hI10 sz) (cwV 1 hts gT_X13_readProduct_X13_readFactor rfl rfl rfl (by decide +kernel) ⟨Nat.le_of_ble_eq_true rfl, Nat.le_of_ble_eq_true rfl⟩) rfl 0 yc_0 rfl (Nat.le_of_ble_eq_true rfl) ⟨Nat.zero_le _, Nat.zero_le _⟩ dX13_readProduct_43 hex hA hQ (fun u9 h9 => ⟨h9.1, gu_un.tr (gu_un.tr (gu_un.tr gu_un.rf (gu_un.su jU5 rfl)) (gu_un.su hU11 rfl)) (gu_un.su h9.2.1 rfl), (yKp.tr (yKp.un kp5 (show gu_un ycd [5, 6, 7, 8] Gj5 G9 from (gu_un.tr gu_un.rf (gu_un.su hU11 rfl))) rfl) h9.2.2.1), (by have h9 := h9.2.2.2.1; (try rw [show G9 0 20 = (G 0 20) from (hU11 0 20 (by decide)).trans (jU5 0 20 (by decide))] at h9); (try rw [show G9 0 21 = (Gj5 0 21) from hU11 0 21 (by decide)] at h9); exact yP_nextT (yP_sign (v := (Gj5 0 7).toInt) pf5 (show yStp [] Gj5 Gj5 G9 from ⟨(show gu_un ycd [] Gj5 Gj5 from gu_un.rf), rfl, by (try rw [show Gj5 2 = (G 2) from (show Gj5 2 = G 2 from funext fun k_ => jU5 2 k_ (show (200 : Nat) ∉ ([5, 6, 7, 8, 9, 10, 22, 1000, 1100, 1200] : List Nat) by decide))]); (try rw [show Gj5 0 3 = (G 0 3) from jU5 0 3 (by decide)]); exact q19, funext fun k_ => hU11 2 k_ (by simp [ycd]), hU11 0 3 (by decide)⟩) (by omega) rfl sn.2.2) h9 rfl (mL_un (show gu_un ycd [5, 6, 7, 8] Gj5 G9 from (gu_un.tr gu_un.rf (gu_un.su hU11 rfl))) rfl)), (h9.2.2.2.2)⟩) (fun G22 hw21 => ?_)
        have hI23 : yI G22 := hw21.1
        have hU24 : gu_un ycd [5, 6, 7, 8, 9, 10, 22, 1000, 1100, 1200] G9 G22 := hw21.2.1
        have hp25 := hw21.2.2
        have b26 : (0 : Int) ≤ (G22 0 5).toInt ∧ (G22 0 5).toInt ≤ 1000 := hI23 0 5
        have b27 : (0 : Int) ≤ (G22 0 6).toInt ∧ (G22 0 6).toInt ≤ 4 := hI23 0 6
        have q28 : ((G22 0 5).toInt ≤ (G 0 3).toInt ∧ (G9 0 5).toInt ≤ (G22 0 5).toInt ∧ ((G22 0 6).toInt = 0 ∨ (G9 0 5).toInt < (G22 0 5).toInt)) := by have h9 := hp25.1; (try simp only [(show G9 0 3 = (G 0 3) from (hU11 0 3 (by decide)).trans (jU5 0 3 (by decide)))] at h9); first | exact h9 | omega
        have q29 : ySg 4 (G 0 20).toInt G9 G22 := by have h9 := hp25.2.1; (try simp only [(show G9 0 20 = (G 0 20) from (hU11 0 20 (by decide)).trans (jU5 0 20 (by decide)))] at h9); first | exact h9 | omega
        have q30 : yKp G9 G22 := hp25.2.2.1
        have b31 : (0 : Int) ≤ (Gj5 0 21).toInt ∧ (Gj5 0 21).toInt ≤ 12 := jI5 0 21
        have b32 : (0 : Int) ≤ (G22 0 21).toInt ∧ (G22 0 21).toInt ≤ 12 := hI23 0 21
        have q33 : ySim cA ((G 0 20).toInt - 3).toNat (qW 2 (Gj5 0 21).toInt (mL (G 0 20).toInt G9)) (qF 2 (G22 0 21).toInt (mL (G 0 20).toInt G22)) G9 G22 := by have h9 := hp25.2.2.2; (try simp only [(show G9 0 20 = (G 0 20) from (hU11 0 20 (by decide)).trans (jU5 0 20 (by decide))), (show G9 0 21 = (Gj5 0 21) from hU11 0 21 (by decide)), (show G9 0 20 = (G 0 20) from (hU11 0 20 (by decide)).trans (jU5 0 20 (by decide))), (show G9 0 20 = (G 0 20) from (hU11 0 20 (by decide)).trans (jU5 0 20 (by decide)))] at h9); first | exact h9 | omega
        have kp34 : yKp G G22 := yKp.tr (yKp.un kp5 (show gu_un ycd [5, 6, 7, 8] Gj5 G9 from (gu_un.tr gu_un.rf (gu_un.su hU11 rfl))) rfl) q30
        clear hp25 hw21
        refine g_aload_n F 1 dX13_readProduct_46 rfl rfl ?_
        refine g_iconst F 2 dX13_readProduct_47 (by decide) ?_
        refine g_iload_n F 0 dX13_readProduct_48 rfl rfl ?_
        have b35 : (0 : Int) ≤ (Gj5 0 7).toInt ∧ (Gj5 0 7).toInt ≤ 9999 := jI5 0 7
        refine u_callVv (k := 0) (n := 0) (b := a 0) (As := [.int 2, .int (Gj5 0 7)]) (st := []) F (fun sz => S_X13_mark l D K a G22 2 2 (Gj5 0 7) (Gj5 0 7).toInt rfl (by decide) rfl (by omega) (by rw [show G22 0 20 = G 0 20 from (hU24 0 20 (by decide)).trans ((hU11 0 20 (by decide)).trans (jU5 0 20 (by decide)))]; have h9 : (G22 12 ((G 0 20).toInt).toNat).toInt ≤ 6 * (G22 0 21).toInt := (ySg.m6 (c := 4) q29 (by decide) (by decide) (ySg.m6 (c := 4) (sg5.un (show gu_un ycd [5, 6, 7, 8] Gj5 G9 from (gu_un.tr gu_un.rf (gu_un.su hU11 rfl))) rfl rfl) (by decide) (by decide) m6)); have h8 : (0 : Int) ≤ (G22 0 21).toInt ∧ (G22 0 21).toInt ≤ 12 := hI23 0 21; show (G22 12 ((G 0 20).toInt).toNat).toInt ≤ 79; omega) hI23 sz) (cwV 2 hts (gT_left gX13_readProduct_X13_mark) rfl rfl rfl (by decide +kernel) ⟨Nat.le_of_ble_eq_true rfl, Nat.le_of_ble_eq_true rfl⟩) rfl 0 yc_0 rfl (Nat.le_of_ble_eq_true rfl) ⟨Nat.zero_le _, Nat.zero_le _⟩ dX13_readProduct_49 (fun G38 hw37 => ?_)
        have hI39 : yI G38 := hw37.1
        have hU40 : gu_un ycd [1000, 1100, 1200] G22 G38 := hw37.2.1
        have hp41 := hw37.2.2
        have q42 : yMk 2 (Gj5 0 7) (G 0 20).toInt G22 G38 := by have h9 := hp41; (try simp only [(show G22 0 20 = (G 0 20) from (hU24 0 20 (by decide)).trans ((hU11 0 20 (by decide)).trans (jU5 0 20 (by decide))))] at h9); first | exact h9 | omega
        have m0 : 0 ≤ (G 12 ((G 0 20).toInt).toNat).toInt := (show (0 : Int) ≤ (G 12 ((G 0 20).toInt).toNat).toInt ∧ (G 12 ((G 0 20).toInt).toNat).toInt ≤ 80 from hI 12 _).1
        have m1 : 0 ≤ (G22 12 ((G 0 20).toInt).toNat).toInt := (show (0 : Int) ≤ (G22 12 ((G 0 20).toInt).toNat).toInt ∧ (G22 12 ((G 0 20).toInt).toNat).toInt ≤ 80 from hI23 12 _).1
        have kp43 : yKp G G38 := yKp.tr kp34 (q42.kp (by omega) m1)
        have sg44 : ySg 4 (G 0 20).toInt G G38 := ySg.join (sg5.un (show gu_un ycd [5, 6, 7, 8] Gj5 G9 from (gu_un.tr gu_un.rf (gu_un.su hU11 rfl))) rfl rfl) q29 q42 (by decide) (by omega) (by omega) m0 (by have h9 : (G22 12 ((G 0 20).toInt).toNat).toInt ≤ 6 * (G22 0 21).toInt := (ySg.m6 (c := 4) q29 (by decide) (by decide) (ySg.m6 (c := 4) (sg5.un (show gu_un ycd [5, 6, 7, 8] Gj5 G9 from (gu_un.tr gu_un.rf (gu_un.su hU11 rfl))) rfl rfl) (by decide) (by decide) m6)); have h8 : (0 : Int) ≤ (G22 0 21).toInt ∧ (G22 0 21).toInt ≤ 12 := hI23 0 21; omega)
        clear hp41 hw37
        refine g_goto F 5 dX13_readProduct_52 (by decide) ?_
        refine g_locals [(0, .ref (a 0)), (1, .int 2)] [1, 2] rfl ?_
        exact ih_5 G38 (by have e9_0_5 : G38 0 5 = (G22 0 5) := hU40 0 5 (by decide); have e9_0_6 : G38 0 6 = (G22 0 6) := hU40 0 6 (by decide); (try simp only [e9_0_5, e9_0_6, true_and, and_true]) <;> omega) hI39 (gu_un.tr (gu_un.tr (gu_un.tr (gu_un.tr gu_un.rf (gu_un.su jU5 rfl)) (gu_un.su hU11 rfl)) (gu_un.su hU24 rfl)) (gu_un.su hU40 rfl)) (sg44) (kp43) (yP_next (yP_sign (v := (Gj5 0 7).toInt) pf5 (show yStp [] Gj5 Gj5 G9 from ⟨(show gu_un ycd [] Gj5 Gj5 from gu_un.rf), rfl, by (try rw [show Gj5 2 = (G 2) from (show Gj5 2 = G 2 from funext fun k_ => jU5 2 k_ (show (200 : Nat) ∉ ([5, 6, 7, 8, 9, 10, 22, 1000, 1100, 1200] : List Nat) by decide))]); (try rw [show Gj5 0 3 = (G 0 3) from jU5 0 3 (by decide)]); exact q19, funext fun k_ => hU11 2 k_ (by simp [ycd]), hU11 0 3 (by decide)⟩) (by omega) rfl sn.2.2) sn.2.2 q33 rfl (mL_un (show gu_un ycd [5, 6, 7, 8] Gj5 G9 from (gu_un.tr gu_un.rf (gu_un.su hU11 rfl))) rfl) (show gu_un ycd _ _ G38 from (show gu_un ycd [1000, 1100, 1200] G22 G38 from (gu_un.tr gu_un.rf (gu_un.su hU40 rfl)))) rfl (by rw [q42.ml (by omega) (show (0 : Int) ≤ (G22 12 ((G 0 20).toInt).toNat).toInt from (hI23 12 _).1), mEn_2 (by decide) sn.2.1 sn.2.2 (by decide)])) (by have e9_0_3 : G38 0 3 = (G 0 3) := (hU40 0 3 (by decide)).trans ((hU24 0 3 (by decide)).trans ((hU11 0 3 (by decide)).trans (jU5 0 3 (by decide)))); have e9_0_5 : G38 0 5 = (G22 0 5) := hU40 0 5 (by decide); (try simp only [e9_0_3, e9_0_5, true_and, and_true]) <;> (first | omega | (simp only [Int32.reduceToInt, true_and, and_true, ne_eq, not_true_eq_false, false_and, or_false, false_or, true_or, or_true, false_implies] <;> omega))) (by have e9_0_5 : G38 0 5 = (G22 0 5) := hU40 0 5 (by decide); have e9_0_6 : G38 0 6 = (G22 0 6) := hU40 0 6 (by decide); (try simp only [e9_0_5, e9_0_6, true_and, and_true]) <;> (first | omega | (simp only [Int32.reduceToInt, true_and, and_true, ne_eq, not_true_eq_false, false_and, or_false, false_or, true_or, or_true, false_implies] <;> omega)))
      refine g_aload_n F 0 dX13_readProduct_5 rfl rfl ?_
      refine g_bipush F 42 dX13_readProduct_6 (by decide) ?_
      refine u_callVi (k := 0) (n := 0) (b := a 0) (As := [.int 42]) (st := []) F (fun sz => S_X13_isSign l D K a Gj5 42 42 rfl jI5 sz) (cwV 1 hts (gT_left gX13_readProduct_X13_isSign) rfl rfl rfl (by decide +kernel) ⟨Nat.le_of_ble_eq_true rfl, Nat.le_of_ble_eq_true rfl⟩) rfl 0 yc_0 rfl (Nat.le_of_ble_eq_true rfl) ⟨Nat.zero_le _, Nat.zero_le _⟩ dX13_readProduct_8 (fun r45 _ hw46 => ?_)
      rcases hw46 with ⟨rfl, q48⟩ | ⟨rfl, q49⟩
      · have b50 : (0 : Int) ≤ (Gj5 0 6).toInt ∧ (Gj5 0 6).toInt ≤ 4 := jI5 0 6
        have b51 : (0 : Int) ≤ (Gj5 0 7).toInt ∧ (Gj5 0 7).toInt ≤ 9999 := jI5 0 7
        have q48 : ((Gj5 0 6).toInt = 3 ∧ (Gj5 0 7).toInt = (42 : Int)) := q48
        refine v_if_ne F 32 dX13_readProduct_11 (by decide) 1 rfl (fun c52 => ?_) (fun c52 => absurd c52 (by decide))
        have b53 : (0 : Int) ≤ (Gj5 0 5).toInt ∧ (Gj5 0 5).toInt ≤ 1000 := jI5 0 5
        exact J_32 () (⟨by omega, by omega, xsg_2.mpr (by omega)⟩) (by have e9_0_3 : Gj5 0 3 = (G 0 3) := jU5 0 3 (by decide); (try simp only [e9_0_3, true_and, and_true]) <;> (first | omega | (simp only [Int32.reduceToInt, true_and, and_true, ne_eq, not_true_eq_false, false_and, or_false, false_or, true_or, or_true, false_implies] <;> omega))) (by (first | omega | (simp only [Int32.reduceToInt, true_and, and_true, ne_eq, not_true_eq_false, false_and, or_false, false_or, true_or, or_true, false_implies] <;> omega)))
      · have b54 : (0 : Int) ≤ (Gj5 0 6).toInt ∧ (Gj5 0 6).toInt ≤ 4 := jI5 0 6
        have b55 : (0 : Int) ≤ (Gj5 0 7).toInt ∧ (Gj5 0 7).toInt ≤ 9999 := jI5 0 7
        have q49 : ((Gj5 0 6).toInt ≠ 3 ∨ (Gj5 0 7).toInt ≠ (42 : Int)) := q49
        refine v_if_ne F 32 dX13_readProduct_11 (by decide) 0 rfl (fun c56 => absurd c56 (by decide)) (fun c56 => ?_)
        refine g_aload_n F 0 dX13_readProduct_14 rfl rfl ?_
        refine g_bipush F 47 dX13_readProduct_15 (by decide) ?_
        refine u_callVi (k := 0) (n := 0) (b := a 0) (As := [.int 47]) (st := []) F (fun sz => S_X13_isSign l D K a Gj5 47 47 rfl jI5 sz) (cwV 1 hts (gT_left gX13_readProduct_X13_isSign) rfl rfl rfl (by decide +kernel) ⟨Nat.le_of_ble_eq_true rfl, Nat.le_of_ble_eq_true rfl⟩) rfl 0 yc_0 rfl (Nat.le_of_ble_eq_true rfl) ⟨Nat.zero_le _, Nat.zero_le _⟩ dX13_readProduct_17 (fun r57 _ hw58 => ?_)
        rcases hw58 with ⟨rfl, q60⟩ | ⟨rfl, q61⟩
        · have q60 : ((Gj5 0 6).toInt = 3 ∧ (Gj5 0 7).toInt = (47 : Int)) := q60
          refine v_if_ne F 32 dX13_readProduct_20 (by decide) 1 rfl (fun c62 => ?_) (fun c62 => absurd c62 (by decide))
          have b63 : (0 : Int) ≤ (Gj5 0 5).toInt ∧ (Gj5 0 5).toInt ≤ 1000 := jI5 0 5
          exact J_32 () (⟨by omega, by omega, xsg_2.mpr (by omega)⟩) (by have e9_0_3 : Gj5 0 3 = (G 0 3) := jU5 0 3 (by decide); (try simp only [e9_0_3, true_and, and_true]) <;> (first | omega | (simp only [Int32.reduceToInt, true_and, and_true, ne_eq, not_true_eq_false, false_and, or_false, false_or, true_or, or_true, false_implies] <;> omega))) (by (first | omega | (simp only [Int32.reduceToInt, true_and, and_true, ne_eq, not_true_eq_false, false_and, or_false, false_or, true_or, or_true, false_implies] <;> omega)))
        · have q61 : ((Gj5 0 6).toInt ≠ 3 ∨ (Gj5 0 7).toInt ≠ (47 : Int)) := q61
          refine v_if_ne F 32 dX13_readProduct_20 (by decide) 0 rfl (fun c64 => absurd c64 (by decide)) (fun c64 => ?_)
          refine g_aload_n F 0 dX13_readProduct_23 rfl rfl ?_
          refine g_bipush F 37 dX13_readProduct_24 (by decide) ?_
          refine u_callVi (k := 0) (n := 0) (b := a 0) (As := [.int 37]) (st := []) F (fun sz => S_X13_isSign l D K a Gj5 37 37 rfl jI5 sz) (cwV 1 hts (gT_left gX13_readProduct_X13_isSign) rfl rfl rfl (by decide +kernel) ⟨Nat.le_of_ble_eq_true rfl, Nat.le_of_ble_eq_true rfl⟩) rfl 0 yc_0 rfl (Nat.le_of_ble_eq_true rfl) ⟨Nat.zero_le _, Nat.zero_le _⟩ dX13_readProduct_26 (fun r65 _ hw66 => ?_)
          rcases hw66 with ⟨rfl, q68⟩ | ⟨rfl, q69⟩
          · have q68 : ((Gj5 0 6).toInt = 3 ∧ (Gj5 0 7).toInt = (37 : Int)) := q68
            refine v_if_eq F 55 dX13_readProduct_29 (by decide) 1 rfl (fun c70 => absurd c70 (by decide)) (fun c70 => ?_)
            have b71 : (0 : Int) ≤ (Gj5 0 5).toInt ∧ (Gj5 0 5).toInt ≤ 1000 := jI5 0 5
            exact J_32 () (⟨by omega, by omega, xsg_2.mpr (by omega)⟩) (by have e9_0_3 : Gj5 0 3 = (G 0 3) := jU5 0 3 (by decide); (try simp only [e9_0_3, true_and, and_true]) <;> (first | omega | (simp only [Int32.reduceToInt, true_and, and_true, ne_eq, not_true_eq_false, false_and, or_false, false_or, true_or, or_true, false_implies] <;> omega))) (by (first | omega | (simp only [Int32.reduceToInt, true_and, and_true, ne_eq, not_true_eq_false, false_and, or_false, false_or, true_or, or_true, false_implies] <;> omega)))
          · have q69 : ((Gj5 0 6).toInt ≠ 3 ∨ (Gj5 0 7).toInt ≠ (37 : Int)) := q69
            refine v_if_eq F 55 dX13_readProduct_29 (by decide) 0 rfl (fun c72 => ?_) (fun c72 => absurd c72 (by decide))
            have b73 : (0 : Int) ≤ (Gj5 0 5).toInt ∧ (Gj5 0 5).toInt ≤ 1000 := jI5 0 5
            exact ux_vret F hA hQ hr Gj5 (⟨jI5, (gu_un.tr gu_un.rf (gu_un.su jU5 rfl)), (by show ((Gj5 0 5).toInt ≤ (G 0 3).toInt ∧ (G 0 5).toInt ≤ (Gj5 0 5).toInt ∧ ((Gj5 0 6).toInt = 0 ∨ (G 0 5).toInt < (Gj5 0 5).toInt)); (first | omega | (simp only [Int32.reduceToInt, true_and, and_true, ne_eq, not_true_eq_false, false_and, or_false, false_or, true_or, or_true, false_implies] <;> omega))), (sg5), (kp5), (pf5), (fun h7 => by have h6 := xsg_2.mp h7.2; omega)⟩) rfl rfl dX13_readProduct_55
  refine g_aload_n F 0 dX13_readProduct_0 rfl rfl ?_
  refine g_iload_n F 1 dX13_readProduct_1 rfl rfl ?_
  refine uxz_callvv (k := 0) (n := 0) (b := a 0) (As := [.int 2]) (st := []) F yZ_st hZ (fun sz => S_X13_readFactor_v2 l D K a G qs vs  (by (first | omega | (simp only [Int32.reduceToInt, true_and, and_true, ne_eq, not_true_eq_false, false_and, or_false, false_or, true_or, or_true, false_implies] <;> omega))) (by (first | omega | (simp only [Int32.reduceToInt, true_and, and_true, ne_eq, not_true_eq_false, false_and, or_false, false_or, true_or, or_true, false_implies] <;> omega))) (m6) hI sz) (cwV 1 hts gT_X13_readProduct_X13_readFactor rfl rfl rfl (by decide +kernel) ⟨Nat.le_of_ble_eq_true rfl, Nat.le_of_ble_eq_true rfl⟩) rfl 0 yc_0 rfl (Nat.le_of_ble_eq_true rfl) ⟨Nat.zero_le _, Nat.zero_le _⟩ dX13_readProduct_2 hex hA hQ (fun u9 h9 => ⟨h9.1, gu_un.tr gu_un.rf (gu_un.su h9.2.1 rfl), (yKp.tr yKp.rf h9.2.2.1), (by have h9 := h9.2.2.2.1; exact h9.weak), (h9.2.2.2.2)⟩) (fun G76 hw75 => ?_)
  have hI77 : yI G76 := hw75.1
  have hU78 : gu_un ycd [5, 6, 7, 8, 9, 10, 22, 1000, 1100, 1200] G G76 := hw75.2.1
  have hp79 := hw75.2.2
  have b80 : (0 : Int) ≤ (G76 0 5).toInt ∧ (G76 0 5).toInt ≤ 1000 := hI77 0 5
  have b81 : (0 : Int) ≤ (G76 0 6).toInt ∧ (G76 0 6).toInt ≤ 4 := hI77 0 6
  have q82 : ((G76 0 5).toInt ≤ (G 0 3).toInt ∧ (G 0 5).toInt ≤ (G76 0 5).toInt ∧ ((G76 0 6).toInt = 0 ∨ (G 0 5).toInt < (G76 0 5).toInt)) := hp79.1
  have q83 : ySg 4 (G 0 20).toInt G G76 := hp79.2.1
  have q84 : yKp G G76 := hp79.2.2.1
  have b85 : (0 : Int) ≤ (G76 0 21).toInt ∧ (G76 0 21).toInt ≤ 12 := hI77 0 21
  have q86 : ySim cA ((G 0 20).toInt - 3).toNat (qW 2 (G 0 21).toInt (mL (G 0 20).toInt G)) (qF 2 (G76 0 21).toInt (mL (G 0 20).toInt G76)) G G76 := hp79.2.2.2
  have kp87 : yKp G G76 := yKp.tr yKp.rf q84
  have sg88 : ySg 4 (G 0 20).toInt G G76 := q83
  clear hp79 hw75
  exact J_5 _ G76 (Nat.lt_succ_self _) hI77 (gu_un.tr gu_un.rf (gu_un.su hU78 rfl)) (sg88) (kp87) (yP_first q86) (by have e9_0_3 : G76 0 3 = (G 0 3) := hU78 0 3 (by decide); (try simp only [e9_0_3, true_and, and_true]) <;> (first | omega | (simp only [Int32.reduceToInt, true_and, and_true, ne_eq, not_true_eq_false, false_and, or_false, false_or, true_or, or_true, false_implies] <;> omega))) (by (first | omega | (simp only [Int32.reduceToInt, true_and, and_true, ne_eq, not_true_eq_false, false_and, or_false, false_or, true_or, or_true, false_implies] <;> omega)))


set_option maxHeartbeats 4000000 in
set_option maxRecDepth 100000 in
theorem S_X13_readSum_v2 (l : Launch) (D : va_G) (K : Nat → ClassId) (a : Nat → Nat) (G : gS) (qs vs : Nat → Nat) (pb : ((G 0 5).toInt ≤ (G 0 3).toInt)) (s35 : (3 ≤ (G 0 20).toInt)) (m6 : ((G 12 ((G 0 20).toInt).toNat).toInt ≤ 6 * (G 0 21).toInt)) (hI : yI G) (sz : Nat) : KxvZ (yZ qs vs) l yX13_readSum wsT_X13_readSum 15 348 D [.ref (a 0), .int 2] (yW K a G) (tK K) sz (fun (G' : gS) => (yI G') ∧ (gu_un ycd [5, 6, 7, 8, 9, 10, 22, 1000, 1100, 1200] G G') ∧ (((G' 0 5).toInt ≤ (G 0 3).toInt ∧ (G 0 5).toInt ≤ (G' 0 5).toInt ∧ ((G' 0 6).toInt = 0 ∨ (G 0 5).toInt < (G' 0 5).toInt))) ∧ (ySg 4 (G 0 20).toInt G G') ∧ (yKp G G') ∧ (ySim cS ((G 0 20).toInt - 3).toNat (qW 2 (G 0 21).toInt (mL (G 0 20).toInt G)) (qD 2 (G' 0 21).toInt (mL (G 0 20).toInt G')) G G') ∧ (((G' 0 6).toInt ≠ 3 ∨ xsg (G' 0 7).toInt = 0))) (fun (G' : gS) => (yI G') ∧ (gu_un ycd [5, 6, 7, 8, 9, 10, 22, 1000, 1100, 1200] G G') ∧ (yKp G G') ∧ (yThr cS ((G 0 20).toInt - 3).toNat (qW 2 (G 0 21).toInt (mL (G 0 20).toInt G)) G G') ∧ (((G' 0 8).toInt ≠ 0))) (a 1) (fun (G' : gS) => (yW K a G')) := by
  unfold KxvZ
  refine gxz_ofW (cc := cX13_readSum) (lv := [(0, .ref (a 0)), (1, .int 2)]) (by decide) rfl (Nat.le_of_ble_eq_true rfl) rfl ?_
  intro p e s m args below meth c A Q hA hQ hZ F hr hex
  have hts := F.2.2.2.2.1
  have w_0 : (Cond.fieldLink RX13 41 "QuietCutModel" "value" "I").before args s = true := hts _ (List.mem_of_getElem? (i := 1) rfl)
  have i_X13 : ∀ w ∈ u_ws RX13 TX13 73, w ∈ wsT_X13_readSum := fun w h => List.mem_append_left _ ((show ∀ w ∈ u_ws RX13 TX13 73, w ∈ wsX13_readSum from fun _ h => List.mem_cons_of_mem _ (List.mem_append_right _ h)) w h)
  have b1 : (0 : Int) ≤ (G 0 3).toInt ∧ (G 0 3).toInt ≤ 1000 := hI 0 3
  have b2 : (0 : Int) ≤ (G 0 5).toInt ∧ (G 0 5).toInt ≤ 1000 := hI 0 5
  have b3 : (0 : Int) ≤ (G 0 6).toInt ∧ (G 0 6).toInt ≤ 4 := hI 0 6
  have b4 : (0 : Int) ≤ (G 0 20).toInt ∧ (G 0 20).toInt ≤ 5 := hI 0 20
  have b5 : (0 : Int) ≤ (G 0 21).toInt ∧ (G 0 21).toInt ≤ 12 := hI 0 21
  have J_5 : ∀ (fuel : Nat) (Gj5 : gS), (8 * (1000 - (Gj5 0 5).toInt) + (Gj5 0 6).toInt).toNat < fuel → (yI Gj5) → (gu_un ycd [5, 6, 7, 8, 9, 10, 22, 1000, 1100, 1200] G Gj5) → (ySg 4 (G 0 20).toInt G Gj5) → (yKp G Gj5) → (ySim cS ((G 0 20).toInt - 3).toNat (qW 2 (G 0 21).toInt (mL (G 0 20).toInt G)) (qD 2 (Gj5 0 21).toInt (mL (G 0 20).toInt Gj5)) G Gj5) → (¬ ((Gj5 0 6).toInt = 3 ∧ xsg (Gj5 0 7).toInt = 2)) → (((Gj5 0 5).toInt ≤ (G 0 3).toInt)) → (((G 0 5).toInt ≤ (Gj5 0 5).toInt ∧ ((Gj5 0 6).toInt = 0 ∨ (G 0 5).toInt < (Gj5 0 5).toInt))) → gG p l e (gR 15 0 0 348) s m args below meth c D A 3 Q 0 0 (yW K a Gj5) (tK K) [(0, .ref (a 0)), (1, .int 2)] 5 [] := by
    intro fuel
    induction fuel with
    | zero => intro Gj5 hm; exact absurd hm (Nat.not_lt_zero _)
    | succ fuel_5 ih_5 =>
      intro Gj5 hm_5 jI5 jU5 sg5 kp5 pf5 pn5 bl_5 bm_5
      have J_23 : ∀ (_ : Unit), (((Gj5 0 6).toInt = 3 ∧ (Gj5 0 7).toInt ≠ 33 ∧ xsg (Gj5 0 7).toInt = 1)) → (((Gj5 0 5).toInt ≤ (G 0 3).toInt)) → (((G 0 5).toInt ≤ (Gj5 0 5).toInt ∧ ((Gj5 0 6).toInt = 0 ∨ (G 0 5).toInt < (Gj5 0 5).toInt))) → gG p l e (gR 15 0 0 348) s m args below meth c D A 3 Q 0 0 (yW K a Gj5) (tK K) [(0, .ref (a 0)), (1, .int 2)] 23 [] := by
        intro _ sn bl_23 bm_23
        refine g_aload_n F 0 dX13_readSum_23 rfl rfl ?_
        refine yg_0_7 F i_X13 w_0 dX13_readSum_24 (Gj5 0 7) (rfl) ?_
        refine g_istore_n F [(2, .int (Gj5 0 7)), (0, .ref (a 0)), (1, .int 2)] dX13_readSum_27 rfl (by decide) rfl ?_
        refine g_aload_n F 1 dX13_readSum_28 rfl rfl ?_
        have b6 : (0 : Int) ≤ (Gj5 0 5).toInt ∧ (Gj5 0 5).toInt ≤ 1000 := jI5 0 5
        refine u_callVv (k := 0) (n := 0) (b := a 0) (As := []) (st := []) F (fun sz => S_X13_scan l D K a Gj5  (by have e9_0_3 : Gj5 0 3 = (G 0 3) := jU5 0 3 (by decide); (try simp only [e9_0_3, true_and, and_true]) <;> (first | omega | (simp only [Int32.reduceToInt, true_and, and_true, ne_eq, not_true_eq_false, false_and, or_false, false_or, true_or, or_true, false_implies] <;> omega))) jI5 sz) (cwV 0 hts (gT_left gX13_readSum_X13_scan) rfl rfl rfl (by decide +kernel) ⟨Nat.le_of_ble_eq_true rfl, Nat.le_of_ble_eq_true rfl⟩) rfl 0 yc_0 rfl (Nat.le_of_ble_eq_true rfl) ⟨Nat.zero_le _, Nat.zero_le _⟩ dX13_readSum_29 (fun G9 hw8 => ?_)
        have hI10 : yI G9 := hw8.1
        have hU11 : gu_un ycd [5, 6, 7, 8] Gj5 G9 := hw8.2.1
        have hp12 := hw8.2.2
        have b13 : (0 : Int) ≤ (G9 0 5).toInt ∧ (G9 0 5).toInt ≤ 1000 := hI10 0 5
        have b14 : (0 : Int) ≤ (G9 0 4).toInt ∧ (G9 0 4).toInt ≤ 1000 := hI10 0 4
        have q15 : ((G9 0 5).toInt ≤ (G 0 3).toInt ∧ (Gj5 0 5).toInt ≤ (G9 0 4).toInt ∧ (G9 0 4).toInt ≤ (G9 0 5).toInt) := by have h9 := hp12.1; (try simp only [(show Gj5 0 3 = (G 0 3) from jU5 0 3 (by decide))] at h9); first | exact h9 | omega
        have b16 : (0 : Int) ≤ (G9 0 6).toInt ∧ (G9 0 6).toInt ≤ 4 := hI10 0 6
        have q17 : (((G9 0 6).toInt = 0 ∧ (G9 0 4).toInt = (G 0 3).toInt) ∨ ((G9 0 6).toInt ≠ 0 ∧ (G9 0 4).toInt < (G9 0 5).toInt)) := by have h9 := hp12.2.1; (try simp only [(show Gj5 0 3 = (G 0 3) from jU5 0 3 (by decide))] at h9); first | exact h9 | omega
        have b18 : (0 : Int) ≤ (G9 0 7).toInt ∧ (G9 0 7).toInt ≤ 9999 := hI10 0 7
        have q19 : tTok (G 2) (G 0 3).toInt (Gj5 0 5).toInt (G9 0 6).toInt (G9 0 4).toInt (G9 0 7).toInt (G9 0 5).toInt := by have h9 := hp12.2.2; (try simp only [(show Gj5 0 3 = (G 0 3) from jU5 0 3 (by decide)), (show Gj5 2 = (G 2) from (show Gj5 2 = G 2 from funext fun k_ => jU5 2 k_ (show (200 : Nat) ∉ ([5, 6, 7, 8, 9, 10, 22, 1000, 1100, 1200] : List Nat) by decide)))] at h9); first | exact h9 | omega
        clear hp12 hw8
        refine g_aload_n F 1 dX13_readSum_32 rfl rfl ?_
        refine g_iload_n F 2 dX13_readSum_33 rfl rfl ?_
        refine uxz_callvv (k := 0) (n := 0) (b := a 0) (As := [.int 2]) (st := []) F yZ_st hZ (fun sz => S_X13_readProduct_v2 l D K a G9 qs vs  (by have e9_0_3 : G9 0 3 = (G 0 3) := (hU11 0 3 (by decide)).trans (jU5 0 3 (by decide)); (try simp only [e9_0_3, true_and, and_true]) <;> (first | omega | (simp only [Int32.reduceToInt, true_and, and_true, ne_eq, not_true_eq_false, false_and, or_false, false_or, true_or, or_true, false_implies] <;> omega))) (by have e9_0_20 : G9 0 20 = (G 0 20) := (hU11 0 20 (by decide)).trans (jU5 0 20 (by decide)); (try simp only [e9_0_20, true_and, and_true]) <;> (first | omega | (simp only [Int32.reduceToInt, true_and, and_true, ne_eq, not_true_eq_false, false_and, or_false, false_or, true_or, or_true, false_implies] <;> omega))) (by rw [show G9 0 20 = G 0 20 from (hU11 0 20 (by decide)).trans (jU5 0 20 (by decide))]; exact (ySg.m6 (c := 4) (sg5.un (show gu_un ycd [5, 6, 7, 8] Gj5 G9 from (gu_un.tr gu_un.rf (gu_un.su hU11 rfl))) rfl rfl) (by decide) (by decide) m6)) hI10 sz) (cwV 1 hts gT_X13_readSum_X13_readProduct rfl rfl rfl (by decide +kernel) ⟨Nat.le_of_ble_eq_true rfl, Nat.le_of_ble_eq_true rfl⟩) rfl 0 yc_0 rfl (Nat.le_of_ble_eq_true rfl) ⟨Nat.zero_le _, Nat.zero_le _⟩ dX13_readSum_34 hex hA hQ (fun u9 h9 => ⟨h9.1, gu_un.tr (gu_un.tr (gu_un.tr gu_un.rf (gu_un.su jU5 rfl)) (gu_un.su hU11 rfl)) (gu_un.su h9.2.1 rfl), (yKp.tr (yKp.un kp5 (show gu_un ycd [5, 6, 7, 8] Gj5 G9 from (gu_un.tr gu_un.rf (gu_un.su hU11 rfl))) rfl) h9.2.2.1), (by have h9 := h9.2.2.2.1; (try rw [show G9 0 20 = (G 0 20) from (hU11 0 20 (by decide)).trans (jU5 0 20 (by decide))] at h9); (try rw [show G9 0 21 = (Gj5 0 21) from hU11 0 21 (by decide)] at h9); exact yS_nextT (yS_sign (v := (Gj5 0 7).toInt) pf5 (show yStp [] Gj5 Gj5 G9 from ⟨(show gu_un ycd [] Gj5 Gj5 from gu_un.rf), rfl, by (try rw [show Gj5 2 = (G 2) from (show Gj5 2 = G 2 from funext fun k_ => jU5 2 k_ (show (200 : Nat) ∉ ([5, 6, 7, 8, 9, 10, 22, 1000, 1100, 1200] : List Nat) by decide))]); (try rw [show Gj5 0 3 = (G 0 3) from jU5 0 3 (by decide)]); exact q19, funext fun k_ => hU11 2 k_ (by simp [ycd]), hU11 0 3 (by decide)⟩) (by omega) rfl sn.2.2) sn.2.2 h9 rfl (mL_un (show gu_un ycd [5, 6, 7, 8] Gj5 G9 from (gu_un.tr gu_un.rf (gu_un.su hU11 rfl))) rfl)), (h9.2.2.2.2)⟩) (fun G22 hw21 => ?_)
        have hI23 : yI G22 := hw21.1
        have hU24 : gu_un ycd [5, 6, 7, 8, 9, 10, 22, 1000, 1100, 1200] G9 G22 := hw21.2.1
        have hp25 := hw21.2.2
        have b26 : (0 : Int) ≤ (G22 0 5).toInt ∧ (G22 0 5).toInt ≤ 1000 := hI23 0 5
        have b27 : (0 : Int) ≤ (G22 0 6).toInt ∧ (G22 0 6).toInt ≤ 4 := hI23 0 6
        have q28 : ((G22 0 5).toInt ≤ (G 0 3).toInt ∧ (G9 0 5).toInt ≤ (G22 0 5).toInt ∧ ((G22 0 6).toInt = 0 ∨ (G9 0 5).toInt < (G22 0 5).toInt)) := by have h9 := hp25.1; (try simp only [(show G9 0 3 = (G 0 3) from (hU11 0 3 (by decide)).trans (jU5 0 3 (by decide)))] at h9); first | exact h9 | omega
        have q29 : ySg 4 (G 0 20).toInt G9 G22 := by have h9 := hp25.2.1; (try simp only [(show G9 0 20 = (G 0 20) from (hU11 0 20 (by decide)).trans (jU5 0 20 (by decide)))] at h9); first | exact h9 | omega
        have q30 : yKp G9 G22 := hp25.2.2.1
        have b31 : (0 : Int) ≤ (Gj5 0 21).toInt ∧ (Gj5 0 21).toInt ≤ 12 := jI5 0 21
        have b32 : (0 : Int) ≤ (G22 0 21).toInt ∧ (G22 0 21).toInt ≤ 12 := hI23 0 21
        have q33 : ySim cP ((G 0 20).toInt - 3).toNat (qW 2 (Gj5 0 21).toInt (mL (G 0 20).toInt G9)) (qD 2 (G22 0 21).toInt (mL (G 0 20).toInt G22)) G9 G22 := by have h9 := hp25.2.2.2.1; (try simp only [(show G9 0 20 = (G 0 20) from (hU11 0 20 (by decide)).trans (jU5 0 20 (by decide))), (show G9 0 21 = (Gj5 0 21) from hU11 0 21 (by decide)), (show G9 0 20 = (G 0 20) from (hU11 0 20 (by decide)).trans (jU5 0 20 (by decide))), (show G9 0 20 = (G 0 20) from (hU11 0 20 (by decide)).trans (jU5 0 20 (by decide)))] at h9); first | exact h9 | omega
        have b34 : (0 : Int) ≤ (G22 0 7).toInt ∧ (G22 0 7).toInt ≤ 9999 := hI23 0 7
        have q35 : (¬ ((G22 0 6).toInt = 3 ∧ xsg (G22 0 7).toInt = 2)) := hp25.2.2.2.2
        have kp36 : yKp G G22 := yKp.tr (yKp.un kp5 (show gu_un ycd [5, 6, 7, 8] Gj5 G9 from (gu_un.tr gu_un.rf (gu_un.su hU11 rfl))) rfl) q30
        clear hp25 hw21
        refine g_aload_n F 1 dX13_readSum_37 rfl rfl ?_
        refine g_iconst F 2 dX13_readSum_38 (by decide) ?_
        refine g_iload_n F 0 dX13_readSum_39 rfl rfl ?_
        have b37 : (0 : Int) ≤ (Gj5 0 7).toInt ∧ (Gj5 0 7).toInt ≤ 9999 := jI5 0 7
        refine u_callVv (k := 0) (n := 0) (b := a 0) (As := [.int 2, .int (Gj5 0 7)]) (st := []) F (fun sz => S_X13_mark l D K a G22 2 2 (Gj5 0 7) (Gj5 0 7).toInt rfl (by decide) rfl (by omega) (by rw [show G22 0 20 = G 0 20 from (hU24 0 20 (by decide)).trans ((hU11 0 20 (by decide)).trans (jU5 0 20 (by decide)))]; have h9 : (G22 12 ((G 0 20).toInt).toNat).toInt ≤ 6 * (G22 0 21).toInt := (ySg.m6 (c := 4) q29 (by decide) (by decide) (ySg.m6 (c := 4) (sg5.un (show gu_un ycd [5, 6, 7, 8] Gj5 G9 from (gu_un.tr gu_un.rf (gu_un.su hU11 rfl))) rfl rfl) (by decide) (by decide) m6)); have h8 : (0 : Int) ≤ (G22 0 21).toInt ∧ (G22 0 21).toInt ≤ 12 := hI23 0 21; show (G22 12 ((G 0 20).toInt).toNat).toInt ≤ 79; omega) hI23 sz) (cwV 2 hts (gT_left gX13_readSum_X13_mark) rfl rfl rfl (by decide +kernel) ⟨Nat.le_of_ble_eq_true rfl, Nat.le_of_ble_eq_true rfl⟩) rfl 0 yc_0 rfl (Nat.le_of_ble_eq_true rfl) ⟨Nat.zero_le _, Nat.zero_le _⟩ dX13_readSum_40 (fun G40 hw39 => ?_)
        have hI41 : yI G40 := hw39.1
        have hU42 : gu_un ycd [1000, 1100, 1200] G22 G40 := hw39.2.1
        have hp43 := hw39.2.2
        have q44 : yMk 2 (Gj5 0 7) (G 0 20).toInt G22 G40 := by have h9 := hp43; (try simp only [(show G22 0 20 = (G 0 20) from (hU24 0 20 (by decide)).trans ((hU11 0 20 (by decide)).trans (jU5 0 20 (by decide))))] at h9); first | exact h9 | omega
        have m0 : 0 ≤ (G 12 ((G 0 20).toInt).toNat).toInt := (show (0 : Int) ≤ (G 12 ((G 0 20).toInt).toNat).toInt ∧ (G 12 ((G 0 20).toInt).toNat).toInt ≤ 80 from hI 12 _).1
        have m1 : 0 ≤ (G22 12 ((G 0 20).toInt).toNat).toInt := (show (0 : Int) ≤ (G22 12 ((G 0 20).toInt).toNat).toInt ∧ (G22 12 ((G 0 20).toInt).toNat).toInt ≤ 80 from hI23 12 _).1
        have kp45 : yKp G G40 := yKp.tr kp36 (q44.kp (by omega) m1)
        have sg46 : ySg 4 (G 0 20).toInt G G40 := ySg.join (sg5.un (show gu_un ycd [5, 6, 7, 8] Gj5 G9 from (gu_un.tr gu_un.rf (gu_un.su hU11 rfl))) rfl rfl) q29 q44 (by decide) (by omega) (by omega) m0 (by have h9 : (G22 12 ((G 0 20).toInt).toNat).toInt ≤ 6 * (G22 0 21).toInt := (ySg.m6 (c := 4) q29 (by decide) (by decide) (ySg.m6 (c := 4) (sg5.un (show gu_un ycd [5, 6, 7, 8] Gj5 G9 from (gu_un.tr gu_un.rf (gu_un.su hU11 rfl))) rfl rfl) (by decide) (by decide) m6)); have h8 : (0 : Int) ≤ (G22 0 21).toInt ∧ (G22 0 21).toInt ≤ 12 := hI23 0 21; omega)
        clear hp43 hw39
        refine g_goto F 5 dX13_readSum_43 (by decide) ?_
        refine g_locals [(0, .ref (a 0)), (1, .int 2)] [1, 2] rfl ?_
        exact ih_5 G40 (by have e9_0_5 : G40 0 5 = (G22 0 5) := hU42 0 5 (by decide); have e9_0_6 : G40 0 6 = (G22 0 6) := hU42 0 6 (by decide); (try simp only [e9_0_5, e9_0_6, true_and, and_true]) <;> omega) hI41 (gu_un.tr (gu_un.tr (gu_un.tr (gu_un.tr gu_un.rf (gu_un.su jU5 rfl)) (gu_un.su hU11 rfl)) (gu_un.su hU24 rfl)) (gu_un.su hU42 rfl)) (sg46) (kp45) (yS_next (yS_sign (v := (Gj5 0 7).toInt) pf5 (show yStp [] Gj5 Gj5 G9 from ⟨(show gu_un ycd [] Gj5 Gj5 from gu_un.rf), rfl, by (try rw [show Gj5 2 = (G 2) from (show Gj5 2 = G 2 from funext fun k_ => jU5 2 k_ (show (200 : Nat) ∉ ([5, 6, 7, 8, 9, 10, 22, 1000, 1100, 1200] : List Nat) by decide))]); (try rw [show Gj5 0 3 = (G 0 3) from jU5 0 3 (by decide)]); exact q19, funext fun k_ => hU11 2 k_ (by simp [ycd]), hU11 0 3 (by decide)⟩) (by omega) rfl sn.2.2) sn.2.2 q33 rfl (mL_un (show gu_un ycd [5, 6, 7, 8] Gj5 G9 from (gu_un.tr gu_un.rf (gu_un.su hU11 rfl))) rfl) (fun h7 => by have h6 := q35; exact h6 h7) (show gu_un ycd _ _ G40 from (show gu_un ycd [1000, 1100, 1200] G22 G40 from (gu_un.tr gu_un.rf (gu_un.su hU42 rfl)))) rfl (by rw [q44.ml (by omega) (show (0 : Int) ≤ (G22 12 ((G 0 20).toInt).toNat).toInt from (hI23 12 _).1), mEn_2 (by decide) sn.2.1 sn.2.2 (by decide)])) (by rw [show G40 0 6 = (G22 0 6) from hU42 0 6 (by decide), show G40 0 7 = (G22 0 7) from hU42 0 7 (by decide)]; exact q35) (by have e9_0_3 : G40 0 3 = (G 0 3) := (hU42 0 3 (by decide)).trans ((hU24 0 3 (by decide)).trans ((hU11 0 3 (by decide)).trans (jU5 0 3 (by decide)))); have e9_0_5 : G40 0 5 = (G22 0 5) := hU42 0 5 (by decide); (try simp only [e9_0_3, e9_0_5, true_and, and_true]) <;> (first | omega | (simp only [Int32.reduceToInt, true_and, and_true, ne_eq, not_true_eq_false, false_and, or_false, false_or, true_or, or_true, false_implies] <;> omega))) (by have e9_0_5 : G40 0 5 = (G22 0 5) := hU42 0 5 (by decide); have e9_0_6 : G40 0 6 = (G22 0 6) := hU42 0 6 (by decide); (try simp only [e9_0_5, e9_0_6, true_and, and_true]) <;> (first | omega | (simp only [Int32.reduceToInt, true_and, and_true, ne_eq, not_true_eq_false, false_and, or_false, false_or, true_or, or_true, false_implies] <;> omega)))
      refine g_aload_n F 0 dX13_readSum_5 rfl rfl ?_
      refine g_bipush F 43 dX13_readSum_6 (by decide) ?_
      refine u_callVi (k := 0) (n := 0) (b := a 0) (As := [.int 43]) (st := []) F (fun sz => S_X13_isSign l D K a Gj5 43 43 rfl jI5 sz) (cwV 1 hts (gT_left gX13_readSum_X13_isSign) rfl rfl rfl (by decide +kernel) ⟨Nat.le_of_ble_eq_true rfl, Nat.le_of_ble_eq_true rfl⟩) rfl 0 yc_0 rfl (Nat.le_of_ble_eq_true rfl) ⟨Nat.zero_le _, Nat.zero_le _⟩ dX13_readSum_8 (fun r47 _ hw48 => ?_)
      rcases hw48 with ⟨rfl, q50⟩ | ⟨rfl, q51⟩
      · have b52 : (0 : Int) ≤ (Gj5 0 6).toInt ∧ (Gj5 0 6).toInt ≤ 4 := jI5 0 6
        have b53 : (0 : Int) ≤ (Gj5 0 7).toInt ∧ (Gj5 0 7).toInt ≤ 9999 := jI5 0 7
        have q50 : ((Gj5 0 6).toInt = 3 ∧ (Gj5 0 7).toInt = (43 : Int)) := q50
        refine v_if_ne F 23 dX13_readSum_11 (by decide) 1 rfl (fun c54 => ?_) (fun c54 => absurd c54 (by decide))
        have b55 : (0 : Int) ≤ (Gj5 0 5).toInt ∧ (Gj5 0 5).toInt ≤ 1000 := jI5 0 5
        exact J_23 () (⟨by omega, by omega, xsg_1.mpr (by omega)⟩) (by have e9_0_3 : Gj5 0 3 = (G 0 3) := jU5 0 3 (by decide); (try simp only [e9_0_3, true_and, and_true]) <;> (first | omega | (simp only [Int32.reduceToInt, true_and, and_true, ne_eq, not_true_eq_false, false_and, or_false, false_or, true_or, or_true, false_implies] <;> omega))) (by (first | omega | (simp only [Int32.reduceToInt, true_and, and_true, ne_eq, not_true_eq_false, false_and, or_false, false_or, true_or, or_true, false_implies] <;> omega)))
      · have b56 : (0 : Int) ≤ (Gj5 0 6).toInt ∧ (Gj5 0 6).toInt ≤ 4 := jI5 0 6
        have b57 : (0 : Int) ≤ (Gj5 0 7).toInt ∧ (Gj5 0 7).toInt ≤ 9999 := jI5 0 7
        have q51 : ((Gj5 0 6).toInt ≠ 3 ∨ (Gj5 0 7).toInt ≠ (43 : Int)) := q51
        refine v_if_ne F 23 dX13_readSum_11 (by decide) 0 rfl (fun c58 => absurd c58 (by decide)) (fun c58 => ?_)
        refine g_aload_n F 0 dX13_readSum_14 rfl rfl ?_
        refine g_bipush F 45 dX13_readSum_15 (by decide) ?_
        refine u_callVi (k := 0) (n := 0) (b := a 0) (As := [.int 45]) (st := []) F (fun sz => S_X13_isSign l D K a Gj5 45 45 rfl jI5 sz) (cwV 1 hts (gT_left gX13_readSum_X13_isSign) rfl rfl rfl (by decide +kernel) ⟨Nat.le_of_ble_eq_true rfl, Nat.le_of_ble_eq_true rfl⟩) rfl 0 yc_0 rfl (Nat.le_of_ble_eq_true rfl) ⟨Nat.zero_le _, Nat.zero_le _⟩ dX13_readSum_17 (fun r59 _ hw60 => ?_)
        rcases hw60 with ⟨rfl, q62⟩ | ⟨rfl, q63⟩
        · have q62 : ((Gj5 0 6).toInt = 3 ∧ (Gj5 0 7).toInt = (45 : Int)) := q62
          refine v_if_eq F 46 dX13_readSum_20 (by decide) 1 rfl (fun c64 => absurd c64 (by decide)) (fun c64 => ?_)
          have b65 : (0 : Int) ≤ (Gj5 0 5).toInt ∧ (Gj5 0 5).toInt ≤ 1000 := jI5 0 5
          exact J_23 () (⟨by omega, by omega, xsg_1.mpr (by omega)⟩) (by have e9_0_3 : Gj5 0 3 = (G 0 3) := jU5 0 3 (by decide); (try simp only [e9_0_3, true_and, and_true]) <;> (first | omega | (simp only [Int32.reduceToInt, true_and, and_true, ne_eq, not_true_eq_false, false_and, or_false, false_or, true_or, or_true, false_implies] <;> omega))) (by (first | omega | (simp only [Int32.reduceToInt, true_and, and_true, ne_eq, not_true_eq_false, false_and, or_false, false_or, true_or, or_true, false_implies] <;> omega)))
        · have q63 : ((Gj5 0 6).toInt ≠ 3 ∨ (Gj5 0 7).toInt ≠ (45 : Int)) := q63
          refine v_if_eq F 46 dX13_readSum_20 (by decide) 0 rfl (fun c66 => ?_) (fun c66 => absurd c66 (by decide))
          have b67 : (0 : Int) ≤ (Gj5 0 5).toInt ∧ (Gj5 0 5).toInt ≤ 1000 := jI5 0 5
          exact ux_vret F hA hQ hr Gj5 (⟨jI5, (gu_un.tr gu_un.rf (gu_un.su jU5 rfl)), (by show ((Gj5 0 5).toInt ≤ (G 0 3).toInt ∧ (G 0 5).toInt ≤ (Gj5 0 5).toInt ∧ ((Gj5 0 6).toInt = 0 ∨ (G 0 5).toInt < (Gj5 0 5).toInt)); (first | omega | (simp only [Int32.reduceToInt, true_and, and_true, ne_eq, not_true_eq_false, false_and, or_false, false_or, true_or, or_true, false_implies] <;> omega))), (sg5), (kp5), (pf5), (by have h7 := xsg_le (Gj5 0 7).toInt; have h6 := @xsg_1 (Gj5 0 7).toInt; have h5 := pn5; show _ ∨ _; by_cases h4 : xsg (Gj5 0 7).toInt = 1 <;> first | omega | (left; have h3 := h6.mp h4; omega))⟩) rfl rfl dX13_readSum_46
  refine g_aload_n F 0 dX13_readSum_0 rfl rfl ?_
  refine g_iload_n F 1 dX13_readSum_1 rfl rfl ?_
  refine uxz_callvv (k := 0) (n := 0) (b := a 0) (As := [.int 2]) (st := []) F yZ_st hZ (fun sz => S_X13_readProduct_v2 l D K a G qs vs  (by (first | omega | (simp only [Int32.reduceToInt, true_and, and_true, ne_eq, not_true_eq_false, false_and, or_false, false_or, true_or, or_true, false_implies] <;> omega))) (by (first | omega | (simp only [Int32.reduceToInt, true_and, and_true, ne_eq, not_true_eq_false, false_and, or_false, false_or, true_or, or_true, false_implies] <;> omega))) (m6) hI sz) (cwV 1 hts gT_X13_readSum_X13_readProduct rfl rfl rfl (by decide +kernel) ⟨Nat.le_of_ble_eq_true rfl, Nat.le_of_ble_eq_true rfl⟩) rfl 0 yc_0 rfl (Nat.le_of_ble_eq_true rfl) ⟨Nat.zero_le _, Nat.zero_le _⟩ dX13_readSum_2 hex hA hQ (fun u9 h9 => ⟨h9.1, gu_un.tr gu_un.rf (gu_un.su h9.2.1 rfl), (yKp.tr yKp.rf h9.2.2.1), (by have h9 := h9.2.2.2.1; exact yS_firstT h9), (h9.2.2.2.2)⟩) (fun G70 hw69 => ?_)
  have hI71 : yI G70 := hw69.1
  have hU72 : gu_un ycd [5, 6, 7, 8, 9, 10, 22, 1000, 1100, 1200] G G70 := hw69.2.1
  have hp73 := hw69.2.2
  have b74 : (0 : Int) ≤ (G70 0 5).toInt ∧ (G70 0 5).toInt ≤ 1000 := hI71 0 5
  have b75 : (0 : Int) ≤ (G70 0 6).toInt ∧ (G70 0 6).toInt ≤ 4 := hI71 0 6
  have q76 : ((G70 0 5).toInt ≤ (G 0 3).toInt ∧ (G 0 5).toInt ≤ (G70 0 5).toInt ∧ ((G70 0 6).toInt = 0 ∨ (G 0 5).toInt < (G70 0 5).toInt)) := hp73.1
  have q77 : ySg 4 (G 0 20).toInt G G70 := hp73.2.1
  have q78 : yKp G G70 := hp73.2.2.1
  have b79 : (0 : Int) ≤ (G70 0 21).toInt ∧ (G70 0 21).toInt ≤ 12 := hI71 0 21
  have q80 : ySim cP ((G 0 20).toInt - 3).toNat (qW 2 (G 0 21).toInt (mL (G 0 20).toInt G)) (qD 2 (G70 0 21).toInt (mL (G 0 20).toInt G70)) G G70 := hp73.2.2.2.1
  have b81 : (0 : Int) ≤ (G70 0 7).toInt ∧ (G70 0 7).toInt ≤ 9999 := hI71 0 7
  have q82 : (¬ ((G70 0 6).toInt = 3 ∧ xsg (G70 0 7).toInt = 2)) := hp73.2.2.2.2
  have kp83 : yKp G G70 := yKp.tr yKp.rf q78
  have sg84 : ySg 4 (G 0 20).toInt G G70 := q77
  clear hp73 hw69
  exact J_5 _ G70 (Nat.lt_succ_self _) hI71 (gu_un.tr gu_un.rf (gu_un.su hU72 rfl)) (sg84) (kp83) (yS_first q80) (q82) (by have e9_0_3 : G70 0 3 = (G 0 3) := hU72 0 3 (by decide); (try simp only [e9_0_3, true_and, and_true]) <;> (first | omega | (simp only [Int32.reduceToInt, true_and, and_true, ne_eq, not_true_eq_false, false_and, or_false, false_or, true_or, or_true, false_implies] <;> omega))) (by (first | omega | (simp only [Int32.reduceToInt, true_and, and_true, ne_eq, not_true_eq_false, false_and, or_false, false_or, true_or, or_true, false_implies] <;> omega)))
