
set_option maxHeartbeats 4000000 in
set_option maxRecDepth 100000 in
theorem K_J6_bitCount_0f7a4 (l : Launch) (D : va_G) (a : Int32) (sz : Nat) : Ki l yJ6_bitCount_0f7a4 wsJ6_bitCount_0f7a4 1 30 0 0 D [.int a] [] [] sz (fun (r : Int32) (_ : Unit) => r = (bc_f a)) (fun (_ : Unit) => []) (fun (_ : Unit) => []) := by
  unfold Ki
  refine g_ofWF (cc := cJ6_bitCount_0f7a4) (lv := [(0, .int a)]) (by decide +kernel) rfl (Nat.le_of_ble_eq_true rfl) rfl ?_
  intro p e s m args below meth c A Q hA hQ F hr hnm
  have hts := F.2.2.2.2.1
  have w_0 : (Cond.constant RJ6 265 (1431655765)).before args s = true := hts _ (List.mem_of_getElem? (i := 1) rfl)
  have w_1 : (Cond.constant RJ6 266 (858993459)).before args s = true := hts _ (List.mem_of_getElem? (i := 2) rfl)
  have w_2 : (Cond.constant RJ6 267 (252645135)).before args s = true := hts _ (List.mem_of_getElem? (i := 3) rfl)
  refine g_iload_n F 0 dJ6_bitCount_0f7a4_0 rfl rfl ?_
  refine g_iload_n F 0 dJ6_bitCount_0f7a4_1 rfl rfl ?_
  refine g_iconst F 1 dJ6_bitCount_0f7a4_2 (by decide) ?_
  refine g_iushr F dJ6_bitCount_0f7a4_3 ?_
  refine g_ldcw F w_0 dJ6_bitCount_0f7a4_4 ?_
  refine g_iand F dJ6_bitCount_0f7a4_7 ?_
  refine g_isub F dJ6_bitCount_0f7a4_8 ?_
  refine g_fold (bc_a a) (by rfl) ?_
  refine g_istore_n F [(0, .int (bc_a a))] dJ6_bitCount_0f7a4_9 rfl (by decide) rfl ?_
  refine g_iload_n F 0 dJ6_bitCount_0f7a4_10 rfl rfl ?_
  refine g_ldcw F w_1 dJ6_bitCount_0f7a4_11 ?_
  refine g_iand F dJ6_bitCount_0f7a4_14 ?_
  refine g_iload_n F 0 dJ6_bitCount_0f7a4_15 rfl rfl ?_
  refine g_iconst F 2 dJ6_bitCount_0f7a4_16 (by decide) ?_
  refine g_iushr F dJ6_bitCount_0f7a4_17 ?_
  refine g_ldcw F w_1 dJ6_bitCount_0f7a4_18 ?_
  refine g_iand F dJ6_bitCount_0f7a4_21 ?_
  refine g_iadd F dJ6_bitCount_0f7a4_22 ?_
  refine g_fold (bc_b a) (by rfl) ?_
  refine g_istore_n F [(0, .int (bc_b a))] dJ6_bitCount_0f7a4_23 rfl (by decide) rfl ?_
  refine g_iload_n F 0 dJ6_bitCount_0f7a4_24 rfl rfl ?_
  refine g_iload_n F 0 dJ6_bitCount_0f7a4_25 rfl rfl ?_
  refine g_iconst F 4 dJ6_bitCount_0f7a4_26 (by decide) ?_
  refine g_iushr F dJ6_bitCount_0f7a4_27 ?_
  refine g_iadd F dJ6_bitCount_0f7a4_28 ?_
  refine g_ldcw F w_2 dJ6_bitCount_0f7a4_29 ?_
  refine g_iand F dJ6_bitCount_0f7a4_32 ?_
  refine g_fold (bc_c a) (by rfl) ?_
  refine g_istore_n F [(0, .int (bc_c a))] dJ6_bitCount_0f7a4_33 rfl (by decide) rfl ?_
  refine g_iload_n F 0 dJ6_bitCount_0f7a4_34 rfl rfl ?_
  refine g_iload_n F 0 dJ6_bitCount_0f7a4_35 rfl rfl ?_
  refine g_bipush F 8 dJ6_bitCount_0f7a4_36 (by decide) ?_
  refine g_iushr F dJ6_bitCount_0f7a4_38 ?_
  refine g_iadd F dJ6_bitCount_0f7a4_39 ?_
  refine g_fold (bc_d a) (by rfl) ?_
  refine g_istore_n F [(0, .int (bc_d a))] dJ6_bitCount_0f7a4_40 rfl (by decide) rfl ?_
  refine g_iload_n F 0 dJ6_bitCount_0f7a4_41 rfl rfl ?_
  refine g_iload_n F 0 dJ6_bitCount_0f7a4_42 rfl rfl ?_
  refine g_bipush F 16 dJ6_bitCount_0f7a4_43 (by decide) ?_
  refine g_iushr F dJ6_bitCount_0f7a4_45 ?_
  refine g_iadd F dJ6_bitCount_0f7a4_46 ?_
  refine g_fold (bc_e a) (by rfl) ?_
  refine g_istore_n F [(0, .int (bc_e a))] dJ6_bitCount_0f7a4_47 rfl (by decide) rfl ?_
  refine g_iload_n F 0 dJ6_bitCount_0f7a4_48 rfl rfl ?_
  refine g_bipush F 63 dJ6_bitCount_0f7a4_49 (by decide) ?_
  refine g_iand F dJ6_bitCount_0f7a4_51 ?_
  refine g_fold (bc_f a) (by rfl) ?_
  exact g_iret F hA hQ hr () (rfl) [] [] rfl (by decide) rfl rfl dJ6_bitCount_0f7a4_52

theorem dX5_useTeeth_0 : decode cX5_useTeeth 0 = .ok (.aload_n 0, 1) := by decide +kernel
theorem dX5_useTeeth_1 : decode cX5_useTeeth 1 = .ok (.iload_n 1, 1) := by decide +kernel
theorem dX5_useTeeth_2 : decode cX5_useTeeth 2 = .ok (.putfield 50, 3) := by decide +kernel
theorem dX5_useTeeth_5 : decode cX5_useTeeth 5 = .ok (.return_, 1) := by decide +kernel
set_option maxHeartbeats 4000000 in
set_option maxRecDepth 100000 in
theorem K_X5_useTeeth (l : Launch) (D : va_G) (xl : Nat) (xs : Nat) (la_t : Nat) (la_h : Nat) (la_u : Nat) (la_o : Nat) (la_x : Nat) (l_ring : Int32) (l_speed : Int32) (l_feed : Int32) (l_turns : Int32) (l_teethSet : Int32) (l_teethMany : Int32) (l_wear : Int32) (l_x : Int32) (l_v : Int32) (l_wave : Int32) (l_time : Int32) (l_out : Int32) (l_farthest : Int32) (l_begun : Int32) (ns : Int32) (sz : Nat) : Kv l yX5_useTeeth wsX5_useTeeth 1 30 0 0 D [.ref xl, .int ns] [(xl, .inr (4, [.ref xs, .int l_ring, .int l_speed, .int l_feed, .int l_turns, .ref la_t, .int l_teethSet, .int l_teethMany, .ref la_h, .ref la_u, .ref la_o, .ref la_x, .int l_wear, .int l_x, .int l_v, .int l_wave, .int l_time, .int l_out, .int l_farthest, .int l_begun]))] [] sz (fun (_ : Unit) => True) (fun (_ : Unit) => [(xl, .inr (4, [.ref xs, .int l_ring, .int l_speed, .int l_feed, .int l_turns, .ref la_t, .int ns, .int l_teethMany, .ref la_h, .ref la_u, .ref la_o, .ref la_x, .int l_wear, .int l_x, .int l_v, .int l_wave, .int l_time, .int l_out, .int l_farthest, .int l_begun]))]) (fun (_ : Unit) => []) := by
  unfold Kv
  refine g_ofW (cc := cX5_useTeeth) (lv := [(0, .ref xl), (1, .int ns)]) (by decide) rfl (Nat.le_of_ble_eq_true rfl) rfl ?_
  intro p e s m args below meth c A Q hA hQ F hr hnm
  have hts := F.2.2.2.2.1
  have w_0 : (Cond.fieldLink RX5 50 "QuietCut$Lathe" "teethSet" "I").before args s = true := hts _ (List.mem_of_getElem? (i := 1) rfl)
  have i_X5 : ∀ w ∈ u_ws RX5 TX5 20, w ∈ wsX5_useTeeth := fun _ h => List.mem_cons_of_mem _ (List.mem_append_right _ h)
  refine g_aload_n F 0 dX5_useTeeth_0 rfl rfl ?_
  refine g_iload_n F 1 dX5_useTeeth_1 rfl rfl ?_
  refine g_put (C := RX5) (T := TX5) (N := 20) (ty := .int) (v := .int ns) F i_X5 0 rfl rfl 6 (by decide) w_0 rfl tyX5 tyX5_ok nmX5 rfl (by decide +kernel) rfl rfl (Nat.le_of_ble_eq_true rfl) [(xl, .inr (4, [.ref xs, .int l_ring, .int l_speed, .int l_feed, .int l_turns, .ref la_t, .int ns, .int l_teethMany, .ref la_h, .ref la_u, .ref la_o, .ref la_x, .int l_wear, .int l_x, .int l_v, .int l_wave, .int l_time, .int l_out, .int l_farthest, .int l_begun]))] rfl dX5_useTeeth_2 ?_
  exact g_vret F hA hQ hr () (trivial) [0] [] rfl (by decide) rfl rfl dX5_useTeeth_5

theorem dX0_mayChoose_0 : decode cX0_mayChoose 0 = .ok (.iload_n 1, 1) := by decide +kernel
theorem dX0_mayChoose_1 : decode cX0_mayChoose 1 = .ok (.invokestatic 72, 3) := by decide +kernel
theorem dX0_mayChoose_4 : decode cX0_mayChoose 4 = .ok (.istore_n 2, 1) := by decide +kernel
theorem dX0_mayChoose_5 : decode cX0_mayChoose 5 = .ok (.iload_n 0, 1) := by decide +kernel
theorem dX0_mayChoose_6 : decode cX0_mayChoose 6 = .ok (.iconst 1, 1) := by decide +kernel
theorem dX0_mayChoose_7 : decode cX0_mayChoose 7 = .ok (.if_icmp .lt 33, 3) := by decide +kernel
theorem dX0_mayChoose_10 : decode cX0_mayChoose 10 = .ok (.iload_n 0, 1) := by decide +kernel
theorem dX0_mayChoose_11 : decode cX0_mayChoose 11 = .ok (.iconst 4, 1) := by decide +kernel
theorem dX0_mayChoose_12 : decode cX0_mayChoose 12 = .ok (.if_icmp .gt 28, 3) := by decide +kernel
theorem dX0_mayChoose_15 : decode cX0_mayChoose 15 = .ok (.iload_n 1, 1) := by decide +kernel
theorem dX0_mayChoose_16 : decode cX0_mayChoose 16 = .ok (.ifCond .lt 24, 3) := by decide +kernel
theorem dX0_mayChoose_19 : decode cX0_mayChoose 19 = .ok (.iload_n 1, 1) := by decide +kernel
theorem dX0_mayChoose_20 : decode cX0_mayChoose 20 = .ok (.ldc 77, 2) := by decide +kernel
theorem dX0_mayChoose_22 : decode cX0_mayChoose 22 = .ok (.if_icmp .ge 18, 3) := by decide +kernel
theorem dX0_mayChoose_25 : decode cX0_mayChoose 25 = .ok (.iload_n 2, 1) := by decide +kernel
theorem dX0_mayChoose_26 : decode cX0_mayChoose 26 = .ok (.iload_n 0, 1) := by decide +kernel
theorem dX0_mayChoose_27 : decode cX0_mayChoose 27 = .ok (.if_icmp .lt 13, 3) := by decide +kernel
theorem dX0_mayChoose_30 : decode cX0_mayChoose 30 = .ok (.iload_n 2, 1) := by decide +kernel
theorem dX0_mayChoose_31 : decode cX0_mayChoose 31 = .ok (.bipush 6, 2) := by decide +kernel
theorem dX0_mayChoose_33 : decode cX0_mayChoose 33 = .ok (.if_icmp .gt 7, 3) := by decide +kernel
theorem dX0_mayChoose_36 : decode cX0_mayChoose 36 = .ok (.iconst 1, 1) := by decide +kernel
theorem dX0_mayChoose_37 : decode cX0_mayChoose 37 = .ok (.goto 4, 3) := by decide +kernel
theorem dX0_mayChoose_40 : decode cX0_mayChoose 40 = .ok (.iconst 0, 1) := by decide +kernel
theorem dX0_mayChoose_41 : decode cX0_mayChoose 41 = .ok (.ireturn, 1) := by decide +kernel
set_option maxRecDepth 20000 in
theorem ggX0_mayChoose_J6_bitCount_0f7a4 : GoodIn wsX0_mayChoose wsJ6_bitCount_0f7a4 := goodIn_r _ [5, 6, 7, 8] rfl (by decide +kernel)
set_option maxRecDepth 20000 in
theorem gX0_mayChoose_J6_bitCount_0f7a4 : GoodIn wsX0_mayChoose (va_wsS RX0 72 yJ6_bitCount_0f7a4 wsJ6_bitCount_0f7a4) := goodIn_app (goodIn_of _ (by decide +kernel)) ggX0_mayChoose_J6_bitCount_0f7a4
set_option maxHeartbeats 4000000 in
set_option maxRecDepth 100000 in
theorem K_X0_mayChoose (l : Launch) (D : va_G) (d : Int32) (h : Int32) (sz : Nat) : Ki l yX0_mayChoose wsX0_mayChoose 2 50 0 0 D [.int d, .int h] [] [] sz (fun (r : Int32) (_ : Unit) => r = (if (1 ≤ d ∧ d ≤ 4) ∧ (0 ≤ h ∧ h < 65536) ∧ d ≤ bc_f h ∧ bc_f h ≤ 6 then 1 else 0)) (fun (_ : Unit) => []) (fun (_ : Unit) => []) := by
  unfold Ki
  refine g_ofW (cc := cX0_mayChoose) (lv := [(0, .int d), (1, .int h)]) (by decide) rfl (Nat.le_of_ble_eq_true rfl) rfl ?_
  intro p e s m args below meth c A Q hA hQ F hr hnm
  have hts := F.2.2.2.2.1
  have w_0 : (Cond.constant RX0 77 (65536)).before args s = true := hts _ (List.mem_of_getElem? (i := 1) rfl)
  refine g_iload_n F 1 dX0_mayChoose_0 rfl rfl ?_
  refine g_callSi (k := 0) (n := 0) (As := [.int h]) (st := []) (wc := []) (wr := []) F [] [] [] rfl rfl (by decide) rfl (by decide) (by decide) rfl (fun sz => K_J6_bitCount_0f7a4 l D h  sz) (va_cwS 1 hts gX0_mayChoose_J6_bitCount_0f7a4 rfl rfl rfl (by decide +kernel) ⟨Nat.le_of_ble_eq_true rfl, Nat.le_of_ble_eq_true rfl⟩) rfl (Nat.le_of_ble_eq_true rfl) ⟨Nat.le_of_ble_eq_true rfl, Nat.le_of_ble_eq_true rfl⟩ dX0_mayChoose_1 (fun r_1 _ hw_2 => ?_)
  have hw_2 : r_1 = (bc_f h) := hw_2
  have e_r_1 := hw_2
  show gG p l e (gR 2 0 0 50) s m args below meth c D A 3 Q 0 0 [] [] [(0, .int d), (1, .int h)] 4 [.int r_1]
  refine g_fold (bc_f h) e_r_1 ?_
  refine g_istore_n F [(2, .int (bc_f h)), (0, .int d), (1, .int h)] dX0_mayChoose_4 rfl (by decide) rfl ?_
  refine g_iload_n F 1 dX0_mayChoose_5 rfl rfl ?_
  refine g_iconst F 1 dX0_mayChoose_6 (by decide) ?_
  refine g_icmp_lt F 40 dX0_mayChoose_7 (by decide) (fun c_7 => ?_) (fun c_7 => ?_)
  · refine g_iconst F 0 dX0_mayChoose_40 (by decide) ?_
    exact g_zret F hA hQ hr rfl () (gb_f (fun h9 => absurd h9.1.1 (Int32.not_le.mpr c_7))) [] [] rfl (by decide) rfl rfl dX0_mayChoose_41
  · refine g_iload_n F 1 dX0_mayChoose_10 rfl rfl ?_
    refine g_iconst F 4 dX0_mayChoose_11 (by decide) ?_
    refine g_icmp_gt F 40 dX0_mayChoose_12 (by decide) (fun c_12 => ?_) (fun c_12 => ?_)
    · refine g_iconst F 0 dX0_mayChoose_40 (by decide) ?_
      exact g_zret F hA hQ hr rfl () (gb_f (fun h9 => absurd h9.1.2 (Int32.not_le.mpr c_12))) [] [] rfl (by decide) rfl rfl dX0_mayChoose_41
    · refine g_iload_n F 2 dX0_mayChoose_15 rfl rfl ?_
      refine g_if_lt F 40 dX0_mayChoose_16 (by decide) (fun c_16 => ?_) (fun c_16 => ?_)
      · refine g_iconst F 0 dX0_mayChoose_40 (by decide) ?_
        exact g_zret F hA hQ hr rfl () (gb_f (fun h9 => absurd h9.2.1.1 (Int32.not_le.mpr c_16))) [] [] rfl (by decide) rfl rfl dX0_mayChoose_41
      · refine g_iload_n F 2 dX0_mayChoose_19 rfl rfl ?_
        refine g_ldc F w_0 dX0_mayChoose_20 ?_
        refine g_icmp_ge F 40 dX0_mayChoose_22 (by decide) (fun c_22 => ?_) (fun c_22 => ?_)
        · refine g_iconst F 0 dX0_mayChoose_40 (by decide) ?_
          exact g_zret F hA hQ hr rfl () (gb_f (fun h9 => absurd h9.2.1.2 (Int32.not_lt.mpr c_22))) [] [] rfl (by decide) rfl rfl dX0_mayChoose_41
        · refine g_iload_n F 0 dX0_mayChoose_25 rfl rfl ?_
          refine g_iload_n F 1 dX0_mayChoose_26 rfl rfl ?_
          refine g_icmp_lt F 40 dX0_mayChoose_27 (by decide) (fun c_27 => ?_) (fun c_27 => ?_)
          · refine g_iconst F 0 dX0_mayChoose_40 (by decide) ?_
            exact g_zret F hA hQ hr rfl () (gb_f (fun h9 => absurd h9.2.2.1 (Int32.not_le.mpr c_27))) [] [] rfl (by decide) rfl rfl dX0_mayChoose_41
          · refine g_iload_n F 0 dX0_mayChoose_30 rfl rfl ?_
            refine g_bipush F 6 dX0_mayChoose_31 (by decide) ?_
            refine g_icmp_gt F 40 dX0_mayChoose_33 (by decide) (fun c_33 => ?_) (fun c_33 => ?_)
            · refine g_iconst F 0 dX0_mayChoose_40 (by decide) ?_
              exact g_zret F hA hQ hr rfl () (gb_f (fun h9 => absurd h9.2.2.2 (Int32.not_le.mpr c_33))) [] [] rfl (by decide) rfl rfl dX0_mayChoose_41
            · refine g_iconst F 1 dX0_mayChoose_36 (by decide) ?_
              refine g_goto F 41 dX0_mayChoose_37 (by decide) ?_
              exact g_zret F hA hQ hr rfl () (gb_t ⟨⟨Int32.not_lt.mp c_7, Int32.not_lt.mp c_12⟩, ⟨Int32.not_lt.mp c_16, Int32.not_le.mp c_22⟩, Int32.not_lt.mp c_27, Int32.not_lt.mp c_33⟩) [] [] rfl (by decide) rfl rfl dX0_mayChoose_41

theorem sp_fdz {b : Int32} {y mm L z : Nat} : sp_dp (sp_qz y b) ((sp_bst (sp_dz b) mm L z).2) 20 = if sp_dz b y ≤ (sp_bst (sp_dz b) mm L z).2 then -1 else sp_dz b y := by
  obtain ⟨fl, h1, e1⟩ := sp_bst_fl (b := b) (mm := mm) (L := L) z
  rw [e1]
  unfold sp_dz
  exact sp_dp_fl _ (by omega) 20 (by decide)
theorem sp_fdn {b : Int32} {y mm L z : Nat} (h : (if sp_dz b y ≤ (sp_bst (sp_dz b) mm L z).2 then (-1) else sp_dz b y) = -1) : ¬ (sp_bst (sp_dz b) mm L z).2 < sp_dz b y := by
  by_cases c : sp_dz b y ≤ (sp_bst (sp_dz b) mm L z).2
  · exact Int32.not_lt.mpr c
  · exfalso
    rw [if_neg c] at h
    obtain ⟨fl, h1, e1⟩ := sp_bst_fl (b := b) (mm := mm) (L := L) z
    rw [h, e1] at c
    exact c (Int32.le_of_lt (Int32.lt_of_lt_of_le (show (-1 : Int32) < 0 by decide) (nI_pos' (by omega))))
theorem sp_fdy {b : Int32} {y mm L z : Nat} (h : ¬ (if sp_dz b y ≤ (sp_bst (sp_dz b) mm L z).2 then (-1) else sp_dz b y) = -1) : (sp_bst (sp_dz b) mm L z).2 < sp_dz b y ∧ (if sp_dz b y ≤ (sp_bst (sp_dz b) mm L z).2 then (-1) else sp_dz b y) = sp_dz b y := by
  by_cases c : sp_dz b y ≤ (sp_bst (sp_dz b) mm L z).2
  · exact absurd (if_pos c) h
  · exact ⟨Int32.not_le.mp c, if_neg c⟩

theorem bn_z1 {n : Nat} (h : n < 65536) (e : nI n = 0) : n = 0 := by
  rw [show (0 : Int32) = nI 0 from rfl, nI_eq (by omega) (by decide)] at e
  exact e

theorem dX0_bestSet_0 : decode cX0_bestSet 0 = .ok (.iconst (-1), 1) := by decide +kernel
theorem dX0_bestSet_1 : decode cX0_bestSet 1 = .ok (.istore 5, 2) := by decide +kernel
theorem dX0_bestSet_3 : decode cX0_bestSet 3 = .ok (.iconst 0, 1) := by decide +kernel
theorem dX0_bestSet_4 : decode cX0_bestSet 4 = .ok (.istore 6, 2) := by decide +kernel
theorem dX0_bestSet_6 : decode cX0_bestSet 6 = .ok (.iconst 0, 1) := by decide +kernel
theorem dX0_bestSet_7 : decode cX0_bestSet 7 = .ok (.istore 7, 2) := by decide +kernel
theorem dX0_bestSet_9 : decode cX0_bestSet 9 = .ok (.iconst 0, 1) := by decide +kernel
theorem dX0_bestSet_10 : decode cX0_bestSet 10 = .ok (.istore 8, 2) := by decide +kernel
theorem dX0_bestSet_12 : decode cX0_bestSet 12 = .ok (.iload 8, 2) := by decide +kernel
theorem dX0_bestSet_14 : decode cX0_bestSet 14 = .ok (.bipush 64, 2) := by decide +kernel
theorem dX0_bestSet_16 : decode cX0_bestSet 16 = .ok (.if_icmp .ge 69, 3) := by decide +kernel
theorem dX0_bestSet_19 : decode cX0_bestSet 19 = .ok (.iload 7, 2) := by decide +kernel
theorem dX0_bestSet_21 : decode cX0_bestSet 21 = .ok (.iload 4, 2) := by decide +kernel
theorem dX0_bestSet_23 : decode cX0_bestSet 23 = .ok (.isub, 1) := by decide +kernel
theorem dX0_bestSet_24 : decode cX0_bestSet 24 = .ok (.iload 4, 2) := by decide +kernel
theorem dX0_bestSet_26 : decode cX0_bestSet 26 = .ok (.iand, 1) := by decide +kernel
theorem dX0_bestSet_27 : decode cX0_bestSet 27 = .ok (.istore 7, 2) := by decide +kernel
theorem dX0_bestSet_29 : decode cX0_bestSet 29 = .ok (.iload 7, 2) := by decide +kernel
theorem dX0_bestSet_31 : decode cX0_bestSet 31 = .ok (.ifCond .ne 6, 3) := by decide +kernel
theorem dX0_bestSet_34 : decode cX0_bestSet 34 = .ok (.goto 51, 3) := by decide +kernel
theorem dX0_bestSet_37 : decode cX0_bestSet 37 = .ok (.iload 7, 2) := by decide +kernel
theorem dX0_bestSet_39 : decode cX0_bestSet 39 = .ok (.invokestatic 72, 3) := by decide +kernel
theorem dX0_bestSet_42 : decode cX0_bestSet 42 = .ok (.iload_n 3, 1) := by decide +kernel
theorem dX0_bestSet_43 : decode cX0_bestSet 43 = .ok (.if_icmp .ne 36, 3) := by decide +kernel
theorem dX0_bestSet_46 : decode cX0_bestSet 46 = .ok (.aload_n 0, 1) := by decide +kernel
theorem dX0_bestSet_47 : decode cX0_bestSet 47 = .ok (.getfield 32, 3) := by decide +kernel
theorem dX0_bestSet_50 : decode cX0_bestSet 50 = .ok (.iload 7, 2) := by decide +kernel
theorem dX0_bestSet_52 : decode cX0_bestSet 52 = .ok (.invokevirtual 78, 3) := by decide +kernel
theorem dX0_bestSet_55 : decode cX0_bestSet 55 = .ok (.aload_n 0, 1) := by decide +kernel
theorem dX0_bestSet_56 : decode cX0_bestSet 56 = .ok (.iload_n 1, 1) := by decide +kernel
theorem dX0_bestSet_57 : decode cX0_bestSet 57 = .ok (.iload_n 2, 1) := by decide +kernel
theorem dX0_bestSet_58 : decode cX0_bestSet 58 = .ok (.iload 6, 2) := by decide +kernel
theorem dX0_bestSet_60 : decode cX0_bestSet 60 = .ok (.invokevirtual 68, 3) := by decide +kernel
theorem dX0_bestSet_63 : decode cX0_bestSet 63 = .ok (.istore 9, 2) := by decide +kernel
theorem dX0_bestSet_65 : decode cX0_bestSet 65 = .ok (.iload 9, 2) := by decide +kernel
theorem dX0_bestSet_67 : decode cX0_bestSet 67 = .ok (.iconst (-1), 1) := by decide +kernel
theorem dX0_bestSet_68 : decode cX0_bestSet 68 = .ok (.if_icmp .eq 11, 3) := by decide +kernel
theorem dX0_bestSet_71 : decode cX0_bestSet 71 = .ok (.iload 7, 2) := by decide +kernel
theorem dX0_bestSet_73 : decode cX0_bestSet 73 = .ok (.istore 5, 2) := by decide +kernel
theorem dX0_bestSet_75 : decode cX0_bestSet 75 = .ok (.iload 9, 2) := by decide +kernel
theorem dX0_bestSet_77 : decode cX0_bestSet 77 = .ok (.istore 6, 2) := by decide +kernel
theorem dX0_bestSet_79 : decode cX0_bestSet 79 = .ok (.iinc 8 1, 3) := by decide +kernel
theorem dX0_bestSet_82 : decode cX0_bestSet 82 = .ok (.goto (-70), 3) := by decide +kernel
theorem dX0_bestSet_85 : decode cX0_bestSet 85 = .ok (.aload_n 0, 1) := by decide +kernel
theorem dX0_bestSet_86 : decode cX0_bestSet 86 = .ok (.getfield 32, 3) := by decide +kernel
theorem dX0_bestSet_89 : decode cX0_bestSet 89 = .ok (.iconst 0, 1) := by decide +kernel
theorem dX0_bestSet_90 : decode cX0_bestSet 90 = .ok (.invokevirtual 78, 3) := by decide +kernel
theorem dX0_bestSet_93 : decode cX0_bestSet 93 = .ok (.iload 5, 2) := by decide +kernel
theorem dX0_bestSet_95 : decode cX0_bestSet 95 = .ok (.ireturn, 1) := by decide +kernel
set_option maxRecDepth 20000 in
theorem ggX0_bestSet_J6_bitCount_0f7a4 : GoodIn wsX0_bestSet wsJ6_bitCount_0f7a4 := goodIn_r _ [5, 6, 7, 8] rfl (by decide +kernel)
set_option maxRecDepth 20000 in
theorem gX0_bestSet_J6_bitCount_0f7a4 : GoodIn wsX0_bestSet (va_wsS RX0 72 yJ6_bitCount_0f7a4 wsJ6_bitCount_0f7a4) := goodIn_app (goodIn_of _ (by decide +kernel)) ggX0_bestSet_J6_bitCount_0f7a4
set_option maxRecDepth 20000 in
theorem ggX0_bestSet_X0_deepestFeed : GoodIn wsX0_bestSet wsX0_deepestFeed := goodIn_r _ [19, 20, 21, 22, 18, 23, 1, 24, 25, 26, 27, 28, 29, 30, 31, 12, 32, 33, 34, 35, 36, 37, 38, 39, 40, 41, 42, 43, 44, 45, 46, 47, 48, 49, 50, 51, 52, 53, 54, 55, 56, 57, 58, 59, 60, 61, 62, 63, 64, 65, 66, 67, 68, 69, 70, 71, 72, 73, 74, 75, 76, 77, 78, 79, 80, 81, 82, 83, 84, 85, 86, 87, 88, 89, 90, 91, 92, 93, 94, 95, 14, 96, 97, 98, 99, 100, 101, 102, 103, 104, 105, 106, 107, 108, 109, 110, 111, 112, 113, 114, 115, 116, 117, 118, 119, 120, 121, 122, 123, 124, 125, 126, 127, 128, 129, 130, 131, 132, 133, 134, 135, 136, 137, 138, 139, 140, 141, 142, 143, 144, 145, 146, 167, 168, 169, 170, 171, 172, 173, 174, 175, 147, 148, 149, 150, 151, 152, 153, 154, 155, 156, 157, 158, 159, 160, 161, 162, 163, 164, 165, 166, 176, 177, 178, 179, 180, 181, 182, 183, 184] rfl (by decide +kernel)
set_option maxRecDepth 20000 in
theorem gX0_bestSet_X0_deepestFeed : GoodIn wsX0_bestSet (wsV RX0 68 RX0 yX0_deepestFeed wsX0_deepestFeed) := goodIn_app (goodIn_of _ (by decide +kernel)) ggX0_bestSet_X0_deepestFeed
set_option maxRecDepth 20000 in
theorem ggX0_bestSet_X5_useTeeth : GoodIn wsX0_bestSet wsX5_useTeeth := goodIn_r _ [13, 14, 147, 148, 149, 150, 151, 152, 153, 154, 155, 156, 157, 158, 159, 160, 161, 162, 163, 164, 165, 166] rfl (by decide +kernel)
set_option maxRecDepth 20000 in
theorem gX0_bestSet_X5_useTeeth : GoodIn wsX0_bestSet (wsV RX0 78 RX5 yX5_useTeeth wsX5_useTeeth) := goodIn_app (goodIn_of _ (by decide +kernel)) ggX0_bestSet_X5_useTeeth
set_option maxHeartbeats 4000000 in
set_option maxRecDepth 100000 in
theorem K_X0_bestSet (l : Launch) (D : va_G) (xc : Nat) (xs : Nat) (xp : Nat) (xl : Nat) (ch_s : Nat) (ch_t : Nat) (ch_f : Nat) (ch_p : Nat) (ph : Nat) (pl : Nat) (cI : ClassId) (l_ring : Int32) (l_speed : Int32) (l_feed : Int32) (l_turns : Int32) (l_teethMany : Int32) (l_wear : Int32) (l_x : Int32) (l_v : Int32) (l_wave : Int32) (l_time : Int32) (l_out : Int32) (l_farthest : Int32) (l_begun : Int32) (k_t : Nat → Int32) (k_h : Nat → Int32) (k_u : Nat → Int32) (k_o : Nat → Int32) (k_x : Nat → Int32) (k_1 : Nat → Int32) (k_2 : Nat → Int32) (k_3 : Nat → Int32) (a : Int32) (b : Int32) (mm : Nat) (L : Nat) (la_t : Nat) (la_h : Nat) (la_u : Nat) (la_o : Nat) (la_x : Nat) (n : Nat) (fo : Nat) (wa : Nat) (we : Nat) (cf : Nat) (sf : Nat) (wf : Nat) (ch : Nat) (sh : Nat) (wh : Nat) (cg : Nat) (sg : Nat) (wg : Nat) (hab : 0 ≤ a ∧ a < 3 ∧ 1 ≤ b ∧ b ≤ 9) (hmm : mm ≤ 4) (hL : L < 65536) (hL6 : bt_CT 32 L ≤ 6) (sz : Nat) : Ki l yX0_bestSet wsX0_bestSet 6 175 0 0 D [.ref xc, .int a, .int b, .int (nI mm), .int (nI L)] [(xc, .inr (0, [.ref xs, .ref xp, .ref xl, .ref ch_s, .ref ch_t, .ref ch_f, .ref ch_p, .int 0])), (xp, .inr (5, [.ref xs, .ref ph, .int 0, .int 0, .ref pl])), (ph, .inl (cI, 96, .inl (fun _ => 1000))), (xl, .inr (4, [.ref xs, .int l_ring, .int l_speed, .int l_feed, .int l_turns, .ref la_t, .int 0, .int l_teethMany, .ref la_h, .ref la_u, .ref la_o, .ref la_x, .int l_wear, .int l_x, .int l_v, .int l_wave, .int l_time, .int l_out, .int l_farthest, .int l_begun])), (la_t, .inl (cI, 4, .inl k_t)), (la_h, .inl (cI, 16, .inl k_h)), (la_u, .inl (cI, 16, .inl k_u)), (la_o, .inl (cI, 16, .inl k_o)), (la_x, .inl (cI, 16, .inl k_x)), (xs, .inr (6, [.ref n, .ref fo, .ref wa, .ref we])), (n, .inl (cI, 36, .inl g_nums)), (fo, .inr (2, [.ref cf, .int 1, .ref sf, .ref wf, .int 0, .int 0, .int 0, .int 0, .int 0])), (cf, .inl (cI, 80, .inl (upd (fun _ => 0) 0 (-1)))), (sf, .inl (cI, 12, .inl k_1)), (wa, .inr (2, [.ref cg, .int 1, .ref sg, .ref wg, .int 0, .int 0, .int 0, .int 0, .int 0])), (cg, .inl (cI, 80, .inl (upd (fun _ => 0) 0 0))), (sg, .inl (cI, 12, .inl k_2)), (we, .inr (2, [.ref ch, .int 1, .ref sh, .ref wh, .int 0, .int 0, .int 0, .int 0, .int 0])), (ch, .inl (cI, 80, .inl (upd (fun _ => 0) 0 0))), (sh, .inl (cI, 12, .inl k_3))] [(cI, .int)] sz (fun (r : Int32) (_ : Unit) => r = ((sp_bst (sp_dz b) mm L L).1)) (fun (_ : Unit) => []) (fun (_ : Unit) => [(cI, .int)]) := by
  unfold Ki
  refine g_ofW (cc := cX0_bestSet) (lv := [(0, .ref xc), (1, .int a), (2, .int b), (3, .int (nI mm)), (4, .int (nI L))]) (by decide) rfl (Nat.le_of_ble_eq_true rfl) rfl ?_
  intro p e s m args below meth c A Q hA hQ F hr hnm
  have hts := F.2.2.2.2.1
  have w_0 : (Cond.fieldLink RX0 32 "QuietCut$Chooser" "lathe" "LQuietCut$Lathe;").before args s = true := hts _ (List.mem_of_getElem? (i := 1) rfl)
  have i_X0 : ∀ w ∈ u_ws RX0 TX0 8, w ∈ wsX0_bestSet := fun _ h => List.mem_cons_of_mem _ (List.mem_append_left _ (List.mem_append_left _ (List.mem_append_left _ (List.mem_append_left _ (List.mem_append_right _ h)))))
  refine g_iconst F (-1) dX0_bestSet_0 (by decide) ?_
  refine g_istore F [(5, .int (-1)), (0, .ref xc), (1, .int a), (2, .int b), (3, .int (nI mm)), (4, .int (nI L))] dX0_bestSet_1 (by decide) rfl ?_
  refine g_iconst F 0 dX0_bestSet_3 (by decide) ?_
  refine g_istore F [(6, .int 0), (5, .int (-1)), (0, .ref xc), (1, .int a), (2, .int b), (3, .int (nI mm)), (4, .int (nI L))] dX0_bestSet_4 (by decide) rfl ?_
  refine g_iconst F 0 dX0_bestSet_6 (by decide) ?_
  refine g_istore F [(7, .int 0), (6, .int 0), (5, .int (-1)), (0, .ref xc), (1, .int a), (2, .int b), (3, .int (nI mm)), (4, .int (nI L))] dX0_bestSet_7 (by decide) rfl ?_
  refine g_iconst F 0 dX0_bestSet_9 (by decide) ?_
  refine g_istore F [(8, .int 0), (7, .int 0), (6, .int 0), (5, .int (-1)), (0, .ref xc), (1, .int a), (2, .int b), (3, .int (nI mm)), (4, .int (nI L))] dX0_bestSet_10 (by decide) rfl ?_
  refine g_locals [(0, .ref xc), (1, .int a), (2, .int b), (3, .int (nI mm)), (4, .int (nI L)), (5, .int (-1)), (6, .int 0), (7, .int 0), (8, .int 0)] [4, 5, 6, 7, 8, 3, 2, 1, 0] rfl ?_
  have loop_12 : ∀ (fuel : Nat) (k : Nat) (z : Nat) (ts : Int32) (y_ring : Int32) (y_speed : Int32) (y_feed : Int32) (y_turns : Int32) (y_teethMany : Int32) (y_wear : Int32) (y_x : Int32) (y_v : Int32) (y_wave : Int32) (y_time : Int32) (y_out : Int32) (y_farthest : Int32) (y_begun : Int32) (y_t : Nat → Int32) (y_h : Nat → Int32) (y_u : Nat → Int32) (y_o : Nat → Int32) (y_x2 : Nat → Int32) (y_1 : Nat → Int32) (y_2 : Nat → Int32) (y_3 : Nat → Int32), 64 - k < fuel → (k ≤ 64) → (bt_SM 32 L z) → (bt_RK 32 L z = k) → gG p l e (gR 6 0 0 175) s m args below meth c D A 10 Q 0 0 [(xc, .inr (0, [.ref xs, .ref xp, .ref xl, .ref ch_s, .ref ch_t, .ref ch_f, .ref ch_p, .int 0])), (xp, .inr (5, [.ref xs, .ref ph, .int 0, .int 0, .ref pl])), (ph, .inl (cI, 96, .inl (fun _ => 1000))), (xl, .inr (4, [.ref xs, .int y_ring, .int y_speed, .int y_feed, .int y_turns, .ref la_t, .int ts, .int y_teethMany, .ref la_h, .ref la_u, .ref la_o, .ref la_x, .int y_wear, .int y_x, .int y_v, .int y_wave, .int y_time, .int y_out, .int y_farthest, .int y_begun])), (la_t, .inl (cI, 4, .inl y_t)), (la_h, .inl (cI, 16, .inl y_h)), (la_u, .inl (cI, 16, .inl y_u)), (la_o, .inl (cI, 16, .inl y_o)), (la_x, .inl (cI, 16, .inl y_x2)), (xs, .inr (6, [.ref n, .ref fo, .ref wa, .ref we])), (n, .inl (cI, 36, .inl g_nums)), (fo, .inr (2, [.ref cf, .int 1, .ref sf, .ref wf, .int 0, .int 0, .int 0, .int 0, .int 0])), (cf, .inl (cI, 80, .inl (upd (fun _ => 0) 0 (-1)))), (sf, .inl (cI, 12, .inl y_1)), (wa, .inr (2, [.ref cg, .int 1, .ref sg, .ref wg, .int 0, .int 0, .int 0, .int 0, .int 0])), (cg, .inl (cI, 80, .inl (upd (fun _ => 0) 0 0))), (sg, .inl (cI, 12, .inl y_2)), (we, .inr (2, [.ref ch, .int 1, .ref sh, .ref wh, .int 0, .int 0, .int 0, .int 0, .int 0])), (ch, .inl (cI, 80, .inl (upd (fun _ => 0) 0 0))), (sh, .inl (cI, 12, .inl y_3))] [(cI, .int)] [(0, .ref xc), (1, .int a), (2, .int b), (3, .int (nI mm)), (4, .int (nI L)), (5, .int ((sp_bst (sp_dz b) mm L z).1)), (6, .int ((sp_bst (sp_dz b) mm L z).2)), (7, .int (nI z)), (8, .int (nI k))] 12 [] := by
    intro fuel_12
    induction fuel_12 with
    | zero => intro k z ts y_ring y_speed y_feed y_turns y_teethMany y_wear y_x y_v y_wave y_time y_out y_farthest y_begun y_t y_h y_u y_o y_x2 y_1 y_2 y_3 hm; exact absurd hm (Nat.not_lt_zero _)
    | succ fuel_12 ih_12 =>
      intro k z ts y_ring y_speed y_feed y_turns y_teethMany y_wear y_x y_v y_wave y_time y_out y_farthest y_begun y_t y_h y_u y_o y_x2 y_1 y_2 y_3 hm12 hk0 hsm hrk
      refine g_iload F 8 dX0_bestSet_12 rfl ?_
      refine g_bipush F 64 dX0_bestSet_14 (by decide) ?_
      refine g_icmp_ge F 85 dX0_bestSet_16 (by decide) (fun c_16 => ?_) (fun c_16 => ?_)
      · exact absurd (bt_rk 32 L z) (by have h8 : 2 ^ bt_CT 32 L ≤ 2 ^ 6 := Nat.pow_le_pow_right (by decide) hL6; have h7 : k = 64 := Nat.le_antisymm hk0 (Nat.le_of_not_lt (fun h => nI_ge (b := 64) h (by decide) c_16)); omega)
      · have hk : k < 64 := Nat.lt_of_not_le (fun h => c_16 (nI_le (a := 64) h (by omega)))
        refine g_iload F 7 dX0_bestSet_19 rfl ?_
        refine g_iload F 4 dX0_bestSet_21 rfl ?_
        refine g_isub F dX0_bestSet_23 ?_
        refine g_iload F 4 dX0_bestSet_24 rfl ?_
        refine g_iand F dX0_bestSet_26 ?_
        refine g_fold (nI (bt_NX 32 L z)) (bn_next hsm hL) ?_
        refine g_istore F [(7, .int (nI (bt_NX 32 L z))), (0, .ref xc), (1, .int a), (2, .int b), (3, .int (nI mm)), (4, .int (nI L)), (5, .int ((sp_bst (sp_dz b) mm L z).1)), (6, .int ((sp_bst (sp_dz b) mm L z).2)), (8, .int (nI k))] dX0_bestSet_27 (by decide) rfl ?_
        refine g_iload F 0 dX0_bestSet_29 rfl ?_
        refine g_if_ne F 37 dX0_bestSet_31 (by decide) (fun c_31 => ?_) (fun c_31 => ?_)
        · have hn9 := bt_nx 32 L z hsm (by omega)
          have hsm2 := hn9.1
          have hy6 : bt_NX 32 L z < 65536 := by have := bt_smle 32 L _ hsm2; omega
          have hnx : z < bt_NX 32 L z ∧ bt_RK 32 L (bt_NX 32 L z) = bt_RK 32 L z + 1 := by rcases hn9.2 with h | h; exact absurd (by rw [h.1]; rfl) c_31; exact h
          have hrk2 : bt_RK 32 L (bt_NX 32 L z) = k + 1 := by rw [hnx.2, hrk]
          refine g_iload F 0 dX0_bestSet_37 rfl ?_
          refine g_callSi (k := 0) (n := 0) (As := [.int (nI (bt_NX 32 L z))]) (st := []) (wc := []) (wr := [(xc, .inr (0, [.ref xs, .ref xp, .ref xl, .ref ch_s, .ref ch_t, .ref ch_f, .ref ch_p, .int 0])), (xp, .inr (5, [.ref xs, .ref ph, .int 0, .int 0, .ref pl])), (ph, .inl (cI, 96, .inl (fun _ => 1000))), (xl, .inr (4, [.ref xs, .int y_ring, .int y_speed, .int y_feed, .int y_turns, .ref la_t, .int ts, .int y_teethMany, .ref la_h, .ref la_u, .ref la_o, .ref la_x, .int y_wear, .int y_x, .int y_v, .int y_wave, .int y_time, .int y_out, .int y_farthest, .int y_begun])), (la_t, .inl (cI, 4, .inl y_t)), (la_h, .inl (cI, 16, .inl y_h)), (la_u, .inl (cI, 16, .inl y_u)), (la_o, .inl (cI, 16, .inl y_o)), (la_x, .inl (cI, 16, .inl y_x2)), (xs, .inr (6, [.ref n, .ref fo, .ref wa, .ref we])), (n, .inl (cI, 36, .inl g_nums)), (fo, .inr (2, [.ref cf, .int 1, .ref sf, .ref wf, .int 0, .int 0, .int 0, .int 0, .int 0])), (cf, .inl (cI, 80, .inl (upd (fun _ => 0) 0 (-1)))), (sf, .inl (cI, 12, .inl y_1)), (wa, .inr (2, [.ref cg, .int 1, .ref sg, .ref wg, .int 0, .int 0, .int 0, .int 0, .int 0])), (cg, .inl (cI, 80, .inl (upd (fun _ => 0) 0 0))), (sg, .inl (cI, 12, .inl y_2)), (we, .inr (2, [.ref ch, .int 1, .ref sh, .ref wh, .int 0, .int 0, .int 0, .int 0, .int 0])), (ch, .inl (cI, 80, .inl (upd (fun _ => 0) 0 0))), (sh, .inl (cI, 12, .inl y_3))]) F [] [0, 1, 2, 3, 4, 5, 6, 7, 8, 9, 10, 11, 12, 13, 14, 15, 16, 17, 18, 19] [] rfl rfl (by decide) rfl (by decide) (by decide) rfl (fun sz => K_J6_bitCount_0f7a4 l D (nI (bt_NX 32 L z))  sz) (va_cwS 1 hts gX0_bestSet_J6_bitCount_0f7a4 rfl rfl rfl (by decide +kernel) ⟨Nat.le_of_ble_eq_true rfl, Nat.le_of_ble_eq_true rfl⟩) rfl (Nat.le_of_ble_eq_true rfl) ⟨Nat.le_of_ble_eq_true rfl, Nat.le_of_ble_eq_true rfl⟩ dX0_bestSet_39 (fun r_1 _ hw_2 => ?_)
          have hw_2 : r_1 = (bc_f (nI (bt_NX 32 L z))) := hw_2
          have e_r_1 := hw_2
          show gG p l e (gR 6 0 0 175) s m args below meth c D A 10 Q 0 0 [(xc, .inr (0, [.ref xs, .ref xp, .ref xl, .ref ch_s, .ref ch_t, .ref ch_f, .ref ch_p, .int 0])), (xp, .inr (5, [.ref xs, .ref ph, .int 0, .int 0, .ref pl])), (ph, .inl (cI, 96, .inl (fun _ => 1000))), (xl, .inr (4, [.ref xs, .int y_ring, .int y_speed, .int y_feed, .int y_turns, .ref la_t, .int ts, .int y_teethMany, .ref la_h, .ref la_u, .ref la_o, .ref la_x, .int y_wear, .int y_x, .int y_v, .int y_wave, .int y_time, .int y_out, .int y_farthest, .int y_begun])), (la_t, .inl (cI, 4, .inl y_t)), (la_h, .inl (cI, 16, .inl y_h)), (la_u, .inl (cI, 16, .inl y_u)), (la_o, .inl (cI, 16, .inl y_o)), (la_x, .inl (cI, 16, .inl y_x2)), (xs, .inr (6, [.ref n, .ref fo, .ref wa, .ref we])), (n, .inl (cI, 36, .inl g_nums)), (fo, .inr (2, [.ref cf, .int 1, .ref sf, .ref wf, .int 0, .int 0, .int 0, .int 0, .int 0])), (cf, .inl (cI, 80, .inl (upd (fun _ => 0) 0 (-1)))), (sf, .inl (cI, 12, .inl y_1)), (wa, .inr (2, [.ref cg, .int 1, .ref sg, .ref wg, .int 0, .int 0, .int 0, .int 0, .int 0])), (cg, .inl (cI, 80, .inl (upd (fun _ => 0) 0 0))), (sg, .inl (cI, 12, .inl y_2)), (we, .inr (2, [.ref ch, .int 1, .ref sh, .ref wh, .int 0, .int 0, .int 0, .int 0, .int 0])), (ch, .inl (cI, 80, .inl (upd (fun _ => 0) 0 0))), (sh, .inl (cI, 12, .inl y_3))] [(cI, .int)] [(7, .int (nI (bt_NX 32 L z))), (0, .ref xc), (1, .int a), (2, .int b), (3, .int (nI mm)), (4, .int (nI L)), (5, .int ((sp_bst (sp_dz b) mm L z).1)), (6, .int ((sp_bst (sp_dz b) mm L z).2)), (8, .int (nI k))] 42 [.int r_1]
          refine g_fold (bc_f (nI (bt_NX 32 L z))) e_r_1 ?_
          refine g_fold (nI (bt_CT 32 (bt_NX 32 L z))) (bn_bc hy6) ?_
          refine g_iload_n F 4 dX0_bestSet_42 rfl rfl ?_
          refine g_icmp_ne F 79 dX0_bestSet_43 (by decide) (fun c_43 => ?_) (fun c_43 => ?_)
          · have hb9 := sp_bst_n (dq := sp_dz b) (mm := mm) hL hsm hnx.1 hy6 (fun q => c_43 (congrArg nI q.1))
            rw [hb9]
            refine g_iinc F (j := 8) (nI (k + 1)) [(8, .int (nI (k + 1))), (7, .int (nI (bt_NX 32 L z))), (0, .ref xc), (1, .int a), (2, .int b), (3, .int (nI mm)), (4, .int (nI L)), (5, .int ((sp_bst (sp_dz b) mm L (bt_NX 32 L z)).1)), (6, .int ((sp_bst (sp_dz b) mm L (bt_NX 32 L z)).2))] dX0_bestSet_79 rfl (nI_1 k) (by decide) rfl ?_
            refine g_goto F 12 dX0_bestSet_82 (by decide) ?_
            refine g_locals [(0, .ref xc), (1, .int a), (2, .int b), (3, .int (nI mm)), (4, .int (nI L)), (5, .int ((sp_bst (sp_dz b) mm L (bt_NX 32 L z)).1)), (6, .int ((sp_bst (sp_dz b) mm L (bt_NX 32 L z)).2)), (7, .int (nI (bt_NX 32 L z))), (8, .int (nI (k + 1)))] [2, 3, 4, 5, 6, 7, 8, 1, 0] rfl ?_
            exact ih_12 (k + 1) (bt_NX 32 L z) ts y_ring y_speed y_feed y_turns y_teethMany y_wear y_x y_v y_wave y_time y_out y_farthest y_begun y_t y_h y_u y_o y_x2 y_1 y_2 y_3 (by omega) (by omega) (hsm2) (hrk2)
          · have hcm : bt_CT 32 (bt_NX 32 L z) = mm := (nI_eq (by have := bt_ctle 32 (bt_NX 32 L z); omega) (by omega)).mp c_43
            refine g_aload_n F 1 dX0_bestSet_46 rfl rfl ?_
            refine g_get (C := RX0) (T := TX0) (N := 8) (v := .ref xl) F i_X0 0 rfl rfl 2 (by decide) w_0 rfl rfl dX0_bestSet_47 ?_
            refine g_iload F 0 dX0_bestSet_50 rfl ?_
            refine g_callVv (k := 0) (n := 0) (b := xl) (As := [.int (nI (bt_NX 32 L z))]) (st := []) (wc := [(xl, .inr (4, [.ref xs, .int y_ring, .int y_speed, .int y_feed, .int y_turns, .ref la_t, .int ts, .int y_teethMany, .ref la_h, .ref la_u, .ref la_o, .ref la_x, .int y_wear, .int y_x, .int y_v, .int y_wave, .int y_time, .int y_out, .int y_farthest, .int y_begun]))]) (wr := [(xc, .inr (0, [.ref xs, .ref xp, .ref xl, .ref ch_s, .ref ch_t, .ref ch_f, .ref ch_p, .int 0])), (xp, .inr (5, [.ref xs, .ref ph, .int 0, .int 0, .ref pl])), (ph, .inl (cI, 96, .inl (fun _ => 1000))), (la_t, .inl (cI, 4, .inl y_t)), (la_h, .inl (cI, 16, .inl y_h)), (la_u, .inl (cI, 16, .inl y_u)), (la_o, .inl (cI, 16, .inl y_o)), (la_x, .inl (cI, 16, .inl y_x2)), (xs, .inr (6, [.ref n, .ref fo, .ref wa, .ref we])), (n, .inl (cI, 36, .inl g_nums)), (fo, .inr (2, [.ref cf, .int 1, .ref sf, .ref wf, .int 0, .int 0, .int 0, .int 0, .int 0])), (cf, .inl (cI, 80, .inl (upd (fun _ => 0) 0 (-1)))), (sf, .inl (cI, 12, .inl y_1)), (wa, .inr (2, [.ref cg, .int 1, .ref sg, .ref wg, .int 0, .int 0, .int 0, .int 0, .int 0])), (cg, .inl (cI, 80, .inl (upd (fun _ => 0) 0 0))), (sg, .inl (cI, 12, .inl y_2)), (we, .inr (2, [.ref ch, .int 1, .ref sh, .ref wh, .int 0, .int 0, .int 0, .int 0, .int 0])), (ch, .inl (cI, 80, .inl (upd (fun _ => 0) 0 0))), (sh, .inl (cI, 12, .inl y_3))]) F [3] [0, 1, 2, 4, 5, 6, 7, 8, 9, 10, 11, 12, 13, 14, 15, 16, 17, 18, 19] [] rfl rfl (by decide) rfl (by decide) (by decide) rfl (fun sz => K_X5_useTeeth l D xl xs la_t la_h la_u la_o la_x y_ring y_speed y_feed y_turns ts y_teethMany y_wear y_x y_v y_wave y_time y_out y_farthest y_begun (nI (bt_NX 32 L z))  sz) (cwV 1 hts gX0_bestSet_X5_useTeeth rfl rfl rfl (by decide +kernel) ⟨Nat.le_of_ble_eq_true rfl, Nat.le_of_ble_eq_true rfl⟩) rfl 0 rfl rfl (Nat.le_of_ble_eq_true rfl) ⟨Nat.le_of_ble_eq_true rfl, Nat.le_of_ble_eq_true rfl⟩ dX0_bestSet_52 (fun _ hw_7 => ?_)
            show gG p l e (gR 6 0 0 175) s m args below meth c D A 10 Q 0 0 [(xc, .inr (0, [.ref xs, .ref xp, .ref xl, .ref ch_s, .ref ch_t, .ref ch_f, .ref ch_p, .int 0])), (xp, .inr (5, [.ref xs, .ref ph, .int 0, .int 0, .ref pl])), (ph, .inl (cI, 96, .inl (fun _ => 1000))), (la_t, .inl (cI, 4, .inl y_t)), (la_h, .inl (cI, 16, .inl y_h)), (la_u, .inl (cI, 16, .inl y_u)), (la_o, .inl (cI, 16, .inl y_o)), (la_x, .inl (cI, 16, .inl y_x2)), (xs, .inr (6, [.ref n, .ref fo, .ref wa, .ref we])), (n, .inl (cI, 36, .inl g_nums)), (fo, .inr (2, [.ref cf, .int 1, .ref sf, .ref wf, .int 0, .int 0, .int 0, .int 0, .int 0])), (cf, .inl (cI, 80, .inl (upd (fun _ => 0) 0 (-1)))), (sf, .inl (cI, 12, .inl y_1)), (wa, .inr (2, [.ref cg, .int 1, .ref sg, .ref wg, .int 0, .int 0, .int 0, .int 0, .int 0])), (cg, .inl (cI, 80, .inl (upd (fun _ => 0) 0 0))), (sg, .inl (cI, 12, .inl y_2)), (we, .inr (2, [.ref ch, .int 1, .ref sh, .ref wh, .int 0, .int 0, .int 0, .int 0, .int 0])), (ch, .inl (cI, 80, .inl (upd (fun _ => 0) 0 0))), (sh, .inl (cI, 12, .inl y_3)), (xl, .inr (4, [.ref xs, .int y_ring, .int y_speed, .int y_feed, .int y_turns, .ref la_t, .int (nI (bt_NX 32 L z)), .int y_teethMany, .ref la_h, .ref la_u, .ref la_o, .ref la_x, .int y_wear, .int y_x, .int y_v, .int y_wave, .int y_time, .int y_out, .int y_farthest, .int y_begun]))] [(cI, .int)] [(7, .int (nI (bt_NX 32 L z))), (0, .ref xc), (1, .int a), (2, .int b), (3, .int (nI mm)), (4, .int (nI L)), (5, .int ((sp_bst (sp_dz b) mm L z).1)), (6, .int ((sp_bst (sp_dz b) mm L z).2)), (8, .int (nI k))] 55 []
            refine g_aload_n F 1 dX0_bestSet_55 rfl rfl ?_
            refine g_iload_n F 2 dX0_bestSet_56 rfl rfl ?_
            refine g_iload_n F 3 dX0_bestSet_57 rfl rfl ?_
            refine g_iload F 7 dX0_bestSet_58 rfl ?_
            refine g_callVi (k := 0) (n := 0) (b := xc) (As := [.int a, .int b, .int ((sp_bst (sp_dz b) mm L z).2)]) (st := []) (wc := [(xc, .inr (0, [.ref xs, .ref xp, .ref xl, .ref ch_s, .ref ch_t, .ref ch_f, .ref ch_p, .int 0])), (xp, .inr (5, [.ref xs, .ref ph, .int 0, .int 0, .ref pl])), (ph, .inl (cI, 96, .inl (fun _ => 1000))), (xl, .inr (4, [.ref xs, .int y_ring, .int y_speed, .int y_feed, .int y_turns, .ref la_t, .int (nI (bt_NX 32 L z)), .int y_teethMany, .ref la_h, .ref la_u, .ref la_o, .ref la_x, .int y_wear, .int y_x, .int y_v, .int y_wave, .int y_time, .int y_out, .int y_farthest, .int y_begun])), (la_t, .inl (cI, 4, .inl y_t)), (la_h, .inl (cI, 16, .inl y_h)), (la_u, .inl (cI, 16, .inl y_u)), (la_o, .inl (cI, 16, .inl y_o)), (la_x, .inl (cI, 16, .inl y_x2)), (xs, .inr (6, [.ref n, .ref fo, .ref wa, .ref we])), (n, .inl (cI, 36, .inl g_nums)), (fo, .inr (2, [.ref cf, .int 1, .ref sf, .ref wf, .int 0, .int 0, .int 0, .int 0, .int 0])), (cf, .inl (cI, 80, .inl (upd (fun _ => 0) 0 (-1)))), (sf, .inl (cI, 12, .inl y_1)), (wa, .inr (2, [.ref cg, .int 1, .ref sg, .ref wg, .int 0, .int 0, .int 0, .int 0, .int 0])), (cg, .inl (cI, 80, .inl (upd (fun _ => 0) 0 0))), (sg, .inl (cI, 12, .inl y_2)), (we, .inr (2, [.ref ch, .int 1, .ref sh, .ref wh, .int 0, .int 0, .int 0, .int 0, .int 0])), (ch, .inl (cI, 80, .inl (upd (fun _ => 0) 0 0))), (sh, .inl (cI, 12, .inl y_3))]) (wr := []) F [0, 1, 2, 19, 3, 4, 5, 6, 7, 8, 9, 10, 11, 12, 13, 14, 15, 16, 17, 18] [] [0] rfl rfl (by decide) rfl (by decide) (by decide) rfl (fun sz => K_X0_deepestFeedG l D xc xs xp xl ch_s ch_t ch_f ch_p la_t la_h la_u la_o la_x n fo wa we cf sf wf ch sh wh cg sg wg ph pl cI y_ring y_speed y_feed y_turns y_teethMany y_wear y_x y_v y_wave y_time y_out y_farthest y_begun y_t y_h y_u y_o y_x2 y_1 y_2 y_3 a b ((sp_bst (sp_dz b) mm L z).2) (bt_NX 32 L z) (by omega) (hy6) (by rw [hcm]; exact hmm) (hab) sz) (cwV 3 hts gX0_bestSet_X0_deepestFeed rfl rfl rfl (by decide +kernel) ⟨Nat.le_of_ble_eq_true rfl, Nat.le_of_ble_eq_true rfl⟩) rfl 0 rfl rfl (Nat.le_of_ble_eq_true rfl) ⟨Nat.le_of_ble_eq_true rfl, Nat.le_of_ble_eq_true rfl⟩ dX0_bestSet_60 (fun r_11 u_10 hw_12 => ?_)
            obtain ⟨z_ring_13, z_speed_13, z_feed_13, z_turns_13, z_teethMany_13, z_wear_13, z_x_13, z_v_13, z_wave_13, z_time_13, z_out_13, z_farthest_13, z_begun_13, g_t_13, g_h_13, g_u_13, g_o_13, g_x_13, g_1_13, g_2_13, g_3_13⟩ := u_10
            have hw_12 : r_11 = (sp_dp (sp_qz (bt_NX 32 L z) b) ((sp_bst (sp_dz b) mm L z).2) 20) := hw_12
            have e_r_11 := hw_12
            show gG p l e (gR 6 0 0 175) s m args below meth c D A 10 Q 0 0 [(xc, .inr (0, [.ref xs, .ref xp, .ref xl, .ref ch_s, .ref ch_t, .ref ch_f, .ref ch_p, .int 0])), (xp, .inr (5, [.ref xs, .ref ph, .int 0, .int 0, .ref pl])), (ph, .inl (cI, 96, .inl (fun _ => 1000))), (xl, .inr (4, [.ref xs, .int z_ring_13, .int z_speed_13, .int z_feed_13, .int z_turns_13, .ref la_t, .int (nI (bt_NX 32 L z)), .int z_teethMany_13, .ref la_h, .ref la_u, .ref la_o, .ref la_x, .int z_wear_13, .int z_x_13, .int z_v_13, .int z_wave_13, .int z_time_13, .int z_out_13, .int z_farthest_13, .int z_begun_13])), (la_t, .inl (cI, 4, .inl g_t_13)), (la_h, .inl (cI, 16, .inl g_h_13)), (la_u, .inl (cI, 16, .inl g_u_13)), (la_o, .inl (cI, 16, .inl g_o_13)), (la_x, .inl (cI, 16, .inl g_x_13)), (xs, .inr (6, [.ref n, .ref fo, .ref wa, .ref we])), (n, .inl (cI, 36, .inl g_nums)), (fo, .inr (2, [.ref cf, .int 1, .ref sf, .ref wf, .int 0, .int 0, .int 0, .int 0, .int 0])), (cf, .inl (cI, 80, .inl (upd (fun _ => 0) 0 (-1)))), (sf, .inl (cI, 12, .inl g_1_13)), (wa, .inr (2, [.ref cg, .int 1, .ref sg, .ref wg, .int 0, .int 0, .int 0, .int 0, .int 0])), (cg, .inl (cI, 80, .inl (upd (fun _ => 0) 0 0))), (sg, .inl (cI, 12, .inl g_2_13)), (we, .inr (2, [.ref ch, .int 1, .ref sh, .ref wh, .int 0, .int 0, .int 0, .int 0, .int 0])), (ch, .inl (cI, 80, .inl (upd (fun _ => 0) 0 0))), (sh, .inl (cI, 12, .inl g_3_13))] [(cI, .int)] [(7, .int (nI (bt_NX 32 L z))), (0, .ref xc), (1, .int a), (2, .int b), (3, .int (nI mm)), (4, .int (nI L)), (5, .int ((sp_bst (sp_dz b) mm L z).1)), (6, .int ((sp_bst (sp_dz b) mm L z).2)), (8, .int (nI k))] 63 [.int r_11]
            refine g_fold (sp_dp (sp_qz (bt_NX 32 L z) b) ((sp_bst (sp_dz b) mm L z).2) 20) e_r_11 ?_
            refine g_fold (if (sp_dz b (bt_NX 32 L z)) ≤ ((sp_bst (sp_dz b) mm L z).2) then (-1) else (sp_dz b (bt_NX 32 L z))) (sp_fdz) ?_
            refine g_istore F [(9, .int (if (sp_dz b (bt_NX 32 L z)) ≤ ((sp_bst (sp_dz b) mm L z).2) then (-1) else (sp_dz b (bt_NX 32 L z)))), (7, .int (nI (bt_NX 32 L z))), (0, .ref xc), (1, .int a), (2, .int b), (3, .int (nI mm)), (4, .int (nI L)), (5, .int ((sp_bst (sp_dz b) mm L z).1)), (6, .int ((sp_bst (sp_dz b) mm L z).2)), (8, .int (nI k))] dX0_bestSet_63 (by decide) rfl ?_
            refine g_iload F 0 dX0_bestSet_65 rfl ?_
            refine g_iconst F (-1) dX0_bestSet_67 (by decide) ?_
            refine g_icmp_eq F 79 dX0_bestSet_68 (by decide) (fun c_68 => ?_) (fun c_68 => ?_)
            · have hb9 := sp_bst_n (dq := sp_dz b) (mm := mm) hL hsm hnx.1 hy6 (fun q => sp_fdn c_68 q.2)
              rw [hb9]
              refine g_iinc F (j := 9) (nI (k + 1)) [(8, .int (nI (k + 1))), (9, .int (if (sp_dz b (bt_NX 32 L z)) ≤ ((sp_bst (sp_dz b) mm L (bt_NX 32 L z)).2) then (-1) else (sp_dz b (bt_NX 32 L z)))), (7, .int (nI (bt_NX 32 L z))), (0, .ref xc), (1, .int a), (2, .int b), (3, .int (nI mm)), (4, .int (nI L)), (5, .int ((sp_bst (sp_dz b) mm L (bt_NX 32 L z)).1)), (6, .int ((sp_bst (sp_dz b) mm L (bt_NX 32 L z)).2))] dX0_bestSet_79 rfl (nI_1 k) (by decide) rfl ?_
              refine g_goto F 12 dX0_bestSet_82 (by decide) ?_
              refine g_locals [(0, .ref xc), (1, .int a), (2, .int b), (3, .int (nI mm)), (4, .int (nI L)), (5, .int ((sp_bst (sp_dz b) mm L (bt_NX 32 L z)).1)), (6, .int ((sp_bst (sp_dz b) mm L (bt_NX 32 L z)).2)), (7, .int (nI (bt_NX 32 L z))), (8, .int (nI (k + 1)))] [3, 4, 5, 6, 7, 8, 9, 2, 0] rfl ?_
              exact ih_12 (k + 1) (bt_NX 32 L z) (nI (bt_NX 32 L z)) z_ring_13 z_speed_13 z_feed_13 z_turns_13 z_teethMany_13 z_wear_13 z_x_13 z_v_13 z_wave_13 z_time_13 z_out_13 z_farthest_13 z_begun_13 g_t_13 g_h_13 g_u_13 g_o_13 g_x_13 g_1_13 g_2_13 g_3_13 (by omega) (by omega) (hsm2) (hrk2)
            · have hfy := sp_fdy c_68
              have hb9 := sp_bst_y (dq := sp_dz b) (mm := mm) hL hsm hnx.1 hy6 ⟨hcm, hfy.1⟩
              have hb91 : nI (bt_NX 32 L z) = (sp_bst (sp_dz b) mm L (bt_NX 32 L z)).1 := by rw [hb9]
              have hb92 : (if (sp_dz b (bt_NX 32 L z)) ≤ ((sp_bst (sp_dz b) mm L z).2) then (-1) else (sp_dz b (bt_NX 32 L z))) = (sp_bst (sp_dz b) mm L (bt_NX 32 L z)).2 := by rw [hb9]; exact hfy.2
              refine g_iload F 1 dX0_bestSet_71 rfl ?_
              refine g_fold ((sp_bst (sp_dz b) mm L (bt_NX 32 L z)).1) (hb91) ?_
              refine g_istore F [(5, .int ((sp_bst (sp_dz b) mm L (bt_NX 32 L z)).1)), (9, .int (if (sp_dz b (bt_NX 32 L z)) ≤ ((sp_bst (sp_dz b) mm L z).2) then (-1) else (sp_dz b (bt_NX 32 L z)))), (7, .int (nI (bt_NX 32 L z))), (0, .ref xc), (1, .int a), (2, .int b), (3, .int (nI mm)), (4, .int (nI L)), (6, .int ((sp_bst (sp_dz b) mm L z).2)), (8, .int (nI k))] dX0_bestSet_73 (by decide) rfl ?_
              refine g_iload F 1 dX0_bestSet_75 rfl ?_
              refine g_fold ((sp_bst (sp_dz b) mm L (bt_NX 32 L z)).2) (hb92) ?_
              refine g_istore F [(6, .int ((sp_bst (sp_dz b) mm L (bt_NX 32 L z)).2)), (5, .int ((sp_bst (sp_dz b) mm L (bt_NX 32 L z)).1)), (9, .int (if (sp_dz b (bt_NX 32 L z)) ≤ ((sp_bst (sp_dz b) mm L z).2) then (-1) else (sp_dz b (bt_NX 32 L z)))), (7, .int (nI (bt_NX 32 L z))), (0, .ref xc), (1, .int a), (2, .int b), (3, .int (nI mm)), (4, .int (nI L)), (8, .int (nI k))] dX0_bestSet_77 (by decide) rfl ?_
              refine g_iinc F (j := 9) (nI (k + 1)) [(8, .int (nI (k + 1))), (6, .int ((sp_bst (sp_dz b) mm L (bt_NX 32 L z)).2)), (5, .int ((sp_bst (sp_dz b) mm L (bt_NX 32 L z)).1)), (9, .int (if (sp_dz b (bt_NX 32 L z)) ≤ ((sp_bst (sp_dz b) mm L z).2) then (-1) else (sp_dz b (bt_NX 32 L z)))), (7, .int (nI (bt_NX 32 L z))), (0, .ref xc), (1, .int a), (2, .int b), (3, .int (nI mm)), (4, .int (nI L))] dX0_bestSet_79 rfl (nI_1 k) (by decide) rfl ?_
              refine g_goto F 12 dX0_bestSet_82 (by decide) ?_
              refine g_locals [(0, .ref xc), (1, .int a), (2, .int b), (3, .int (nI mm)), (4, .int (nI L)), (5, .int ((sp_bst (sp_dz b) mm L (bt_NX 32 L z)).1)), (6, .int ((sp_bst (sp_dz b) mm L (bt_NX 32 L z)).2)), (7, .int (nI (bt_NX 32 L z))), (8, .int (nI (k + 1)))] [5, 6, 7, 8, 9, 2, 1, 4, 0] rfl ?_
              exact ih_12 (k + 1) (bt_NX 32 L z) (nI (bt_NX 32 L z)) z_ring_13 z_speed_13 z_feed_13 z_turns_13 z_teethMany_13 z_wear_13 z_x_13 z_v_13 z_wave_13 z_time_13 z_out_13 z_farthest_13 z_begun_13 g_t_13 g_h_13 g_u_13 g_o_13 g_x_13 g_1_13 g_2_13 g_3_13 (by omega) (by omega) (hsm2) (hrk2)
        · refine g_goto F 85 dX0_bestSet_34 (by decide) ?_
          have hzL : z = L := by rcases (bt_nx 32 L z hsm (by omega)).2 with h | h; exact h.2; exact absurd (bn_z1 (by have := bt_smle 32 L _ (bt_nx 32 L z hsm (by omega)).1; omega) c_31) (by omega)
          refine g_aload_n F 1 dX0_bestSet_85 rfl rfl ?_
          refine g_get (C := RX0) (T := TX0) (N := 8) (v := .ref xl) F i_X0 0 rfl rfl 2 (by decide) w_0 rfl rfl dX0_bestSet_86 ?_
          refine g_iconst F 0 dX0_bestSet_89 (by decide) ?_
          refine g_callVv (k := 0) (n := 0) (b := xl) (As := [.int 0]) (st := []) (wc := [(xl, .inr (4, [.ref xs, .int y_ring, .int y_speed, .int y_feed, .int y_turns, .ref la_t, .int ts, .int y_teethMany, .ref la_h, .ref la_u, .ref la_o, .ref la_x, .int y_wear, .int y_x, .int y_v, .int y_wave, .int y_time, .int y_out, .int y_farthest, .int y_begun]))]) (wr := [(xc, .inr (0, [.ref xs, .ref xp, .ref xl, .ref ch_s, .ref ch_t, .ref ch_f, .ref ch_p, .int 0])), (xp, .inr (5, [.ref xs, .ref ph, .int 0, .int 0, .ref pl])), (ph, .inl (cI, 96, .inl (fun _ => 1000))), (la_t, .inl (cI, 4, .inl y_t)), (la_h, .inl (cI, 16, .inl y_h)), (la_u, .inl (cI, 16, .inl y_u)), (la_o, .inl (cI, 16, .inl y_o)), (la_x, .inl (cI, 16, .inl y_x2)), (xs, .inr (6, [.ref n, .ref fo, .ref wa, .ref we])), (n, .inl (cI, 36, .inl g_nums)), (fo, .inr (2, [.ref cf, .int 1, .ref sf, .ref wf, .int 0, .int 0, .int 0, .int 0, .int 0])), (cf, .inl (cI, 80, .inl (upd (fun _ => 0) 0 (-1)))), (sf, .inl (cI, 12, .inl y_1)), (wa, .inr (2, [.ref cg, .int 1, .ref sg, .ref wg, .int 0, .int 0, .int 0, .int 0, .int 0])), (cg, .inl (cI, 80, .inl (upd (fun _ => 0) 0 0))), (sg, .inl (cI, 12, .inl y_2)), (we, .inr (2, [.ref ch, .int 1, .ref sh, .ref wh, .int 0, .int 0, .int 0, .int 0, .int 0])), (ch, .inl (cI, 80, .inl (upd (fun _ => 0) 0 0))), (sh, .inl (cI, 12, .inl y_3))]) F [3] [0, 1, 2, 4, 5, 6, 7, 8, 9, 10, 11, 12, 13, 14, 15, 16, 17, 18, 19] [] rfl rfl (by decide) rfl (by decide) (by decide) rfl (fun sz => K_X5_useTeeth l D xl xs la_t la_h la_u la_o la_x y_ring y_speed y_feed y_turns ts y_teethMany y_wear y_x y_v y_wave y_time y_out y_farthest y_begun 0  sz) (cwV 1 hts gX0_bestSet_X5_useTeeth rfl rfl rfl (by decide +kernel) ⟨Nat.le_of_ble_eq_true rfl, Nat.le_of_ble_eq_true rfl⟩) rfl 0 rfl rfl (Nat.le_of_ble_eq_true rfl) ⟨Nat.le_of_ble_eq_true rfl, Nat.le_of_ble_eq_true rfl⟩ dX0_bestSet_90 (fun _ hw_17 => ?_)
          show gG p l e (gR 6 0 0 175) s m args below meth c D A 10 Q 0 0 [(xc, .inr (0, [.ref xs, .ref xp, .ref xl, .ref ch_s, .ref ch_t, .ref ch_f, .ref ch_p, .int 0])), (xp, .inr (5, [.ref xs, .ref ph, .int 0, .int 0, .ref pl])), (ph, .inl (cI, 96, .inl (fun _ => 1000))), (la_t, .inl (cI, 4, .inl y_t)), (la_h, .inl (cI, 16, .inl y_h)), (la_u, .inl (cI, 16, .inl y_u)), (la_o, .inl (cI, 16, .inl y_o)), (la_x, .inl (cI, 16, .inl y_x2)), (xs, .inr (6, [.ref n, .ref fo, .ref wa, .ref we])), (n, .inl (cI, 36, .inl g_nums)), (fo, .inr (2, [.ref cf, .int 1, .ref sf, .ref wf, .int 0, .int 0, .int 0, .int 0, .int 0])), (cf, .inl (cI, 80, .inl (upd (fun _ => 0) 0 (-1)))), (sf, .inl (cI, 12, .inl y_1)), (wa, .inr (2, [.ref cg, .int 1, .ref sg, .ref wg, .int 0, .int 0, .int 0, .int 0, .int 0])), (cg, .inl (cI, 80, .inl (upd (fun _ => 0) 0 0))), (sg, .inl (cI, 12, .inl y_2)), (we, .inr (2, [.ref ch, .int 1, .ref sh, .ref wh, .int 0, .int 0, .int 0, .int 0, .int 0])), (ch, .inl (cI, 80, .inl (upd (fun _ => 0) 0 0))), (sh, .inl (cI, 12, .inl y_3)), (xl, .inr (4, [.ref xs, .int y_ring, .int y_speed, .int y_feed, .int y_turns, .ref la_t, .int 0, .int y_teethMany, .ref la_h, .ref la_u, .ref la_o, .ref la_x, .int y_wear, .int y_x, .int y_v, .int y_wave, .int y_time, .int y_out, .int y_farthest, .int y_begun]))] [(cI, .int)] [(7, .int (nI (bt_NX 32 L z))), (0, .ref xc), (1, .int a), (2, .int b), (3, .int (nI mm)), (4, .int (nI L)), (5, .int ((sp_bst (sp_dz b) mm L z).1)), (6, .int ((sp_bst (sp_dz b) mm L z).2)), (8, .int (nI k))] 93 []
          refine g_iload F 6 dX0_bestSet_93 rfl ?_
          exact g_iret F hA hQ hr () (by rw [hzL]) [] [0] rfl (by decide) rfl rfl dX0_bestSet_95
  exact loop_12 (_ + 1) 0 0 0 l_ring l_speed l_feed l_turns l_teethMany l_wear l_x l_v l_wave l_time l_out l_farthest l_begun k_t k_h k_u k_o k_x k_1 k_2 k_3 (Nat.lt_succ_self _) (Nat.zero_le _) (bt_sm0 32 L) (bt_rk0 32 L)

abbrev sp_btc (a b d h : Int32) : Prop := ((0 ≤ a ∧ a ≤ 2) ∧ 1 ≤ b ∧ b ≤ 9) ∧ (1 ≤ d ∧ d ≤ 4) ∧ (1 ≤ h ∧ h ≤ 65535) ∧ d ≤ nI (bt_CT 32 h.toNatClampNeg) ∧ nI (bt_CT 32 h.toNatClampNeg) ≤ 6
theorem sp_bth {h : Int32} (h1 : 0 ≤ h) (h2 : h < 65536) : h = nI h.toNatClampNeg ∧ h.toNatClampNeg < 65536 ∧ bc_f h = nI (bt_CT 32 h.toNatClampNeg) := by
  have e := gi_nat (x := h) (K := 65535) (by simp only [Int32.lt_iff_toInt_lt, Int32.le_iff_toInt_le, ← Int32.toInt_inj, Int32.reduceToInt] at h1 h2; omega) (by simp only [Int32.lt_iff_toInt_lt, Int32.le_iff_toInt_le, ← Int32.toInt_inj, Int32.reduceToInt] at h1 h2; omega) (by decide)
  have e2 : h.toNatClampNeg < 65536 := by omega
  have e3 := bn_bc e2
  rw [← e.1] at e3
  exact ⟨e.1, e2, e3⟩
theorem sp_btd {d : Int32} (h1 : 1 ≤ d) (h2 : d ≤ 4) : d = nI d.toNatClampNeg ∧ d.toNatClampNeg ≤ 4 := gi_nat (x := d) (K := 4) (by simp only [Int32.lt_iff_toInt_lt, Int32.le_iff_toInt_le, ← Int32.toInt_inj, Int32.reduceToInt] at h1 h2; omega) (by simp only [Int32.lt_iff_toInt_lt, Int32.le_iff_toInt_le, ← Int32.toInt_inj, Int32.reduceToInt] at h1 h2; omega) (by decide)
theorem sp_bt6 {h : Int32} (h3 : nI (bt_CT 32 h.toNatClampNeg) ≤ 6) : bt_CT 32 h.toNatClampNeg ≤ 6 := (nI_leI (b := 6) (by have := bt_ctle 32 h.toNatClampNeg; omega) (by decide)).mp h3
theorem sp_bty {a b d h : Int32} (c1 : 0 ≤ a ∧ a < 3 ∧ 1 ≤ b ∧ b ≤ 9) (c2 : (1 ≤ d ∧ d ≤ 4) ∧ (0 ≤ h ∧ h < 65536) ∧ d ≤ bc_f h ∧ bc_f h ≤ 6) : sp_btc a b d h := by
  obtain ⟨e1, e2, e3⟩ := sp_bth c2.2.1.1 c2.2.1.2
  have h1 : ¬ h = 0 := fun q => by
    have h8 := c2.2.2.1
    have h9 := c2.1.1
    rw [q] at h8
    exact absurd (Int32.le_trans h9 h8) (by decide)
  refine ⟨⟨⟨c1.1, ?_⟩, c1.2.2⟩, c2.1, ⟨?_, ?_⟩, e3 ▸ c2.2.2.1, e3 ▸ c2.2.2.2⟩
  · have h7 := c1.2.1; simp only [Int32.lt_iff_toInt_lt, Int32.le_iff_toInt_le, ← Int32.toInt_inj, Int32.reduceToInt] at h7 ⊢; omega
  · have h7 := c2.2.1.1; simp only [Int32.lt_iff_toInt_lt, Int32.le_iff_toInt_le, ← Int32.toInt_inj, Int32.reduceToInt] at h7 h1 ⊢; omega
  · have h7 := c2.2.1.2; simp only [Int32.lt_iff_toInt_lt, Int32.le_iff_toInt_le, ← Int32.toInt_inj, Int32.reduceToInt] at h7 ⊢; omega
theorem sp_btn1 {a b d h : Int32} (c1 : ¬ (0 ≤ a ∧ a < 3 ∧ 1 ≤ b ∧ b ≤ 9)) : ¬ sp_btc a b d h := fun q => c1 ⟨q.1.1.1, by (have h7 := q.1.1.2; simp only [Int32.lt_iff_toInt_lt, Int32.le_iff_toInt_le, ← Int32.toInt_inj, Int32.reduceToInt] at h7 ⊢; omega), q.1.2⟩
theorem sp_btn2 {a b d h : Int32} (c2 : ¬ ((1 ≤ d ∧ d ≤ 4) ∧ (0 ≤ h ∧ h < 65536) ∧ d ≤ bc_f h ∧ bc_f h ≤ 6)) : ¬ sp_btc a b d h := fun q => by
  have h1 : 0 ≤ h := by have h7 := q.2.2.1.1; simp only [Int32.lt_iff_toInt_lt, Int32.le_iff_toInt_le, ← Int32.toInt_inj, Int32.reduceToInt] at h7 ⊢; omega
  have h2 : h < 65536 := by have h7 := q.2.2.1.2; simp only [Int32.lt_iff_toInt_lt, Int32.le_iff_toInt_le, ← Int32.toInt_inj, Int32.reduceToInt] at h7 ⊢; omega
  obtain ⟨e1, e2, e3⟩ := sp_bth h1 h2
  exact c2 ⟨q.2.1, ⟨h1, h2⟩, e3.symm ▸ q.2.2.2.1, e3.symm ▸ q.2.2.2.2⟩

theorem dX11_bestTeeth_0 : decode cX11_bestTeeth 0 = .ok (.aload_n 0, 1) := by decide +kernel
theorem dX11_bestTeeth_1 : decode cX11_bestTeeth 1 = .ok (.getfield 47, 3) := by decide +kernel
theorem dX11_bestTeeth_4 : decode cX11_bestTeeth 4 = .ok (.iload_n 1, 1) := by decide +kernel
theorem dX11_bestTeeth_5 : decode cX11_bestTeeth 5 = .ok (.iload_n 2, 1) := by decide +kernel
theorem dX11_bestTeeth_6 : decode cX11_bestTeeth 6 = .ok (.iconst 1, 1) := by decide +kernel
theorem dX11_bestTeeth_7 : decode cX11_bestTeeth 7 = .ok (.iconst 1, 1) := by decide +kernel
theorem dX11_bestTeeth_8 : decode cX11_bestTeeth 8 = .ok (.invokevirtual 164, 3) := by decide +kernel
theorem dX11_bestTeeth_11 : decode cX11_bestTeeth 11 = .ok (.ifCond .eq 12, 3) := by decide +kernel
theorem dX11_bestTeeth_14 : decode cX11_bestTeeth 14 = .ok (.iload_n 3, 1) := by decide +kernel
theorem dX11_bestTeeth_15 : decode cX11_bestTeeth 15 = .ok (.iload 4, 2) := by decide +kernel
theorem dX11_bestTeeth_17 : decode cX11_bestTeeth 17 = .ok (.invokestatic 231, 3) := by decide +kernel
theorem dX11_bestTeeth_20 : decode cX11_bestTeeth 20 = .ok (.ifCond .ne 6, 3) := by decide +kernel
theorem dX11_bestTeeth_23 : decode cX11_bestTeeth 23 = .ok (.bipush (-2), 2) := by decide +kernel
theorem dX11_bestTeeth_25 : decode cX11_bestTeeth 25 = .ok (.ireturn, 1) := by decide +kernel
theorem dX11_bestTeeth_26 : decode cX11_bestTeeth 26 = .ok (.aload_n 0, 1) := by decide +kernel
theorem dX11_bestTeeth_27 : decode cX11_bestTeeth 27 = .ok (.getfield 56, 3) := by decide +kernel
theorem dX11_bestTeeth_30 : decode cX11_bestTeeth 30 = .ok (.iload_n 1, 1) := by decide +kernel
theorem dX11_bestTeeth_31 : decode cX11_bestTeeth 31 = .ok (.iload_n 2, 1) := by decide +kernel
theorem dX11_bestTeeth_32 : decode cX11_bestTeeth 32 = .ok (.iload_n 3, 1) := by decide +kernel
theorem dX11_bestTeeth_33 : decode cX11_bestTeeth 33 = .ok (.iload 4, 2) := by decide +kernel
theorem dX11_bestTeeth_35 : decode cX11_bestTeeth 35 = .ok (.invokevirtual 234, 3) := by decide +kernel
theorem dX11_bestTeeth_38 : decode cX11_bestTeeth 38 = .ok (.ireturn, 1) := by decide +kernel
set_option maxRecDepth 20000 in
theorem ggX11_bestTeeth_X0_bestSet : GoodIn wsX11_bestTeeth wsX0_bestSet := goodIn_r _ [34, 35, 24, 25, 26, 27, 28, 29, 30, 36, 37, 38, 6, 39, 40, 41, 42, 43, 21, 44, 45, 46, 47, 48, 49, 50, 51, 52, 53, 54, 4, 5, 7, 8, 9, 10, 11, 12, 13, 14, 15, 16, 17, 18, 55, 56, 57, 58, 59, 60, 61, 62, 63, 64, 65, 66, 67, 68, 69, 70, 71, 72, 73, 74, 75, 76, 77, 78, 79, 80, 81, 82, 83, 84, 85, 86, 87, 88, 89, 90, 91, 92, 93, 94, 95, 96, 97, 98, 99, 100, 101, 102, 103, 104, 105, 106, 107, 108, 109, 110, 111, 112, 113, 114, 115, 116, 117, 118, 119, 120, 121, 122, 123, 124, 125, 126, 127, 128, 129, 130, 131, 132, 133, 134, 135, 136, 137, 138, 139, 140, 141, 142, 143, 144, 145, 146, 147, 148, 149, 188, 189, 190, 191, 192, 193, 194, 195, 164, 165, 166, 167, 168, 169, 170, 171, 172, 173, 174, 175, 176, 177, 178, 179, 180, 181, 182, 183, 184, 185, 186, 187, 196, 197, 198, 199, 200, 201, 202, 203, 204, 205, 206, 207, 208, 209] rfl (by decide +kernel)
set_option maxRecDepth 20000 in
theorem gX11_bestTeeth_X0_bestSet : GoodIn wsX11_bestTeeth (wsV RX11 234 RX0 yX0_bestSet wsX0_bestSet) := goodIn_app (goodIn_of _ (by decide +kernel)) ggX11_bestTeeth_X0_bestSet
set_option maxRecDepth 20000 in
theorem ggX11_bestTeeth_X0_mayChoose : GoodIn wsX11_bestTeeth wsX0_mayChoose := goodIn_r _ [22, 23, 24, 25, 26, 27, 28, 29, 30] rfl (by decide +kernel)
set_option maxRecDepth 20000 in
theorem gX11_bestTeeth_X0_mayChoose : GoodIn wsX11_bestTeeth (va_wsS RX11 231 yX0_mayChoose wsX0_mayChoose) := goodIn_app (goodIn_of _ (by decide +kernel)) ggX11_bestTeeth_X0_mayChoose
set_option maxRecDepth 20000 in
theorem ggX11_bestTeeth_X5_takes : GoodIn wsX11_bestTeeth wsX5_takes := goodIn_r _ [7, 8, 9, 10, 11, 12, 13, 14, 15, 16, 17, 18, 164, 165, 166, 167, 168, 169, 170, 171, 172, 173, 174, 175, 176, 177, 178, 179, 180, 181, 182, 183, 184, 185, 186, 187] rfl (by decide +kernel)
set_option maxRecDepth 20000 in
theorem gX11_bestTeeth_X5_takes : GoodIn wsX11_bestTeeth (wsV RX11 164 RX5 yX5_takes wsX5_takes) := goodIn_app (goodIn_of _ (by decide +kernel)) ggX11_bestTeeth_X5_takes
set_option maxHeartbeats 4000000 in
set_option maxRecDepth 100000 in
theorem K_X11_bestTeeth (l : Launch) (D : va_G) (x0 : Nat) (xt : Nat) (xs : Nat) (xq : Nat) (xr : Nat) (xp : Nat) (xl : Nat) (xc : Nat) (xj : Nat) (xe : Nat) (xo : Nat) (pa : Nat) (la_t : Nat) (la_h : Nat) (la_u : Nat) (la_o : Nat) (la_x : Nat) (ch_s : Nat) (ch_t : Nat) (ch_f : Nat) (ch_p : Nat) (cI : ClassId) (n : Nat) (fo : Nat) (wa : Nat) (we : Nat) (cf : Nat) (sf : Nat) (wf : Nat) (cg : Nat) (sg : Nat) (wg : Nat) (ch : Nat) (sh : Nat) (wh : Nat) (ph : Nat) (pl : Nat) (a : Int32) (b : Int32) (d : Int32) (h : Int32) (sz : Nat) : Ki l yX11_bestTeeth wsX11_bestTeeth 7 204 0 0 D [.ref x0, .int a, .int b, .int d, .int h] [(x0, .inr (10, [.ref xt, .ref xs, .ref xq, .ref xr, .ref xp, .ref xl, .ref xc, .ref xj, .ref xe, .ref xo, .ref pa, .int 0, .int 0, .int (-1)])), (xl, .inr (4, [.ref xs, .int 0, .int 0, .int 0, .int 0, .ref la_t, .int 0, .int 0, .ref la_h, .ref la_u, .ref la_o, .ref la_x, .int 0, .int 0, .int 0, .int 0, .int 0, .int 0, .int 0, .int 0])), (xc, .inr (0, [.ref xs, .ref xp, .ref xl, .ref ch_s, .ref ch_t, .ref ch_f, .ref ch_p, .int 0])), (la_t, .inl (cI, 4, .inl (fun _ => 0))), (la_h, .inl (cI, 16, .inl (fun _ => 0))), (la_u, .inl (cI, 16, .inl (fun _ => 0))), (la_o, .inl (cI, 16, .inl (fun _ => 0))), (la_x, .inl (cI, 16, .inl (fun _ => 0))), (xs, .inr (6, [.ref n, .ref fo, .ref wa, .ref we])), (n, .inl (cI, 36, .inl g_nums)), (fo, .inr (2, [.ref cf, .int 1, .ref sf, .ref wf, .int 0, .int 0, .int 0, .int 0, .int 0])), (cf, .inl (cI, 80, .inl (upd (fun _ => 0) 0 (-1)))), (sf, .inl (cI, 12, .inl (fun _ => 0))), (wa, .inr (2, [.ref cg, .int 1, .ref sg, .ref wg, .int 0, .int 0, .int 0, .int 0, .int 0])), (cg, .inl (cI, 80, .inl (upd (fun _ => 0) 0 0))), (sg, .inl (cI, 12, .inl (fun _ => 0))), (we, .inr (2, [.ref ch, .int 1, .ref sh, .ref wh, .int 0, .int 0, .int 0, .int 0, .int 0])), (ch, .inl (cI, 80, .inl (upd (fun _ => 0) 0 0))), (sh, .inl (cI, 12, .inl (fun _ => 0))), (xp, .inr (5, [.ref xs, .ref ph, .int 0, .int 0, .ref pl])), (ph, .inl (cI, 96, .inl (fun _ => 1000)))] [(cI, .int)] sz (fun (r : Int32) (_ : Unit) => r = (if sp_btc a b d h then ((sp_bst (sp_dz b) d.toNatClampNeg h.toNatClampNeg h.toNatClampNeg).1) else (-2))) (fun (_ : Unit) => []) (fun (_ : Unit) => [(cI, .int)]) := by
  unfold Ki
  refine g_ofW (cc := cX11_bestTeeth) (lv := [(0, .ref x0), (1, .int a), (2, .int b), (3, .int d), (4, .int h)]) (by decide) rfl (Nat.le_of_ble_eq_true rfl) rfl ?_
  intro p e s m args below meth c A Q hA hQ F hr hnm
  have hts := F.2.2.2.2.1
  have w_0 : (Cond.fieldLink RX11 47 "QuietCut" "lathe" "LQuietCut$Lathe;").before args s = true := hts _ (List.mem_of_getElem? (i := 1) rfl)
  have i_X11 : ∀ w ∈ u_ws RX11 TX11 14, w ∈ wsX11_bestTeeth := fun _ h => List.mem_cons_of_mem _ (List.mem_append_left _ (List.mem_append_left _ (List.mem_append_left _ (List.mem_append_left _ (List.mem_append_left _ (List.mem_append_right _ h))))))
  have w_1 : (Cond.fieldLink RX11 56 "QuietCut" "chooser" "LQuietCut$Chooser;").before args s = true := hts _ (List.mem_of_getElem? (i := 2) rfl)
  refine g_aload_n F 0 dX11_bestTeeth_0 rfl rfl ?_
  refine g_get (C := RX11) (T := TX11) (N := 14) (v := .ref xl) F i_X11 0 rfl rfl 5 (by decide) w_0 rfl rfl dX11_bestTeeth_1 ?_
  refine g_iload_n F 1 dX11_bestTeeth_4 rfl rfl ?_
  refine g_iload_n F 2 dX11_bestTeeth_5 rfl rfl ?_
  refine g_iconst F 1 dX11_bestTeeth_6 (by decide) ?_
  refine g_iconst F 1 dX11_bestTeeth_7 (by decide) ?_
  refine g_callVi (k := 0) (n := 0) (b := xl) (As := [.int a, .int b, .int 1, .int 1]) (st := []) (wc := [(xl, .inr (4, [.ref xs, .int 0, .int 0, .int 0, .int 0, .ref la_t, .int 0, .int 0, .ref la_h, .ref la_u, .ref la_o, .ref la_x, .int 0, .int 0, .int 0, .int 0, .int 0, .int 0, .int 0, .int 0])), (xs, .inr (6, [.ref n, .ref fo, .ref wa, .ref we])), (n, .inl (cI, 36, .inl g_nums))]) (wr := [(x0, .inr (10, [.ref xt, .ref xs, .ref xq, .ref xr, .ref xp, .ref xl, .ref xc, .ref xj, .ref xe, .ref xo, .ref pa, .int 0, .int 0, .int (-1)])), (xc, .inr (0, [.ref xs, .ref xp, .ref xl, .ref ch_s, .ref ch_t, .ref ch_f, .ref ch_p, .int 0])), (la_t, .inl (cI, 4, .inl (fun _ => 0))), (la_h, .inl (cI, 16, .inl (fun _ => 0))), (la_u, .inl (cI, 16, .inl (fun _ => 0))), (la_o, .inl (cI, 16, .inl (fun _ => 0))), (la_x, .inl (cI, 16, .inl (fun _ => 0))), (fo, .inr (2, [.ref cf, .int 1, .ref sf, .ref wf, .int 0, .int 0, .int 0, .int 0, .int 0])), (cf, .inl (cI, 80, .inl (upd (fun _ => 0) 0 (-1)))), (sf, .inl (cI, 12, .inl (fun _ => 0))), (wa, .inr (2, [.ref cg, .int 1, .ref sg, .ref wg, .int 0, .int 0, .int 0, .int 0, .int 0])), (cg, .inl (cI, 80, .inl (upd (fun _ => 0) 0 0))), (sg, .inl (cI, 12, .inl (fun _ => 0))), (we, .inr (2, [.ref ch, .int 1, .ref sh, .ref wh, .int 0, .int 0, .int 0, .int 0, .int 0])), (ch, .inl (cI, 80, .inl (upd (fun _ => 0) 0 0))), (sh, .inl (cI, 12, .inl (fun _ => 0))), (xp, .inr (5, [.ref xs, .ref ph, .int 0, .int 0, .ref pl])), (ph, .inl (cI, 96, .inl (fun _ => 1000)))]) F [1, 8, 9] [0, 2, 3, 4, 5, 6, 7, 10, 11, 12, 13, 14, 15, 16, 17, 18, 19, 20] [0] rfl rfl (by decide) rfl (by decide) (by decide) rfl (fun sz => K_X5_takes l D xl xs la_t la_h la_u la_o la_x n fo wa we cI 0 0 0 0 0 0 0 0 0 0 0 0 0 0 a b 1 1  sz) (cwV 4 hts gX11_bestTeeth_X5_takes rfl rfl rfl (by decide +kernel) ⟨Nat.le_of_ble_eq_true rfl, Nat.le_of_ble_eq_true rfl⟩) rfl 0 rfl rfl (Nat.le_of_ble_eq_true rfl) ⟨Nat.le_of_ble_eq_true rfl, Nat.le_of_ble_eq_true rfl⟩ dX11_bestTeeth_8 (fun r_1 _ hw_2 => ?_)
  have hw_2 : r_1 = (if 0 ≤ a ∧ a < 3 ∧ 1 ≤ b ∧ b ≤ 9 ∧ 1 ≤ (1 : Int32) ∧ (1 : Int32) ≤ 20 ∧ 1 ≤ (1 : Int32) ∧ (1 : Int32) ≤ 12 then 1 else 0) := hw_2
  have e_r_1 := hw_2
  show gG p l e (gR 7 0 0 204) s m args below meth c D A 5 Q 0 0 [(x0, .inr (10, [.ref xt, .ref xs, .ref xq, .ref xr, .ref xp, .ref xl, .ref xc, .ref xj, .ref xe, .ref xo, .ref pa, .int 0, .int 0, .int (-1)])), (xc, .inr (0, [.ref xs, .ref xp, .ref xl, .ref ch_s, .ref ch_t, .ref ch_f, .ref ch_p, .int 0])), (la_t, .inl (cI, 4, .inl (fun _ => 0))), (la_h, .inl (cI, 16, .inl (fun _ => 0))), (la_u, .inl (cI, 16, .inl (fun _ => 0))), (la_o, .inl (cI, 16, .inl (fun _ => 0))), (la_x, .inl (cI, 16, .inl (fun _ => 0))), (fo, .inr (2, [.ref cf, .int 1, .ref sf, .ref wf, .int 0, .int 0, .int 0, .int 0, .int 0])), (cf, .inl (cI, 80, .inl (upd (fun _ => 0) 0 (-1)))), (sf, .inl (cI, 12, .inl (fun _ => 0))), (wa, .inr (2, [.ref cg, .int 1, .ref sg, .ref wg, .int 0, .int 0, .int 0, .int 0, .int 0])), (cg, .inl (cI, 80, .inl (upd (fun _ => 0) 0 0))), (sg, .inl (cI, 12, .inl (fun _ => 0))), (we, .inr (2, [.ref ch, .int 1, .ref sh, .ref wh, .int 0, .int 0, .int 0, .int 0, .int 0])), (ch, .inl (cI, 80, .inl (upd (fun _ => 0) 0 0))), (sh, .inl (cI, 12, .inl (fun _ => 0))), (xp, .inr (5, [.ref xs, .ref ph, .int 0, .int 0, .ref pl])), (ph, .inl (cI, 96, .inl (fun _ => 1000))), (xl, .inr (4, [.ref xs, .int a, .int b, .int 1, .int 1, .ref la_t, .int 0, .int 0, .ref la_h, .ref la_u, .ref la_o, .ref la_x, .int 0, .int 0, .int 0, .int 0, .int 0, .int 0, .int 0, .int 0])), (xs, .inr (6, [.ref n, .ref fo, .ref wa, .ref we])), (n, .inl (cI, 36, .inl g_nums))] [(cI, .int)] [(0, .ref x0), (1, .int a), (2, .int b), (3, .int d), (4, .int h)] 11 [.int r_1]
  refine g_fold (if 0 ≤ a ∧ a < 3 ∧ 1 ≤ b ∧ b ≤ 9 ∧ 1 ≤ (1 : Int32) ∧ (1 : Int32) ≤ 20 ∧ 1 ≤ (1 : Int32) ∧ (1 : Int32) ≤ 12 then 1 else 0) e_r_1 ?_
  refine g_if_eq F 23 dX11_bestTeeth_11 (by decide) (fun c_11 => ?_) (fun c_11 => ?_)
  · have c_11 := gb_0 c_11
    refine g_bipush F (-2) dX11_bestTeeth_23 (by decide) ?_
    exact g_iret F hA hQ hr () (gi_e (sp_btn1 (fun q => c_11 ⟨q.1, q.2.1, q.2.2.1, q.2.2.2, by decide, by decide, by decide, by decide⟩)) rfl) [] [0] rfl (by decide) rfl rfl dX11_bestTeeth_25
  · have c_11 := gb_n0 c_11
    refine g_iload_n F 3 dX11_bestTeeth_14 rfl rfl ?_
    refine g_iload F 4 dX11_bestTeeth_15 rfl ?_
    refine g_callSi (k := 0) (n := 0) (As := [.int d, .int h]) (st := []) (wc := []) (wr := [(x0, .inr (10, [.ref xt, .ref xs, .ref xq, .ref xr, .ref xp, .ref xl, .ref xc, .ref xj, .ref xe, .ref xo, .ref pa, .int 0, .int 0, .int (-1)])), (xc, .inr (0, [.ref xs, .ref xp, .ref xl, .ref ch_s, .ref ch_t, .ref ch_f, .ref ch_p, .int 0])), (la_t, .inl (cI, 4, .inl (fun _ => 0))), (la_h, .inl (cI, 16, .inl (fun _ => 0))), (la_u, .inl (cI, 16, .inl (fun _ => 0))), (la_o, .inl (cI, 16, .inl (fun _ => 0))), (la_x, .inl (cI, 16, .inl (fun _ => 0))), (fo, .inr (2, [.ref cf, .int 1, .ref sf, .ref wf, .int 0, .int 0, .int 0, .int 0, .int 0])), (cf, .inl (cI, 80, .inl (upd (fun _ => 0) 0 (-1)))), (sf, .inl (cI, 12, .inl (fun _ => 0))), (wa, .inr (2, [.ref cg, .int 1, .ref sg, .ref wg, .int 0, .int 0, .int 0, .int 0, .int 0])), (cg, .inl (cI, 80, .inl (upd (fun _ => 0) 0 0))), (sg, .inl (cI, 12, .inl (fun _ => 0))), (we, .inr (2, [.ref ch, .int 1, .ref sh, .ref wh, .int 0, .int 0, .int 0, .int 0, .int 0])), (ch, .inl (cI, 80, .inl (upd (fun _ => 0) 0 0))), (sh, .inl (cI, 12, .inl (fun _ => 0))), (xp, .inr (5, [.ref xs, .ref ph, .int 0, .int 0, .ref pl])), (ph, .inl (cI, 96, .inl (fun _ => 1000))), (xl, .inr (4, [.ref xs, .int a, .int b, .int 1, .int 1, .ref la_t, .int 0, .int 0, .ref la_h, .ref la_u, .ref la_o, .ref la_x, .int 0, .int 0, .int 0, .int 0, .int 0, .int 0, .int 0, .int 0])), (xs, .inr (6, [.ref n, .ref fo, .ref wa, .ref we])), (n, .inl (cI, 36, .inl g_nums))]) F [] [0, 1, 2, 3, 4, 5, 6, 7, 8, 9, 10, 11, 12, 13, 14, 15, 16, 17, 18, 19, 20] [] rfl rfl (by decide) rfl (by decide) (by decide) rfl (fun sz => K_X0_mayChoose l D d h  sz) (va_cwS 2 hts gX11_bestTeeth_X0_mayChoose rfl rfl rfl (by decide +kernel) ⟨Nat.le_of_ble_eq_true rfl, Nat.le_of_ble_eq_true rfl⟩) rfl (Nat.le_of_ble_eq_true rfl) ⟨Nat.le_of_ble_eq_true rfl, Nat.le_of_ble_eq_true rfl⟩ dX11_bestTeeth_17 (fun r_6 _ hw_7 => ?_)
    have hw_7 : r_6 = (if (1 ≤ d ∧ d ≤ 4) ∧ (0 ≤ h ∧ h < 65536) ∧ d ≤ bc_f h ∧ bc_f h ≤ 6 then 1 else 0) := hw_7
    have e_r_6 := hw_7
    show gG p l e (gR 7 0 0 204) s m args below meth c D A 5 Q 0 0 [(x0, .inr (10, [.ref xt, .ref xs, .ref xq, .ref xr, .ref xp, .ref xl, .ref xc, .ref xj, .ref xe, .ref xo, .ref pa, .int 0, .int 0, .int (-1)])), (xc, .inr (0, [.ref xs, .ref xp, .ref xl, .ref ch_s, .ref ch_t, .ref ch_f, .ref ch_p, .int 0])), (la_t, .inl (cI, 4, .inl (fun _ => 0))), (la_h, .inl (cI, 16, .inl (fun _ => 0))), (la_u, .inl (cI, 16, .inl (fun _ => 0))), (la_o, .inl (cI, 16, .inl (fun _ => 0))), (la_x, .inl (cI, 16, .inl (fun _ => 0))), (fo, .inr (2, [.ref cf, .int 1, .ref sf, .ref wf, .int 0, .int 0, .int 0, .int 0, .int 0])), (cf, .inl (cI, 80, .inl (upd (fun _ => 0) 0 (-1)))), (sf, .inl (cI, 12, .inl (fun _ => 0))), (wa, .inr (2, [.ref cg, .int 1, .ref sg, .ref wg, .int 0, .int 0, .int 0, .int 0, .int 0])), (cg, .inl (cI, 80, .inl (upd (fun _ => 0) 0 0))), (sg, .inl (cI, 12, .inl (fun _ => 0))), (we, .inr (2, [.ref ch, .int 1, .ref sh, .ref wh, .int 0, .int 0, .int 0, .int 0, .int 0])), (ch, .inl (cI, 80, .inl (upd (fun _ => 0) 0 0))), (sh, .inl (cI, 12, .inl (fun _ => 0))), (xp, .inr (5, [.ref xs, .ref ph, .int 0, .int 0, .ref pl])), (ph, .inl (cI, 96, .inl (fun _ => 1000))), (xl, .inr (4, [.ref xs, .int a, .int b, .int 1, .int 1, .ref la_t, .int 0, .int 0, .ref la_h, .ref la_u, .ref la_o, .ref la_x, .int 0, .int 0, .int 0, .int 0, .int 0, .int 0, .int 0, .int 0])), (xs, .inr (6, [.ref n, .ref fo, .ref wa, .ref we])), (n, .inl (cI, 36, .inl g_nums))] [(cI, .int)] [(0, .ref x0), (1, .int a), (2, .int b), (3, .int d), (4, .int h)] 20 [.int r_6]
    refine g_fold (if (1 ≤ d ∧ d ≤ 4) ∧ (0 ≤ h ∧ h < 65536) ∧ d ≤ bc_f h ∧ bc_f h ≤ 6 then 1 else 0) e_r_6 ?_
    refine g_if_ne F 26 dX11_bestTeeth_20 (by decide) (fun c_20 => ?_) (fun c_20 => ?_)
    · have c_20 := gb_n0 c_20
      refine g_aload_n F 0 dX11_bestTeeth_26 rfl rfl ?_
      refine g_get (C := RX11) (T := TX11) (N := 14) (v := .ref xc) F i_X11 0 rfl rfl 6 (by decide) w_1 rfl rfl dX11_bestTeeth_27 ?_
      have hbth := sp_bth c_20.2.1.1 c_20.2.1.2
      have hbtd := sp_btd c_20.1.1 c_20.1.2
      refine g_iload_n F 1 dX11_bestTeeth_30 rfl rfl ?_
      refine g_iload_n F 2 dX11_bestTeeth_31 rfl rfl ?_
      refine g_iload_n F 3 dX11_bestTeeth_32 rfl rfl ?_
      refine g_fold (nI d.toNatClampNeg) (hbtd.1) ?_
      refine g_iload F 4 dX11_bestTeeth_33 rfl ?_
      refine g_fold (nI h.toNatClampNeg) (hbth.1) ?_
      refine g_callVi (k := 0) (n := 0) (b := xc) (As := [.int a, .int b, .int (nI d.toNatClampNeg), .int (nI h.toNatClampNeg)]) (st := []) (wc := [(xc, .inr (0, [.ref xs, .ref xp, .ref xl, .ref ch_s, .ref ch_t, .ref ch_f, .ref ch_p, .int 0])), (xp, .inr (5, [.ref xs, .ref ph, .int 0, .int 0, .ref pl])), (ph, .inl (cI, 96, .inl (fun _ => 1000))), (xl, .inr (4, [.ref xs, .int a, .int b, .int 1, .int 1, .ref la_t, .int 0, .int 0, .ref la_h, .ref la_u, .ref la_o, .ref la_x, .int 0, .int 0, .int 0, .int 0, .int 0, .int 0, .int 0, .int 0])), (la_t, .inl (cI, 4, .inl (fun _ => 0))), (la_h, .inl (cI, 16, .inl (fun _ => 0))), (la_u, .inl (cI, 16, .inl (fun _ => 0))), (la_o, .inl (cI, 16, .inl (fun _ => 0))), (la_x, .inl (cI, 16, .inl (fun _ => 0))), (xs, .inr (6, [.ref n, .ref fo, .ref wa, .ref we])), (n, .inl (cI, 36, .inl g_nums)), (fo, .inr (2, [.ref cf, .int 1, .ref sf, .ref wf, .int 0, .int 0, .int 0, .int 0, .int 0])), (cf, .inl (cI, 80, .inl (upd (fun _ => 0) 0 (-1)))), (sf, .inl (cI, 12, .inl (fun _ => 0))), (wa, .inr (2, [.ref cg, .int 1, .ref sg, .ref wg, .int 0, .int 0, .int 0, .int 0, .int 0])), (cg, .inl (cI, 80, .inl (upd (fun _ => 0) 0 0))), (sg, .inl (cI, 12, .inl (fun _ => 0))), (we, .inr (2, [.ref ch, .int 1, .ref sh, .ref wh, .int 0, .int 0, .int 0, .int 0, .int 0])), (ch, .inl (cI, 80, .inl (upd (fun _ => 0) 0 0))), (sh, .inl (cI, 12, .inl (fun _ => 0)))]) (wr := [(x0, .inr (10, [.ref xt, .ref xs, .ref xq, .ref xr, .ref xp, .ref xl, .ref xc, .ref xj, .ref xe, .ref xo, .ref pa, .int 0, .int 0, .int (-1)]))]) F [1, 16, 17, 18, 2, 3, 4, 5, 6, 19, 20, 7, 8, 9, 10, 11, 12, 13, 14, 15] [0] [0] rfl rfl (by decide) rfl (by decide) (by decide) rfl (fun sz => K_X0_bestSet l D xc xs xp xl ch_s ch_t ch_f ch_p ph pl cI a b 1 1 0 0 0 0 0 0 0 0 0 (fun _ => 0) (fun _ => 0) (fun _ => 0) (fun _ => 0) (fun _ => 0) (fun _ => 0) (fun _ => 0) (fun _ => 0) a b d.toNatClampNeg h.toNatClampNeg la_t la_h la_u la_o la_x n fo wa we cf sf wf ch sh wh cg sg wg (⟨c_11.1, c_11.2.1, c_11.2.2.1, c_11.2.2.2.1⟩) (hbtd.2) (hbth.2.1) (sp_bt6 (hbth.2.2 ▸ c_20.2.2.2)) sz) (cwV 4 hts gX11_bestTeeth_X0_bestSet rfl rfl rfl (by decide +kernel) ⟨Nat.le_of_ble_eq_true rfl, Nat.le_of_ble_eq_true rfl⟩) rfl 0 rfl rfl (Nat.le_of_ble_eq_true rfl) ⟨Nat.le_of_ble_eq_true rfl, Nat.le_of_ble_eq_true rfl⟩ dX11_bestTeeth_35 (fun r_11 _ hw_12 => ?_)
      have hw_12 : r_11 = ((sp_bst (sp_dz b) d.toNatClampNeg h.toNatClampNeg h.toNatClampNeg).1) := hw_12
      have e_r_11 := hw_12
      show gG p l e (gR 7 0 0 204) s m args below meth c D A 5 Q 0 0 [(x0, .inr (10, [.ref xt, .ref xs, .ref xq, .ref xr, .ref xp, .ref xl, .ref xc, .ref xj, .ref xe, .ref xo, .ref pa, .int 0, .int 0, .int (-1)]))] [(cI, .int)] [(0, .ref x0), (1, .int a), (2, .int b), (3, .int d), (4, .int h)] 38 [.int r_11]
      refine g_fold ((sp_bst (sp_dz b) d.toNatClampNeg h.toNatClampNeg h.toNatClampNeg).1) e_r_11 ?_
      exact g_iret F hA hQ hr () (gi_p (sp_bty ⟨c_11.1, c_11.2.1, c_11.2.2.1, c_11.2.2.2.1⟩ c_20) rfl) [] [0] rfl (by decide) rfl rfl dX11_bestTeeth_38
    · have c_20 := gb_0 c_20
      refine g_bipush F (-2) dX11_bestTeeth_23 (by decide) ?_
      exact g_iret F hA hQ hr () (gi_e (sp_btn2 c_20) rfl) [] [0] rfl (by decide) rfl rfl dX11_bestTeeth_25
