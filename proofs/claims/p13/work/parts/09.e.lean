theorem dX3_strengthOf_0 : decode cX3_strengthOf 0 = .ok (.iload_n 0, 1) := by decide +kernel
theorem dX3_strengthOf_1 : decode cX3_strengthOf 1 = .ok (.bipush 42, 2) := by decide +kernel
theorem dX3_strengthOf_3 : decode cX3_strengthOf 3 = .ok (.if_icmp .eq 15, 3) := by decide +kernel
theorem dX3_strengthOf_6 : decode cX3_strengthOf 6 = .ok (.iload_n 0, 1) := by decide +kernel
theorem dX3_strengthOf_7 : decode cX3_strengthOf 7 = .ok (.bipush 47, 2) := by decide +kernel
theorem dX3_strengthOf_9 : decode cX3_strengthOf 9 = .ok (.if_icmp .eq 9, 3) := by decide +kernel
theorem dX3_strengthOf_12 : decode cX3_strengthOf 12 = .ok (.iload_n 0, 1) := by decide +kernel
theorem dX3_strengthOf_13 : decode cX3_strengthOf 13 = .ok (.bipush 37, 2) := by decide +kernel
theorem dX3_strengthOf_15 : decode cX3_strengthOf 15 = .ok (.if_icmp .ne 5, 3) := by decide +kernel
theorem dX3_strengthOf_18 : decode cX3_strengthOf 18 = .ok (.iconst 2, 1) := by decide +kernel
theorem dX3_strengthOf_19 : decode cX3_strengthOf 19 = .ok (.ireturn, 1) := by decide +kernel
theorem dX3_strengthOf_20 : decode cX3_strengthOf 20 = .ok (.iload_n 0, 1) := by decide +kernel
theorem dX3_strengthOf_21 : decode cX3_strengthOf 21 = .ok (.bipush 43, 2) := by decide +kernel
theorem dX3_strengthOf_23 : decode cX3_strengthOf 23 = .ok (.if_icmp .eq 9, 3) := by decide +kernel
theorem dX3_strengthOf_26 : decode cX3_strengthOf 26 = .ok (.iload_n 0, 1) := by decide +kernel
theorem dX3_strengthOf_27 : decode cX3_strengthOf 27 = .ok (.bipush 45, 2) := by decide +kernel
theorem dX3_strengthOf_29 : decode cX3_strengthOf 29 = .ok (.if_icmp .ne 7, 3) := by decide +kernel
theorem dX3_strengthOf_32 : decode cX3_strengthOf 32 = .ok (.iconst 1, 1) := by decide +kernel
theorem dX3_strengthOf_33 : decode cX3_strengthOf 33 = .ok (.goto 4, 3) := by decide +kernel
theorem dX3_strengthOf_36 : decode cX3_strengthOf 36 = .ok (.iconst 0, 1) := by decide +kernel
theorem dX3_strengthOf_37 : decode cX3_strengthOf 37 = .ok (.ireturn, 1) := by decide +kernel
set_option maxHeartbeats 4000000 in
set_option maxRecDepth 100000 in
theorem S_X3_strengthOf (l : Launch) (D : va_G)  (p0 : Int32) (s0 : Int) (e0 : p0.toInt = s0) (sz : Nat) : Ki l yX3_strengthOf wsX3_strengthOf 1 40 0 0 D [.int p0] [] [] sz (fun (r : Int32) (_ : Unit) => (0 ≤ r.toInt ∧ r.toInt ≤ 2) ∧ ((r.toInt = xsg s0))) (fun (_ : Unit) => []) (fun _ => []) := by
  unfold Ki
  refine g_ofW (cc := cX3_strengthOf) (lv := [(0, .int p0)]) (by decide) rfl (Nat.le_of_ble_eq_true rfl) rfl ?_
  intro p e s m args below meth c A Q hA hQ F hr hnm
  have hts := F.2.2.2.2.1
  have rg0 : -2147483648 ≤ s0 ∧ s0 ≤ 2147483647 := e0 ▸ ti_rng p0
  refine g_iload_n F 0 dX3_strengthOf_0 rfl rfl ?_
  refine g_bipush F 42 dX3_strengthOf_1 (by decide) ?_
  refine v_icmp_eq F 18 dX3_strengthOf_3 (by decide) s0 42 e0 rfl (fun c1 => ?_) (fun c1 => ?_)
  · refine g_iconst F 2 dX3_strengthOf_18 (by decide) ?_
    exact u_iret F hA hQ hr () (⟨(by decide), (by unfold xsg; split <;> first | rfl | (exfalso; omega) | (split <;> first | rfl | (exfalso; omega)))⟩) rfl rfl dX3_strengthOf_19
  · refine g_iload_n F 0 dX3_strengthOf_6 rfl rfl ?_
    refine g_bipush F 47 dX3_strengthOf_7 (by decide) ?_
    refine v_icmp_eq F 18 dX3_strengthOf_9 (by decide) s0 47 e0 rfl (fun c2 => ?_) (fun c2 => ?_)
    · refine g_iconst F 2 dX3_strengthOf_18 (by decide) ?_
      exact u_iret F hA hQ hr () (⟨(by decide), (by unfold xsg; split <;> first | rfl | (exfalso; omega) | (split <;> first | rfl | (exfalso; omega)))⟩) rfl rfl dX3_strengthOf_19
    · refine g_iload_n F 0 dX3_strengthOf_12 rfl rfl ?_
      refine g_bipush F 37 dX3_strengthOf_13 (by decide) ?_
      refine v_icmp_ne F 20 dX3_strengthOf_15 (by decide) s0 37 e0 rfl (fun c3 => ?_) (fun c3 => ?_)
      · refine g_iload_n F 0 dX3_strengthOf_20 rfl rfl ?_
        refine g_bipush F 43 dX3_strengthOf_21 (by decide) ?_
        refine v_icmp_eq F 32 dX3_strengthOf_23 (by decide) s0 43 e0 rfl (fun c4 => ?_) (fun c4 => ?_)
        · refine g_iconst F 1 dX3_strengthOf_32 (by decide) ?_
          refine g_goto F 37 dX3_strengthOf_33 (by decide) ?_
          exact u_iret F hA hQ hr () (⟨(by decide), (by unfold xsg; split <;> first | rfl | (exfalso; omega) | (split <;> first | rfl | (exfalso; omega)))⟩) rfl rfl dX3_strengthOf_37
        · refine g_iload_n F 0 dX3_strengthOf_26 rfl rfl ?_
          refine g_bipush F 45 dX3_strengthOf_27 (by decide) ?_
          refine v_icmp_ne F 36 dX3_strengthOf_29 (by decide) s0 45 e0 rfl (fun c5 => ?_) (fun c5 => ?_)
          · refine g_iconst F 0 dX3_strengthOf_36 (by decide) ?_
            exact u_iret F hA hQ hr () (⟨(by decide), (by unfold xsg; split <;> first | rfl | (exfalso; omega) | (split <;> first | rfl | (exfalso; omega)))⟩) rfl rfl dX3_strengthOf_37
          · refine g_iconst F 1 dX3_strengthOf_32 (by decide) ?_
            refine g_goto F 37 dX3_strengthOf_33 (by decide) ?_
            exact u_iret F hA hQ hr () (⟨(by decide), (by unfold xsg; split <;> first | rfl | (exfalso; omega) | (split <;> first | rfl | (exfalso; omega)))⟩) rfl rfl dX3_strengthOf_37
      · refine g_iconst F 2 dX3_strengthOf_18 (by decide) ?_
        exact u_iret F hA hQ hr () (⟨(by decide), (by unfold xsg; split <;> first | rfl | (exfalso; omega) | (split <;> first | rfl | (exfalso; omega)))⟩) rfl rfl dX3_strengthOf_19

theorem dX3_joinCode_0 : decode cX3_joinCode 0 = .ok (.bipush (-3), 2) := by decide +kernel
theorem dX3_joinCode_2 : decode cX3_joinCode 2 = .ok (.iload_n 0, 1) := by decide +kernel
theorem dX3_joinCode_3 : decode cX3_joinCode 3 = .ok (.isub, 1) := by decide +kernel
theorem dX3_joinCode_4 : decode cX3_joinCode 4 = .ok (.ireturn, 1) := by decide +kernel
set_option maxHeartbeats 4000000 in
set_option maxRecDepth 100000 in
theorem S_X3_joinCode (l : Launch) (D : va_G)  (p0 : Int32) (s0 : Int) (e0 : p0.toInt = s0) (sz : Nat) : Ki l yX3_joinCode wsX3_joinCode 1 40 0 0 D [.int p0] [] [] sz (fun (r : Int32) (_ : Unit) => ((37 ≤ s0 ∧ s0 ≤ 47 → r.toInt = -3 - s0))) (fun (_ : Unit) => []) (fun _ => []) := by
  unfold Ki
  refine g_ofW (cc := cX3_joinCode) (lv := [(0, .int p0)]) (by decide) rfl (Nat.le_of_ble_eq_true rfl) rfl ?_
  intro p e s m args below meth c A Q hA hQ F hr hnm
  have hts := F.2.2.2.2.1
  have rg0 : -2147483648 ≤ s0 ∧ s0 ≤ 2147483647 := e0 ▸ ti_rng p0
  refine g_bipush F (-3) dX3_joinCode_0 (by decide) ?_
  refine g_iload_n F 0 dX3_joinCode_2 rfl rfl ?_
  refine u_isubc F dX3_joinCode_3 (-3) s0 rfl e0 (fun y1 ey1 => ?_)
  exact u_iret F hA hQ hr () ((by show (37 ≤ s0 ∧ s0 ≤ 47 → y1.toInt = -3 - s0); (first | omega | (simp only [Int32.reduceToInt, true_and, and_true, ne_eq, not_true_eq_false, false_and, or_false, false_or, true_or, or_true, false_implies] <;> omega)))) rfl rfl dX3_joinCode_4

theorem dX3_putWaiting_0 : decode cX3_putWaiting 0 = .ok (.aload_n 0, 1) := by decide +kernel
theorem dX3_putWaiting_1 : decode cX3_putWaiting 1 = .ok (.getfield 35, 3) := by decide +kernel
theorem dX3_putWaiting_4 : decode cX3_putWaiting 4 = .ok (.bipush 16, 2) := by decide +kernel
theorem dX3_putWaiting_6 : decode cX3_putWaiting 6 = .ok (.if_icmp .ge 23, 3) := by decide +kernel
theorem dX3_putWaiting_9 : decode cX3_putWaiting 9 = .ok (.aload_n 0, 1) := by decide +kernel
theorem dX3_putWaiting_10 : decode cX3_putWaiting 10 = .ok (.getfield 18, 3) := by decide +kernel
theorem dX3_putWaiting_13 : decode cX3_putWaiting 13 = .ok (.aload_n 0, 1) := by decide +kernel
theorem dX3_putWaiting_14 : decode cX3_putWaiting 14 = .ok (.getfield 35, 3) := by decide +kernel
theorem dX3_putWaiting_17 : decode cX3_putWaiting 17 = .ok (.iload_n 1, 1) := by decide +kernel
theorem dX3_putWaiting_18 : decode cX3_putWaiting 18 = .ok (.iastore, 1) := by decide +kernel
theorem dX3_putWaiting_19 : decode cX3_putWaiting 19 = .ok (.aload_n 0, 1) := by decide +kernel
theorem dX3_putWaiting_20 : decode cX3_putWaiting 20 = .ok (.dup, 1) := by decide +kernel
theorem dX3_putWaiting_21 : decode cX3_putWaiting 21 = .ok (.getfield 35, 3) := by decide +kernel
theorem dX3_putWaiting_24 : decode cX3_putWaiting 24 = .ok (.iconst 1, 1) := by decide +kernel
theorem dX3_putWaiting_25 : decode cX3_putWaiting 25 = .ok (.iadd, 1) := by decide +kernel
theorem dX3_putWaiting_26 : decode cX3_putWaiting 26 = .ok (.putfield 35, 3) := by decide +kernel
theorem dX3_putWaiting_29 : decode cX3_putWaiting 29 = .ok (.return_, 1) := by decide +kernel
set_option maxHeartbeats 4000000 in
set_option maxRecDepth 100000 in
theorem S_X3_putWaiting_14 (l : Launch) (D : va_G) (K : Nat → ClassId) (a : Nat → Nat) (G : gS) (p0 : Int32) (s0 : Int) (e0 : p0.toInt = s0) (hI : xI G) (sz : Nat) : Kv l yX3_putWaiting wsX3_putWaiting 1 40 0 0 D [.ref (a 14), .int p0] (xW K a G) (tK K) sz (fun (G' : gS) => (xI G') ∧ (gu_un xcd [1405, 3100] G G') ∧ (((G 14 4).toInt ≤ 15 → (G' 31 = upd (G 31) ((G 14 4).toInt).toNat p0 ∧ (G' 14 4).toInt = (G 14 4).toInt + 1)))) (fun (G' : gS) => (xW K a G')) (fun _ => (tK K)) := by
  unfold Kv
  refine g_ofW (cc := cX3_putWaiting) (lv := [(0, .ref (a 14)), (1, .int p0)]) (by decide) rfl (Nat.le_of_ble_eq_true rfl) rfl ?_
  intro p e s m args below meth c A Q hA hQ F hr hnm
  have hts := F.2.2.2.2.1
  have w_0 : (Cond.fieldLink RX3 35 "QuietCut$Formula" "waits" "I").before args s = true := hts _ (List.mem_of_getElem? (i := 1) rfl)
  have i_X3 : ∀ w ∈ u_ws RX3 TX3 9, w ∈ wsX3_putWaiting := fun _ h => List.mem_cons_of_mem _ (List.mem_append_right _ h)
  have w_1 : (Cond.fieldLink RX3 18 "QuietCut$Formula" "waiting" "[I").before args s = true := hts _ (List.mem_of_getElem? (i := 2) rfl)
  have rg0 : -2147483648 ≤ s0 ∧ s0 ≤ 2147483647 := e0 ▸ ti_rng p0
  refine g_aload_n F 0 dX3_putWaiting_0 rfl rfl ?_
  refine xg_14_4 F i_X3 w_0 dX3_putWaiting_1 (G 14 4) (rfl) ?_
  refine g_bipush F 16 dX3_putWaiting_4 (by decide) ?_
  have b1 : (0 : Int) ≤ (G 14 4).toInt ∧ (G 14 4).toInt ≤ 16 := hI 14 4
  refine v_icmp_ge F 29 dX3_putWaiting_6 (by decide) (G 14 4).toInt 16 rfl rfl (fun c2 => ?_) (fun c2 => ?_)
  · exact u_vret F hA hQ hr G (⟨hI, gu_un.rf, (fun h => absurd h (by omega))⟩) rfl rfl dX3_putWaiting_29
  · refine g_aload_n F 0 dX3_putWaiting_9 rfl rfl ?_
    refine xg_14_3 F i_X3 w_1 dX3_putWaiting_10 ?_
    refine g_aload_n F 0 dX3_putWaiting_13 rfl rfl ?_
    refine xg_14_4 F i_X3 w_0 dX3_putWaiting_14 (G 14 4) (rfl) ?_
    refine g_iload_n F 1 dX3_putWaiting_17 rfl rfl ?_
    refine u_iast F 31 0 xc_31 rfl (G 14 4).toInt rfl (by omega) (by omega) (xW K a (gu_up G 31 ((G 14 4).toInt).toNat p0)) (xs_31 _) dX3_putWaiting_18 ?_
    refine g_aload_n F 0 dX3_putWaiting_19 rfl rfl ?_
    refine g_dup F dX3_putWaiting_20 rfl ?_
    refine xg_14_4 F i_X3 w_0 dX3_putWaiting_21 (G 14 4) (rfl) ?_
    refine g_iconst F 1 dX3_putWaiting_24 (by decide) ?_
    refine u_iadd F dX3_putWaiting_25 (G 14 4).toInt 1 rfl rfl (by omega) (by omega) (fun y3 ey3 => ?_)
    refine xp_14_4 F i_X3 w_0 dX3_putWaiting_26 ?_
    exact u_vret F hA hQ hr (gu_up (gu_up G 31 ((G 14 4).toInt).toNat p0) 14 4 y3) (⟨(gu_I.up (j := 14) (k := 4) (v := y3) (gu_I.up (j := 31) (k := ((G 14 4).toInt).toNat) (v := p0) hI (ti_rng _).1 (ti_rng _).2) (show (0 : Int) ≤ Int32.toInt y3 by omega) (show Int32.toInt y3 ≤ 16 by omega)), (gu_un.up (j := 14) (k := 4) (v := y3) (gu_un.up (j := 31) (k := ((G 14 4).toInt).toNat) (v := p0) gu_un.rf (show (3100 : Nat) ∈ ([1405, 3100] : List Nat) by decide)) (show (1405 : Nat) ∈ ([1405, 3100] : List Nat) by decide)), (fun _ => ⟨rfl, show (y3 : Int32).toInt = _ by omega⟩)⟩) rfl rfl dX3_putWaiting_29

theorem dX3_putCode_0 : decode cX3_putCode 0 = .ok (.aload_n 0, 1) := by decide +kernel
theorem dX3_putCode_1 : decode cX3_putCode 1 = .ok (.getfield 21, 3) := by decide +kernel
theorem dX3_putCode_4 : decode cX3_putCode 4 = .ok (.bipush 80, 2) := by decide +kernel
theorem dX3_putCode_6 : decode cX3_putCode 6 = .ok (.if_icmp .ge 23, 3) := by decide +kernel
theorem dX3_putCode_9 : decode cX3_putCode 9 = .ok (.aload_n 0, 1) := by decide +kernel
theorem dX3_putCode_10 : decode cX3_putCode 10 = .ok (.getfield 11, 3) := by decide +kernel
theorem dX3_putCode_13 : decode cX3_putCode 13 = .ok (.aload_n 0, 1) := by decide +kernel
theorem dX3_putCode_14 : decode cX3_putCode 14 = .ok (.getfield 21, 3) := by decide +kernel
theorem dX3_putCode_17 : decode cX3_putCode 17 = .ok (.iload_n 1, 1) := by decide +kernel
theorem dX3_putCode_18 : decode cX3_putCode 18 = .ok (.iastore, 1) := by decide +kernel
theorem dX3_putCode_19 : decode cX3_putCode 19 = .ok (.aload_n 0, 1) := by decide +kernel
theorem dX3_putCode_20 : decode cX3_putCode 20 = .ok (.dup, 1) := by decide +kernel
theorem dX3_putCode_21 : decode cX3_putCode 21 = .ok (.getfield 21, 3) := by decide +kernel
theorem dX3_putCode_24 : decode cX3_putCode 24 = .ok (.iconst 1, 1) := by decide +kernel
theorem dX3_putCode_25 : decode cX3_putCode 25 = .ok (.iadd, 1) := by decide +kernel
theorem dX3_putCode_26 : decode cX3_putCode 26 = .ok (.putfield 21, 3) := by decide +kernel
theorem dX3_putCode_29 : decode cX3_putCode 29 = .ok (.return_, 1) := by decide +kernel
set_option maxHeartbeats 4000000 in
set_option maxRecDepth 100000 in
theorem S_X3_putCode_14 (l : Launch) (D : va_G) (K : Nat → ClassId) (a : Nat → Nat) (G : gS) (p0 : Int32) (s0 : Int) (e0 : p0.toInt = s0) (hI : xI G) (sz : Nat) : Kv l yX3_putCode wsX3_putCode 1 40 0 0 D [.ref (a 14), .int p0] (xW K a G) (tK K) sz (fun (G' : gS) => (xI G') ∧ (gu_un xcd [1402, 2900] G G') ∧ (((G 14 1).toInt ≤ 79 → (G' 29 = upd (G 29) ((G 14 1).toInt).toNat p0 ∧ (G' 14 1).toInt = (G 14 1).toInt + 1)))) (fun (G' : gS) => (xW K a G')) (fun _ => (tK K)) := by
  unfold Kv
  refine g_ofW (cc := cX3_putCode) (lv := [(0, .ref (a 14)), (1, .int p0)]) (by decide) rfl (Nat.le_of_ble_eq_true rfl) rfl ?_
  intro p e s m args below meth c A Q hA hQ F hr hnm
  have hts := F.2.2.2.2.1
  have w_0 : (Cond.fieldLink RX3 21 "QuietCut$Formula" "length" "I").before args s = true := hts _ (List.mem_of_getElem? (i := 1) rfl)
  have i_X3 : ∀ w ∈ u_ws RX3 TX3 9, w ∈ wsX3_putCode := fun _ h => List.mem_cons_of_mem _ (List.mem_append_right _ h)
  have w_1 : (Cond.fieldLink RX3 11 "QuietCut$Formula" "codes" "[I").before args s = true := hts _ (List.mem_of_getElem? (i := 2) rfl)
  have rg0 : -2147483648 ≤ s0 ∧ s0 ≤ 2147483647 := e0 ▸ ti_rng p0
  refine g_aload_n F 0 dX3_putCode_0 rfl rfl ?_
  refine xg_14_1 F i_X3 w_0 dX3_putCode_1 (G 14 1) (rfl) ?_
  refine g_bipush F 80 dX3_putCode_4 (by decide) ?_
  have b1 : (0 : Int) ≤ (G 14 1).toInt ∧ (G 14 1).toInt ≤ 80 := hI 14 1
  refine v_icmp_ge F 29 dX3_putCode_6 (by decide) (G 14 1).toInt 80 rfl rfl (fun c2 => ?_) (fun c2 => ?_)
  · exact u_vret F hA hQ hr G (⟨hI, gu_un.rf, (fun h => absurd h (by omega))⟩) rfl rfl dX3_putCode_29
  · refine g_aload_n F 0 dX3_putCode_9 rfl rfl ?_
    refine xg_14_0 F i_X3 w_1 dX3_putCode_10 ?_
    refine g_aload_n F 0 dX3_putCode_13 rfl rfl ?_
    refine xg_14_1 F i_X3 w_0 dX3_putCode_14 (G 14 1) (rfl) ?_
    refine g_iload_n F 1 dX3_putCode_17 rfl rfl ?_
    refine u_iast F 29 0 xc_29 rfl (G 14 1).toInt rfl (by omega) (by omega) (xW K a (gu_up G 29 ((G 14 1).toInt).toNat p0)) (xs_29 _) dX3_putCode_18 ?_
    refine g_aload_n F 0 dX3_putCode_19 rfl rfl ?_
    refine g_dup F dX3_putCode_20 rfl ?_
    refine xg_14_1 F i_X3 w_0 dX3_putCode_21 (G 14 1) (rfl) ?_
    refine g_iconst F 1 dX3_putCode_24 (by decide) ?_
    refine u_iadd F dX3_putCode_25 (G 14 1).toInt 1 rfl rfl (by omega) (by omega) (fun y3 ey3 => ?_)
    refine xp_14_1 F i_X3 w_0 dX3_putCode_26 ?_
    exact u_vret F hA hQ hr (gu_up (gu_up G 29 ((G 14 1).toInt).toNat p0) 14 1 y3) (⟨(gu_I.up (j := 14) (k := 1) (v := y3) (gu_I.up (j := 29) (k := ((G 14 1).toInt).toNat) (v := p0) hI (ti_rng _).1 (ti_rng _).2) (show (0 : Int) ≤ Int32.toInt y3 by omega) (show Int32.toInt y3 ≤ 80 by omega)), (gu_un.up (j := 14) (k := 1) (v := y3) (gu_un.up (j := 29) (k := ((G 14 1).toInt).toNat) (v := p0) gu_un.rf (show (2900 : Nat) ∈ ([1402, 2900] : List Nat) by decide)) (show (1402 : Nat) ∈ ([1402, 2900] : List Nat) by decide)), (fun _ => ⟨rfl, show (y3 : Int32).toInt = _ by omega⟩)⟩) rfl rfl dX3_putCode_29

theorem dX3_joinDownTo_0 : decode cX3_joinDownTo 0 = .ok (.aload_n 0, 1) := by decide +kernel
theorem dX3_joinDownTo_1 : decode cX3_joinDownTo 1 = .ok (.getfield 35, 3) := by decide +kernel
theorem dX3_joinDownTo_4 : decode cX3_joinDownTo 4 = .ok (.ifCond .le 50, 3) := by decide +kernel
theorem dX3_joinDownTo_7 : decode cX3_joinDownTo 7 = .ok (.aload_n 0, 1) := by decide +kernel
theorem dX3_joinDownTo_8 : decode cX3_joinDownTo 8 = .ok (.getfield 18, 3) := by decide +kernel
theorem dX3_joinDownTo_11 : decode cX3_joinDownTo 11 = .ok (.aload_n 0, 1) := by decide +kernel
theorem dX3_joinDownTo_12 : decode cX3_joinDownTo 12 = .ok (.getfield 35, 3) := by decide +kernel
theorem dX3_joinDownTo_15 : decode cX3_joinDownTo 15 = .ok (.iconst 1, 1) := by decide +kernel
theorem dX3_joinDownTo_16 : decode cX3_joinDownTo 16 = .ok (.isub, 1) := by decide +kernel
theorem dX3_joinDownTo_17 : decode cX3_joinDownTo 17 = .ok (.iaload, 1) := by decide +kernel
theorem dX3_joinDownTo_18 : decode cX3_joinDownTo 18 = .ok (.invokestatic 88, 3) := by decide +kernel
theorem dX3_joinDownTo_21 : decode cX3_joinDownTo 21 = .ok (.iload_n 1, 1) := by decide +kernel
theorem dX3_joinDownTo_22 : decode cX3_joinDownTo 22 = .ok (.if_icmp .lt 32, 3) := by decide +kernel
theorem dX3_joinDownTo_25 : decode cX3_joinDownTo 25 = .ok (.aload_n 0, 1) := by decide +kernel
theorem dX3_joinDownTo_26 : decode cX3_joinDownTo 26 = .ok (.dup, 1) := by decide +kernel
theorem dX3_joinDownTo_27 : decode cX3_joinDownTo 27 = .ok (.getfield 35, 3) := by decide +kernel
theorem dX3_joinDownTo_30 : decode cX3_joinDownTo 30 = .ok (.iconst 1, 1) := by decide +kernel
theorem dX3_joinDownTo_31 : decode cX3_joinDownTo 31 = .ok (.isub, 1) := by decide +kernel
theorem dX3_joinDownTo_32 : decode cX3_joinDownTo 32 = .ok (.putfield 35, 3) := by decide +kernel
theorem dX3_joinDownTo_35 : decode cX3_joinDownTo 35 = .ok (.aload_n 0, 1) := by decide +kernel
theorem dX3_joinDownTo_36 : decode cX3_joinDownTo 36 = .ok (.aload_n 0, 1) := by decide +kernel
theorem dX3_joinDownTo_37 : decode cX3_joinDownTo 37 = .ok (.getfield 18, 3) := by decide +kernel
theorem dX3_joinDownTo_40 : decode cX3_joinDownTo 40 = .ok (.aload_n 0, 1) := by decide +kernel
theorem dX3_joinDownTo_41 : decode cX3_joinDownTo 41 = .ok (.getfield 35, 3) := by decide +kernel
theorem dX3_joinDownTo_44 : decode cX3_joinDownTo 44 = .ok (.iaload, 1) := by decide +kernel
theorem dX3_joinDownTo_45 : decode cX3_joinDownTo 45 = .ok (.invokestatic 91, 3) := by decide +kernel
theorem dX3_joinDownTo_48 : decode cX3_joinDownTo 48 = .ok (.invokevirtual 25, 3) := by decide +kernel
theorem dX3_joinDownTo_51 : decode cX3_joinDownTo 51 = .ok (.goto (-51), 3) := by decide +kernel
theorem dX3_joinDownTo_54 : decode cX3_joinDownTo 54 = .ok (.return_, 1) := by decide +kernel
set_option maxRecDepth 20000 in
theorem ggX3_joinDownTo_X3_joinCode : GoodIn wsX3_joinDownTo wsX3_joinCode := goodIn_r _ [9] rfl (by decide +kernel)
set_option maxRecDepth 20000 in
theorem gX3_joinDownTo_X3_joinCode : GoodIn wsX3_joinDownTo (va_wsS RX3 91 yX3_joinCode wsX3_joinCode) := goodIn_app (goodIn_of _ (by decide +kernel)) ggX3_joinDownTo_X3_joinCode
set_option maxRecDepth 20000 in
theorem ggX3_joinDownTo_X3_putCode : GoodIn wsX3_joinDownTo wsX3_putCode := goodIn_r _ [13, 14, 15, 16, 17, 18, 19, 20, 21, 22, 23, 24] rfl (by decide +kernel)
set_option maxRecDepth 20000 in
theorem gX3_joinDownTo_X3_putCode : GoodIn wsX3_joinDownTo (wsV RX3 25 RX3 yX3_putCode wsX3_putCode) := goodIn_app (goodIn_of _ (by decide +kernel)) ggX3_joinDownTo_X3_putCode
set_option maxRecDepth 20000 in
theorem ggX3_joinDownTo_X3_strengthOf : GoodIn wsX3_joinDownTo wsX3_strengthOf := goodIn_r _ [6] rfl (by decide +kernel)
set_option maxRecDepth 20000 in
theorem gX3_joinDownTo_X3_strengthOf : GoodIn wsX3_joinDownTo (va_wsS RX3 88 yX3_strengthOf wsX3_strengthOf) := goodIn_app (goodIn_of _ (by decide +kernel)) ggX3_joinDownTo_X3_strengthOf
set_option maxHeartbeats 4000000 in
set_option maxRecDepth 100000 in
theorem S_X3_joinDownTo_14 (l : Launch) (D : va_G) (K : Nat → ClassId) (a : Nat → Nat) (G : gS) (p0 : Int32) (s0 : Int) (e0 : p0.toInt = s0) (h0 : 1 ≤ s0 ∧ s0 ≤ 2) (jq : (∃ t, xQ (G 31) (G 14 4).toInt (G 14 6).toInt (G 14 7).toInt t ∧ 0 ≤ t)) (jl : ((G 14 1).toInt + (G 14 4).toInt ≤ 79)) (hI : xI G) (sz : Nat) : Kv l yX3_joinDownTo wsX3_joinDownTo 2 61 0 0 D [.ref (a 14), .int p0] (xW K a G) (tK K) sz (fun (G' : gS) => (xI G') ∧ (gu_un xcd [1402, 1405, 2900] G G') ∧ ((∃ t, xQ (G 31) (G' 14 4).toInt (G 14 6).toInt (G 14 7).toInt t ∧ 0 ≤ t ∧ t < s0)) ∧ ((sJ s0 (tkr (G 31) ((G 14 4).toInt).toNat) (tkr (G 29) ((G 14 1).toInt).toNat) = (tkr (G 31) ((G' 14 4).toInt).toNat, tkr (G' 29) ((G' 14 1).toInt).toNat))) ∧ (((G' 14 1).toInt + (G' 14 4).toInt = (G 14 1).toInt + (G 14 4).toInt))) (fun (G' : gS) => (xW K a G')) (fun _ => (tK K)) := by
  unfold Kv
  refine g_ofW (cc := cX3_joinDownTo) (lv := [(0, .ref (a 14)), (1, .int p0)]) (by decide) rfl (Nat.le_of_ble_eq_true rfl) rfl ?_
  intro p e s m args below meth c A Q hA hQ F hr hnm
  have hts := F.2.2.2.2.1
  have w_0 : (Cond.fieldLink RX3 35 "QuietCut$Formula" "waits" "I").before args s = true := hts _ (List.mem_of_getElem? (i := 1) rfl)
  have i_X3 : ∀ w ∈ u_ws RX3 TX3 9, w ∈ wsX3_joinDownTo := fun _ h => List.mem_cons_of_mem _ (List.mem_append_right _ h)
  have w_1 : (Cond.fieldLink RX3 18 "QuietCut$Formula" "waiting" "[I").before args s = true := hts _ (List.mem_of_getElem? (i := 2) rfl)
  have b1 : (0 : Int) ≤ (G 14 1).toInt ∧ (G 14 1).toInt ≤ 80 := hI 14 1
  have b2 : (0 : Int) ≤ (G 14 4).toInt ∧ (G 14 4).toInt ≤ 16 := hI 14 4
  have J_0 : ∀ (fuel : Nat) (Gj0 : gS), ((Gj0 14 4).toInt).toNat < fuel → (xI Gj0) → (gu_un xcd [1402, 1405, 2900] G Gj0) → ((∃ t, xQ (G 31) (Gj0 14 4).toInt (G 14 6).toInt (G 14 7).toInt t ∧ 0 ≤ t)) → (((Gj0 14 1).toInt + (Gj0 14 4).toInt = (G 14 1).toInt + (G 14 4).toInt)) → (sJ s0 (tkr (G 31) ((Gj0 14 4).toInt).toNat) (tkr (Gj0 29) ((Gj0 14 1).toInt).toNat) = sJ s0 (tkr (G 31) ((G 14 4).toInt).toNat) (tkr (G 29) ((G 14 1).toInt).toNat)) → gG p l e (gR 2 0 0 61) s m args below meth c D A 2 Q 0 0 (xW K a Gj0) (tK K) [(0, .ref (a 14)), (1, .int p0)] 0 [] := by
    intro fuel
    induction fuel with
    | zero => intro Gj0 hm; exact absurd hm (Nat.not_lt_zero _)
    | succ fuel_0 ih_0 =>
      intro Gj0 hm_0 jI0 jU0 jq0 jn jd0
      refine g_aload_n F 0 dX3_joinDownTo_0 rfl rfl ?_
      refine xg_14_4 F i_X3 w_0 dX3_joinDownTo_1 (Gj0 14 4) (rfl) ?_
      have b3 : (0 : Int) ≤ (Gj0 14 4).toInt ∧ (Gj0 14 4).toInt ≤ 16 := jI0 14 4
      refine v_if_le F 54 dX3_joinDownTo_4 (by decide) (Gj0 14 4).toInt rfl (fun c4 => ?_) (fun c4 => ?_)
      · have b5 : (0 : Int) ≤ (Gj0 14 1).toInt ∧ (Gj0 14 1).toInt ≤ 80 := jI0 14 1
        exact u_vret F hA hQ hr Gj0 (⟨jI0, (gu_un.tr gu_un.rf (gu_un.su jU0 rfl)), (by obtain ⟨t9, h1, h2⟩ := jq0; exact ⟨t9, h1, h2, h1.topS h2 (by omega) (fun h3 => by omega)⟩), (jd_end jd0 (fun h9 => by omega)), (by show ((Gj0 14 1).toInt + (Gj0 14 4).toInt = (G 14 1).toInt + (G 14 4).toInt); (first | omega | (simp only [Int32.reduceToInt, true_and, and_true, ne_eq, not_true_eq_false, false_and, or_false, false_or, true_or, or_true, false_implies] <;> omega)))⟩) rfl rfl dX3_joinDownTo_54
      · refine g_aload_n F 0 dX3_joinDownTo_7 rfl rfl ?_
        refine xg_14_3 F i_X3 w_1 dX3_joinDownTo_8 ?_
        refine g_aload_n F 0 dX3_joinDownTo_11 rfl rfl ?_
        refine xg_14_4 F i_X3 w_0 dX3_joinDownTo_12 (Gj0 14 4) (rfl) ?_
        refine g_iconst F 1 dX3_joinDownTo_15 (by decide) ?_
        refine u_isub F dX3_joinDownTo_16 (Gj0 14 4).toInt 1 rfl rfl (by omega) (by omega) (fun y6 ey6 => ?_)
        refine u1_iald F 31 0 xc_31 rfl y6.toInt rfl (by omega) (by omega) dX3_joinDownTo_17 ((G 31) (((Gj0 14 4).toInt - 1)).toNat) (by rw [show y6.toInt = ((Gj0 14 4).toInt - 1) by omega]; exact congrFun ((show Gj0 31 = G 31 from funext fun k_ => jU0 31 k_ (show (3100 : Nat) ∉ ([1402, 1405, 2900] : List Nat) by decide))) _) ?_
        refine u_call0 (k := 0) (n := 0) (As := [.int ((G 31) (((Gj0 14 4).toInt - 1)).toNat)]) (st := []) F (fun sz => S_X3_strengthOf l D ((G 31) (((Gj0 14 4).toInt - 1)).toNat) ((G 31) (((Gj0 14 4).toInt - 1)).toNat).toInt rfl sz) (va_cwS 1 hts gX3_joinDownTo_X3_strengthOf rfl rfl rfl (by decide +kernel) ⟨Nat.le_of_ble_eq_true rfl, Nat.le_of_ble_eq_true rfl⟩) rfl (Nat.le_of_ble_eq_true rfl) ⟨Nat.zero_le _, Nat.zero_le _⟩ dX3_joinDownTo_18 (fun r7 _ hw8 => ?_)
        have q10 : (r7.toInt = xsg ((G 31) (((Gj0 14 4).toInt - 1)).toNat).toInt) := hw8.2
        have rg11 := hw8.1
        clear hw8
        refine g_iload_n F 1 dX3_joinDownTo_21 rfl rfl ?_
        refine v_icmp_lt F 54 dX3_joinDownTo_22 (by decide) r7.toInt s0 rfl e0 (fun c12 => ?_) (fun c12 => ?_)
        · have b13 : (0 : Int) ≤ (Gj0 14 1).toInt ∧ (Gj0 14 1).toInt ≤ 80 := jI0 14 1
          exact u_vret F hA hQ hr Gj0 (⟨jI0, (gu_un.tr gu_un.rf (gu_un.su jU0 rfl)), (by obtain ⟨t9, h1, h2⟩ := jq0; exact ⟨t9, h1, h2, h1.topS h2 (by omega) (fun h3 => by omega)⟩), (jd_end jd0 (fun h9 => by omega)), (by show ((Gj0 14 1).toInt + (Gj0 14 4).toInt = (G 14 1).toInt + (G 14 4).toInt); (first | omega | (simp only [Int32.reduceToInt, true_and, and_true, ne_eq, not_true_eq_false, false_and, or_false, false_or, true_or, or_true, false_implies] <;> omega)))⟩) rfl rfl dX3_joinDownTo_54
        · refine g_aload_n F 0 dX3_joinDownTo_25 rfl rfl ?_
          refine g_dup F dX3_joinDownTo_26 rfl ?_
          refine xg_14_4 F i_X3 w_0 dX3_joinDownTo_27 (Gj0 14 4) (rfl) ?_
          refine g_iconst F 1 dX3_joinDownTo_30 (by decide) ?_
          refine u_isub F dX3_joinDownTo_31 (Gj0 14 4).toInt 1 rfl rfl (by omega) (by omega) (fun y14 ey14 => ?_)
          refine xp_14_4 F i_X3 w_0 dX3_joinDownTo_32 ?_
          refine g_aload_n F 0 dX3_joinDownTo_35 rfl rfl ?_
          refine g_aload_n F 0 dX3_joinDownTo_36 rfl rfl ?_
          refine xg_14_3 F i_X3 w_1 dX3_joinDownTo_37 ?_
          refine g_aload_n F 0 dX3_joinDownTo_40 rfl rfl ?_
          refine xg_14_4 F i_X3 w_0 dX3_joinDownTo_41 y14 (rfl) ?_
          refine u1_iald F 31 0 xc_31 rfl y14.toInt rfl (by omega) (by omega) dX3_joinDownTo_44 ((G 31) (((Gj0 14 4).toInt - 1)).toNat) (by rw [show y14.toInt = ((Gj0 14 4).toInt - 1) by omega]; exact congrFun ((show Gj0 31 = G 31 from funext fun k_ => jU0 31 k_ (show (3100 : Nat) ∉ ([1402, 1405, 2900] : List Nat) by decide))) _) ?_
          refine u_call0 (k := 0) (n := 0) (As := [.int ((G 31) (((Gj0 14 4).toInt - 1)).toNat)]) (st := [.ref (a 14)]) F (fun sz => S_X3_joinCode l D ((G 31) (((Gj0 14 4).toInt - 1)).toNat) ((G 31) (((Gj0 14 4).toInt - 1)).toNat).toInt rfl sz) (va_cwS 1 hts gX3_joinDownTo_X3_joinCode rfl rfl rfl (by decide +kernel) ⟨Nat.le_of_ble_eq_true rfl, Nat.le_of_ble_eq_true rfl⟩) rfl (Nat.le_of_ble_eq_true rfl) ⟨Nat.zero_le _, Nat.zero_le _⟩ dX3_joinDownTo_45 (fun r15 _ hw16 => ?_)
          have q18 : (37 ≤ ((G 31) (((Gj0 14 4).toInt - 1)).toNat).toInt ∧ ((G 31) (((Gj0 14 4).toInt - 1)).toNat).toInt ≤ 47 → r15.toInt = -3 - ((G 31) (((Gj0 14 4).toInt - 1)).toNat).toInt) := hw16
          clear hw16
          refine u_callVv (k := 0) (n := 0) (b := a 14) (As := [.int r15]) (st := []) F (fun sz => S_X3_putCode_14 l D K a (gu_up Gj0 14 4 y14) r15 r15.toInt rfl (gu_I.up (j := 14) (k := 4) (v := y14) jI0 (show (0 : Int) ≤ Int32.toInt y14 by omega) (show Int32.toInt y14 ≤ 16 by omega)) sz) (cwV 1 hts gX3_joinDownTo_X3_putCode rfl rfl rfl (by decide +kernel) ⟨Nat.le_of_ble_eq_true rfl, Nat.le_of_ble_eq_true rfl⟩) rfl 14 xc_14 rfl (Nat.le_of_ble_eq_true rfl) ⟨Nat.zero_le _, Nat.zero_le _⟩ dX3_joinDownTo_48 (fun G21 hw20 => ?_)
          have hI22 : xI G21 := hw20.1
          have hU23 : gu_un xcd [1402, 2900] (gu_up Gj0 14 4 y14) G21 := hw20.2.1
          have hp24 := hw20.2.2
          have b25 : (0 : Int) ≤ (Gj0 14 1).toInt ∧ (Gj0 14 1).toInt ≤ 80 := jI0 14 1
          have b26 : (0 : Int) ≤ (G21 14 1).toInt ∧ (G21 14 1).toInt ≤ 80 := hI22 14 1
          have q27 : ((Gj0 14 1).toInt ≤ 79 → (G21 29 = upd (Gj0 29) ((Gj0 14 1).toInt).toNat r15 ∧ (G21 14 1).toInt = (Gj0 14 1).toInt + 1)) := hp24
          clear hp24 hw20
          refine g_goto F 0 dX3_joinDownTo_51 (by decide) ?_
          exact ih_0 G21 (by have e9_14_4 : G21 14 4 = y14 := hU23 14 4 (by decide); (try simp only [e9_14_4, true_and, and_true]) <;> omega) hI22 (gu_un.tr (gu_un.up (j := 14) (k := 4) (v := y14) (gu_un.tr gu_un.rf (gu_un.su jU0 rfl)) (show (1405 : Nat) ∈ ([1402, 1405, 2900] : List Nat) by decide)) (gu_un.su hU23 rfl)) (by obtain ⟨t9, h1, h2⟩ := jq0; rw [show G21 14 4 = y14 from hU23 14 4 (by decide), show y14.toInt = (Gj0 14 4).toInt - 1 by omega]; exact h1.popS (by omega) (by omega)) (by have e9_14_4 : G21 14 4 = y14 := hU23 14 4 (by decide); (try simp only [e9_14_4, true_and, and_true]) <;> omega) (by have e4 : (G21 14 4).toInt = (Gj0 14 4).toInt - 1 := (by rw [show G21 14 4 = y14 from hU23 14 4 (by decide)]; omega); exact jd_step (w := (Gj0 14 4).toInt) (l := (Gj0 14 1).toInt) jd0 (by omega) e4 (by rw [e4]; omega) (by omega) (q27 (by omega)).1 (q27 (by omega)).2 (by rw [e4]; have h8 := xsg_rng (a := (G 31 ((Gj0 14 4).toInt - 1).toNat).toInt) (by omega); omega))
  exact J_0 _ G (Nat.lt_succ_self _) hI gu_un.rf (jq) (by omega) (rfl)

theorem dX3_closeMinuses_0 : decode cX3_closeMinuses 0 = .ok (.aload_n 0, 1) := by decide +kernel
theorem dX3_closeMinuses_1 : decode cX3_closeMinuses 1 = .ok (.getfield 35, 3) := by decide +kernel
theorem dX3_closeMinuses_4 : decode cX3_closeMinuses 4 = .ok (.ifCond .le 48, 3) := by decide +kernel
theorem dX3_closeMinuses_7 : decode cX3_closeMinuses 7 = .ok (.aload_n 0, 1) := by decide +kernel
theorem dX3_closeMinuses_8 : decode cX3_closeMinuses 8 = .ok (.getfield 18, 3) := by decide +kernel
theorem dX3_closeMinuses_11 : decode cX3_closeMinuses 11 = .ok (.aload_n 0, 1) := by decide +kernel
theorem dX3_closeMinuses_12 : decode cX3_closeMinuses 12 = .ok (.getfield 35, 3) := by decide +kernel
theorem dX3_closeMinuses_15 : decode cX3_closeMinuses 15 = .ok (.iconst 1, 1) := by decide +kernel
theorem dX3_closeMinuses_16 : decode cX3_closeMinuses 16 = .ok (.isub, 1) := by decide +kernel
theorem dX3_closeMinuses_17 : decode cX3_closeMinuses 17 = .ok (.iaload, 1) := by decide +kernel
theorem dX3_closeMinuses_18 : decode cX3_closeMinuses 18 = .ok (.bipush (-3), 2) := by decide +kernel
theorem dX3_closeMinuses_20 : decode cX3_closeMinuses 20 = .ok (.if_icmp .ne 32, 3) := by decide +kernel
theorem dX3_closeMinuses_23 : decode cX3_closeMinuses 23 = .ok (.aload_n 0, 1) := by decide +kernel
theorem dX3_closeMinuses_24 : decode cX3_closeMinuses 24 = .ok (.dup, 1) := by decide +kernel
theorem dX3_closeMinuses_25 : decode cX3_closeMinuses 25 = .ok (.getfield 35, 3) := by decide +kernel
theorem dX3_closeMinuses_28 : decode cX3_closeMinuses 28 = .ok (.iconst 1, 1) := by decide +kernel
theorem dX3_closeMinuses_29 : decode cX3_closeMinuses 29 = .ok (.isub, 1) := by decide +kernel
theorem dX3_closeMinuses_30 : decode cX3_closeMinuses 30 = .ok (.putfield 35, 3) := by decide +kernel
theorem dX3_closeMinuses_33 : decode cX3_closeMinuses 33 = .ok (.aload_n 0, 1) := by decide +kernel
theorem dX3_closeMinuses_34 : decode cX3_closeMinuses 34 = .ok (.dup, 1) := by decide +kernel
theorem dX3_closeMinuses_35 : decode cX3_closeMinuses 35 = .ok (.getfield 41, 3) := by decide +kernel
theorem dX3_closeMinuses_38 : decode cX3_closeMinuses 38 = .ok (.iconst 1, 1) := by decide +kernel
theorem dX3_closeMinuses_39 : decode cX3_closeMinuses 39 = .ok (.isub, 1) := by decide +kernel
theorem dX3_closeMinuses_40 : decode cX3_closeMinuses 40 = .ok (.putfield 41, 3) := by decide +kernel
theorem dX3_closeMinuses_43 : decode cX3_closeMinuses 43 = .ok (.aload_n 0, 1) := by decide +kernel
theorem dX3_closeMinuses_44 : decode cX3_closeMinuses 44 = .ok (.bipush (-3), 2) := by decide +kernel
theorem dX3_closeMinuses_46 : decode cX3_closeMinuses 46 = .ok (.invokevirtual 25, 3) := by decide +kernel
theorem dX3_closeMinuses_49 : decode cX3_closeMinuses 49 = .ok (.goto (-49), 3) := by decide +kernel
theorem dX3_closeMinuses_52 : decode cX3_closeMinuses 52 = .ok (.return_, 1) := by decide +kernel
set_option maxRecDepth 20000 in
theorem ggX3_closeMinuses_X3_putCode : GoodIn wsX3_closeMinuses wsX3_putCode := goodIn_r _ [8, 9, 10, 11, 12, 13, 14, 15, 16, 17, 18, 19] rfl (by decide +kernel)
set_option maxRecDepth 20000 in
theorem gX3_closeMinuses_X3_putCode : GoodIn wsX3_closeMinuses (wsV RX3 25 RX3 yX3_putCode wsX3_putCode) := goodIn_app (goodIn_of _ (by decide +kernel)) ggX3_closeMinuses_X3_putCode
set_option maxHeartbeats 4000000 in
set_option maxRecDepth 100000 in
theorem S_X3_closeMinuses_14 (l : Launch) (D : va_G) (K : Nat → ClassId) (a : Nat → Nat) (G : gS) (cq : (∃ t, xQ (G 31) (G 14 4).toInt (G 14 6).toInt (G 14 7).toInt t)) (cl : ((G 14 1).toInt + (G 14 4).toInt ≤ 79)) (hI : xI G) (sz : Nat) : Kv l yX3_closeMinuses wsX3_closeMinuses 2 61 0 0 D [.ref (a 14)] (xW K a G) (tK K) sz (fun (G' : gS) => (xI G') ∧ (gu_un xcd [1402, 1405, 1407, 2900] G G') ∧ ((∃ t, xQ (G 31) (G' 14 4).toInt (G' 14 6).toInt (G 14 7).toInt t ∧ 0 ≤ t)) ∧ (((G' 14 6).toInt ≤ (G 14 6).toInt)) ∧ ((sM (tkr (G 31) ((G 14 4).toInt).toNat) (G 14 6).toInt (tkr (G 29) ((G 14 1).toInt).toNat) = (tkr (G 31) ((G' 14 4).toInt).toNat, (G' 14 6).toInt, tkr (G' 29) ((G' 14 1).toInt).toNat))) ∧ (((G' 14 1).toInt + (G' 14 4).toInt = (G 14 1).toInt + (G 14 4).toInt))) (fun (G' : gS) => (xW K a G')) (fun _ => (tK K)) := by
  unfold Kv
  refine g_ofW (cc := cX3_closeMinuses) (lv := [(0, .ref (a 14))]) (by decide) rfl (Nat.le_of_ble_eq_true rfl) rfl ?_
  intro p e s m args below meth c A Q hA hQ F hr hnm
  have hts := F.2.2.2.2.1
  have w_0 : (Cond.fieldLink RX3 35 "QuietCut$Formula" "waits" "I").before args s = true := hts _ (List.mem_of_getElem? (i := 1) rfl)
  have i_X3 : ∀ w ∈ u_ws RX3 TX3 9, w ∈ wsX3_closeMinuses := fun _ h => List.mem_cons_of_mem _ (List.mem_append_right _ h)
  have w_1 : (Cond.fieldLink RX3 18 "QuietCut$Formula" "waiting" "[I").before args s = true := hts _ (List.mem_of_getElem? (i := 2) rfl)
  have w_2 : (Cond.fieldLink RX3 41 "QuietCut$Formula" "open" "I").before args s = true := hts _ (List.mem_of_getElem? (i := 3) rfl)
  have b1 : (0 : Int) ≤ (G 14 1).toInt ∧ (G 14 1).toInt ≤ 80 := hI 14 1
  have b2 : (0 : Int) ≤ (G 14 4).toInt ∧ (G 14 4).toInt ≤ 16 := hI 14 4
  have J_0 : ∀ (fuel : Nat) (Gj0 : gS), ((Gj0 14 4).toInt).toNat < fuel → (xI Gj0) → (gu_un xcd [1402, 1405, 1407, 2900] G Gj0) → (sM (tkr (G 31) ((Gj0 14 4).toInt).toNat) (Gj0 14 6).toInt (tkr (Gj0 29) ((Gj0 14 1).toInt).toNat) = sM (tkr (G 31) ((G 14 4).toInt).toNat) (G 14 6).toInt (tkr (G 29) ((G 14 1).toInt).toNat)) → (((Gj0 14 1).toInt + (Gj0 14 4).toInt = (G 14 1).toInt + (G 14 4).toInt)) → ((∃ t, xQ (G 31) (Gj0 14 4).toInt (Gj0 14 6).toInt (G 14 7).toInt t)) → (((Gj0 14 6).toInt ≤ (G 14 6).toInt)) → gG p l e (gR 2 0 0 61) s m args below meth c D A 1 Q 0 0 (xW K a Gj0) (tK K) [(0, .ref (a 14))] 0 [] := by
    intro fuel
    induction fuel with
    | zero => intro Gj0 hm; exact absurd hm (Nat.not_lt_zero _)
    | succ fuel_0 ih_0 =>
      intro Gj0 hm_0 jI0 jU0 cm0 cn cq0 co0
      refine g_aload_n F 0 dX3_closeMinuses_0 rfl rfl ?_
      refine xg_14_4 F i_X3 w_0 dX3_closeMinuses_1 (Gj0 14 4) (rfl) ?_
      have b3 : (0 : Int) ≤ (Gj0 14 4).toInt ∧ (Gj0 14 4).toInt ≤ 16 := jI0 14 4
      refine v_if_le F 52 dX3_closeMinuses_4 (by decide) (Gj0 14 4).toInt rfl (fun c4 => ?_) (fun c4 => ?_)
      · have b5 : (0 : Int) ≤ (Gj0 14 1).toInt ∧ (Gj0 14 1).toInt ≤ 80 := jI0 14 1
        exact u_vret F hA hQ hr Gj0 (⟨jI0, (gu_un.tr gu_un.rf (gu_un.su jU0 rfl)), (by obtain ⟨t9, h1⟩ := cq0; exact ⟨t9, h1, h1.topM (fun h3 => by omega)⟩), (by show ((Gj0 14 6).toInt ≤ (G 14 6).toInt); (first | omega | (simp only [Int32.reduceToInt, true_and, and_true, ne_eq, not_true_eq_false, false_and, or_false, false_or, true_or, or_true, false_implies] <;> omega))), (sM_end cm0 (fun h9 => by omega)), (by show ((Gj0 14 1).toInt + (Gj0 14 4).toInt = (G 14 1).toInt + (G 14 4).toInt); (first | omega | (simp only [Int32.reduceToInt, true_and, and_true, ne_eq, not_true_eq_false, false_and, or_false, false_or, true_or, or_true, false_implies] <;> omega)))⟩) rfl rfl dX3_closeMinuses_52
      · refine g_aload_n F 0 dX3_closeMinuses_7 rfl rfl ?_
        refine xg_14_3 F i_X3 w_1 dX3_closeMinuses_8 ?_
        refine g_aload_n F 0 dX3_closeMinuses_11 rfl rfl ?_
        refine xg_14_4 F i_X3 w_0 dX3_closeMinuses_12 (Gj0 14 4) (rfl) ?_
        refine g_iconst F 1 dX3_closeMinuses_15 (by decide) ?_
        refine u_isub F dX3_closeMinuses_16 (Gj0 14 4).toInt 1 rfl rfl (by omega) (by omega) (fun y6 ey6 => ?_)
        refine u1_iald F 31 0 xc_31 rfl y6.toInt rfl (by omega) (by omega) dX3_closeMinuses_17 ((G 31) (((Gj0 14 4).toInt - 1)).toNat) (by rw [show y6.toInt = ((Gj0 14 4).toInt - 1) by omega]; exact congrFun ((show Gj0 31 = G 31 from funext fun k_ => jU0 31 k_ (show (3100 : Nat) ∉ ([1402, 1405, 1407, 2900] : List Nat) by decide))) _) ?_
        refine g_bipush F (-3) dX3_closeMinuses_18 (by decide) ?_
        refine v_icmp_ne F 52 dX3_closeMinuses_20 (by decide) ((G 31) (((Gj0 14 4).toInt - 1)).toNat).toInt (-3) rfl rfl (fun c7 => ?_) (fun c7 => ?_)
        · have b8 : (0 : Int) ≤ (Gj0 14 1).toInt ∧ (Gj0 14 1).toInt ≤ 80 := jI0 14 1
          exact u_vret F hA hQ hr Gj0 (⟨jI0, (gu_un.tr gu_un.rf (gu_un.su jU0 rfl)), (by obtain ⟨t9, h1⟩ := cq0; exact ⟨t9, h1, h1.topM (fun h3 => by omega)⟩), (by show ((Gj0 14 6).toInt ≤ (G 14 6).toInt); (first | omega | (simp only [Int32.reduceToInt, true_and, and_true, ne_eq, not_true_eq_false, false_and, or_false, false_or, true_or, or_true, false_implies] <;> omega))), (sM_end cm0 (fun h9 => by omega)), (by show ((Gj0 14 1).toInt + (Gj0 14 4).toInt = (G 14 1).toInt + (G 14 4).toInt); (first | omega | (simp only [Int32.reduceToInt, true_and, and_true, ne_eq, not_true_eq_false, false_and, or_false, false_or, true_or, or_true, false_implies] <;> omega)))⟩) rfl rfl dX3_closeMinuses_52
        · have pm : ∃ t, xQ (G 31) ((Gj0 14 4).toInt - 1) ((Gj0 14 6).toInt - 1) (G 14 7).toInt t := by obtain ⟨t9, h1⟩ := cq0; exact h1.popM (by omega) (by omega)
          have pr9 := ti_rng (Gj0 14 6)
          have pl : 1 ≤ (Gj0 14 6).toInt := by obtain ⟨t9, h1⟩ := pm; have h2 := h1.le; omega
          refine g_aload_n F 0 dX3_closeMinuses_23 rfl rfl ?_
          refine g_dup F dX3_closeMinuses_24 rfl ?_
          refine xg_14_4 F i_X3 w_0 dX3_closeMinuses_25 (Gj0 14 4) (rfl) ?_
          refine g_iconst F 1 dX3_closeMinuses_28 (by decide) ?_
          refine u_isub F dX3_closeMinuses_29 (Gj0 14 4).toInt 1 rfl rfl (by omega) (by omega) (fun y9 ey9 => ?_)
          refine xp_14_4 F i_X3 w_0 dX3_closeMinuses_30 ?_
          refine g_aload_n F 0 dX3_closeMinuses_33 rfl rfl ?_
          refine g_dup F dX3_closeMinuses_34 rfl ?_
          refine xg_14_6 F i_X3 w_2 dX3_closeMinuses_35 (Gj0 14 6) (rfl) ?_
          refine g_iconst F 1 dX3_closeMinuses_38 (by decide) ?_
          refine u_isubc F dX3_closeMinuses_39 (Gj0 14 6).toInt 1 rfl rfl (fun y10 ey10 => ?_)
          refine xp_14_6 F i_X3 w_2 dX3_closeMinuses_40 ?_
          refine g_aload_n F 0 dX3_closeMinuses_43 rfl rfl ?_
          refine g_bipush F (-3) dX3_closeMinuses_44 (by decide) ?_
          refine u_callVv (k := 0) (n := 0) (b := a 14) (As := [.int (-3)]) (st := []) F (fun sz => S_X3_putCode_14 l D K a (gu_up (gu_up Gj0 14 4 y9) 14 6 y10) (-3) (-3) rfl (gu_I.up (j := 14) (k := 6) (v := y10) (gu_I.up (j := 14) (k := 4) (v := y9) jI0 (show (0 : Int) ≤ Int32.toInt y9 by omega) (show Int32.toInt y9 ≤ 16 by omega)) (ti_rng _).1 (ti_rng _).2) sz) (cwV 1 hts gX3_closeMinuses_X3_putCode rfl rfl rfl (by decide +kernel) ⟨Nat.le_of_ble_eq_true rfl, Nat.le_of_ble_eq_true rfl⟩) rfl 14 xc_14 rfl (Nat.le_of_ble_eq_true rfl) ⟨Nat.zero_le _, Nat.zero_le _⟩ dX3_closeMinuses_46 (fun G13 hw12 => ?_)
          have hI14 : xI G13 := hw12.1
          have hU15 : gu_un xcd [1402, 2900] (gu_up (gu_up Gj0 14 4 y9) 14 6 y10) G13 := hw12.2.1
          have hp16 := hw12.2.2
          have b17 : (0 : Int) ≤ (Gj0 14 1).toInt ∧ (Gj0 14 1).toInt ≤ 80 := jI0 14 1
          have b18 : (0 : Int) ≤ (G13 14 1).toInt ∧ (G13 14 1).toInt ≤ 80 := hI14 14 1
          have q19 : ((Gj0 14 1).toInt ≤ 79 → (G13 29 = upd (Gj0 29) ((Gj0 14 1).toInt).toNat (-3) ∧ (G13 14 1).toInt = (Gj0 14 1).toInt + 1)) := hp16
          clear hp16 hw12
          refine g_goto F 0 dX3_closeMinuses_49 (by decide) ?_
          exact ih_0 G13 (by have e9_14_4 : G13 14 4 = y9 := hU15 14 4 (by decide); (try simp only [e9_14_4, true_and, and_true]) <;> omega) hI14 (gu_un.tr (gu_un.up (j := 14) (k := 6) (v := y10) (gu_un.up (j := 14) (k := 4) (v := y9) (gu_un.tr gu_un.rf (gu_un.su jU0 rfl)) (show (1405 : Nat) ∈ ([1402, 1405, 1407, 2900] : List Nat) by decide)) (show (1407 : Nat) ∈ ([1402, 1405, 1407, 2900] : List Nat) by decide)) (gu_un.su hU15 rfl)) (by have e4 : (G13 14 4).toInt = (Gj0 14 4).toInt - 1 := (by rw [show G13 14 4 = y9 from hU15 14 4 (by decide)]; omega); have e6 : (G13 14 6).toInt = (Gj0 14 6).toInt - 1 := (by rw [show G13 14 6 = y10 from hU15 14 6 (by decide)]; omega); exact sM_step (w := (Gj0 14 4).toInt) (o := (Gj0 14 6).toInt) (l := (Gj0 14 1).toInt) cm0 (by omega) e4 (by rw [e4]; omega) e6 (by omega) (q19 (by omega)).1 (q19 (by omega)).2 rfl) (by have e9_14_4 : G13 14 4 = y9 := hU15 14 4 (by decide); (try simp only [e9_14_4, true_and, and_true]) <;> omega) (by obtain ⟨t9, h1⟩ := pm; exact ⟨t9, h1.cast rfl (show (G13 14 4).toInt = _ by rw [show G13 14 4 = y9 from hU15 14 4 (by decide)]; omega) (show (G13 14 6).toInt = _ by rw [show G13 14 6 = y10 from hU15 14 6 (by decide)]; omega) rfl⟩) (by have e9_14_6 : G13 14 6 = y10 := hU15 14 6 (by decide); (try simp only [e9_14_6, true_and, and_true]) <;> (first | omega | (simp only [Int32.reduceToInt, true_and, and_true, ne_eq, not_true_eq_false, false_and, or_false, false_or, true_or, or_true, false_implies] <;> omega)))
  exact J_0 _ G (Nat.lt_succ_self _) hI gu_un.rf (rfl) (by omega) (cq) (by (first | omega | (simp only [Int32.reduceToInt, true_and, and_true, ne_eq, not_true_eq_false, false_and, or_false, false_or, true_or, or_true, false_implies] <;> omega)))

theorem dX3_takeOperand_0 : decode cX3_takeOperand 0 = .ok (.aload_n 0, 1) := by decide +kernel
theorem dX3_takeOperand_1 : decode cX3_takeOperand 1 = .ok (.getfield 38, 3) := by decide +kernel
theorem dX3_takeOperand_4 : decode cX3_takeOperand 4 = .ok (.bipush 12, 2) := by decide +kernel
theorem dX3_takeOperand_6 : decode cX3_takeOperand 6 = .ok (.if_icmp .lt 5, 3) := by decide +kernel
theorem dX3_takeOperand_9 : decode cX3_takeOperand 9 = .ok (.iconst 4, 1) := by decide +kernel
theorem dX3_takeOperand_10 : decode cX3_takeOperand 10 = .ok (.ireturn, 1) := by decide +kernel
theorem dX3_takeOperand_11 : decode cX3_takeOperand 11 = .ok (.aload_n 0, 1) := by decide +kernel
theorem dX3_takeOperand_12 : decode cX3_takeOperand 12 = .ok (.dup, 1) := by decide +kernel
theorem dX3_takeOperand_13 : decode cX3_takeOperand 13 = .ok (.getfield 38, 3) := by decide +kernel
theorem dX3_takeOperand_16 : decode cX3_takeOperand 16 = .ok (.iconst 1, 1) := by decide +kernel
theorem dX3_takeOperand_17 : decode cX3_takeOperand 17 = .ok (.iadd, 1) := by decide +kernel
theorem dX3_takeOperand_18 : decode cX3_takeOperand 18 = .ok (.putfield 38, 3) := by decide +kernel
theorem dX3_takeOperand_21 : decode cX3_takeOperand 21 = .ok (.aload_n 0, 1) := by decide +kernel
theorem dX3_takeOperand_22 : decode cX3_takeOperand 22 = .ok (.iload_n 1, 1) := by decide +kernel
theorem dX3_takeOperand_23 : decode cX3_takeOperand 23 = .ok (.invokevirtual 25, 3) := by decide +kernel
theorem dX3_takeOperand_26 : decode cX3_takeOperand 26 = .ok (.aload_n 0, 1) := by decide +kernel
theorem dX3_takeOperand_27 : decode cX3_takeOperand 27 = .ok (.invokevirtual 85, 3) := by decide +kernel
theorem dX3_takeOperand_30 : decode cX3_takeOperand 30 = .ok (.aload_n 0, 1) := by decide +kernel
theorem dX3_takeOperand_31 : decode cX3_takeOperand 31 = .ok (.iconst 0, 1) := by decide +kernel
theorem dX3_takeOperand_32 : decode cX3_takeOperand 32 = .ok (.putfield 47, 3) := by decide +kernel
theorem dX3_takeOperand_35 : decode cX3_takeOperand 35 = .ok (.iconst 0, 1) := by decide +kernel
theorem dX3_takeOperand_36 : decode cX3_takeOperand 36 = .ok (.ireturn, 1) := by decide +kernel
set_option maxRecDepth 20000 in
theorem ggX3_takeOperand_X3_closeMinuses : GoodIn wsX3_takeOperand wsX3_closeMinuses := goodIn_r _ [13, 14, 15, 16, 3, 4, 5, 6, 7, 8, 9, 17, 18, 19, 20, 21, 22, 23, 24, 25] rfl (by decide +kernel)
set_option maxRecDepth 20000 in
theorem gX3_takeOperand_X3_closeMinuses : GoodIn wsX3_takeOperand (wsV RX3 85 RX3 yX3_closeMinuses wsX3_closeMinuses) := goodIn_app (goodIn_of _ (by decide +kernel)) ggX3_takeOperand_X3_closeMinuses
set_option maxRecDepth 20000 in
theorem ggX3_takeOperand_X3_putCode : GoodIn wsX3_takeOperand wsX3_putCode := goodIn_r _ [7, 8, 9, 17, 18, 19, 20, 21, 22, 23, 24, 25] rfl (by decide +kernel)
set_option maxRecDepth 20000 in
theorem gX3_takeOperand_X3_putCode : GoodIn wsX3_takeOperand (wsV RX3 25 RX3 yX3_putCode wsX3_putCode) := goodIn_app (goodIn_of _ (by decide +kernel)) ggX3_takeOperand_X3_putCode
set_option maxHeartbeats 4000000 in
set_option maxRecDepth 100000 in
theorem S_X3_takeOperand_14 (l : Launch) (D : va_G) (K : Nat → ClassId) (a : Nat → Nat) (G : gS) (p0 : Int32) (s0 : Int) (e0 : p0.toInt = s0) (fi : xFi 14 31 G) (wo : ((G 14 8).toInt ≠ 0)) (nl : (((G 14 8).toInt = 0 ∧ (G 14 1).toInt + (G 14 4).toInt ≤ 6 * (G 14 5).toInt) ∨ ((G 14 8).toInt ≠ 0 ∧ (G 14 1).toInt + (G 14 4).toInt ≤ 6 * (G 14 5).toInt + 1 + (G 14 6).toInt))) (hI : xI G) (sz : Nat) : Ki l yX3_takeOperand wsX3_takeOperand 3 81 0 0 D [.ref (a 14), .int p0] (xW K a G) (tK K) sz (fun (r : Int32) (G' : gS) => (xI G') ∧ (gu_un xcd [1402, 1405, 1406, 1407, 1409, 2900] G G') ∧ (0 ≤ r.toInt ∧ r.toInt ≤ 4) ∧ (xFi 14 31 G') ∧ ((sR (sOp s0 (tkr (G 31) ((G 14 4).toInt).toNat) (G 14 6).toInt (G 14 7).toInt (G 14 5).toInt (tkr (G 29) ((G 14 1).toInt).toNat)) r.toInt (xS 14 29 31 G'))) ∧ ((((G' 14 8).toInt = 0 ∧ (G' 14 1).toInt + (G' 14 4).toInt ≤ 6 * (G' 14 5).toInt) ∨ ((G' 14 8).toInt ≠ 0 ∧ (G' 14 1).toInt + (G' 14 4).toInt ≤ 6 * (G' 14 5).toInt + 1 + (G' 14 6).toInt)))) (fun (G' : gS) => (xW K a G')) (fun _ => (tK K)) := by
  unfold Ki
  refine g_ofW (cc := cX3_takeOperand) (lv := [(0, .ref (a 14)), (1, .int p0)]) (by decide) rfl (Nat.le_of_ble_eq_true rfl) rfl ?_
  intro p e s m args below meth c A Q hA hQ F hr hnm
  have hts := F.2.2.2.2.1
  have w_0 : (Cond.fieldLink RX3 38 "QuietCut$Formula" "operands" "I").before args s = true := hts _ (List.mem_of_getElem? (i := 1) rfl)
  have i_X3 : ∀ w ∈ u_ws RX3 TX3 9, w ∈ wsX3_takeOperand := fun _ h => List.mem_cons_of_mem _ (List.mem_append_right _ h)
  have w_1 : (Cond.fieldLink RX3 47 "QuietCut$Formula" "wantsOperand" "Z").before args s = true := hts _ (List.mem_of_getElem? (i := 2) rfl)
  have rg0 : -2147483648 ≤ s0 ∧ s0 ≤ 2147483647 := e0 ▸ ti_rng p0
  have b1 : (0 : Int) ≤ (G 14 1).toInt ∧ (G 14 1).toInt ≤ 80 := hI 14 1
  have b2 : (0 : Int) ≤ (G 14 4).toInt ∧ (G 14 4).toInt ≤ 16 := hI 14 4
  have b3 : (0 : Int) ≤ (G 14 5).toInt ∧ (G 14 5).toInt ≤ 12 := hI 14 5
  have b4 : (0 : Int) ≤ (G 14 8).toInt ∧ (G 14 8).toInt ≤ 1 := hI 14 8
  obtain ⟨⟨t9, f1, f2⟩, f3⟩ := id fi
  have f4 := f1.le
  refine g_aload_n F 0 dX3_takeOperand_0 rfl rfl ?_
  refine xg_14_5 F i_X3 w_0 dX3_takeOperand_1 (G 14 5) (rfl) ?_
  refine g_bipush F 12 dX3_takeOperand_4 (by decide) ?_
  refine v_icmp_lt F 11 dX3_takeOperand_6 (by decide) (G 14 5).toInt 12 rfl rfl (fun c5 => ?_) (fun c5 => ?_)
  · refine g_aload_n F 0 dX3_takeOperand_11 rfl rfl ?_
    refine g_dup F dX3_takeOperand_12 rfl ?_
    refine xg_14_5 F i_X3 w_0 dX3_takeOperand_13 (G 14 5) (rfl) ?_
    refine g_iconst F 1 dX3_takeOperand_16 (by decide) ?_
    refine u_iadd F dX3_takeOperand_17 (G 14 5).toInt 1 rfl rfl (by omega) (by omega) (fun y6 ey6 => ?_)
    refine xp_14_5 F i_X3 w_0 dX3_takeOperand_18 ?_
    refine g_aload_n F 0 dX3_takeOperand_21 rfl rfl ?_
    refine g_iload_n F 1 dX3_takeOperand_22 rfl rfl ?_
    refine u_callVv (k := 0) (n := 0) (b := a 14) (As := [.int p0]) (st := []) F (fun sz => S_X3_putCode_14 l D K a (gu_up G 14 5 y6) p0 s0 e0 (gu_I.up (j := 14) (k := 5) (v := y6) hI (show (0 : Int) ≤ Int32.toInt y6 by omega) (show Int32.toInt y6 ≤ 12 by omega)) sz) (cwV 1 hts gX3_takeOperand_X3_putCode rfl rfl rfl (by decide +kernel) ⟨Nat.le_of_ble_eq_true rfl, Nat.le_of_ble_eq_true rfl⟩) rfl 14 xc_14 rfl (Nat.le_of_ble_eq_true rfl) ⟨Nat.zero_le _, Nat.zero_le _⟩ dX3_takeOperand_23 (fun G9 hw8 => ?_)
    have hI10 : xI G9 := hw8.1
    have hU11 : gu_un xcd [1402, 2900] (gu_up G 14 5 y6) G9 := hw8.2.1
    have hp12 := hw8.2.2
    have b13 : (0 : Int) ≤ (G9 14 1).toInt ∧ (G9 14 1).toInt ≤ 80 := hI10 14 1
    have q14 : ((G 14 1).toInt ≤ 79 → (G9 29 = upd (G 29) ((G 14 1).toInt).toNat p0 ∧ (G9 14 1).toInt = (G 14 1).toInt + 1)) := hp12
    clear hp12 hw8
    refine g_aload_n F 0 dX3_takeOperand_26 rfl rfl ?_
    refine u_callVv (k := 0) (n := 0) (b := a 14) (As := []) (st := []) F (fun sz => S_X3_closeMinuses_14 l D K a G9  (by obtain ⟨⟨t8, h1, -⟩, -⟩ := (show xFi 14 31 G9 from (xFi.un fi (show gu_un xcd [1402, 1406, 2900] G G9 from (gu_un.tr (gu_un.up (j := 14) (k := 5) (v := y6) gu_un.rf (show (1406 : Nat) ∈ ([1402, 1406, 2900] : List Nat) by decide)) (gu_un.su hU11 rfl))) rfl (fun _ => rfl))); exact ⟨t8, h1⟩) (by have e9_14_4 : G9 14 4 = (G 14 4) := hU11 14 4 (by decide); (try simp only [e9_14_4, true_and, and_true]) <;> (first | omega | (simp only [Int32.reduceToInt, true_and, and_true, ne_eq, not_true_eq_false, false_and, or_false, false_or, true_or, or_true, false_implies] <;> omega))) hI10 sz) (cwV 0 hts gX3_takeOperand_X3_closeMinuses rfl rfl rfl (by decide +kernel) ⟨Nat.le_of_ble_eq_true rfl, Nat.le_of_ble_eq_true rfl⟩) rfl 14 xc_14 rfl (Nat.le_of_ble_eq_true rfl) ⟨Nat.zero_le _, Nat.zero_le _⟩ dX3_takeOperand_27 (fun G17 hw16 => ?_)
    have hI18 : xI G17 := hw16.1
    have hU19 : gu_un xcd [1402, 1405, 1407, 2900] G9 G17 := hw16.2.1
    have hp20 := hw16.2.2
    have b21 : (0 : Int) ≤ (G17 14 4).toInt ∧ (G17 14 4).toInt ≤ 16 := hI18 14 4
    have q22 : (∃ t, xQ (G 31) (G17 14 4).toInt (G17 14 6).toInt (G 14 7).toInt t ∧ 0 ≤ t) := by have h9 := hp20.1; (try simp only [(show G9 14 7 = (G 14 7) from hU11 14 7 (by decide)), (show G9 31 = (G 31) from (show G9 31 = (gu_up G 14 5 y6) 31 from funext fun k_ => hU11 31 k_ (show (3100 : Nat) ∉ ([1402, 2900] : List Nat) by decide)))] at h9); first | exact h9 | omega
    have q23 : ((G17 14 6).toInt ≤ (G 14 6).toInt) := by have h9 := hp20.2.1; (try simp only [(show G9 14 6 = (G 14 6) from hU11 14 6 (by decide))] at h9); first | exact h9 | omega
    have b24 : (0 : Int) ≤ (G17 14 1).toInt ∧ (G17 14 1).toInt ≤ 80 := hI18 14 1
    have q25 : (sM (tkr (G 31) ((G 14 4).toInt).toNat) (G 14 6).toInt (tkr (G9 29) ((G9 14 1).toInt).toNat) = (tkr (G 31) ((G17 14 4).toInt).toNat, (G17 14 6).toInt, tkr (G17 29) ((G17 14 1).toInt).toNat)) := by have h9 := hp20.2.2.1; (try simp only [(show G9 14 4 = (G 14 4) from hU11 14 4 (by decide)), (show G9 14 6 = (G 14 6) from hU11 14 6 (by decide)), (show G9 31 = (G 31) from (show G9 31 = (gu_up G 14 5 y6) 31 from funext fun k_ => hU11 31 k_ (show (3100 : Nat) ∉ ([1402, 2900] : List Nat) by decide))), (show G9 31 = (G 31) from (show G9 31 = (gu_up G 14 5 y6) 31 from funext fun k_ => hU11 31 k_ (show (3100 : Nat) ∉ ([1402, 2900] : List Nat) by decide)))] at h9); first | exact h9 | omega
    have q26 : ((G17 14 1).toInt + (G17 14 4).toInt = (G9 14 1).toInt + (G 14 4).toInt) := by have h9 := hp20.2.2.2; (try simp only [(show G9 14 4 = (G 14 4) from hU11 14 4 (by decide))] at h9); first | exact h9 | omega
    clear hp20 hw16
    refine g_aload_n F 0 dX3_takeOperand_30 rfl rfl ?_
    refine g_iconst F 0 dX3_takeOperand_31 (by decide) ?_
    refine xp_14_8 F i_X3 w_1 dX3_takeOperand_32 (by decide) ?_
    refine g_iconst F 0 dX3_takeOperand_35 (by decide) ?_
    exact u_iret F hA hQ hr (gu_up G17 14 8 0) (⟨(gu_I.up (j := 14) (k := 8) (v := 0) hI18 (show (0 : Int) ≤ (0 : Int32).toInt by decide) (show (0 : Int32).toInt ≤ 1 by decide)), (gu_un.up (j := 14) (k := 8) (v := 0) (gu_un.tr (gu_un.tr (gu_un.up (j := 14) (k := 5) (v := y6) gu_un.rf (show (1406 : Nat) ∈ ([1402, 1405, 1406, 1407, 1409, 2900] : List Nat) by decide)) (gu_un.su hU11 rfl)) (gu_un.su hU19 rfl)) (show (1409 : Nat) ∈ ([1402, 1405, 1406, 1407, 1409, 2900] : List Nat) by decide)), (by decide), (xFi.mk (w := 0) (by obtain ⟨t8, h1, h2⟩ := q22; exact ⟨t8, h1, fun _ => h2⟩) (by omega) (show (gu_up G17 14 8 0) 31 = _ from (show G17 31 = G9 31 from funext fun k_ => hU19 31 k_ (show (3100 : Nat) ∉ ([1402, 1405, 1407, 2900] : List Nat) by decide)).trans ((show G9 31 = (gu_up G 14 5 y6) 31 from funext fun k_ => hU11 31 k_ (show (3100 : Nat) ∉ ([1402, 2900] : List Nat) by decide)))) (show ((gu_up G17 14 8 0) 14 4).toInt = _ by rw [show (gu_up G17 14 8 0) 14 4 = (G17 14 4) from rfl]) (show ((gu_up G17 14 8 0) 14 6).toInt = _ by rw [show (gu_up G17 14 8 0) 14 6 = (G17 14 6) from rfl]) (show ((gu_up G17 14 8 0) 14 7).toInt = _ by rw [show (gu_up G17 14 8 0) 14 7 = (G 14 7) from (hU19 14 7 (by decide)).trans (hU11 14 7 (by decide))]) (show ((gu_up G17 14 8 0) 14 8).toInt = _ by rw [show (gu_up G17 14 8 0) 14 8 = 0 from rfl] <;> (first | rfl | omega))), (by rw [xS_of (rc := 29) (show ((gu_up G17 14 8 0) 14 8).toInt = 0 by rw [show (gu_up G17 14 8 0) 14 8 = 0 from rfl]; rfl) (show (gu_up G17 14 8 0) 31 = (G 31) from (show G17 31 = G9 31 from funext fun k_ => hU19 31 k_ (show (3100 : Nat) ∉ ([1402, 1405, 1407, 2900] : List Nat) by decide)).trans ((show G9 31 = (gu_up G 14 5 y6) 31 from funext fun k_ => hU11 31 k_ (show (3100 : Nat) ∉ ([1402, 2900] : List Nat) by decide)))) (show ((gu_up G17 14 8 0) 14 4).toInt = (G17 14 4).toInt from congrArg Int32.toInt (show (gu_up G17 14 8 0) 14 4 = (G17 14 4) from rfl)) (show ((gu_up G17 14 8 0) 14 6).toInt = (G17 14 6).toInt from congrArg Int32.toInt (show (gu_up G17 14 8 0) 14 6 = (G17 14 6) from rfl)) (show ((gu_up G17 14 8 0) 14 7).toInt = (G 14 7).toInt from congrArg Int32.toInt (show (gu_up G17 14 8 0) 14 7 = (G 14 7) from (hU19 14 7 (by decide)).trans (hU11 14 7 (by decide)))) (show ((gu_up G17 14 8 0) 14 5).toInt = y6.toInt from congrArg Int32.toInt (show (gu_up G17 14 8 0) 14 5 = y6 from (hU19 14 5 (by decide)).trans (hU11 14 5 (by decide)))) (show (gu_up G17 14 8 0) 29 = (G17 29) from rfl) (show ((gu_up G17 14 8 0) 14 1).toInt = (G17 14 1).toInt from congrArg Int32.toInt (show (gu_up G17 14 8 0) 14 1 = (G17 14 1) from rfl))]; exact (sOp_ok (by omega) (by omega) (by have h9 := q25; rw [(q14 (by omega)).1, tkr_push (by omega) (q14 (by omega)).2, e0] at h9; exact h9)).cast (by decide)), (by show ((((gu_up G17 14 8 0) 14 8).toInt = 0 ∧ ((gu_up G17 14 8 0) 14 1).toInt + ((gu_up G17 14 8 0) 14 4).toInt ≤ 6 * ((gu_up G17 14 8 0) 14 5).toInt) ∨ (((gu_up G17 14 8 0) 14 8).toInt ≠ 0 ∧ ((gu_up G17 14 8 0) 14 1).toInt + ((gu_up G17 14 8 0) 14 4).toInt ≤ 6 * ((gu_up G17 14 8 0) 14 5).toInt + 1 + ((gu_up G17 14 8 0) 14 6).toInt)); have e9_14_1 : (gu_up G17 14 8 0) 14 1 = (G17 14 1) := rfl; have e9_14_4 : (gu_up G17 14 8 0) 14 4 = (G17 14 4) := rfl; have e9_14_5 : (gu_up G17 14 8 0) 14 5 = y6 := (hU19 14 5 (by decide)).trans (hU11 14 5 (by decide)); have e9_14_6 : (gu_up G17 14 8 0) 14 6 = (G17 14 6) := rfl; have e9_14_8 : (gu_up G17 14 8 0) 14 8 = 0 := rfl; (try simp only [e9_14_1, e9_14_4, e9_14_5, e9_14_6, e9_14_8, true_and, and_true]) <;> (first | omega | (simp only [Int32.reduceToInt, true_and, and_true, ne_eq, not_true_eq_false, false_and, or_false, false_or, true_or, or_true, false_implies] <;> omega)))⟩) rfl rfl dX3_takeOperand_36
  · refine g_iconst F 4 dX3_takeOperand_9 (by decide) ?_
    exact u_iret F hA hQ hr G (⟨hI, gu_un.rf, (by decide), (fi), ((sOp_no (by omega)).cast (by decide)), (by show (((G 14 8).toInt = 0 ∧ (G 14 1).toInt + (G 14 4).toInt ≤ 6 * (G 14 5).toInt) ∨ ((G 14 8).toInt ≠ 0 ∧ (G 14 1).toInt + (G 14 4).toInt ≤ 6 * (G 14 5).toInt + 1 + (G 14 6).toInt)); (first | omega | (simp only [Int32.reduceToInt, true_and, and_true, ne_eq, not_true_eq_false, false_and, or_false, false_or, true_or, or_true, false_implies] <;> omega)))⟩) rfl rfl dX3_takeOperand_10

theorem dX3_takeOpening_0 : decode cX3_takeOpening 0 = .ok (.aload_n 0, 1) := by decide +kernel
theorem dX3_takeOpening_1 : decode cX3_takeOpening 1 = .ok (.getfield 41, 3) := by decide +kernel
theorem dX3_takeOpening_4 : decode cX3_takeOpening 4 = .ok (.iconst 4, 1) := by decide +kernel
theorem dX3_takeOpening_5 : decode cX3_takeOpening 5 = .ok (.if_icmp .lt 5, 3) := by decide +kernel
theorem dX3_takeOpening_8 : decode cX3_takeOpening 8 = .ok (.iconst 4, 1) := by decide +kernel
theorem dX3_takeOpening_9 : decode cX3_takeOpening 9 = .ok (.ireturn, 1) := by decide +kernel
theorem dX3_takeOpening_10 : decode cX3_takeOpening 10 = .ok (.aload_n 0, 1) := by decide +kernel
theorem dX3_takeOpening_11 : decode cX3_takeOpening 11 = .ok (.dup, 1) := by decide +kernel
theorem dX3_takeOpening_12 : decode cX3_takeOpening 12 = .ok (.getfield 41, 3) := by decide +kernel
theorem dX3_takeOpening_15 : decode cX3_takeOpening 15 = .ok (.iconst 1, 1) := by decide +kernel
theorem dX3_takeOpening_16 : decode cX3_takeOpening 16 = .ok (.iadd, 1) := by decide +kernel
theorem dX3_takeOpening_17 : decode cX3_takeOpening 17 = .ok (.putfield 41, 3) := by decide +kernel
theorem dX3_takeOpening_20 : decode cX3_takeOpening 20 = .ok (.iload_n 1, 1) := by decide +kernel
theorem dX3_takeOpening_21 : decode cX3_takeOpening 21 = .ok (.bipush 40, 2) := by decide +kernel
theorem dX3_takeOpening_23 : decode cX3_takeOpening 23 = .ok (.if_icmp .ne 13, 3) := by decide +kernel
theorem dX3_takeOpening_26 : decode cX3_takeOpening 26 = .ok (.aload_n 0, 1) := by decide +kernel
theorem dX3_takeOpening_27 : decode cX3_takeOpening 27 = .ok (.dup, 1) := by decide +kernel
theorem dX3_takeOpening_28 : decode cX3_takeOpening 28 = .ok (.getfield 44, 3) := by decide +kernel
theorem dX3_takeOpening_31 : decode cX3_takeOpening 31 = .ok (.iconst 1, 1) := by decide +kernel
theorem dX3_takeOpening_32 : decode cX3_takeOpening 32 = .ok (.iadd, 1) := by decide +kernel
theorem dX3_takeOpening_33 : decode cX3_takeOpening 33 = .ok (.putfield 44, 3) := by decide +kernel
theorem dX3_takeOpening_36 : decode cX3_takeOpening 36 = .ok (.aload_n 0, 1) := by decide +kernel
theorem dX3_takeOpening_37 : decode cX3_takeOpening 37 = .ok (.iload_n 1, 1) := by decide +kernel
theorem dX3_takeOpening_38 : decode cX3_takeOpening 38 = .ok (.invokevirtual 82, 3) := by decide +kernel
theorem dX3_takeOpening_41 : decode cX3_takeOpening 41 = .ok (.iconst 0, 1) := by decide +kernel
theorem dX3_takeOpening_42 : decode cX3_takeOpening 42 = .ok (.ireturn, 1) := by decide +kernel
set_option maxRecDepth 20000 in
theorem ggX3_takeOpening_X3_putWaiting : GoodIn wsX3_takeOpening wsX3_putWaiting := goodIn_r _ [7, 8, 9, 10, 11, 12, 13, 14, 15, 16, 17, 18] rfl (by decide +kernel)
set_option maxRecDepth 20000 in
theorem gX3_takeOpening_X3_putWaiting : GoodIn wsX3_takeOpening (wsV RX3 82 RX3 yX3_putWaiting wsX3_putWaiting) := goodIn_app (goodIn_of _ (by decide +kernel)) ggX3_takeOpening_X3_putWaiting
set_option maxHeartbeats 4000000 in
set_option maxRecDepth 100000 in
theorem S_X3_takeOpening_14_v40 (l : Launch) (D : va_G) (K : Nat → ClassId) (a : Nat → Nat) (G : gS) (fi : xFi 14 31 G) (wo : ((G 14 8).toInt ≠ 0)) (nl : (((G 14 8).toInt = 0 ∧ (G 14 1).toInt + (G 14 4).toInt ≤ 6 * (G 14 5).toInt) ∨ ((G 14 8).toInt ≠ 0 ∧ (G 14 1).toInt + (G 14 4).toInt ≤ 6 * (G 14 5).toInt + 1 + (G 14 6).toInt))) (hI : xI G) (sz : Nat) : Ki l yX3_takeOpening wsX3_takeOpening 2 61 0 0 D [.ref (a 14), .int 40] (xW K a G) (tK K) sz (fun (r : Int32) (G' : gS) => (xI G') ∧ (gu_un xcd [1405, 1407, 1408, 3100] G G') ∧ (0 ≤ r.toInt ∧ r.toInt ≤ 4) ∧ (xFi 14 31 G') ∧ ((∀ ls : Int, sR (sT ls 3 40 (G 14 8).toInt (tkr (G 31) ((G 14 4).toInt).toNat) (G 14 6).toInt (G 14 7).toInt (G 14 5).toInt (tkr (G 29) ((G 14 1).toInt).toNat)) r.toInt (xS 14 29 31 G'))) ∧ ((((G' 14 8).toInt = 0 ∧ (G' 14 1).toInt + (G' 14 4).toInt ≤ 6 * (G' 14 5).toInt) ∨ ((G' 14 8).toInt ≠ 0 ∧ (G' 14 1).toInt + (G' 14 4).toInt ≤ 6 * (G' 14 5).toInt + 1 + (G' 14 6).toInt)))) (fun (G' : gS) => (xW K a G')) (fun _ => (tK K)) := by
  unfold Ki
  refine g_ofW (cc := cX3_takeOpening) (lv := [(0, .ref (a 14)), (1, .int 40)]) (by decide) rfl (Nat.le_of_ble_eq_true rfl) rfl ?_
  intro p e s m args below meth c A Q hA hQ F hr hnm
  have hts := F.2.2.2.2.1
  have w_0 : (Cond.fieldLink RX3 41 "QuietCut$Formula" "open" "I").before args s = true := hts _ (List.mem_of_getElem? (i := 1) rfl)
  have i_X3 : ∀ w ∈ u_ws RX3 TX3 9, w ∈ wsX3_takeOpening := fun _ h => List.mem_cons_of_mem _ (List.mem_append_right _ h)
  have w_1 : (Cond.fieldLink RX3 44 "QuietCut$Formula" "parentheses" "I").before args s = true := hts _ (List.mem_of_getElem? (i := 2) rfl)
  have b1 : (0 : Int) ≤ (G 14 1).toInt ∧ (G 14 1).toInt ≤ 80 := hI 14 1
  have b2 : (0 : Int) ≤ (G 14 4).toInt ∧ (G 14 4).toInt ≤ 16 := hI 14 4
  have b3 : (0 : Int) ≤ (G 14 5).toInt ∧ (G 14 5).toInt ≤ 12 := hI 14 5
  have b4 : (0 : Int) ≤ (G 14 8).toInt ∧ (G 14 8).toInt ≤ 1 := hI 14 8
  obtain ⟨⟨t9, f1, f2⟩, f3⟩ := id fi
  have f4 := f1.le
  refine g_aload_n F 0 dX3_takeOpening_0 rfl rfl ?_
  refine xg_14_6 F i_X3 w_0 dX3_takeOpening_1 (G 14 6) (rfl) ?_
  refine g_iconst F 4 dX3_takeOpening_4 (by decide) ?_
  refine v_icmp_lt F 10 dX3_takeOpening_5 (by decide) (G 14 6).toInt 4 rfl rfl (fun c5 => ?_) (fun c5 => ?_)
  · refine g_aload_n F 0 dX3_takeOpening_10 rfl rfl ?_
    refine g_dup F dX3_takeOpening_11 rfl ?_
    refine xg_14_6 F i_X3 w_0 dX3_takeOpening_12 (G 14 6) (rfl) ?_
    refine g_iconst F 1 dX3_takeOpening_15 (by decide) ?_
    have b7 := ti_rng (G 14 6)
    refine u_iadd F dX3_takeOpening_16 (G 14 6).toInt 1 rfl rfl (by omega) (by omega) (fun y6 ey6 => ?_)
    refine xp_14_6 F i_X3 w_0 dX3_takeOpening_17 ?_
    refine g_iload_n F 1 dX3_takeOpening_20 rfl rfl ?_
    refine g_bipush F 40 dX3_takeOpening_21 (by decide) ?_
    refine v_icmp_ne F 36 dX3_takeOpening_23 (by decide) 40 40 rfl rfl (fun c8 => absurd c8 (by decide)) (fun c8 => ?_)
    refine g_aload_n F 0 dX3_takeOpening_26 rfl rfl ?_
    refine g_dup F dX3_takeOpening_27 rfl ?_
    refine xg_14_7 F i_X3 w_1 dX3_takeOpening_28 (G 14 7) (rfl) ?_
    refine g_iconst F 1 dX3_takeOpening_31 (by decide) ?_
    refine u_iaddc F dX3_takeOpening_32 (G 14 7).toInt 1 rfl rfl (fun y9 ey9 => ?_)
    refine xp_14_7 F i_X3 w_1 dX3_takeOpening_33 ?_
    refine g_aload_n F 0 dX3_takeOpening_36 rfl rfl ?_
    refine g_iload_n F 1 dX3_takeOpening_37 rfl rfl ?_
    refine u_callVv (k := 0) (n := 0) (b := a 14) (As := [.int 40]) (st := []) F (fun sz => S_X3_putWaiting_14 l D K a (gu_up (gu_up G 14 6 y6) 14 7 y9) 40 40 rfl (gu_I.up (j := 14) (k := 7) (v := y9) (gu_I.up (j := 14) (k := 6) (v := y6) hI (ti_rng _).1 (ti_rng _).2) (ti_rng _).1 (ti_rng _).2) sz) (cwV 1 hts gX3_takeOpening_X3_putWaiting rfl rfl rfl (by decide +kernel) ⟨Nat.le_of_ble_eq_true rfl, Nat.le_of_ble_eq_true rfl⟩) rfl 14 xc_14 rfl (Nat.le_of_ble_eq_true rfl) ⟨Nat.zero_le _, Nat.zero_le _⟩ dX3_takeOpening_38 (fun G12 hw11 => ?_)
    have hI13 : xI G12 := hw11.1
    have hU14 : gu_un xcd [1405, 3100] (gu_up (gu_up G 14 6 y6) 14 7 y9) G12 := hw11.2.1
    have hp15 := hw11.2.2
    have b16 : (0 : Int) ≤ (G12 14 4).toInt ∧ (G12 14 4).toInt ≤ 16 := hI13 14 4
    have q17 : ((G 14 4).toInt ≤ 15 → (G12 31 = upd (G 31) ((G 14 4).toInt).toNat 40 ∧ (G12 14 4).toInt = (G 14 4).toInt + 1)) := hp15
    clear hp15 hw11
    refine g_iconst F 0 dX3_takeOpening_41 (by decide) ?_
    exact u_iret F hA hQ hr G12 (⟨hI13, (gu_un.tr (gu_un.up (j := 14) (k := 7) (v := y9) (gu_un.up (j := 14) (k := 6) (v := y6) gu_un.rf (show (1407 : Nat) ∈ ([1405, 1407, 1408, 3100] : List Nat) by decide)) (show (1408 : Nat) ∈ ([1405, 1407, 1408, 3100] : List Nat) by decide)) (gu_un.su hU14 rfl)), (by decide), (xFi.mk (w := (G 14 8).toInt) (by exact ⟨0, f1.push.1 rfl, fun _ => by omega⟩) (by omega) (show G12 31 = _ from (q17 (by omega)).1) (show (G12 14 4).toInt = _ by rw [show G12 14 4 = (G12 14 4) from rfl] <;> (exact (q17 (by omega)).2)) (show (G12 14 6).toInt = _ by rw [show G12 14 6 = y6 from hU14 14 6 (by decide)] <;> (omega)) (show (G12 14 7).toInt = _ by rw [show G12 14 7 = y9 from hU14 14 7 (by decide)] <;> (first | rfl | omega)) (show (G12 14 8).toInt = _ by rw [show G12 14 8 = (G 14 8) from hU14 14 8 (by decide)])), (fun ls => by rw [xS_of (rc := 29) (show (G12 14 8).toInt = 1 by rw [show G12 14 8 = (G 14 8) from hU14 14 8 (by decide)]; omega) (show G12 31 = (G12 31) from rfl) (show (G12 14 4).toInt = (G12 14 4).toInt from congrArg Int32.toInt (show G12 14 4 = (G12 14 4) from rfl)) (show (G12 14 6).toInt = y6.toInt from congrArg Int32.toInt (show G12 14 6 = y6 from hU14 14 6 (by decide))) (show (G12 14 7).toInt = y9.toInt from congrArg Int32.toInt (show G12 14 7 = y9 from hU14 14 7 (by decide))) (show (G12 14 5).toInt = (G 14 5).toInt from congrArg Int32.toInt (show G12 14 5 = (G 14 5) from hU14 14 5 (by decide))) (show G12 29 = (G 29) from (show G12 29 = (gu_up (gu_up G 14 6 y6) 14 7 y9) 29 from funext fun k_ => hU14 29 k_ (show (2900 : Nat) ∉ ([1405, 3100] : List Nat) by decide))) (show (G12 14 1).toInt = (G 14 1).toInt from congrArg Int32.toInt (show G12 14 1 = (G 14 1) from hU14 14 1 (by decide)))]; exact (sT_op1 (by omega) (by omega) (by omega) (by omega) (by rw [(q17 (by omega)).1, tkr_push (by omega) (q17 (by omega)).2] <;> rfl)).cast (by decide)), (by show (((G12 14 8).toInt = 0 ∧ (G12 14 1).toInt + (G12 14 4).toInt ≤ 6 * (G12 14 5).toInt) ∨ ((G12 14 8).toInt ≠ 0 ∧ (G12 14 1).toInt + (G12 14 4).toInt ≤ 6 * (G12 14 5).toInt + 1 + (G12 14 6).toInt)); have e9_14_1 : G12 14 1 = (G 14 1) := hU14 14 1 (by decide); have e9_14_5 : G12 14 5 = (G 14 5) := hU14 14 5 (by decide); have e9_14_6 : G12 14 6 = y6 := hU14 14 6 (by decide); have e9_14_8 : G12 14 8 = (G 14 8) := hU14 14 8 (by decide); (try simp only [e9_14_1, e9_14_5, e9_14_6, e9_14_8, true_and, and_true]) <;> (first | omega | (simp only [Int32.reduceToInt, true_and, and_true, ne_eq, not_true_eq_false, false_and, or_false, false_or, true_or, or_true, false_implies] <;> omega)))⟩) rfl rfl dX3_takeOpening_42
  · refine g_iconst F 4 dX3_takeOpening_8 (by decide) ?_
    exact u_iret F hA hQ hr G (⟨hI, gu_un.rf, (by decide), (fi), (fun ls => (sT_op4 (by omega) (by decide) (by omega)).cast (by decide)), (by show (((G 14 8).toInt = 0 ∧ (G 14 1).toInt + (G 14 4).toInt ≤ 6 * (G 14 5).toInt) ∨ ((G 14 8).toInt ≠ 0 ∧ (G 14 1).toInt + (G 14 4).toInt ≤ 6 * (G 14 5).toInt + 1 + (G 14 6).toInt)); (first | omega | (simp only [Int32.reduceToInt, true_and, and_true, ne_eq, not_true_eq_false, false_and, or_false, false_or, true_or, or_true, false_implies] <;> omega)))⟩) rfl rfl dX3_takeOpening_9


set_option maxHeartbeats 4000000 in
set_option maxRecDepth 100000 in
theorem S_X3_takeOpening_14_m3 (l : Launch) (D : va_G) (K : Nat → ClassId) (a : Nat → Nat) (G : gS) (fi : xFi 14 31 G) (wo : ((G 14 8).toInt ≠ 0)) (nl : (((G 14 8).toInt = 0 ∧ (G 14 1).toInt + (G 14 4).toInt ≤ 6 * (G 14 5).toInt) ∨ ((G 14 8).toInt ≠ 0 ∧ (G 14 1).toInt + (G 14 4).toInt ≤ 6 * (G 14 5).toInt + 1 + (G 14 6).toInt))) (hI : xI G) (sz : Nat) : Ki l yX3_takeOpening wsX3_takeOpening 2 61 0 0 D [.ref (a 14), .int (-3)] (xW K a G) (tK K) sz (fun (r : Int32) (G' : gS) => (xI G') ∧ (gu_un xcd [1405, 1407, 3100] G G') ∧ (0 ≤ r.toInt ∧ r.toInt ≤ 4) ∧ (xFi 14 31 G') ∧ ((∀ ls : Int, sR (sT ls 3 45 (G 14 8).toInt (tkr (G 31) ((G 14 4).toInt).toNat) (G 14 6).toInt (G 14 7).toInt (G 14 5).toInt (tkr (G 29) ((G 14 1).toInt).toNat)) r.toInt (xS 14 29 31 G'))) ∧ ((((G' 14 8).toInt = 0 ∧ (G' 14 1).toInt + (G' 14 4).toInt ≤ 6 * (G' 14 5).toInt) ∨ ((G' 14 8).toInt ≠ 0 ∧ (G' 14 1).toInt + (G' 14 4).toInt ≤ 6 * (G' 14 5).toInt + 1 + (G' 14 6).toInt)))) (fun (G' : gS) => (xW K a G')) (fun _ => (tK K)) := by
  unfold Ki
  refine g_ofW (cc := cX3_takeOpening) (lv := [(0, .ref (a 14)), (1, .int (-3))]) (by decide) rfl (Nat.le_of_ble_eq_true rfl) rfl ?_
  intro p e s m args below meth c A Q hA hQ F hr hnm
  have hts := F.2.2.2.2.1
  have w_0 : (Cond.fieldLink RX3 41 "QuietCut$Formula" "open" "I").before args s = true := hts _ (List.mem_of_getElem? (i := 1) rfl)
  have i_X3 : ∀ w ∈ u_ws RX3 TX3 9, w ∈ wsX3_takeOpening := fun _ h => List.mem_cons_of_mem _ (List.mem_append_right _ h)
  have b1 : (0 : Int) ≤ (G 14 1).toInt ∧ (G 14 1).toInt ≤ 80 := hI 14 1
  have b2 : (0 : Int) ≤ (G 14 4).toInt ∧ (G 14 4).toInt ≤ 16 := hI 14 4
  have b3 : (0 : Int) ≤ (G 14 5).toInt ∧ (G 14 5).toInt ≤ 12 := hI 14 5
  have b4 : (0 : Int) ≤ (G 14 8).toInt ∧ (G 14 8).toInt ≤ 1 := hI 14 8
  obtain ⟨⟨t9, f1, f2⟩, f3⟩ := id fi
  have f4 := f1.le
  refine g_aload_n F 0 dX3_takeOpening_0 rfl rfl ?_
  refine xg_14_6 F i_X3 w_0 dX3_takeOpening_1 (G 14 6) (rfl) ?_
  refine g_iconst F 4 dX3_takeOpening_4 (by decide) ?_
  refine v_icmp_lt F 10 dX3_takeOpening_5 (by decide) (G 14 6).toInt 4 rfl rfl (fun c5 => ?_) (fun c5 => ?_)
  · refine g_aload_n F 0 dX3_takeOpening_10 rfl rfl ?_
    refine g_dup F dX3_takeOpening_11 rfl ?_
    refine xg_14_6 F i_X3 w_0 dX3_takeOpening_12 (G 14 6) (rfl) ?_
    refine g_iconst F 1 dX3_takeOpening_15 (by decide) ?_
    have b7 := ti_rng (G 14 6)
    refine u_iadd F dX3_takeOpening_16 (G 14 6).toInt 1 rfl rfl (by omega) (by omega) (fun y6 ey6 => ?_)
    refine xp_14_6 F i_X3 w_0 dX3_takeOpening_17 ?_
    refine g_iload_n F 1 dX3_takeOpening_20 rfl rfl ?_
    refine g_bipush F 40 dX3_takeOpening_21 (by decide) ?_
    refine v_icmp_ne F 36 dX3_takeOpening_23 (by decide) (-3) 40 rfl rfl (fun c8 => ?_) (fun c8 => absurd c8 (by decide))
    refine g_aload_n F 0 dX3_takeOpening_36 rfl rfl ?_
    refine g_iload_n F 1 dX3_takeOpening_37 rfl rfl ?_
    refine u_callVv (k := 0) (n := 0) (b := a 14) (As := [.int (-3)]) (st := []) F (fun sz => S_X3_putWaiting_14 l D K a (gu_up G 14 6 y6) (-3) (-3) rfl (gu_I.up (j := 14) (k := 6) (v := y6) hI (ti_rng _).1 (ti_rng _).2) sz) (cwV 1 hts gX3_takeOpening_X3_putWaiting rfl rfl rfl (by decide +kernel) ⟨Nat.le_of_ble_eq_true rfl, Nat.le_of_ble_eq_true rfl⟩) rfl 14 xc_14 rfl (Nat.le_of_ble_eq_true rfl) ⟨Nat.zero_le _, Nat.zero_le _⟩ dX3_takeOpening_38 (fun G11 hw10 => ?_)
    have hI12 : xI G11 := hw10.1
    have hU13 : gu_un xcd [1405, 3100] (gu_up G 14 6 y6) G11 := hw10.2.1
    have hp14 := hw10.2.2
    have b15 : (0 : Int) ≤ (G11 14 4).toInt ∧ (G11 14 4).toInt ≤ 16 := hI12 14 4
    have q16 : ((G 14 4).toInt ≤ 15 → (G11 31 = upd (G 31) ((G 14 4).toInt).toNat (-3) ∧ (G11 14 4).toInt = (G 14 4).toInt + 1)) := hp14
    clear hp14 hw10
    refine g_iconst F 0 dX3_takeOpening_41 (by decide) ?_
    exact u_iret F hA hQ hr G11 (⟨hI12, (gu_un.tr (gu_un.up (j := 14) (k := 6) (v := y6) gu_un.rf (show (1407 : Nat) ∈ ([1405, 1407, 3100] : List Nat) by decide)) (gu_un.su hU13 rfl)), (by decide), (xFi.mk (w := (G 14 8).toInt) (by exact ⟨-1, f1.push.2.1 rfl, fun h => absurd h wo⟩) (by omega) (show G11 31 = _ from (q16 (by omega)).1) (show (G11 14 4).toInt = _ by rw [show G11 14 4 = (G11 14 4) from rfl] <;> (exact (q16 (by omega)).2)) (show (G11 14 6).toInt = _ by rw [show G11 14 6 = y6 from hU13 14 6 (by decide)] <;> (omega)) (show (G11 14 7).toInt = _ by rw [show G11 14 7 = (G 14 7) from hU13 14 7 (by decide)] <;> (first | rfl | omega)) (show (G11 14 8).toInt = _ by rw [show G11 14 8 = (G 14 8) from hU13 14 8 (by decide)])), (fun ls => by rw [xS_of (rc := 29) (show (G11 14 8).toInt = 1 by rw [show G11 14 8 = (G 14 8) from hU13 14 8 (by decide)]; omega) (show G11 31 = (G11 31) from rfl) (show (G11 14 4).toInt = (G11 14 4).toInt from congrArg Int32.toInt (show G11 14 4 = (G11 14 4) from rfl)) (show (G11 14 6).toInt = y6.toInt from congrArg Int32.toInt (show G11 14 6 = y6 from hU13 14 6 (by decide))) (show (G11 14 7).toInt = (G 14 7).toInt from congrArg Int32.toInt (show G11 14 7 = (G 14 7) from hU13 14 7 (by decide))) (show (G11 14 5).toInt = (G 14 5).toInt from congrArg Int32.toInt (show G11 14 5 = (G 14 5) from hU13 14 5 (by decide))) (show G11 29 = (G 29) from (show G11 29 = (gu_up G 14 6 y6) 29 from funext fun k_ => hU13 29 k_ (show (2900 : Nat) ∉ ([1405, 3100] : List Nat) by decide))) (show (G11 14 1).toInt = (G 14 1).toInt from congrArg Int32.toInt (show G11 14 1 = (G 14 1) from hU13 14 1 (by decide)))]; exact (sT_op2 (by omega) (by omega) (by omega) (by rw [(q16 (by omega)).1, tkr_push (by omega) (q16 (by omega)).2] <;> rfl)).cast (by decide)), (by show (((G11 14 8).toInt = 0 ∧ (G11 14 1).toInt + (G11 14 4).toInt ≤ 6 * (G11 14 5).toInt) ∨ ((G11 14 8).toInt ≠ 0 ∧ (G11 14 1).toInt + (G11 14 4).toInt ≤ 6 * (G11 14 5).toInt + 1 + (G11 14 6).toInt)); have e9_14_1 : G11 14 1 = (G 14 1) := hU13 14 1 (by decide); have e9_14_5 : G11 14 5 = (G 14 5) := hU13 14 5 (by decide); have e9_14_6 : G11 14 6 = y6 := hU13 14 6 (by decide); have e9_14_8 : G11 14 8 = (G 14 8) := hU13 14 8 (by decide); (try simp only [e9_14_1, e9_14_5, e9_14_6, e9_14_8, true_and, and_true]) <;> (first | omega | (simp only [Int32.reduceToInt, true_and, and_true, ne_eq, not_true_eq_false, false_and, or_false, false_or, true_or, or_true, false_implies] <;> omega)))⟩) rfl rfl dX3_takeOpening_42
  · refine g_iconst F 4 dX3_takeOpening_8 (by decide) ?_
    exact u_iret F hA hQ hr G (⟨hI, gu_un.rf, (by decide), (fi), (fun ls => (sT_op4 (by omega) (by decide) (by omega)).cast (by decide)), (by show (((G 14 8).toInt = 0 ∧ (G 14 1).toInt + (G 14 4).toInt ≤ 6 * (G 14 5).toInt) ∨ ((G 14 8).toInt ≠ 0 ∧ (G 14 1).toInt + (G 14 4).toInt ≤ 6 * (G 14 5).toInt + 1 + (G 14 6).toInt)); (first | omega | (simp only [Int32.reduceToInt, true_and, and_true, ne_eq, not_true_eq_false, false_and, or_false, false_or, true_or, or_true, false_implies] <;> omega)))⟩) rfl rfl dX3_takeOpening_9

theorem dX3_takeBehindOperand_0 : decode cX3_takeBehindOperand 0 = .ok (.aload_n 1, 1) := by decide +kernel
theorem dX3_takeBehindOperand_1 : decode cX3_takeBehindOperand 1 = .ok (.bipush 41, 2) := by decide +kernel
theorem dX3_takeBehindOperand_3 : decode cX3_takeBehindOperand 3 = .ok (.invokevirtual 58, 3) := by decide +kernel
theorem dX3_takeBehindOperand_6 : decode cX3_takeBehindOperand 6 = .ok (.ifCond .eq 51, 3) := by decide +kernel
theorem dX3_takeBehindOperand_9 : decode cX3_takeBehindOperand 9 = .ok (.aload_n 0, 1) := by decide +kernel
theorem dX3_takeBehindOperand_10 : decode cX3_takeBehindOperand 10 = .ok (.getfield 44, 3) := by decide +kernel
theorem dX3_takeBehindOperand_13 : decode cX3_takeBehindOperand 13 = .ok (.ifCond .le 44, 3) := by decide +kernel
theorem dX3_takeBehindOperand_16 : decode cX3_takeBehindOperand 16 = .ok (.aload_n 0, 1) := by decide +kernel
theorem dX3_takeBehindOperand_17 : decode cX3_takeBehindOperand 17 = .ok (.iconst 1, 1) := by decide +kernel
theorem dX3_takeBehindOperand_18 : decode cX3_takeBehindOperand 18 = .ok (.invokevirtual 51, 3) := by decide +kernel
theorem dX3_takeBehindOperand_21 : decode cX3_takeBehindOperand 21 = .ok (.aload_n 0, 1) := by decide +kernel
theorem dX3_takeBehindOperand_22 : decode cX3_takeBehindOperand 22 = .ok (.dup, 1) := by decide +kernel
theorem dX3_takeBehindOperand_23 : decode cX3_takeBehindOperand 23 = .ok (.getfield 35, 3) := by decide +kernel
theorem dX3_takeBehindOperand_26 : decode cX3_takeBehindOperand 26 = .ok (.iconst 1, 1) := by decide +kernel
theorem dX3_takeBehindOperand_27 : decode cX3_takeBehindOperand 27 = .ok (.isub, 1) := by decide +kernel
theorem dX3_takeBehindOperand_28 : decode cX3_takeBehindOperand 28 = .ok (.putfield 35, 3) := by decide +kernel
theorem dX3_takeBehindOperand_31 : decode cX3_takeBehindOperand 31 = .ok (.aload_n 0, 1) := by decide +kernel
theorem dX3_takeBehindOperand_32 : decode cX3_takeBehindOperand 32 = .ok (.dup, 1) := by decide +kernel
theorem dX3_takeBehindOperand_33 : decode cX3_takeBehindOperand 33 = .ok (.getfield 44, 3) := by decide +kernel
theorem dX3_takeBehindOperand_36 : decode cX3_takeBehindOperand 36 = .ok (.iconst 1, 1) := by decide +kernel
theorem dX3_takeBehindOperand_37 : decode cX3_takeBehindOperand 37 = .ok (.isub, 1) := by decide +kernel
theorem dX3_takeBehindOperand_38 : decode cX3_takeBehindOperand 38 = .ok (.putfield 44, 3) := by decide +kernel
theorem dX3_takeBehindOperand_41 : decode cX3_takeBehindOperand 41 = .ok (.aload_n 0, 1) := by decide +kernel
theorem dX3_takeBehindOperand_42 : decode cX3_takeBehindOperand 42 = .ok (.dup, 1) := by decide +kernel
theorem dX3_takeBehindOperand_43 : decode cX3_takeBehindOperand 43 = .ok (.getfield 41, 3) := by decide +kernel
theorem dX3_takeBehindOperand_46 : decode cX3_takeBehindOperand 46 = .ok (.iconst 1, 1) := by decide +kernel
theorem dX3_takeBehindOperand_47 : decode cX3_takeBehindOperand 47 = .ok (.isub, 1) := by decide +kernel
theorem dX3_takeBehindOperand_48 : decode cX3_takeBehindOperand 48 = .ok (.putfield 41, 3) := by decide +kernel
theorem dX3_takeBehindOperand_51 : decode cX3_takeBehindOperand 51 = .ok (.aload_n 0, 1) := by decide +kernel
theorem dX3_takeBehindOperand_52 : decode cX3_takeBehindOperand 52 = .ok (.invokevirtual 85, 3) := by decide +kernel
theorem dX3_takeBehindOperand_55 : decode cX3_takeBehindOperand 55 = .ok (.iconst 0, 1) := by decide +kernel
theorem dX3_takeBehindOperand_56 : decode cX3_takeBehindOperand 56 = .ok (.ireturn, 1) := by decide +kernel
theorem dX3_takeBehindOperand_57 : decode cX3_takeBehindOperand 57 = .ok (.aload_n 1, 1) := by decide +kernel
theorem dX3_takeBehindOperand_58 : decode cX3_takeBehindOperand 58 = .ok (.getfield 68, 3) := by decide +kernel
theorem dX3_takeBehindOperand_61 : decode cX3_takeBehindOperand 61 = .ok (.iconst 3, 1) := by decide +kernel
theorem dX3_takeBehindOperand_62 : decode cX3_takeBehindOperand 62 = .ok (.if_icmp .ne 13, 3) := by decide +kernel
theorem dX3_takeBehindOperand_65 : decode cX3_takeBehindOperand 65 = .ok (.aload_n 1, 1) := by decide +kernel
theorem dX3_takeBehindOperand_66 : decode cX3_takeBehindOperand 66 = .ok (.getfield 71, 3) := by decide +kernel
theorem dX3_takeBehindOperand_69 : decode cX3_takeBehindOperand 69 = .ok (.invokestatic 88, 3) := by decide +kernel
theorem dX3_takeBehindOperand_72 : decode cX3_takeBehindOperand 72 = .ok (.goto 4, 3) := by decide +kernel
theorem dX3_takeBehindOperand_75 : decode cX3_takeBehindOperand 75 = .ok (.iconst 0, 1) := by decide +kernel
theorem dX3_takeBehindOperand_76 : decode cX3_takeBehindOperand 76 = .ok (.istore_n 2, 1) := by decide +kernel
theorem dX3_takeBehindOperand_77 : decode cX3_takeBehindOperand 77 = .ok (.iload_n 2, 1) := by decide +kernel
theorem dX3_takeBehindOperand_78 : decode cX3_takeBehindOperand 78 = .ok (.ifCond .ne 5, 3) := by decide +kernel
theorem dX3_takeBehindOperand_81 : decode cX3_takeBehindOperand 81 = .ok (.iconst 1, 1) := by decide +kernel
theorem dX3_takeBehindOperand_82 : decode cX3_takeBehindOperand 82 = .ok (.ireturn, 1) := by decide +kernel
theorem dX3_takeBehindOperand_83 : decode cX3_takeBehindOperand 83 = .ok (.aload_n 0, 1) := by decide +kernel
theorem dX3_takeBehindOperand_84 : decode cX3_takeBehindOperand 84 = .ok (.iload_n 2, 1) := by decide +kernel
theorem dX3_takeBehindOperand_85 : decode cX3_takeBehindOperand 85 = .ok (.invokevirtual 51, 3) := by decide +kernel
theorem dX3_takeBehindOperand_88 : decode cX3_takeBehindOperand 88 = .ok (.aload_n 0, 1) := by decide +kernel
theorem dX3_takeBehindOperand_89 : decode cX3_takeBehindOperand 89 = .ok (.aload_n 1, 1) := by decide +kernel
theorem dX3_takeBehindOperand_90 : decode cX3_takeBehindOperand 90 = .ok (.getfield 71, 3) := by decide +kernel
theorem dX3_takeBehindOperand_93 : decode cX3_takeBehindOperand 93 = .ok (.invokevirtual 82, 3) := by decide +kernel
theorem dX3_takeBehindOperand_96 : decode cX3_takeBehindOperand 96 = .ok (.aload_n 0, 1) := by decide +kernel
theorem dX3_takeBehindOperand_97 : decode cX3_takeBehindOperand 97 = .ok (.iconst 1, 1) := by decide +kernel
theorem dX3_takeBehindOperand_98 : decode cX3_takeBehindOperand 98 = .ok (.putfield 47, 3) := by decide +kernel
theorem dX3_takeBehindOperand_101 : decode cX3_takeBehindOperand 101 = .ok (.iconst 0, 1) := by decide +kernel
theorem dX3_takeBehindOperand_102 : decode cX3_takeBehindOperand 102 = .ok (.ireturn, 1) := by decide +kernel
set_option maxRecDepth 20000 in
theorem ggX3_takeBehindOperand_X10_isSign : GoodIn wsX3_takeBehindOperand wsX10_isSign := goodIn_r _ [11, 12, 13, 49, 50, 51, 52, 53, 54] rfl (by decide +kernel)
set_option maxRecDepth 20000 in
theorem gX3_takeBehindOperand_X10_isSign : GoodIn wsX3_takeBehindOperand (wsV RX3 58 RX10 yX10_isSign wsX10_isSign) := goodIn_app (goodIn_of _ (by decide +kernel)) ggX3_takeBehindOperand_X10_isSign
set_option maxRecDepth 20000 in
theorem ggX3_takeBehindOperand_X3_closeMinuses : GoodIn wsX3_takeBehindOperand wsX3_closeMinuses := goodIn_r _ [35, 2, 19, 3, 26, 27, 28, 17, 29, 30, 31, 40, 41, 42, 43, 44, 45, 46, 47, 48] rfl (by decide +kernel)
set_option maxRecDepth 20000 in
theorem gX3_takeBehindOperand_X3_closeMinuses : GoodIn wsX3_takeBehindOperand (wsV RX3 85 RX3 yX3_closeMinuses wsX3_closeMinuses) := goodIn_app (goodIn_of _ (by decide +kernel)) ggX3_takeBehindOperand_X3_closeMinuses
set_option maxRecDepth 20000 in
theorem ggX3_takeBehindOperand_X3_joinDownTo : GoodIn wsX3_takeBehindOperand wsX3_joinDownTo := goodIn_r _ [18, 2, 19, 20, 21, 17, 22, 23, 24, 25, 26, 27, 28, 29, 30, 31, 40, 41, 42, 43, 44, 45, 46, 47, 48] rfl (by decide +kernel)
set_option maxRecDepth 20000 in
theorem gX3_takeBehindOperand_X3_joinDownTo : GoodIn wsX3_takeBehindOperand (wsV RX3 51 RX3 yX3_joinDownTo wsX3_joinDownTo) := goodIn_app (goodIn_of _ (by decide +kernel)) ggX3_takeBehindOperand_X3_joinDownTo
set_option maxRecDepth 20000 in
theorem ggX3_takeBehindOperand_X3_putWaiting : GoodIn wsX3_takeBehindOperand wsX3_putWaiting := goodIn_r _ [39, 2, 19, 40, 41, 42, 43, 44, 45, 46, 47, 48] rfl (by decide +kernel)
set_option maxRecDepth 20000 in
theorem gX3_takeBehindOperand_X3_putWaiting : GoodIn wsX3_takeBehindOperand (wsV RX3 82 RX3 yX3_putWaiting wsX3_putWaiting) := goodIn_app (goodIn_of _ (by decide +kernel)) ggX3_takeBehindOperand_X3_putWaiting
set_option maxRecDepth 20000 in
theorem ggX3_takeBehindOperand_X3_strengthOf : GoodIn wsX3_takeBehindOperand wsX3_strengthOf := goodIn_r _ [22] rfl (by decide +kernel)
set_option maxRecDepth 20000 in
theorem gX3_takeBehindOperand_X3_strengthOf : GoodIn wsX3_takeBehindOperand (va_wsS RX3 88 yX3_strengthOf wsX3_strengthOf) := goodIn_app (goodIn_of _ (by decide +kernel)) ggX3_takeBehindOperand_X3_strengthOf
set_option maxHeartbeats 4000000 in
set_option maxRecDepth 100000 in
theorem S_X3_takeBehindOperand_14_1 (l : Launch) (D : va_G) (K : Nat → ClassId) (a : Nat → Nat) (G : gS) (fi : xFi 14 31 G) (wo : ((G 14 8).toInt = 0)) (nl : (((G 14 8).toInt = 0 ∧ (G 14 1).toInt + (G 14 4).toInt ≤ 6 * (G 14 5).toInt) ∨ ((G 14 8).toInt ≠ 0 ∧ (G 14 1).toInt + (G 14 4).toInt ≤ 6 * (G 14 5).toInt + 1 + (G 14 6).toInt))) (hI : xI G) (sz : Nat) : Ki l yX3_takeBehindOperand wsX3_takeBehindOperand 3 82 0 0 D [.ref (a 14), .ref (a 1)] (xW K a G) (tK K) sz (fun (r : Int32) (G' : gS) => (xI G') ∧ (gu_un xcd [1402, 1405, 1407, 1408, 1409, 2900, 3100] G G') ∧ (0 ≤ r.toInt ∧ r.toInt ≤ 1) ∧ (xFi 14 31 G') ∧ ((∀ ls : Int, sR (sT ls (G 1 3).toInt (G 1 5).toInt (G 14 8).toInt (tkr (G 31) ((G 14 4).toInt).toNat) (G 14 6).toInt (G 14 7).toInt (G 14 5).toInt (tkr (G 29) ((G 14 1).toInt).toNat)) r.toInt (xS 14 29 31 G'))) ∧ ((((G' 14 8).toInt = 0 ∧ (G' 14 1).toInt + (G' 14 4).toInt ≤ 6 * (G' 14 5).toInt) ∨ ((G' 14 8).toInt ≠ 0 ∧ (G' 14 1).toInt + (G' 14 4).toInt ≤ 6 * (G' 14 5).toInt + 1 + (G' 14 6).toInt))) ∧ ((r.toInt ≠ 0 ∨ (G 1 3).toInt ≠ 0))) (fun (G' : gS) => (xW K a G')) (fun _ => (tK K)) := by
  unfold Ki
  refine g_ofW (cc := cX3_takeBehindOperand) (lv := [(0, .ref (a 14)), (1, .ref (a 1))]) (by decide) rfl (Nat.le_of_ble_eq_true rfl) rfl ?_
  intro p e s m args below meth c A Q hA hQ F hr hnm
  have hts := F.2.2.2.2.1
  have w_0 : (Cond.fieldLink RX3 44 "QuietCut$Formula" "parentheses" "I").before args s = true := hts _ (List.mem_of_getElem? (i := 1) rfl)
  have i_X3 : ∀ w ∈ u_ws RX3 TX3 9, w ∈ wsX3_takeBehindOperand := fun _ h => List.mem_cons_of_mem _ (List.mem_append_left _ (List.mem_append_right _ h))
  have w_1 : (Cond.fieldLink RX3 68 "QuietCut$Tape" "kind" "I").before args s = true := hts _ (List.mem_of_getElem? (i := 4) rfl)
  have i_X10 : ∀ w ∈ u_ws RX10 TX10 6, w ∈ wsX3_takeBehindOperand := fun _ h => List.mem_cons_of_mem _ (List.mem_append_right _ h)
  have w_2 : (Cond.fieldLink RX3 71 "QuietCut$Tape" "value" "I").before args s = true := hts _ (List.mem_of_getElem? (i := 5) rfl)
  have w_3 : (Cond.fieldLink RX3 47 "QuietCut$Formula" "wantsOperand" "Z").before args s = true := hts _ (List.mem_of_getElem? (i := 6) rfl)
  have w_4 : (Cond.fieldLink RX3 35 "QuietCut$Formula" "waits" "I").before args s = true := hts _ (List.mem_of_getElem? (i := 2) rfl)
  have w_5 : (Cond.fieldLink RX3 41 "QuietCut$Formula" "open" "I").before args s = true := hts _ (List.mem_of_getElem? (i := 3) rfl)
  have b1 : (0 : Int) ≤ (G 14 1).toInt ∧ (G 14 1).toInt ≤ 80 := hI 14 1
  have b2 : (0 : Int) ≤ (G 14 4).toInt ∧ (G 14 4).toInt ≤ 16 := hI 14 4
  have b3 : (0 : Int) ≤ (G 14 5).toInt ∧ (G 14 5).toInt ≤ 12 := hI 14 5
  have b4 : (0 : Int) ≤ (G 14 8).toInt ∧ (G 14 8).toInt ≤ 1 := hI 14 8
  obtain ⟨⟨t9, f1, f2⟩, f3⟩ := id fi
  have f4 := f1.le
  refine g_aload_n F 1 dX3_takeBehindOperand_0 rfl rfl ?_
  refine g_bipush F 41 dX3_takeBehindOperand_1 (by decide) ?_
  refine u_callVi (k := 0) (n := 0) (b := a 1) (As := [.int 41]) (st := []) F (fun sz => S_X10_isSign l D K a G 41 41 rfl hI sz) (cwV 1 hts gX3_takeBehindOperand_X10_isSign rfl rfl rfl (by decide +kernel) ⟨Nat.le_of_ble_eq_true rfl, Nat.le_of_ble_eq_true rfl⟩) rfl 1 xc_1 rfl (Nat.le_of_ble_eq_true rfl) ⟨Nat.zero_le _, Nat.zero_le _⟩ dX3_takeBehindOperand_3 (fun r5 _ hw6 => ?_)
  rcases hw6 with ⟨rfl, q8⟩ | ⟨rfl, q9⟩
  · have b10 : (0 : Int) ≤ (G 1 3).toInt ∧ (G 1 3).toInt ≤ 4 := hI 1 3
    have q8 : ((G 1 3).toInt = 3 ∧ (G 1 5).toInt = (41 : Int)) := q8
    refine v_if_eq F 57 dX3_takeBehindOperand_6 (by decide) 1 rfl (fun c11 => absurd c11 (by decide)) (fun c11 => ?_)
    refine g_aload_n F 0 dX3_takeBehindOperand_9 rfl rfl ?_
    refine xg_14_7 F i_X3 w_0 dX3_takeBehindOperand_10 (G 14 7) (rfl) ?_
    refine v_if_le F 57 dX3_takeBehindOperand_13 (by decide) (G 14 7).toInt rfl (fun c12 => ?_) (fun c12 => ?_)
    · refine g_aload_n F 1 dX3_takeBehindOperand_57 rfl rfl ?_
      refine xg_1_3 F i_X10 w_1 dX3_takeBehindOperand_58 (G 1 3) (rfl) ?_
      refine g_iconst F 3 dX3_takeBehindOperand_61 (by decide) ?_
      refine v_icmp_ne F 75 dX3_takeBehindOperand_62 (by decide) (G 1 3).toInt 3 rfl rfl (fun c13 => ?_) (fun c13 => ?_)
      · refine g_iconst F 0 dX3_takeBehindOperand_75 (by decide) ?_
        refine g_istore_n F [(2, .int 0), (0, .ref (a 14)), (1, .ref (a 1))] dX3_takeBehindOperand_76 rfl (by decide) rfl ?_
        refine g_iload_n F 0 dX3_takeBehindOperand_77 rfl rfl ?_
        refine v_if_ne F 83 dX3_takeBehindOperand_78 (by decide) 0 rfl (fun c14 => absurd c14 (by decide)) (fun c14 => ?_)
        refine g_iconst F 1 dX3_takeBehindOperand_81 (by decide) ?_
        exact u_iret F hA hQ hr G (⟨hI, gu_un.rf, (by decide), (fi), (fun ls => (sT_off (by omega) (by omega) (fun h9 => by omega)).cast (by decide)), (by show (((G 14 8).toInt = 0 ∧ (G 14 1).toInt + (G 14 4).toInt ≤ 6 * (G 14 5).toInt) ∨ ((G 14 8).toInt ≠ 0 ∧ (G 14 1).toInt + (G 14 4).toInt ≤ 6 * (G 14 5).toInt + 1 + (G 14 6).toInt)); (first | omega | (simp only [Int32.reduceToInt, true_and, and_true, ne_eq, not_true_eq_false, false_and, or_false, false_or, true_or, or_true, false_implies] <;> omega))), (by show (1 ≠ 0 ∨ (G 1 3).toInt ≠ 0); (first | omega | (simp only [Int32.reduceToInt, true_and, and_true, ne_eq, not_true_eq_false, false_and, or_false, false_or, true_or, or_true, false_implies] <;> omega)))⟩) rfl rfl dX3_takeBehindOperand_82
      · refine g_aload_n F 1 dX3_takeBehindOperand_65 rfl rfl ?_
        refine xg_1_5 F i_X10 w_2 dX3_takeBehindOperand_66 (G 1 5) (rfl) ?_
        refine u_call0 (k := 0) (n := 0) (As := [.int (G 1 5)]) (st := []) F (fun sz => S_X3_strengthOf l D (G 1 5) (G 1 5).toInt rfl sz) (va_cwS 1 hts gX3_takeBehindOperand_X3_strengthOf rfl rfl rfl (by decide +kernel) ⟨Nat.le_of_ble_eq_true rfl, Nat.le_of_ble_eq_true rfl⟩) rfl (Nat.le_of_ble_eq_true rfl) ⟨Nat.zero_le _, Nat.zero_le _⟩ dX3_takeBehindOperand_69 (fun r15 _ hw16 => ?_)
        have q18 : (r15.toInt = xsg (G 1 5).toInt) := hw16.2
        have rg19 := hw16.1
        clear hw16
        refine g_goto F 76 dX3_takeBehindOperand_72 (by decide) ?_
        refine g_istore_n F [(2, .int r15), (0, .ref (a 14)), (1, .ref (a 1))] dX3_takeBehindOperand_76 rfl (by decide) rfl ?_
        refine g_iload_n F 0 dX3_takeBehindOperand_77 rfl rfl ?_
        refine v_if_ne F 83 dX3_takeBehindOperand_78 (by decide) r15.toInt rfl (fun c20 => ?_) (fun c20 => ?_)
        · refine g_aload_n F 1 dX3_takeBehindOperand_83 rfl rfl ?_
          refine g_iload_n F 0 dX3_takeBehindOperand_84 rfl rfl ?_
          refine u_callVv (k := 0) (n := 0) (b := a 14) (As := [.int r15]) (st := []) F (fun sz => S_X3_joinDownTo_14 l D K a G r15 r15.toInt rfl (by omega) (by exact ⟨t9, f1.cast rfl (congrArg Int32.toInt (show G 14 4 = (G 14 4) from rfl)) (congrArg Int32.toInt (show G 14 6 = (G 14 6) from rfl)) (congrArg Int32.toInt (show G 14 7 = (G 14 7) from rfl)), f2 wo⟩) (by (first | omega | (simp only [Int32.reduceToInt, true_and, and_true, ne_eq, not_true_eq_false, false_and, or_false, false_or, true_or, or_true, false_implies] <;> omega))) hI sz) (cwV 1 hts gX3_takeBehindOperand_X3_joinDownTo rfl rfl rfl (by decide +kernel) ⟨Nat.le_of_ble_eq_true rfl, Nat.le_of_ble_eq_true rfl⟩) rfl 14 xc_14 rfl (Nat.le_of_ble_eq_true rfl) ⟨Nat.zero_le _, Nat.zero_le _⟩ dX3_takeBehindOperand_85 (fun G23 hw22 => ?_)
          have hI24 : xI G23 := hw22.1
          have hU25 : gu_un xcd [1402, 1405, 2900] G G23 := hw22.2.1
          have hp26 := hw22.2.2
          have b27 : (0 : Int) ≤ (G23 14 4).toInt ∧ (G23 14 4).toInt ≤ 16 := hI24 14 4
          have q28 : (∃ t, xQ (G 31) (G23 14 4).toInt (G 14 6).toInt (G 14 7).toInt t ∧ 0 ≤ t ∧ t < r15.toInt) := hp26.1
          have b29 : (0 : Int) ≤ (G23 14 1).toInt ∧ (G23 14 1).toInt ≤ 80 := hI24 14 1
          have q30 : (sJ r15.toInt (tkr (G 31) ((G 14 4).toInt).toNat) (tkr (G 29) ((G 14 1).toInt).toNat) = (tkr (G 31) ((G23 14 4).toInt).toNat, tkr (G23 29) ((G23 14 1).toInt).toNat)) := hp26.2.1
          have q31 : ((G23 14 1).toInt + (G23 14 4).toInt = (G 14 1).toInt + (G 14 4).toInt) := hp26.2.2
          clear hp26 hw22
          obtain ⟨t8, j1, j2, j3⟩ := q28
          have j6 := j1.le
          refine g_aload_n F 1 dX3_takeBehindOperand_88 rfl rfl ?_
          refine g_aload_n F 2 dX3_takeBehindOperand_89 rfl rfl ?_
          refine xg_1_5 F i_X10 w_2 dX3_takeBehindOperand_90 (G 1 5) (hU25 1 5 (by decide)) ?_
          refine u_callVv (k := 0) (n := 0) (b := a 14) (As := [.int (G 1 5)]) (st := []) F (fun sz => S_X3_putWaiting_14 l D K a G23 (G 1 5) (G 1 5).toInt rfl hI24 sz) (cwV 1 hts gX3_takeBehindOperand_X3_putWaiting rfl rfl rfl (by decide +kernel) ⟨Nat.le_of_ble_eq_true rfl, Nat.le_of_ble_eq_true rfl⟩) rfl 14 xc_14 rfl (Nat.le_of_ble_eq_true rfl) ⟨Nat.zero_le _, Nat.zero_le _⟩ dX3_takeBehindOperand_93 (fun G34 hw33 => ?_)
          have hI35 : xI G34 := hw33.1
          have hU36 : gu_un xcd [1405, 3100] G23 G34 := hw33.2.1
          have hp37 := hw33.2.2
          have b38 : (0 : Int) ≤ (G34 14 4).toInt ∧ (G34 14 4).toInt ≤ 16 := hI35 14 4
          have q39 : ((G23 14 4).toInt ≤ 15 → (G34 31 = upd (G 31) ((G23 14 4).toInt).toNat (G 1 5) ∧ (G34 14 4).toInt = (G23 14 4).toInt + 1)) := by have h9 := hp37; (try simp only [(show G23 31 = (G 31) from (show G23 31 = G 31 from funext fun k_ => hU25 31 k_ (show (3100 : Nat) ∉ ([1402, 1405, 2900] : List Nat) by decide)))] at h9); first | exact h9 | omega
          clear hp37 hw33
          refine g_aload_n F 1 dX3_takeBehindOperand_96 rfl rfl ?_
          refine g_iconst F 1 dX3_takeBehindOperand_97 (by decide) ?_
          refine xp_14_8 F i_X3 w_3 dX3_takeBehindOperand_98 (by decide) ?_
          refine g_iconst F 0 dX3_takeBehindOperand_101 (by decide) ?_
          exact u_iret F hA hQ hr (gu_up G34 14 8 1) (⟨(gu_I.up (j := 14) (k := 8) (v := 1) hI35 (show (0 : Int) ≤ (1 : Int32).toInt by decide) (show (1 : Int32).toInt ≤ 1 by decide)), (gu_un.up (j := 14) (k := 8) (v := 1) (gu_un.tr (gu_un.tr gu_un.rf (gu_un.su hU25 rfl)) (gu_un.su hU36 rfl)) (show (1409 : Nat) ∈ ([1402, 1405, 1407, 1408, 1409, 2900, 3100] : List Nat) by decide)), (by decide), (xFi.mk (w := 1) (by exact ⟨_, j1.push.2.2 j2 (by omega), fun h => absurd h (by decide)⟩) (by omega) (show (gu_up G34 14 8 1) 31 = _ from (q39 (by omega)).1) (show ((gu_up G34 14 8 1) 14 4).toInt = _ by rw [show (gu_up G34 14 8 1) 14 4 = (G34 14 4) from rfl] <;> (exact (q39 (by omega)).2)) (show ((gu_up G34 14 8 1) 14 6).toInt = _ by rw [show (gu_up G34 14 8 1) 14 6 = (G 14 6) from (hU36 14 6 (by decide)).trans (hU25 14 6 (by decide))]) (show ((gu_up G34 14 8 1) 14 7).toInt = _ by rw [show (gu_up G34 14 8 1) 14 7 = (G 14 7) from (hU36 14 7 (by decide)).trans (hU25 14 7 (by decide))]) (show ((gu_up G34 14 8 1) 14 8).toInt = _ by rw [show (gu_up G34 14 8 1) 14 8 = 1 from rfl] <;> (rfl))), (fun ls => by rw [xS_of (rc := 29) (show ((gu_up G34 14 8 1) 14 8).toInt = 1 by rw [show (gu_up G34 14 8 1) 14 8 = 1 from rfl]; rfl) (show (gu_up G34 14 8 1) 31 = (G34 31) from rfl) (show ((gu_up G34 14 8 1) 14 4).toInt = (G34 14 4).toInt from congrArg Int32.toInt (show (gu_up G34 14 8 1) 14 4 = (G34 14 4) from rfl)) (show ((gu_up G34 14 8 1) 14 6).toInt = (G 14 6).toInt from congrArg Int32.toInt (show (gu_up G34 14 8 1) 14 6 = (G 14 6) from (hU36 14 6 (by decide)).trans (hU25 14 6 (by decide)))) (show ((gu_up G34 14 8 1) 14 7).toInt = (G 14 7).toInt from congrArg Int32.toInt (show (gu_up G34 14 8 1) 14 7 = (G 14 7) from (hU36 14 7 (by decide)).trans (hU25 14 7 (by decide)))) (show ((gu_up G34 14 8 1) 14 5).toInt = (G 14 5).toInt from congrArg Int32.toInt (show (gu_up G34 14 8 1) 14 5 = (G 14 5) from (hU36 14 5 (by decide)).trans (hU25 14 5 (by decide)))) (show (gu_up G34 14 8 1) 29 = (G23 29) from (show G34 29 = G23 29 from funext fun k_ => hU36 29 k_ (show (2900 : Nat) ∉ ([1405, 3100] : List Nat) by decide))) (show ((gu_up G34 14 8 1) 14 1).toInt = (G23 14 1).toInt from congrArg Int32.toInt (show (gu_up G34 14 8 1) 14 1 = (G23 14 1) from hU36 14 1 (by decide)))]; exact (sT_sign (by omega) (by omega) rfl (by omega) (by have h9 := q30; rw [show r15.toInt = xsg (G 1 5).toInt by omega] at h9; exact h9) (by rw [(q39 (by omega)).1, tkr_push (by omega) (q39 (by omega)).2])).cast (by decide)), (by show ((((gu_up G34 14 8 1) 14 8).toInt = 0 ∧ ((gu_up G34 14 8 1) 14 1).toInt + ((gu_up G34 14 8 1) 14 4).toInt ≤ 6 * ((gu_up G34 14 8 1) 14 5).toInt) ∨ (((gu_up G34 14 8 1) 14 8).toInt ≠ 0 ∧ ((gu_up G34 14 8 1) 14 1).toInt + ((gu_up G34 14 8 1) 14 4).toInt ≤ 6 * ((gu_up G34 14 8 1) 14 5).toInt + 1 + ((gu_up G34 14 8 1) 14 6).toInt)); have e9_14_1 : (gu_up G34 14 8 1) 14 1 = (G23 14 1) := hU36 14 1 (by decide); have e9_14_4 : (gu_up G34 14 8 1) 14 4 = (G34 14 4) := rfl; have e9_14_5 : (gu_up G34 14 8 1) 14 5 = (G 14 5) := (hU36 14 5 (by decide)).trans (hU25 14 5 (by decide)); have e9_14_6 : (gu_up G34 14 8 1) 14 6 = (G 14 6) := (hU36 14 6 (by decide)).trans (hU25 14 6 (by decide)); have e9_14_8 : (gu_up G34 14 8 1) 14 8 = 1 := rfl; (try simp only [e9_14_1, e9_14_4, e9_14_5, e9_14_6, e9_14_8, true_and, and_true]) <;> (first | omega | (simp only [Int32.reduceToInt, true_and, and_true, ne_eq, not_true_eq_false, false_and, or_false, false_or, true_or, or_true, false_implies] <;> omega))), (by show (0 ≠ 0 ∨ (G 1 3).toInt ≠ 0); (first | omega | (simp only [Int32.reduceToInt, true_and, and_true, ne_eq, not_true_eq_false, false_and, or_false, false_or, true_or, or_true, false_implies] <;> omega)))⟩) rfl rfl dX3_takeBehindOperand_102
        · refine g_iconst F 1 dX3_takeBehindOperand_81 (by decide) ?_
          exact u_iret F hA hQ hr G (⟨hI, gu_un.rf, (by decide), (fi), (fun ls => (sT_off (by omega) (by omega) (fun h9 => by omega)).cast (by decide)), (by show (((G 14 8).toInt = 0 ∧ (G 14 1).toInt + (G 14 4).toInt ≤ 6 * (G 14 5).toInt) ∨ ((G 14 8).toInt ≠ 0 ∧ (G 14 1).toInt + (G 14 4).toInt ≤ 6 * (G 14 5).toInt + 1 + (G 14 6).toInt)); (first | omega | (simp only [Int32.reduceToInt, true_and, and_true, ne_eq, not_true_eq_false, false_and, or_false, false_or, true_or, or_true, false_implies] <;> omega))), (by show (1 ≠ 0 ∨ (G 1 3).toInt ≠ 0); (first | omega | (simp only [Int32.reduceToInt, true_and, and_true, ne_eq, not_true_eq_false, false_and, or_false, false_or, true_or, or_true, false_implies] <;> omega)))⟩) rfl rfl dX3_takeBehindOperand_82
    · refine g_aload_n F 0 dX3_takeBehindOperand_16 rfl rfl ?_
      refine g_iconst F 1 dX3_takeBehindOperand_17 (by decide) ?_
      refine u_callVv (k := 0) (n := 0) (b := a 14) (As := [.int 1]) (st := []) F (fun sz => S_X3_joinDownTo_14 l D K a G 1 1 rfl (by decide) (by exact ⟨t9, f1.cast rfl (congrArg Int32.toInt (show G 14 4 = (G 14 4) from rfl)) (congrArg Int32.toInt (show G 14 6 = (G 14 6) from rfl)) (congrArg Int32.toInt (show G 14 7 = (G 14 7) from rfl)), f2 wo⟩) (by (first | omega | (simp only [Int32.reduceToInt, true_and, and_true, ne_eq, not_true_eq_false, false_and, or_false, false_or, true_or, or_true, false_implies] <;> omega))) hI sz) (cwV 1 hts gX3_takeBehindOperand_X3_joinDownTo rfl rfl rfl (by decide +kernel) ⟨Nat.le_of_ble_eq_true rfl, Nat.le_of_ble_eq_true rfl⟩) rfl 14 xc_14 rfl (Nat.le_of_ble_eq_true rfl) ⟨Nat.zero_le _, Nat.zero_le _⟩ dX3_takeBehindOperand_18 (fun G42 hw41 => ?_)
      have hI43 : xI G42 := hw41.1
      have hU44 : gu_un xcd [1402, 1405, 2900] G G42 := hw41.2.1
      have hp45 := hw41.2.2
      have b46 : (0 : Int) ≤ (G42 14 4).toInt ∧ (G42 14 4).toInt ≤ 16 := hI43 14 4
      have q47 : (∃ t, xQ (G 31) (G42 14 4).toInt (G 14 6).toInt (G 14 7).toInt t ∧ 0 ≤ t ∧ t < (1 : Int)) := hp45.1
      have b48 : (0 : Int) ≤ (G42 14 1).toInt ∧ (G42 14 1).toInt ≤ 80 := hI43 14 1
      have q49 : (sJ (1 : Int) (tkr (G 31) ((G 14 4).toInt).toNat) (tkr (G 29) ((G 14 1).toInt).toNat) = (tkr (G 31) ((G42 14 4).toInt).toNat, tkr (G42 29) ((G42 14 1).toInt).toNat)) := hp45.2.1
      have q50 : ((G42 14 1).toInt + (G42 14 4).toInt = (G 14 1).toInt + (G 14 4).toInt) := hp45.2.2
      clear hp45 hw41
      obtain ⟨t8, j1, j2, j3⟩ := q47
      obtain ⟨j4, j5⟩ := j1.popP (by omega) (by omega)
      have j6 := j1.le
      refine g_aload_n F 0 dX3_takeBehindOperand_21 rfl rfl ?_
      refine g_dup F dX3_takeBehindOperand_22 rfl ?_
      refine xg_14_4 F i_X3 w_4 dX3_takeBehindOperand_23 (G42 14 4) (rfl) ?_
      refine g_iconst F 1 dX3_takeBehindOperand_26 (by decide) ?_
      refine u_isub F dX3_takeBehindOperand_27 (G42 14 4).toInt 1 rfl rfl (by omega) (by omega) (fun y51 ey51 => ?_)
      refine xp_14_4 F i_X3 w_4 dX3_takeBehindOperand_28 ?_
      refine g_aload_n F 0 dX3_takeBehindOperand_31 rfl rfl ?_
      refine g_dup F dX3_takeBehindOperand_32 rfl ?_
      refine xg_14_7 F i_X3 w_0 dX3_takeBehindOperand_33 (G 14 7) (hU44 14 7 (by decide)) ?_
      refine g_iconst F 1 dX3_takeBehindOperand_36 (by decide) ?_
      have b53 := ti_rng (G 14 7)
      refine u_isub F dX3_takeBehindOperand_37 (G 14 7).toInt 1 rfl rfl (by omega) (by omega) (fun y52 ey52 => ?_)
      refine xp_14_7 F i_X3 w_0 dX3_takeBehindOperand_38 ?_
      refine g_aload_n F 0 dX3_takeBehindOperand_41 rfl rfl ?_
      refine g_dup F dX3_takeBehindOperand_42 rfl ?_
      refine xg_14_6 F i_X3 w_5 dX3_takeBehindOperand_43 (G 14 6) (hU44 14 6 (by decide)) ?_
      refine g_iconst F 1 dX3_takeBehindOperand_46 (by decide) ?_
      refine u_isubc F dX3_takeBehindOperand_47 (G 14 6).toInt 1 rfl rfl (fun y54 ey54 => ?_)
      refine xp_14_6 F i_X3 w_5 dX3_takeBehindOperand_48 ?_
      refine g_aload_n F 0 dX3_takeBehindOperand_51 rfl rfl ?_
      refine u_callVv (k := 0) (n := 0) (b := a 14) (As := []) (st := []) F (fun sz => S_X3_closeMinuses_14 l D K a (gu_up (gu_up (gu_up G42 14 4 y51) 14 7 y52) 14 6 y54)  (by obtain ⟨t7, h7⟩ := j5; exact ⟨t7, h7.cast (show (gu_up (gu_up (gu_up G42 14 4 y51) 14 7 y52) 14 6 y54) 31 = _ from (show G42 31 = G 31 from funext fun k_ => hU44 31 k_ (show (3100 : Nat) ∉ ([1402, 1405, 2900] : List Nat) by decide))) (show ((gu_up (gu_up (gu_up G42 14 4 y51) 14 7 y52) 14 6 y54) 14 4).toInt = _ by rw [show (gu_up (gu_up (gu_up G42 14 4 y51) 14 7 y52) 14 6 y54) 14 4 = y51 from rfl]; omega) (show ((gu_up (gu_up (gu_up G42 14 4 y51) 14 7 y52) 14 6 y54) 14 6).toInt = _ by rw [show (gu_up (gu_up (gu_up G42 14 4 y51) 14 7 y52) 14 6 y54) 14 6 = y54 from rfl]; omega) (show ((gu_up (gu_up (gu_up G42 14 4 y51) 14 7 y52) 14 6 y54) 14 7).toInt = _ by rw [show (gu_up (gu_up (gu_up G42 14 4 y51) 14 7 y52) 14 6 y54) 14 7 = y52 from rfl]; omega)⟩) (by have e9_14_1 : (gu_up (gu_up (gu_up G42 14 4 y51) 14 7 y52) 14 6 y54) 14 1 = (G42 14 1) := rfl; have e9_14_4 : (gu_up (gu_up (gu_up G42 14 4 y51) 14 7 y52) 14 6 y54) 14 4 = y51 := rfl; (try simp only [e9_14_1, e9_14_4, true_and, and_true]) <;> (first | omega | (simp only [Int32.reduceToInt, true_and, and_true, ne_eq, not_true_eq_false, false_and, or_false, false_or, true_or, or_true, false_implies] <;> omega))) (gu_I.up (j := 14) (k := 6) (v := y54) (gu_I.up (j := 14) (k := 7) (v := y52) (gu_I.up (j := 14) (k := 4) (v := y51) hI43 (show (0 : Int) ≤ Int32.toInt y51 by omega) (show Int32.toInt y51 ≤ 16 by omega)) (ti_rng _).1 (ti_rng _).2) (ti_rng _).1 (ti_rng _).2) sz) (cwV 0 hts gX3_takeBehindOperand_X3_closeMinuses rfl rfl rfl (by decide +kernel) ⟨Nat.le_of_ble_eq_true rfl, Nat.le_of_ble_eq_true rfl⟩) rfl 14 xc_14 rfl (Nat.le_of_ble_eq_true rfl) ⟨Nat.zero_le _, Nat.zero_le _⟩ dX3_takeBehindOperand_52 (fun G57 hw56 => ?_)
      have hI58 : xI G57 := hw56.1
      have hU59 : gu_un xcd [1402, 1405, 1407, 2900] (gu_up (gu_up (gu_up G42 14 4 y51) 14 7 y52) 14 6 y54) G57 := hw56.2.1
      have hp60 := hw56.2.2
      have b61 : (0 : Int) ≤ (G57 14 4).toInt ∧ (G57 14 4).toInt ≤ 16 := hI58 14 4
      have q62 : (∃ t, xQ (G 31) (G57 14 4).toInt (G57 14 6).toInt y52.toInt t ∧ 0 ≤ t) := by have h9 := hp60.1; (try simp only [(show (gu_up (gu_up (gu_up G42 14 4 y51) 14 7 y52) 14 6 y54) 31 = (G 31) from (show G42 31 = G 31 from funext fun k_ => hU44 31 k_ (show (3100 : Nat) ∉ ([1402, 1405, 2900] : List Nat) by decide)))] at h9); first | exact h9 | omega
      have q63 : ((G57 14 6).toInt ≤ y54.toInt) := hp60.2.1
      have b64 : (0 : Int) ≤ (G57 14 1).toInt ∧ (G57 14 1).toInt ≤ 80 := hI58 14 1
      have q65 : (sM (tkr (G 31) (y51.toInt).toNat) y54.toInt (tkr (G42 29) ((G42 14 1).toInt).toNat) = (tkr (G 31) ((G57 14 4).toInt).toNat, (G57 14 6).toInt, tkr (G57 29) ((G57 14 1).toInt).toNat)) := by have h9 := hp60.2.2.1; (try simp only [(show (gu_up (gu_up (gu_up G42 14 4 y51) 14 7 y52) 14 6 y54) 31 = (G 31) from (show G42 31 = G 31 from funext fun k_ => hU44 31 k_ (show (3100 : Nat) ∉ ([1402, 1405, 2900] : List Nat) by decide))), (show (gu_up (gu_up (gu_up G42 14 4 y51) 14 7 y52) 14 6 y54) 31 = (G 31) from (show G42 31 = G 31 from funext fun k_ => hU44 31 k_ (show (3100 : Nat) ∉ ([1402, 1405, 2900] : List Nat) by decide)))] at h9); first | exact h9 | omega
      have q66 : ((G57 14 1).toInt + (G57 14 4).toInt = (G42 14 1).toInt + y51.toInt) := hp60.2.2.2
      clear hp60 hw56
      refine g_iconst F 0 dX3_takeBehindOperand_55 (by decide) ?_
      exact u_iret F hA hQ hr G57 (⟨hI58, (gu_un.tr (gu_un.up (j := 14) (k := 6) (v := y54) (gu_un.up (j := 14) (k := 7) (v := y52) (gu_un.up (j := 14) (k := 4) (v := y51) (gu_un.tr gu_un.rf (gu_un.su hU44 rfl)) (show (1405 : Nat) ∈ ([1402, 1405, 1407, 1408, 1409, 2900, 3100] : List Nat) by decide)) (show (1408 : Nat) ∈ ([1402, 1405, 1407, 1408, 1409, 2900, 3100] : List Nat) by decide)) (show (1407 : Nat) ∈ ([1402, 1405, 1407, 1408, 1409, 2900, 3100] : List Nat) by decide)) (gu_un.su hU59 rfl)), (by decide), (xFi.mk (w := 0) (by obtain ⟨t8, h1, h2⟩ := q62; exact ⟨t8, h1, fun _ => h2⟩) (by omega) (show G57 31 = _ from (show G57 31 = (gu_up (gu_up (gu_up G42 14 4 y51) 14 7 y52) 14 6 y54) 31 from funext fun k_ => hU59 31 k_ (show (3100 : Nat) ∉ ([1402, 1405, 1407, 2900] : List Nat) by decide)).trans ((show G42 31 = G 31 from funext fun k_ => hU44 31 k_ (show (3100 : Nat) ∉ ([1402, 1405, 2900] : List Nat) by decide)))) (show (G57 14 4).toInt = _ by rw [show G57 14 4 = (G57 14 4) from rfl]) (show (G57 14 6).toInt = _ by rw [show G57 14 6 = (G57 14 6) from rfl]) (show (G57 14 7).toInt = _ by rw [show G57 14 7 = y52 from hU59 14 7 (by decide)]) (show (G57 14 8).toInt = _ by rw [show G57 14 8 = (G 14 8) from (hU59 14 8 (by decide)).trans (hU44 14 8 (by decide))] <;> (first | rfl | omega))), (fun ls => by rw [xS_of (rc := 29) (show (G57 14 8).toInt = 0 by rw [show G57 14 8 = (G 14 8) from (hU59 14 8 (by decide)).trans (hU44 14 8 (by decide))]; omega) (show G57 31 = (G 31) from (show G57 31 = (gu_up (gu_up (gu_up G42 14 4 y51) 14 7 y52) 14 6 y54) 31 from funext fun k_ => hU59 31 k_ (show (3100 : Nat) ∉ ([1402, 1405, 1407, 2900] : List Nat) by decide)).trans ((show G42 31 = G 31 from funext fun k_ => hU44 31 k_ (show (3100 : Nat) ∉ ([1402, 1405, 2900] : List Nat) by decide)))) (show (G57 14 4).toInt = (G57 14 4).toInt from congrArg Int32.toInt (show G57 14 4 = (G57 14 4) from rfl)) (show (G57 14 6).toInt = (G57 14 6).toInt from congrArg Int32.toInt (show G57 14 6 = (G57 14 6) from rfl)) (show (G57 14 7).toInt = y52.toInt from congrArg Int32.toInt (show G57 14 7 = y52 from hU59 14 7 (by decide))) (show (G57 14 5).toInt = (G 14 5).toInt from congrArg Int32.toInt (show G57 14 5 = (G 14 5) from (hU59 14 5 (by decide)).trans (hU44 14 5 (by decide)))) (show G57 29 = (G57 29) from rfl) (show (G57 14 1).toInt = (G57 14 1).toInt from congrArg Int32.toInt (show G57 14 1 = (G57 14 1) from rfl))]; exact (sT_close (by omega) (by omega) (by omega) (by omega) q49 (tkr_tail (by omega) (show y51.toInt = _ by omega)) (by omega) q65 (by omega)).cast (by decide)), (by show (((G57 14 8).toInt = 0 ∧ (G57 14 1).toInt + (G57 14 4).toInt ≤ 6 * (G57 14 5).toInt) ∨ ((G57 14 8).toInt ≠ 0 ∧ (G57 14 1).toInt + (G57 14 4).toInt ≤ 6 * (G57 14 5).toInt + 1 + (G57 14 6).toInt)); have e9_14_5 : G57 14 5 = (G 14 5) := (hU59 14 5 (by decide)).trans (hU44 14 5 (by decide)); have e9_14_8 : G57 14 8 = (G 14 8) := (hU59 14 8 (by decide)).trans (hU44 14 8 (by decide)); (try simp only [e9_14_5, e9_14_8, true_and, and_true]) <;> (first | omega | (simp only [Int32.reduceToInt, true_and, and_true, ne_eq, not_true_eq_false, false_and, or_false, false_or, true_or, or_true, false_implies] <;> omega))), (by show (0 ≠ 0 ∨ (G 1 3).toInt ≠ 0); (first | omega | (simp only [Int32.reduceToInt, true_and, and_true, ne_eq, not_true_eq_false, false_and, or_false, false_or, true_or, or_true, false_implies] <;> omega)))⟩) rfl rfl dX3_takeBehindOperand_56
  · have b67 : (0 : Int) ≤ (G 1 3).toInt ∧ (G 1 3).toInt ≤ 4 := hI 1 3
    have q9 : ((G 1 3).toInt ≠ 3 ∨ (G 1 5).toInt ≠ (41 : Int)) := q9
    refine v_if_eq F 57 dX3_takeBehindOperand_6 (by decide) 0 rfl (fun c68 => ?_) (fun c68 => absurd c68 (by decide))
    refine g_aload_n F 1 dX3_takeBehindOperand_57 rfl rfl ?_
    refine xg_1_3 F i_X10 w_1 dX3_takeBehindOperand_58 (G 1 3) (rfl) ?_
    refine g_iconst F 3 dX3_takeBehindOperand_61 (by decide) ?_
    refine v_icmp_ne F 75 dX3_takeBehindOperand_62 (by decide) (G 1 3).toInt 3 rfl rfl (fun c69 => ?_) (fun c69 => ?_)
    · refine g_iconst F 0 dX3_takeBehindOperand_75 (by decide) ?_
      refine g_istore_n F [(2, .int 0), (0, .ref (a 14)), (1, .ref (a 1))] dX3_takeBehindOperand_76 rfl (by decide) rfl ?_
      refine g_iload_n F 0 dX3_takeBehindOperand_77 rfl rfl ?_
      refine v_if_ne F 83 dX3_takeBehindOperand_78 (by decide) 0 rfl (fun c70 => absurd c70 (by decide)) (fun c70 => ?_)
      refine g_iconst F 1 dX3_takeBehindOperand_81 (by decide) ?_
      exact u_iret F hA hQ hr G (⟨hI, gu_un.rf, (by decide), (fi), (fun ls => (sT_off (by omega) (by omega) (fun h9 => by omega)).cast (by decide)), (by show (((G 14 8).toInt = 0 ∧ (G 14 1).toInt + (G 14 4).toInt ≤ 6 * (G 14 5).toInt) ∨ ((G 14 8).toInt ≠ 0 ∧ (G 14 1).toInt + (G 14 4).toInt ≤ 6 * (G 14 5).toInt + 1 + (G 14 6).toInt)); (first | omega | (simp only [Int32.reduceToInt, true_and, and_true, ne_eq, not_true_eq_false, false_and, or_false, false_or, true_or, or_true, false_implies] <;> omega))), (by show (1 ≠ 0 ∨ (G 1 3).toInt ≠ 0); (first | omega | (simp only [Int32.reduceToInt, true_and, and_true, ne_eq, not_true_eq_false, false_and, or_false, false_or, true_or, or_true, false_implies] <;> omega)))⟩) rfl rfl dX3_takeBehindOperand_82
    · refine g_aload_n F 1 dX3_takeBehindOperand_65 rfl rfl ?_
      refine xg_1_5 F i_X10 w_2 dX3_takeBehindOperand_66 (G 1 5) (rfl) ?_
      refine u_call0 (k := 0) (n := 0) (As := [.int (G 1 5)]) (st := []) F (fun sz => S_X3_strengthOf l D (G 1 5) (G 1 5).toInt rfl sz) (va_cwS 1 hts gX3_takeBehindOperand_X3_strengthOf rfl rfl rfl (by decide +kernel) ⟨Nat.le_of_ble_eq_true rfl, Nat.le_of_ble_eq_true rfl⟩) rfl (Nat.le_of_ble_eq_true rfl) ⟨Nat.zero_le _, Nat.zero_le _⟩ dX3_takeBehindOperand_69 (fun r71 _ hw72 => ?_)
      have q74 : (r71.toInt = xsg (G 1 5).toInt) := hw72.2
      have rg75 := hw72.1
      clear hw72
      refine g_goto F 76 dX3_takeBehindOperand_72 (by decide) ?_
      refine g_istore_n F [(2, .int r71), (0, .ref (a 14)), (1, .ref (a 1))] dX3_takeBehindOperand_76 rfl (by decide) rfl ?_
      refine g_iload_n F 0 dX3_takeBehindOperand_77 rfl rfl ?_
      refine v_if_ne F 83 dX3_takeBehindOperand_78 (by decide) r71.toInt rfl (fun c76 => ?_) (fun c76 => ?_)
      · refine g_aload_n F 1 dX3_takeBehindOperand_83 rfl rfl ?_
        refine g_iload_n F 0 dX3_takeBehindOperand_84 rfl rfl ?_
        refine u_callVv (k := 0) (n := 0) (b := a 14) (As := [.int r71]) (st := []) F (fun sz => S_X3_joinDownTo_14 l D K a G r71 r71.toInt rfl (by omega) (by exact ⟨t9, f1.cast rfl (congrArg Int32.toInt (show G 14 4 = (G 14 4) from rfl)) (congrArg Int32.toInt (show G 14 6 = (G 14 6) from rfl)) (congrArg Int32.toInt (show G 14 7 = (G 14 7) from rfl)), f2 wo⟩) (by (first | omega | (simp only [Int32.reduceToInt, true_and, and_true, ne_eq, not_true_eq_false, false_and, or_false, false_or, true_or, or_true, false_implies] <;> omega))) hI sz) (cwV 1 hts gX3_takeBehindOperand_X3_joinDownTo rfl rfl rfl (by decide +kernel) ⟨Nat.le_of_ble_eq_true rfl, Nat.le_of_ble_eq_true rfl⟩) rfl 14 xc_14 rfl (Nat.le_of_ble_eq_true rfl) ⟨Nat.zero_le _, Nat.zero_le _⟩ dX3_takeBehindOperand_85 (fun G79 hw78 => ?_)
        have hI80 : xI G79 := hw78.1
        have hU81 : gu_un xcd [1402, 1405, 2900] G G79 := hw78.2.1
        have hp82 := hw78.2.2
        have b83 : (0 : Int) ≤ (G79 14 4).toInt ∧ (G79 14 4).toInt ≤ 16 := hI80 14 4
        have q84 : (∃ t, xQ (G 31) (G79 14 4).toInt (G 14 6).toInt (G 14 7).toInt t ∧ 0 ≤ t ∧ t < r71.toInt) := hp82.1
        have b85 : (0 : Int) ≤ (G79 14 1).toInt ∧ (G79 14 1).toInt ≤ 80 := hI80 14 1
        have q86 : (sJ r71.toInt (tkr (G 31) ((G 14 4).toInt).toNat) (tkr (G 29) ((G 14 1).toInt).toNat) = (tkr (G 31) ((G79 14 4).toInt).toNat, tkr (G79 29) ((G79 14 1).toInt).toNat)) := hp82.2.1
        have q87 : ((G79 14 1).toInt + (G79 14 4).toInt = (G 14 1).toInt + (G 14 4).toInt) := hp82.2.2
        clear hp82 hw78
        obtain ⟨t8, j1, j2, j3⟩ := q84
        have j6 := j1.le
        refine g_aload_n F 1 dX3_takeBehindOperand_88 rfl rfl ?_
        refine g_aload_n F 2 dX3_takeBehindOperand_89 rfl rfl ?_
        refine xg_1_5 F i_X10 w_2 dX3_takeBehindOperand_90 (G 1 5) (hU81 1 5 (by decide)) ?_
        refine u_callVv (k := 0) (n := 0) (b := a 14) (As := [.int (G 1 5)]) (st := []) F (fun sz => S_X3_putWaiting_14 l D K a G79 (G 1 5) (G 1 5).toInt rfl hI80 sz) (cwV 1 hts gX3_takeBehindOperand_X3_putWaiting rfl rfl rfl (by decide +kernel) ⟨Nat.le_of_ble_eq_true rfl, Nat.le_of_ble_eq_true rfl⟩) rfl 14 xc_14 rfl (Nat.le_of_ble_eq_true rfl) ⟨Nat.zero_le _, Nat.zero_le _⟩ dX3_takeBehindOperand_93 (fun G90 hw89 => ?_)
        have hI91 : xI G90 := hw89.1
        have hU92 : gu_un xcd [1405, 3100] G79 G90 := hw89.2.1
        have hp93 := hw89.2.2
        have b94 : (0 : Int) ≤ (G90 14 4).toInt ∧ (G90 14 4).toInt ≤ 16 := hI91 14 4
        have q95 : ((G79 14 4).toInt ≤ 15 → (G90 31 = upd (G 31) ((G79 14 4).toInt).toNat (G 1 5) ∧ (G90 14 4).toInt = (G79 14 4).toInt + 1)) := by have h9 := hp93; (try simp only [(show G79 31 = (G 31) from (show G79 31 = G 31 from funext fun k_ => hU81 31 k_ (show (3100 : Nat) ∉ ([1402, 1405, 2900] : List Nat) by decide)))] at h9); first | exact h9 | omega
        clear hp93 hw89
        refine g_aload_n F 1 dX3_takeBehindOperand_96 rfl rfl ?_
        refine g_iconst F 1 dX3_takeBehindOperand_97 (by decide) ?_
        refine xp_14_8 F i_X3 w_3 dX3_takeBehindOperand_98 (by decide) ?_
        refine g_iconst F 0 dX3_takeBehindOperand_101 (by decide) ?_
        exact u_iret F hA hQ hr (gu_up G90 14 8 1) (⟨(gu_I.up (j := 14) (k := 8) (v := 1) hI91 (show (0 : Int) ≤ (1 : Int32).toInt by decide) (show (1 : Int32).toInt ≤ 1 by decide)), (gu_un.up (j := 14) (k := 8) (v := 1) (gu_un.tr (gu_un.tr gu_un.rf (gu_un.su hU81 rfl)) (gu_un.su hU92 rfl)) (show (1409 : Nat) ∈ ([1402, 1405, 1407, 1408, 1409, 2900, 3100] : List Nat) by decide)), (by decide), (xFi.mk (w := 1) (by exact ⟨_, j1.push.2.2 j2 (by omega), fun h => absurd h (by decide)⟩) (by omega) (show (gu_up G90 14 8 1) 31 = _ from (q95 (by omega)).1) (show ((gu_up G90 14 8 1) 14 4).toInt = _ by rw [show (gu_up G90 14 8 1) 14 4 = (G90 14 4) from rfl] <;> (exact (q95 (by omega)).2)) (show ((gu_up G90 14 8 1) 14 6).toInt = _ by rw [show (gu_up G90 14 8 1) 14 6 = (G 14 6) from (hU92 14 6 (by decide)).trans (hU81 14 6 (by decide))]) (show ((gu_up G90 14 8 1) 14 7).toInt = _ by rw [show (gu_up G90 14 8 1) 14 7 = (G 14 7) from (hU92 14 7 (by decide)).trans (hU81 14 7 (by decide))]) (show ((gu_up G90 14 8 1) 14 8).toInt = _ by rw [show (gu_up G90 14 8 1) 14 8 = 1 from rfl] <;> (rfl))), (fun ls => by rw [xS_of (rc := 29) (show ((gu_up G90 14 8 1) 14 8).toInt = 1 by rw [show (gu_up G90 14 8 1) 14 8 = 1 from rfl]; rfl) (show (gu_up G90 14 8 1) 31 = (G90 31) from rfl) (show ((gu_up G90 14 8 1) 14 4).toInt = (G90 14 4).toInt from congrArg Int32.toInt (show (gu_up G90 14 8 1) 14 4 = (G90 14 4) from rfl)) (show ((gu_up G90 14 8 1) 14 6).toInt = (G 14 6).toInt from congrArg Int32.toInt (show (gu_up G90 14 8 1) 14 6 = (G 14 6) from (hU92 14 6 (by decide)).trans (hU81 14 6 (by decide)))) (show ((gu_up G90 14 8 1) 14 7).toInt = (G 14 7).toInt from congrArg Int32.toInt (show (gu_up G90 14 8 1) 14 7 = (G 14 7) from (hU92 14 7 (by decide)).trans (hU81 14 7 (by decide)))) (show ((gu_up G90 14 8 1) 14 5).toInt = (G 14 5).toInt from congrArg Int32.toInt (show (gu_up G90 14 8 1) 14 5 = (G 14 5) from (hU92 14 5 (by decide)).trans (hU81 14 5 (by decide)))) (show (gu_up G90 14 8 1) 29 = (G79 29) from (show G90 29 = G79 29 from funext fun k_ => hU92 29 k_ (show (2900 : Nat) ∉ ([1405, 3100] : List Nat) by decide))) (show ((gu_up G90 14 8 1) 14 1).toInt = (G79 14 1).toInt from congrArg Int32.toInt (show (gu_up G90 14 8 1) 14 1 = (G79 14 1) from hU92 14 1 (by decide)))]; exact (sT_sign (by omega) (by omega) rfl (by omega) (by have h9 := q86; rw [show r71.toInt = xsg (G 1 5).toInt by omega] at h9; exact h9) (by rw [(q95 (by omega)).1, tkr_push (by omega) (q95 (by omega)).2])).cast (by decide)), (by show ((((gu_up G90 14 8 1) 14 8).toInt = 0 ∧ ((gu_up G90 14 8 1) 14 1).toInt + ((gu_up G90 14 8 1) 14 4).toInt ≤ 6 * ((gu_up G90 14 8 1) 14 5).toInt) ∨ (((gu_up G90 14 8 1) 14 8).toInt ≠ 0 ∧ ((gu_up G90 14 8 1) 14 1).toInt + ((gu_up G90 14 8 1) 14 4).toInt ≤ 6 * ((gu_up G90 14 8 1) 14 5).toInt + 1 + ((gu_up G90 14 8 1) 14 6).toInt)); have e9_14_1 : (gu_up G90 14 8 1) 14 1 = (G79 14 1) := hU92 14 1 (by decide); have e9_14_4 : (gu_up G90 14 8 1) 14 4 = (G90 14 4) := rfl; have e9_14_5 : (gu_up G90 14 8 1) 14 5 = (G 14 5) := (hU92 14 5 (by decide)).trans (hU81 14 5 (by decide)); have e9_14_6 : (gu_up G90 14 8 1) 14 6 = (G 14 6) := (hU92 14 6 (by decide)).trans (hU81 14 6 (by decide)); have e9_14_8 : (gu_up G90 14 8 1) 14 8 = 1 := rfl; (try simp only [e9_14_1, e9_14_4, e9_14_5, e9_14_6, e9_14_8, true_and, and_true]) <;> (first | omega | (simp only [Int32.reduceToInt, true_and, and_true, ne_eq, not_true_eq_false, false_and, or_false, false_or, true_or, or_true, false_implies] <;> omega))), (by show (0 ≠ 0 ∨ (G 1 3).toInt ≠ 0); (first | omega | (simp only [Int32.reduceToInt, true_and, and_true, ne_eq, not_true_eq_false, false_and, or_false, false_or, true_or, or_true, false_implies] <;> omega)))⟩) rfl rfl dX3_takeBehindOperand_102
      · refine g_iconst F 1 dX3_takeBehindOperand_81 (by decide) ?_
        exact u_iret F hA hQ hr G (⟨hI, gu_un.rf, (by decide), (fi), (fun ls => (sT_off (by omega) (by omega) (fun h9 => by omega)).cast (by decide)), (by show (((G 14 8).toInt = 0 ∧ (G 14 1).toInt + (G 14 4).toInt ≤ 6 * (G 14 5).toInt) ∨ ((G 14 8).toInt ≠ 0 ∧ (G 14 1).toInt + (G 14 4).toInt ≤ 6 * (G 14 5).toInt + 1 + (G 14 6).toInt)); (first | omega | (simp only [Int32.reduceToInt, true_and, and_true, ne_eq, not_true_eq_false, false_and, or_false, false_or, true_or, or_true, false_implies] <;> omega))), (by show (1 ≠ 0 ∨ (G 1 3).toInt ≠ 0); (first | omega | (simp only [Int32.reduceToInt, true_and, and_true, ne_eq, not_true_eq_false, false_and, or_false, false_or, true_or, or_true, false_implies] <;> omega)))⟩) rfl rfl dX3_takeBehindOperand_82

theorem dX3_begin_0 : decode cX3_begin 0 = .ok (.aload_n 0, 1) := by decide +kernel
theorem dX3_begin_1 : decode cX3_begin 1 = .ok (.iconst 0, 1) := by decide +kernel
theorem dX3_begin_2 : decode cX3_begin 2 = .ok (.putfield 21, 3) := by decide +kernel
theorem dX3_begin_5 : decode cX3_begin 5 = .ok (.aload_n 0, 1) := by decide +kernel
theorem dX3_begin_6 : decode cX3_begin 6 = .ok (.iconst 0, 1) := by decide +kernel
theorem dX3_begin_7 : decode cX3_begin 7 = .ok (.putfield 35, 3) := by decide +kernel
theorem dX3_begin_10 : decode cX3_begin 10 = .ok (.aload_n 0, 1) := by decide +kernel
theorem dX3_begin_11 : decode cX3_begin 11 = .ok (.iconst 0, 1) := by decide +kernel
theorem dX3_begin_12 : decode cX3_begin 12 = .ok (.putfield 38, 3) := by decide +kernel
theorem dX3_begin_15 : decode cX3_begin 15 = .ok (.aload_n 0, 1) := by decide +kernel
theorem dX3_begin_16 : decode cX3_begin 16 = .ok (.iconst 0, 1) := by decide +kernel
theorem dX3_begin_17 : decode cX3_begin 17 = .ok (.putfield 41, 3) := by decide +kernel
theorem dX3_begin_20 : decode cX3_begin 20 = .ok (.aload_n 0, 1) := by decide +kernel
theorem dX3_begin_21 : decode cX3_begin 21 = .ok (.iconst 0, 1) := by decide +kernel
theorem dX3_begin_22 : decode cX3_begin 22 = .ok (.putfield 44, 3) := by decide +kernel
theorem dX3_begin_25 : decode cX3_begin 25 = .ok (.aload_n 0, 1) := by decide +kernel
theorem dX3_begin_26 : decode cX3_begin 26 = .ok (.iconst 1, 1) := by decide +kernel
theorem dX3_begin_27 : decode cX3_begin 27 = .ok (.putfield 47, 3) := by decide +kernel
theorem dX3_begin_30 : decode cX3_begin 30 = .ok (.return_, 1) := by decide +kernel
set_option maxHeartbeats 4000000 in
set_option maxRecDepth 100000 in
theorem S_X3_begin_14 (l : Launch) (D : va_G) (K : Nat → ClassId) (a : Nat → Nat) (G : gS) (hI : xI G) (sz : Nat) : Kv l yX3_begin wsX3_begin 1 40 0 0 D [.ref (a 14)] (xW K a G) (tK K) sz (fun (G' : gS) => (xI G') ∧ (gu_un xcd [1402, 1405, 1406, 1407, 1408, 1409] G G') ∧ (xFi 14 31 G') ∧ ((xS 14 29 31 G' = (1, [], 0, 0, 0, []))) ∧ ((((G' 14 8).toInt = 0 ∧ (G' 14 1).toInt + (G' 14 4).toInt ≤ 6 * (G' 14 5).toInt) ∨ ((G' 14 8).toInt ≠ 0 ∧ (G' 14 1).toInt + (G' 14 4).toInt ≤ 6 * (G' 14 5).toInt + 1 + (G' 14 6).toInt)))) (fun (G' : gS) => (xW K a G')) (fun _ => (tK K)) := by
  unfold Kv
  refine g_ofW (cc := cX3_begin) (lv := [(0, .ref (a 14))]) (by decide) rfl (Nat.le_of_ble_eq_true rfl) rfl ?_
  intro p e s m args below meth c A Q hA hQ F hr hnm
  have hts := F.2.2.2.2.1
  have w_0 : (Cond.fieldLink RX3 21 "QuietCut$Formula" "length" "I").before args s = true := hts _ (List.mem_of_getElem? (i := 1) rfl)
  have i_X3 : ∀ w ∈ u_ws RX3 TX3 9, w ∈ wsX3_begin := fun _ h => List.mem_cons_of_mem _ (List.mem_append_right _ h)
  have w_1 : (Cond.fieldLink RX3 35 "QuietCut$Formula" "waits" "I").before args s = true := hts _ (List.mem_of_getElem? (i := 2) rfl)
  have w_2 : (Cond.fieldLink RX3 38 "QuietCut$Formula" "operands" "I").before args s = true := hts _ (List.mem_of_getElem? (i := 3) rfl)
  have w_3 : (Cond.fieldLink RX3 41 "QuietCut$Formula" "open" "I").before args s = true := hts _ (List.mem_of_getElem? (i := 4) rfl)
  have w_4 : (Cond.fieldLink RX3 44 "QuietCut$Formula" "parentheses" "I").before args s = true := hts _ (List.mem_of_getElem? (i := 5) rfl)
  have w_5 : (Cond.fieldLink RX3 47 "QuietCut$Formula" "wantsOperand" "Z").before args s = true := hts _ (List.mem_of_getElem? (i := 6) rfl)
  refine g_aload_n F 0 dX3_begin_0 rfl rfl ?_
  refine g_iconst F 0 dX3_begin_1 (by decide) ?_
  refine xp_14_1 F i_X3 w_0 dX3_begin_2 ?_
  refine g_aload_n F 0 dX3_begin_5 rfl rfl ?_
  refine g_iconst F 0 dX3_begin_6 (by decide) ?_
  refine xp_14_4 F i_X3 w_1 dX3_begin_7 ?_
  refine g_aload_n F 0 dX3_begin_10 rfl rfl ?_
  refine g_iconst F 0 dX3_begin_11 (by decide) ?_
  refine xp_14_5 F i_X3 w_2 dX3_begin_12 ?_
  refine g_aload_n F 0 dX3_begin_15 rfl rfl ?_
  refine g_iconst F 0 dX3_begin_16 (by decide) ?_
  refine xp_14_6 F i_X3 w_3 dX3_begin_17 ?_
  refine g_aload_n F 0 dX3_begin_20 rfl rfl ?_
  refine g_iconst F 0 dX3_begin_21 (by decide) ?_
  refine xp_14_7 F i_X3 w_4 dX3_begin_22 ?_
  refine g_aload_n F 0 dX3_begin_25 rfl rfl ?_
  refine g_iconst F 1 dX3_begin_26 (by decide) ?_
  refine xp_14_8 F i_X3 w_5 dX3_begin_27 (by decide) ?_
  exact u_vret F hA hQ hr (gu_up (gu_up (gu_up (gu_up (gu_up (gu_up G 14 1 0) 14 4 0) 14 5 0) 14 6 0) 14 7 0) 14 8 1) (⟨(gu_I.up (j := 14) (k := 8) (v := 1) (gu_I.up (j := 14) (k := 7) (v := 0) (gu_I.up (j := 14) (k := 6) (v := 0) (gu_I.up (j := 14) (k := 5) (v := 0) (gu_I.up (j := 14) (k := 4) (v := 0) (gu_I.up (j := 14) (k := 1) (v := 0) hI (show (0 : Int) ≤ (0 : Int32).toInt by decide) (show (0 : Int32).toInt ≤ 80 by decide)) (show (0 : Int) ≤ (0 : Int32).toInt by decide) (show (0 : Int32).toInt ≤ 16 by decide)) (show (0 : Int) ≤ (0 : Int32).toInt by decide) (show (0 : Int32).toInt ≤ 12 by decide)) (ti_rng _).1 (ti_rng _).2) (ti_rng _).1 (ti_rng _).2) (show (0 : Int) ≤ (1 : Int32).toInt by decide) (show (1 : Int32).toInt ≤ 1 by decide)), (gu_un.up (j := 14) (k := 8) (v := 1) (gu_un.up (j := 14) (k := 7) (v := 0) (gu_un.up (j := 14) (k := 6) (v := 0) (gu_un.up (j := 14) (k := 5) (v := 0) (gu_un.up (j := 14) (k := 4) (v := 0) (gu_un.up (j := 14) (k := 1) (v := 0) gu_un.rf (show (1402 : Nat) ∈ ([1402, 1405, 1406, 1407, 1408, 1409] : List Nat) by decide)) (show (1405 : Nat) ∈ ([1402, 1405, 1406, 1407, 1408, 1409] : List Nat) by decide)) (show (1406 : Nat) ∈ ([1402, 1405, 1406, 1407, 1408, 1409] : List Nat) by decide)) (show (1407 : Nat) ∈ ([1402, 1405, 1406, 1407, 1408, 1409] : List Nat) by decide)) (show (1408 : Nat) ∈ ([1402, 1405, 1406, 1407, 1408, 1409] : List Nat) by decide)) (show (1409 : Nat) ∈ ([1402, 1405, 1406, 1407, 1408, 1409] : List Nat) by decide)), (xFi.mk (f := G 31) (n := 0) (o := 0) (p := 0) (w := 1) ⟨0, xQ.at0, fun _ => by omega⟩ (by decide) rfl rfl rfl rfl rfl), (rfl), (by show ((((gu_up (gu_up (gu_up (gu_up (gu_up (gu_up G 14 1 0) 14 4 0) 14 5 0) 14 6 0) 14 7 0) 14 8 1) 14 8).toInt = 0 ∧ ((gu_up (gu_up (gu_up (gu_up (gu_up (gu_up G 14 1 0) 14 4 0) 14 5 0) 14 6 0) 14 7 0) 14 8 1) 14 1).toInt + ((gu_up (gu_up (gu_up (gu_up (gu_up (gu_up G 14 1 0) 14 4 0) 14 5 0) 14 6 0) 14 7 0) 14 8 1) 14 4).toInt ≤ 6 * ((gu_up (gu_up (gu_up (gu_up (gu_up (gu_up G 14 1 0) 14 4 0) 14 5 0) 14 6 0) 14 7 0) 14 8 1) 14 5).toInt) ∨ (((gu_up (gu_up (gu_up (gu_up (gu_up (gu_up G 14 1 0) 14 4 0) 14 5 0) 14 6 0) 14 7 0) 14 8 1) 14 8).toInt ≠ 0 ∧ ((gu_up (gu_up (gu_up (gu_up (gu_up (gu_up G 14 1 0) 14 4 0) 14 5 0) 14 6 0) 14 7 0) 14 8 1) 14 1).toInt + ((gu_up (gu_up (gu_up (gu_up (gu_up (gu_up G 14 1 0) 14 4 0) 14 5 0) 14 6 0) 14 7 0) 14 8 1) 14 4).toInt ≤ 6 * ((gu_up (gu_up (gu_up (gu_up (gu_up (gu_up G 14 1 0) 14 4 0) 14 5 0) 14 6 0) 14 7 0) 14 8 1) 14 5).toInt + 1 + ((gu_up (gu_up (gu_up (gu_up (gu_up (gu_up G 14 1 0) 14 4 0) 14 5 0) 14 6 0) 14 7 0) 14 8 1) 14 6).toInt)); have e9_14_1 : (gu_up (gu_up (gu_up (gu_up (gu_up (gu_up G 14 1 0) 14 4 0) 14 5 0) 14 6 0) 14 7 0) 14 8 1) 14 1 = 0 := rfl; have e9_14_4 : (gu_up (gu_up (gu_up (gu_up (gu_up (gu_up G 14 1 0) 14 4 0) 14 5 0) 14 6 0) 14 7 0) 14 8 1) 14 4 = 0 := rfl; have e9_14_5 : (gu_up (gu_up (gu_up (gu_up (gu_up (gu_up G 14 1 0) 14 4 0) 14 5 0) 14 6 0) 14 7 0) 14 8 1) 14 5 = 0 := rfl; have e9_14_6 : (gu_up (gu_up (gu_up (gu_up (gu_up (gu_up G 14 1 0) 14 4 0) 14 5 0) 14 6 0) 14 7 0) 14 8 1) 14 6 = 0 := rfl; have e9_14_8 : (gu_up (gu_up (gu_up (gu_up (gu_up (gu_up G 14 1 0) 14 4 0) 14 5 0) 14 6 0) 14 7 0) 14 8 1) 14 8 = 1 := rfl; (try simp only [e9_14_1, e9_14_4, e9_14_5, e9_14_6, e9_14_8, true_and, and_true]) <;> (first | omega | (simp only [Int32.reduceToInt, true_and, and_true, ne_eq, not_true_eq_false, false_and, or_false, false_or, true_or, or_true, false_implies] <;> omega)))⟩) rfl rfl dX3_begin_30
