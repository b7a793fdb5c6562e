theorem dX3_strengthOf_0 : decode cX3_strengthOf 0 = .ok (.iload_n 0, 1) := by decide +kernel
theorem dX3_strengthOf_1 : decode cX3_strengthOf 1 = .ok (.bipush 42, 2) := by decide +kernel
theorem dX3_strengthOf_3 : decode cX3_strengthOf 3 = .ok (.if_icmp .eq 15, 3) := by decide +kernel
theorem dX3_strengthOf_6 : decode cX3_strengthOf 6 = .ok (.iload_n 0, 1) := by decide +kernel
theorem dX3_strengthOf_7 : decode cX3_strengthOf 7 = .ok (.bipush 47, 2) := by decide +kernel
theorem dX3_strengthOf_9 : decode cX3_strengthOf 9 = .ok (.if_icmp .eq 9, 3) := by decide +kernel
theorem dX3_strengthOf_12 : decode cX3_strengthOf 12 = .ok (.iload_n 0, 1) := by decide +kernel
theorem dX3_strengthOf_13 : decode cX3_strengthOf 13 = .ok (.bipush 37, 2) := by decide +kernel
theorem dX3_strengthOf_15 : decode cX3_strengthOf 15 = .ok (.if_icmp .ne 5, 3) := by decide +kernel
theorem dX3_strengthOf_18 : decode cX3_strengthOf 18 = .ok (.iconst 2, 1) := by decide +kernel
theorem dX3_strengthOf_19 : decode cX3_strengthOf 19 = .ok (.ireturn, 1) := by decide +kernel
theorem dX3_strengthOf_20 : decode cX3_strengthOf 20 = .ok (.iload_n 0, 1) := by decide +kernel
theorem dX3_strengthOf_21 : decode cX3_strengthOf 21 = .ok (.bipush 43, 2) := by decide +kernel
theorem dX3_strengthOf_23 : decode cX3_strengthOf 23 = .ok (.if_icmp .eq 9, 3) := by decide +kernel
theorem dX3_strengthOf_26 : decode cX3_strengthOf 26 = .ok (.iload_n 0, 1) := by decide +kernel
theorem dX3_strengthOf_27 : decode cX3_strengthOf 27 = .ok (.bipush 45, 2) := by decide +kernel
theorem dX3_strengthOf_29 : decode cX3_strengthOf 29 = .ok (.if_icmp .ne 7, 3) := by decide +kernel
theorem dX3_strengthOf_32 : decode cX3_strengthOf 32 = .ok (.iconst 1, 1) := by decide +kernel
theorem dX3_strengthOf_33 : decode cX3_strengthOf 33 = .ok (.goto 4, 3) := by decide +kernel
theorem dX3_strengthOf_36 : decode cX3_strengthOf 36 = .ok (.iconst 0, 1) := by decide +kernel
theorem dX3_strengthOf_37 : decode cX3_strengthOf 37 = .ok (.ireturn, 1) := by decide +kernel
set_option maxHeartbeats 4000000 in
set_option maxRecDepth 100000 in
theorem S_X3_strengthOf (l : Launch) (D : va_G)  (p0 : Int32) (s0 : Int) (e0 : p0.toInt = s0) (sz : Nat) : Ki l yX3_strengthOf wsX3_strengthOf 1 40 0 0 D [.int p0] [] [] sz (fun (r : Int32) (_ : Unit) => (0 ≤ r.toInt ∧ r.toInt ≤ 2) ∧ ((r.toInt = xsg s0))) (fun (_ : Unit) => []) (fun _ => []) := by
  unfold Ki
  refine g_ofW (cc := cX3_strengthOf) (lv := [(0, .int p0)]) (by decide) rfl (Nat.le_of_ble_eq_true rfl) rfl ?_
  intro p e s m args below meth c A Q hA hQ F hr hnm
  have hts := F.2.2.2.2.1
  have rg0 : -2147483648 ≤ s0 ∧ s0 ≤ 2147483647 := e0 ▸ ti_rng p0
  refine g_iload_n F 0 dX3_strengthOf_0 rfl rfl ?_
  refine g_bipush F 42 dX3_strengthOf_1 (by decide) ?_
  refine v_icmp_eq F 18 dX3_strengthOf_3 (by decide) s0 42 e0 rfl (fun c1 => ?_) (fun c1 => ?_)
  · refine g_iconst F 2 dX3_strengthOf_18 (by decide) ?_
    exact u_iret F hA hQ hr () (⟨(by decide), (by unfold xsg; split <;> first | rfl | (exfalso; omega) | (split <;> first | rfl | (exfalso; omega)))⟩) rfl rfl dX3_strengthOf_19
  · refine g_iload_n F 0 dX3_strengthOf_6 rfl rfl ?_
    refine g_bipush F 47 dX3_strengthOf_7 (by decide) ?_
    refine v_icmp_eq F 18 dX3_strengthOf_9 (by decide) s0 47 e0 rfl (fun c2 => ?_) (fun c2 => ?_)
    · refine g_iconst F 2 dX3_strengthOf_18 (by decide) ?_
      exact u_iret F hA hQ hr () (⟨(by decide), (by unfold xsg; split <;> first | rfl | (exfalso; omega) | (split <;> first | rfl | (exfalso; omega)))⟩) rfl rfl dX3_strengthOf_19
    · refine g_iload_n F 0 dX3_strengthOf_12 rfl rfl ?_
      refine g_bipush F 37 dX3_strengthOf_13 (by decide) ?_
      refine v_icmp_ne F 20 dX3_strengthOf_15 (by decide) s0 37 e0 rfl (fun c3 => ?_) (fun c3 => ?_)
      · refine g_iload_n F 0 dX3_strengthOf_20 rfl rfl ?_
        refine g_bipush F 43 dX3_strengthOf_21 (by decide) ?_
        refine v_icmp_eq F 32 dX3_strengthOf_23 (by decide) s0 43 e0 rfl (fun c4 => ?_) (fun c4 => ?_)
        · refine g_iconst F 1 dX3_strengthOf_32 (by decide) ?_
          refine g_goto F 37 dX3_strengthOf_33 (by decide) ?_
          exact u_iret F hA hQ hr () (⟨(by decide), (by unfold xsg; split <;> first | rfl | (exfalso; omega) | (split <;> first | rfl | (exfalso; omega)))⟩) rfl rfl dX3_strengthOf_37
        · refine g_iload_n F 0 dX3_strengthOf_26 rfl rfl ?_
          refine g_bipush F 45 dX3_strengthOf_27 (by decide) ?_
          refine v_icmp_ne F 36 dX3_strengthOf_29 (by decide) s0 45 e0 rfl (fun c5 => ?_) (fun c5 => ?_)
          · refine g_iconst F 0 dX3_strengthOf_36 (by decide) ?_
            exact u_iret F hA hQ hr () (⟨(by decide), (by unfold xsg; split <;> first | rfl | (exfalso; omega) | (split <;> first | rfl | (exfalso; omega)))⟩) rfl rfl dX3_strengthOf_37
          · refine g_iconst F 1 dX3_strengthOf_32 (by decide) ?_
            refine g_goto F 37 dX3_strengthOf_33 (by decide) ?_
            exact u_iret F hA hQ hr () (⟨(by decide), (by unfold xsg; split <;> first | rfl | (exfalso; omega) | (split <;> first | rfl | (exfalso; omega)))⟩) rfl rfl dX3_strengthOf_37
      · refine g_iconst F 2 dX3_strengthOf_18 (by decide) ?_
        exact u_iret F hA hQ hr () (⟨(by decide), (by unfold xsg; split <;> first | rfl | (exfalso; omega) | (split <;> first | rfl | (exfalso; omega)))⟩) rfl rfl dX3_strengthOf_19

theorem dX3_joinCode_0 : decode cX3_joinCode 0 = .ok (.bipush (-3), 2) := by decide +kernel
theorem dX3_joinCode_2 : decode cX3_joinCode 2 = .ok (.iload_n 0, 1) := by decide +kernel
theorem dX3_joinCode_3 : decode cX3_joinCode 3 = .ok (.isub, 1) := by decide +kernel
theorem dX3_joinCode_4 : decode cX3_joinCode 4 = .ok (.ireturn, 1) := by decide +kernel
set_option maxHeartbeats 4000000 in
set_option maxRecDepth 100000 in
theorem S_X3_joinCode (l : Launch) (D : va_G)  (p0 : Int32) (s0 : Int) (e0 : p0.toInt = s0) (sz : Nat) : Ki l yX3_joinCode wsX3_joinCode 1 40 0 0 D [.int p0] [] [] sz (fun (r : Int32) (_ : Unit) => True) (fun (_ : Unit) => []) (fun _ => []) := by
  unfold Ki
  refine g_ofW (cc := cX3_joinCode) (lv := [(0, .int p0)]) (by decide) rfl (Nat.le_of_ble_eq_true rfl) rfl ?_
  intro p e s m args below meth c A Q hA hQ F hr hnm
  have hts := F.2.2.2.2.1
  have rg0 : -2147483648 ≤ s0 ∧ s0 ≤ 2147483647 := e0 ▸ ti_rng p0
  refine g_bipush F (-3) dX3_joinCode_0 (by decide) ?_
  refine g_iload_n F 0 dX3_joinCode_2 rfl rfl ?_
  refine u_isubc F dX3_joinCode_3 (-3) s0 rfl e0 (fun y1 ey1 => ?_)
  exact u_iret F hA hQ hr () (trivial) rfl rfl dX3_joinCode_4

theorem dX3_putWaiting_0 : decode cX3_putWaiting 0 = .ok (.aload_n 0, 1) := by decide +kernel
theorem dX3_putWaiting_1 : decode cX3_putWaiting 1 = .ok (.getfield 35, 3) := by decide +kernel
theorem dX3_putWaiting_4 : decode cX3_putWaiting 4 = .ok (.bipush 16, 2) := by decide +kernel
theorem dX3_putWaiting_6 : decode cX3_putWaiting 6 = .ok (.if_icmp .ge 23, 3) := by decide +kernel
theorem dX3_putWaiting_9 : decode cX3_putWaiting 9 = .ok (.aload_n 0, 1) := by decide +kernel
theorem dX3_putWaiting_10 : decode cX3_putWaiting 10 = .ok (.getfield 18, 3) := by decide +kernel
theorem dX3_putWaiting_13 : decode cX3_putWaiting 13 = .ok (.aload_n 0, 1) := by decide +kernel
theorem dX3_putWaiting_14 : decode cX3_putWaiting 14 = .ok (.getfield 35, 3) := by decide +kernel
theorem dX3_putWaiting_17 : decode cX3_putWaiting 17 = .ok (.iload_n 1, 1) := by decide +kernel
theorem dX3_putWaiting_18 : decode cX3_putWaiting 18 = .ok (.iastore, 1) := by decide +kernel
theorem dX3_putWaiting_19 : decode cX3_putWaiting 19 = .ok (.aload_n 0, 1) := by decide +kernel
theorem dX3_putWaiting_20 : decode cX3_putWaiting 20 = .ok (.dup, 1) := by decide +kernel
theorem dX3_putWaiting_21 : decode cX3_putWaiting 21 = .ok (.getfield 35, 3) := by decide +kernel
theorem dX3_putWaiting_24 : decode cX3_putWaiting 24 = .ok (.iconst 1, 1) := by decide +kernel
theorem dX3_putWaiting_25 : decode cX3_putWaiting 25 = .ok (.iadd, 1) := by decide +kernel
theorem dX3_putWaiting_26 : decode cX3_putWaiting 26 = .ok (.putfield 35, 3) := by decide +kernel
theorem dX3_putWaiting_29 : decode cX3_putWaiting 29 = .ok (.return_, 1) := by decide +kernel
set_option maxHeartbeats 4000000 in
set_option maxRecDepth 100000 in
theorem S_X3_putWaiting_14 (l : Launch) (D : va_G) (K : Nat → ClassId) (a : Nat → Nat) (G : gS) (p0 : Int32) (s0 : Int) (e0 : p0.toInt = s0) (hI : xI G) (sz : Nat) : Kv l yX3_putWaiting wsX3_putWaiting 1 40 0 0 D [.ref (a 14), .int p0] (xW K a G) (tK K) sz (fun (G' : gS) => (xI G') ∧ (gu_un xcd [1405, 3100] G G') ∧ (((G 14 4).toInt ≤ 15 → (G' 31 = upd (G 31) ((G 14 4).toInt).toNat p0 ∧ (G' 14 4).toInt = (G 14 4).toInt + 1)))) (fun (G' : gS) => (xW K a G')) (fun _ => (tK K)) := by
  unfold Kv
  refine g_ofW (cc := cX3_putWaiting) (lv := [(0, .ref (a 14)), (1, .int p0)]) (by decide) rfl (Nat.le_of_ble_eq_true rfl) rfl ?_
  intro p e s m args below meth c A Q hA hQ F hr hnm
  have hts := F.2.2.2.2.1
  have w_0 : (Cond.fieldLink RX3 35 "QuietCut$Formula" "waits" "I").before args s = true := hts _ (List.mem_of_getElem? (i := 1) rfl)
  have i_X3 : ∀ w ∈ u_ws RX3 TX3 9, w ∈ wsX3_putWaiting := fun _ h => List.mem_cons_of_mem _ (List.mem_append_right _ h)
  have w_1 : (Cond.fieldLink RX3 18 "QuietCut$Formula" "waiting" "[I").before args s = true := hts _ (List.mem_of_getElem? (i := 2) rfl)
  have rg0 : -2147483648 ≤ s0 ∧ s0 ≤ 2147483647 := e0 ▸ ti_rng p0
  refine g_aload_n F 0 dX3_putWaiting_0 rfl rfl ?_
  refine xg_14_4 F i_X3 w_0 dX3_putWaiting_1 (G 14 4) (rfl) ?_
  refine g_bipush F 16 dX3_putWaiting_4 (by decide) ?_
  have b1 : (0 : Int) ≤ (G 14 4).toInt ∧ (G 14 4).toInt ≤ 16 := hI 14 4
  refine v_icmp_ge F 29 dX3_putWaiting_6 (by decide) (G 14 4).toInt 16 rfl rfl (fun c2 => ?_) (fun c2 => ?_)
  · exact u_vret F hA hQ hr G (⟨hI, gu_un.rf, (fun h => absurd h (by omega))⟩) rfl rfl dX3_putWaiting_29
  · refine g_aload_n F 0 dX3_putWaiting_9 rfl rfl ?_
    refine xg_14_3 F i_X3 w_1 dX3_putWaiting_10 ?_
    refine g_aload_n F 0 dX3_putWaiting_13 rfl rfl ?_
    refine xg_14_4 F i_X3 w_0 dX3_putWaiting_14 (G 14 4) (rfl) ?_
    refine g_iload_n F 1 dX3_putWaiting_17 rfl rfl ?_
    refine u_iast F 31 0 xc_31 rfl (G 14 4).toInt rfl (by omega) (by omega) (xW K a (gu_up G 31 ((G 14 4).toInt).toNat p0)) (xs_31 _) dX3_putWaiting_18 ?_
    refine g_aload_n F 0 dX3_putWaiting_19 rfl rfl ?_
    refine g_dup F dX3_putWaiting_20 rfl ?_
    refine xg_14_4 F i_X3 w_0 dX3_putWaiting_21 (G 14 4) (rfl) ?_
    refine g_iconst F 1 dX3_putWaiting_24 (by decide) ?_
    refine u_iadd F dX3_putWaiting_25 (G 14 4).toInt 1 rfl rfl (by omega) (by omega) (fun y3 ey3 => ?_)
    refine xp_14_4 F i_X3 w_0 dX3_putWaiting_26 ?_
    exact u_vret F hA hQ hr (gu_up (gu_up G 31 ((G 14 4).toInt).toNat p0) 14 4 y3) (⟨(gu_I.up (j := 14) (k := 4) (v := y3) (gu_I.up (j := 31) (k := ((G 14 4).toInt).toNat) (v := p0) hI (ti_rng _).1 (ti_rng _).2) (show (0 : Int) ≤ Int32.toInt y3 by omega) (show Int32.toInt y3 ≤ 16 by omega)), (gu_un.up (j := 14) (k := 4) (v := y3) (gu_un.up (j := 31) (k := ((G 14 4).toInt).toNat) (v := p0) gu_un.rf (show (3100 : Nat) ∈ ([1405, 3100] : List Nat) by decide)) (show (1405 : Nat) ∈ ([1405, 3100] : List Nat) by decide)), (fun _ => ⟨rfl, show (y3 : Int32).toInt = _ by omega⟩)⟩) rfl rfl dX3_putWaiting_29

theorem dX3_putCode_0 : decode cX3_putCode 0 = .ok (.aload_n 0, 1) := by decide +kernel
theorem dX3_putCode_1 : decode cX3_putCode 1 = .ok (.getfield 21, 3) := by decide +kernel
theorem dX3_putCode_4 : decode cX3_putCode 4 = .ok (.bipush 80, 2) := by decide +kernel
theorem dX3_putCode_6 : decode cX3_putCode 6 = .ok (.if_icmp .ge 23, 3) := by decide +kernel
theorem dX3_putCode_9 : decode cX3_putCode 9 = .ok (.aload_n 0, 1) := by decide +kernel
theorem dX3_putCode_10 : decode cX3_putCode 10 = .ok (.getfield 11, 3) := by decide +kernel
theorem dX3_putCode_13 : decode cX3_putCode 13 = .ok (.aload_n 0, 1) := by decide +kernel
theorem dX3_putCode_14 : decode cX3_putCode 14 = .ok (.getfield 21, 3) := by decide +kernel
theorem dX3_putCode_17 : decode cX3_putCode 17 = .ok (.iload_n 1, 1) := by decide +kernel
theorem dX3_putCode_18 : decode cX3_putCode 18 = .ok (.iastore, 1) := by decide +kernel
theorem dX3_putCode_19 : decode cX3_putCode 19 = .ok (.aload_n 0, 1) := by decide +kernel
theorem dX3_putCode_20 : decode cX3_putCode 20 = .ok (.dup, 1) := by decide +kernel
theorem dX3_putCode_21 : decode cX3_putCode 21 = .ok (.getfield 21, 3) := by decide +kernel
theorem dX3_putCode_24 : decode cX3_putCode 24 = .ok (.iconst 1, 1) := by decide +kernel
theorem dX3_putCode_25 : decode cX3_putCode 25 = .ok (.iadd, 1) := by decide +kernel
theorem dX3_putCode_26 : decode cX3_putCode 26 = .ok (.putfield 21, 3) := by decide +kernel
theorem dX3_putCode_29 : decode cX3_putCode 29 = .ok (.return_, 1) := by decide +kernel
set_option maxHeartbeats 4000000 in
set_option maxRecDepth 100000 in
theorem S_X3_putCode_14 (l : Launch) (D : va_G) (K : Nat → ClassId) (a : Nat → Nat) (G : gS) (p0 : Int32) (s0 : Int) (e0 : p0.toInt = s0) (hI : xI G) (sz : Nat) : Kv l yX3_putCode wsX3_putCode 1 40 0 0 D [.ref (a 14), .int p0] (xW K a G) (tK K) sz (fun (G' : gS) => (xI G') ∧ (gu_un xcd [1402, 2900] G G')) (fun (G' : gS) => (xW K a G')) (fun _ => (tK K)) := by
  unfold Kv
  refine g_ofW (cc := cX3_putCode) (lv := [(0, .ref (a 14)), (1, .int p0)]) (by decide) rfl (Nat.le_of_ble_eq_true rfl) rfl ?_
  intro p e s m args below meth c A Q hA hQ F hr hnm
  have hts := F.2.2.2.2.1
  have w_0 : (Cond.fieldLink RX3 21 "QuietCut$Formula" "length" "I").before args s = true := hts _ (List.mem_of_getElem? (i := 1) rfl)
  have i_X3 : ∀ w ∈ u_ws RX3 TX3 9, w ∈ wsX3_putCode := fun _ h => List.mem_cons_of_mem _ (List.mem_append_right _ h)
  have w_1 : (Cond.fieldLink RX3 11 "QuietCut$Formula" "codes" "[I").before args s = true := hts _ (List.mem_of_getElem? (i := 2) rfl)
  have rg0 : -2147483648 ≤ s0 ∧ s0 ≤ 2147483647 := e0 ▸ ti_rng p0
  refine g_aload_n F 0 dX3_putCode_0 rfl rfl ?_
  refine xg_14_1 F i_X3 w_0 dX3_putCode_1 (G 14 1) (rfl) ?_
  refine g_bipush F 80 dX3_putCode_4 (by decide) ?_
  have b1 : (0 : Int) ≤ (G 14 1).toInt ∧ (G 14 1).toInt ≤ 80 := hI 14 1
  refine v_icmp_ge F 29 dX3_putCode_6 (by decide) (G 14 1).toInt 80 rfl rfl (fun c2 => ?_) (fun c2 => ?_)
  · exact u_vret F hA hQ hr G (⟨hI, gu_un.rf⟩) rfl rfl dX3_putCode_29
  · refine g_aload_n F 0 dX3_putCode_9 rfl rfl ?_
    refine xg_14_0 F i_X3 w_1 dX3_putCode_10 ?_
    refine g_aload_n F 0 dX3_putCode_13 rfl rfl ?_
    refine xg_14_1 F i_X3 w_0 dX3_putCode_14 (G 14 1) (rfl) ?_
    refine g_iload_n F 1 dX3_putCode_17 rfl rfl ?_
    refine u_iast F 29 0 xc_29 rfl (G 14 1).toInt rfl (by omega) (by omega) (xW K a (gu_up G 29 ((G 14 1).toInt).toNat p0)) (xs_29 _) dX3_putCode_18 ?_
    refine g_aload_n F 0 dX3_putCode_19 rfl rfl ?_
    refine g_dup F dX3_putCode_20 rfl ?_
    refine xg_14_1 F i_X3 w_0 dX3_putCode_21 (G 14 1) (rfl) ?_
    refine g_iconst F 1 dX3_putCode_24 (by decide) ?_
    refine u_iadd F dX3_putCode_25 (G 14 1).toInt 1 rfl rfl (by omega) (by omega) (fun y3 ey3 => ?_)
    refine xp_14_1 F i_X3 w_0 dX3_putCode_26 ?_
    exact u_vret F hA hQ hr (gu_up (gu_up G 29 ((G 14 1).toInt).toNat p0) 14 1 y3) (⟨(gu_I.up (j := 14) (k := 1) (v := y3) (gu_I.up (j := 29) (k := ((G 14 1).toInt).toNat) (v := p0) hI (ti_rng _).1 (ti_rng _).2) (show (0 : Int) ≤ Int32.toInt y3 by omega) (show Int32.toInt y3 ≤ 80 by omega)), (gu_un.up (j := 14) (k := 1) (v := y3) (gu_un.up (j := 29) (k := ((G 14 1).toInt).toNat) (v := p0) gu_un.rf (show (2900 : Nat) ∈ ([1402, 2900] : List Nat) by decide)) (show (1402 : Nat) ∈ ([1402, 2900] : List Nat) by decide))⟩) rfl rfl dX3_putCode_29

theorem dX3_joinDownTo_0 : decode cX3_joinDownTo 0 = .ok (.aload_n 0, 1) := by decide +kernel
theorem dX3_joinDownTo_1 : decode cX3_joinDownTo 1 = .ok (.getfield 35, 3) := by decide +kernel
theorem dX3_joinDownTo_4 : decode cX3_joinDownTo 4 = .ok (.ifCond .le 50, 3) := by decide +kernel
theorem dX3_joinDownTo_7 : decode cX3_joinDownTo 7 = .ok (.aload_n 0, 1) := by decide +kernel
theorem dX3_joinDownTo_8 : decode cX3_joinDownTo 8 = .ok (.getfield 18, 3) := by decide +kernel
theorem dX3_joinDownTo_11 : decode cX3_joinDownTo 11 = .ok (.aload_n 0, 1) := by decide +kernel
theorem dX3_joinDownTo_12 : decode cX3_joinDownTo 12 = .ok (.getfield 35, 3) := by decide +kernel
theorem dX3_joinDownTo_15 : decode cX3_joinDownTo 15 = .ok (.iconst 1, 1) := by decide +kernel
theorem dX3_joinDownTo_16 : decode cX3_joinDownTo 16 = .ok (.isub, 1) := by decide +kernel
theorem dX3_joinDownTo_17 : decode cX3_joinDownTo 17 = .ok (.iaload, 1) := by decide +kernel
theorem dX3_joinDownTo_18 : decode cX3_joinDownTo 18 = .ok (.invokestatic 88, 3) := by decide +kernel
theorem dX3_joinDownTo_21 : decode cX3_joinDownTo 21 = .ok (.iload_n 1, 1) := by decide +kernel
theorem dX3_joinDownTo_22 : decode cX3_joinDownTo 22 = .ok (.if_icmp .lt 32, 3) := by decide +kernel
theorem dX3_joinDownTo_25 : decode cX3_joinDownTo 25 = .ok (.aload_n 0, 1) := by decide +kernel
theorem dX3_joinDownTo_26 : decode cX3_joinDownTo 26 = .ok (.dup, 1) := by decide +kernel
theorem dX3_joinDownTo_27 : decode cX3_joinDownTo 27 = .ok (.getfield 35, 3) := by decide +kernel
theorem dX3_joinDownTo_30 : decode cX3_joinDownTo 30 = .ok (.iconst 1, 1) := by decide +kernel
theorem dX3_joinDownTo_31 : decode cX3_joinDownTo 31 = .ok (.isub, 1) := by decide +kernel
theorem dX3_joinDownTo_32 : decode cX3_joinDownTo 32 = .ok (.putfield 35, 3) := by decide +kernel
theorem dX3_joinDownTo_35 : decode cX3_joinDownTo 35 = .ok (.aload_n 0, 1) := by decide +kernel
theorem dX3_joinDownTo_36 : decode cX3_joinDownTo 36 = .ok (.aload_n 0, 1) := by decide +kernel
theorem dX3_joinDownTo_37 : decode cX3_joinDownTo 37 = .ok (.getfield 18, 3) := by decide +kernel
theorem dX3_joinDownTo_40 : decode cX3_joinDownTo 40 = .ok (.aload_n 0, 1) := by decide +kernel
theorem dX3_joinDownTo_41 : decode cX3_joinDownTo 41 = .ok (.getfield 35, 3) := by decide +kernel
theorem dX3_joinDownTo_44 : decode cX3_joinDownTo 44 = .ok (.iaload, 1) := by decide +kernel
theorem dX3_joinDownTo_45 : decode cX3_joinDownTo 45 = .ok (.invokestatic 91, 3) := by decide +kernel
theorem dX3_joinDownTo_48 : decode cX3_joinDownTo 48 = .ok (.invokevirtual 25, 3) := by decide +kernel
theorem dX3_joinDownTo_51 : decode cX3_joinDownTo 51 = .ok (.goto (-51), 3) := by decide +kernel
theorem dX3_joinDownTo_54 : decode cX3_joinDownTo 54 = .ok (.return_, 1) := by decide +kernel
set_option maxRecDepth 20000 in
theorem ggX3_joinDownTo_X3_joinCode : GoodIn wsX3_joinDownTo wsX3_joinCode := goodIn_r _ [9] rfl (by decide +kernel)
set_option maxRecDepth 20000 in
theorem gX3_joinDownTo_X3_joinCode : GoodIn wsX3_joinDownTo (va_wsS RX3 91 yX3_joinCode wsX3_joinCode) := goodIn_app (goodIn_of _ (by decide +kernel)) ggX3_joinDownTo_X3_joinCode
set_option maxRecDepth 20000 in
theorem ggX3_joinDownTo_X3_putCode : GoodIn wsX3_joinDownTo wsX3_putCode := goodIn_r _ [13, 14, 15, 16, 17, 18, 19, 20, 21, 22, 23, 24] rfl (by decide +kernel)
set_option maxRecDepth 20000 in
theorem gX3_joinDownTo_X3_putCode : GoodIn wsX3_joinDownTo (wsV RX3 25 RX3 yX3_putCode wsX3_putCode) := goodIn_app (goodIn_of _ (by decide +kernel)) ggX3_joinDownTo_X3_putCode
set_option maxRecDepth 20000 in
theorem ggX3_joinDownTo_X3_strengthOf : GoodIn wsX3_joinDownTo wsX3_strengthOf := goodIn_r _ [6] rfl (by decide +kernel)
set_option maxRecDepth 20000 in
theorem gX3_joinDownTo_X3_strengthOf : GoodIn wsX3_joinDownTo (va_wsS RX3 88 yX3_strengthOf wsX3_strengthOf) := goodIn_app (goodIn_of _ (by decide +kernel)) ggX3_joinDownTo_X3_strengthOf
set_option maxHeartbeats 4000000 in
set_option maxRecDepth 100000 in
theorem S_X3_joinDownTo_14 (l : Launch) (D : va_G) (K : Nat → ClassId) (a : Nat → Nat) (G : gS) (p0 : Int32) (s0 : Int) (e0 : p0.toInt = s0) (h0 : 1 ≤ s0 ∧ s0 ≤ 2) (jq : (∃ t, xQ (G 31) (G 14 4).toInt (G 14 6).toInt (G 14 7).toInt t ∧ 0 ≤ t)) (hI : xI G) (sz : Nat) : Kv l yX3_joinDownTo wsX3_joinDownTo 2 61 0 0 D [.ref (a 14), .int p0] (xW K a G) (tK K) sz (fun (G' : gS) => (xI G') ∧ (gu_un xcd [1402, 1405, 2900] G G') ∧ ((∃ t, xQ (G 31) (G' 14 4).toInt (G 14 6).toInt (G 14 7).toInt t ∧ 0 ≤ t ∧ t < s0))) (fun (G' : gS) => (xW K a G')) (fun _ => (tK K)) := by
  unfold Kv
  refine g_ofW (cc := cX3_joinDownTo) (lv := [(0, .ref (a 14)), (1, .int p0)]) (by decide) rfl (Nat.le_of_ble_eq_true rfl) rfl ?_
  intro p e s m args below meth c A Q hA hQ F hr hnm
  have hts := F.2.2.2.2.1
  have w_0 : (Cond.fieldLink RX3 35 "QuietCut$Formula" "waits" "I").before args s = true := hts _ (List.mem_of_getElem? (i := 1) rfl)
  have i_X3 : ∀ w ∈ u_ws RX3 TX3 9, w ∈ wsX3_joinDownTo := fun _ h => List.mem_cons_of_mem _ (List.mem_append_right _ h)
  have w_1 : (Cond.fieldLink RX3 18 "QuietCut$Formula" "waiting" "[I").before args s = true := hts _ (List.mem_of_getElem? (i := 2) rfl)
  have J_0 : ∀ (fuel : Nat) (Gj0 : gS), ((Gj0 14 4).toInt).toNat < fuel → (xI Gj0) → (gu_un xcd [1402, 1405, 2900] G Gj0) → ((∃ t, xQ (G 31) (Gj0 14 4).toInt (G 14 6).toInt (G 14 7).toInt t ∧ 0 ≤ t)) → gG p l e (gR 2 0 0 61) s m args below meth c D A 2 Q 0 0 (xW K a Gj0) (tK K) [(0, .ref (a 14)), (1, .int p0)] 0 [] := by
    intro fuel
    induction fuel with
    | zero => intro Gj0 hm; exact absurd hm (Nat.not_lt_zero _)
    | succ fuel_0 ih_0 =>
      intro Gj0 hm_0 jI0 jU0 jq0
      refine g_aload_n F 0 dX3_joinDownTo_0 rfl rfl ?_
      refine xg_14_4 F i_X3 w_0 dX3_joinDownTo_1 (Gj0 14 4) (rfl) ?_
      have b1 : (0 : Int) ≤ (Gj0 14 4).toInt ∧ (Gj0 14 4).toInt ≤ 16 := jI0 14 4
      refine v_if_le F 54 dX3_joinDownTo_4 (by decide) (Gj0 14 4).toInt rfl (fun c2 => ?_) (fun c2 => ?_)
      · exact u_vret F hA hQ hr Gj0 (⟨jI0, (gu_un.tr gu_un.rf (gu_un.su jU0 rfl)), (by obtain ⟨t9, h1, h2⟩ := jq0; exact ⟨t9, h1, h2, h1.topS h2 (by omega) (fun h3 => by omega)⟩)⟩) rfl rfl dX3_joinDownTo_54
      · refine g_aload_n F 0 dX3_joinDownTo_7 rfl rfl ?_
        refine xg_14_3 F i_X3 w_1 dX3_joinDownTo_8 ?_
        refine g_aload_n F 0 dX3_joinDownTo_11 rfl rfl ?_
        refine xg_14_4 F i_X3 w_0 dX3_joinDownTo_12 (Gj0 14 4) (rfl) ?_
        refine g_iconst F 1 dX3_joinDownTo_15 (by decide) ?_
        refine u_isub F dX3_joinDownTo_16 (Gj0 14 4).toInt 1 rfl rfl (by omega) (by omega) (fun y3 ey3 => ?_)
        refine u1_iald F 31 0 xc_31 rfl y3.toInt rfl (by omega) (by omega) dX3_joinDownTo_17 ((G 31) (((Gj0 14 4).toInt - 1)).toNat) (by rw [show y3.toInt = ((Gj0 14 4).toInt - 1) by omega]; exact congrFun ((show Gj0 31 = G 31 from funext fun k_ => jU0 31 k_ (show (3100 : Nat) ∉ ([1402, 1405, 2900] : List Nat) by decide))) _) ?_
        refine u_call0 (k := 0) (n := 0) (As := [.int ((G 31) (((Gj0 14 4).toInt - 1)).toNat)]) (st := []) F (fun sz => S_X3_strengthOf l D ((G 31) (((Gj0 14 4).toInt - 1)).toNat) ((G 31) (((Gj0 14 4).toInt - 1)).toNat).toInt rfl sz) (va_cwS 1 hts gX3_joinDownTo_X3_strengthOf rfl rfl rfl (by decide +kernel) ⟨Nat.le_of_ble_eq_true rfl, Nat.le_of_ble_eq_true rfl⟩) rfl (Nat.le_of_ble_eq_true rfl) ⟨Nat.zero_le _, Nat.zero_le _⟩ dX3_joinDownTo_18 (fun r4 _ hw5 => ?_)
        have q7 : (r4.toInt = xsg ((G 31) (((Gj0 14 4).toInt - 1)).toNat).toInt) := hw5.2
        refine g_iload_n F 1 dX3_joinDownTo_21 rfl rfl ?_
        refine v_icmp_lt F 54 dX3_joinDownTo_22 (by decide) r4.toInt s0 rfl e0 (fun c8 => ?_) (fun c8 => ?_)
        · exact u_vret F hA hQ hr Gj0 (⟨jI0, (gu_un.tr gu_un.rf (gu_un.su jU0 rfl)), (by obtain ⟨t9, h1, h2⟩ := jq0; exact ⟨t9, h1, h2, h1.topS h2 (by omega) (fun h3 => by omega)⟩)⟩) rfl rfl dX3_joinDownTo_54
        · refine g_aload_n F 0 dX3_joinDownTo_25 rfl rfl ?_
          refine g_dup F dX3_joinDownTo_26 rfl ?_
          refine xg_14_4 F i_X3 w_0 dX3_joinDownTo_27 (Gj0 14 4) (rfl) ?_
          refine g_iconst F 1 dX3_joinDownTo_30 (by decide) ?_
          refine u_isub F dX3_joinDownTo_31 (Gj0 14 4).toInt 1 rfl rfl (by omega) (by omega) (fun y9 ey9 => ?_)
          refine xp_14_4 F i_X3 w_0 dX3_joinDownTo_32 ?_
          refine g_aload_n F 0 dX3_joinDownTo_35 rfl rfl ?_
          refine g_aload_n F 0 dX3_joinDownTo_36 rfl rfl ?_
          refine xg_14_3 F i_X3 w_1 dX3_joinDownTo_37 ?_
          refine g_aload_n F 0 dX3_joinDownTo_40 rfl rfl ?_
          refine xg_14_4 F i_X3 w_0 dX3_joinDownTo_41 y9 (rfl) ?_
          refine u_iald F 31 0 xc_31 rfl y9.toInt rfl (by omega) (by omega) dX3_joinDownTo_44 (fun _ => True) (fun _ => trivial) (fun y10 by10 => ?_)
          refine u_call0 (k := 0) (n := 0) (As := [.int y10]) (st := [.ref (a 14)]) F (fun sz => S_X3_joinCode l D y10 y10.toInt rfl sz) (va_cwS 1 hts gX3_joinDownTo_X3_joinCode rfl rfl rfl (by decide +kernel) ⟨Nat.le_of_ble_eq_true rfl, Nat.le_of_ble_eq_true rfl⟩) rfl (Nat.le_of_ble_eq_true rfl) ⟨Nat.zero_le _, Nat.zero_le _⟩ dX3_joinDownTo_45 (fun r11 _ hw12 => ?_)
          refine u_callVv (k := 0) (n := 0) (b := a 14) (As := [.int r11]) (st := []) F (fun sz => S_X3_putCode_14 l D K a (gu_up Gj0 14 4 y9) r11 r11.toInt rfl (gu_I.up (j := 14) (k := 4) (v := y9) jI0 (show (0 : Int) ≤ Int32.toInt y9 by omega) (show Int32.toInt y9 ≤ 16 by omega)) sz) (cwV 1 hts gX3_joinDownTo_X3_putCode rfl rfl rfl (by decide +kernel) ⟨Nat.le_of_ble_eq_true rfl, Nat.le_of_ble_eq_true rfl⟩) rfl 14 xc_14 rfl (Nat.le_of_ble_eq_true rfl) ⟨Nat.zero_le _, Nat.zero_le _⟩ dX3_joinDownTo_48 (fun G16 hw15 => ?_)
          have hI17 : xI G16 := hw15.1
          have hU18 : gu_un xcd [1402, 2900] (gu_up Gj0 14 4 y9) G16 := hw15.2
          refine g_goto F 0 dX3_joinDownTo_51 (by decide) ?_
          exact ih_0 G16 (by have e9_14_4 : G16 14 4 = y9 := hU18 14 4 (by decide); (try simp only [e9_14_4, true_and, and_true]) <;> omega) hI17 (gu_un.tr (gu_un.up (j := 14) (k := 4) (v := y9) (gu_un.tr gu_un.rf (gu_un.su jU0 rfl)) (show (1405 : Nat) ∈ ([1402, 1405, 2900] : List Nat) by decide)) (gu_un.su hU18 rfl)) (by obtain ⟨t9, h1, h2⟩ := jq0; rw [show G16 14 4 = y9 from hU18 14 4 (by decide), show y9.toInt = (Gj0 14 4).toInt - 1 by omega]; exact h1.popS (by omega) (by omega))
  have b20 : (0 : Int) ≤ (G 14 4).toInt ∧ (G 14 4).toInt ≤ 16 := hI 14 4
  exact J_0 _ G (Nat.lt_succ_self _) hI gu_un.rf (jq)

theorem dX3_closeMinuses_0 : decode cX3_closeMinuses 0 = .ok (.aload_n 0, 1) := by decide +kernel
theorem dX3_closeMinuses_1 : decode cX3_closeMinuses 1 = .ok (.getfield 35, 3) := by decide +kernel
theorem dX3_closeMinuses_4 : decode cX3_closeMinuses 4 = .ok (.ifCond .le 48, 3) := by decide +kernel
theorem dX3_closeMinuses_7 : decode cX3_closeMinuses 7 = .ok (.aload_n 0, 1) := by decide +kernel
theorem dX3_closeMinuses_8 : decode cX3_closeMinuses 8 = .ok (.getfield 18, 3) := by decide +kernel
theorem dX3_closeMinuses_11 : decode cX3_closeMinuses 11 = .ok (.aload_n 0, 1) := by decide +kernel
theorem dX3_closeMinuses_12 : decode cX3_closeMinuses 12 = .ok (.getfield 35, 3) := by decide +kernel
theorem dX3_closeMinuses_15 : decode cX3_closeMinuses 15 = .ok (.iconst 1, 1) := by decide +kernel
theorem dX3_closeMinuses_16 : decode cX3_closeMinuses 16 = .ok (.isub, 1) := by decide +kernel
theorem dX3_closeMinuses_17 : decode cX3_closeMinuses 17 = .ok (.iaload, 1) := by decide +kernel
theorem dX3_closeMinuses_18 : decode cX3_closeMinuses 18 = .ok (.bipush (-3), 2) := by decide +kernel
theorem dX3_closeMinuses_20 : decode cX3_closeMinuses 20 = .ok (.if_icmp .ne 32, 3) := by decide +kernel
theorem dX3_closeMinuses_23 : decode cX3_closeMinuses 23 = .ok (.aload_n 0, 1) := by decide +kernel
theorem dX3_closeMinuses_24 : decode cX3_closeMinuses 24 = .ok (.dup, 1) := by decide +kernel
theorem dX3_closeMinuses_25 : decode cX3_closeMinuses 25 = .ok (.getfield 35, 3) := by decide +kernel
theorem dX3_closeMinuses_28 : decode cX3_closeMinuses 28 = .ok (.iconst 1, 1) := by decide +kernel
theorem dX3_closeMinuses_29 : decode cX3_closeMinuses 29 = .ok (.isub, 1) := by decide +kernel
theorem dX3_closeMinuses_30 : decode cX3_closeMinuses 30 = .ok (.putfield 35, 3) := by decide +kernel
theorem dX3_closeMinuses_33 : decode cX3_closeMinuses 33 = .ok (.aload_n 0, 1) := by decide +kernel
theorem dX3_closeMinuses_34 : decode cX3_closeMinuses 34 = .ok (.dup, 1) := by decide +kernel
theorem dX3_closeMinuses_35 : decode cX3_closeMinuses 35 = .ok (.getfield 41, 3) := by decide +kernel
theorem dX3_closeMinuses_38 : decode cX3_closeMinuses 38 = .ok (.iconst 1, 1) := by decide +kernel
theorem dX3_closeMinuses_39 : decode cX3_closeMinuses 39 = .ok (.isub, 1) := by decide +kernel
theorem dX3_closeMinuses_40 : decode cX3_closeMinuses 40 = .ok (.putfield 41, 3) := by decide +kernel
theorem dX3_closeMinuses_43 : decode cX3_closeMinuses 43 = .ok (.aload_n 0, 1) := by decide +kernel
theorem dX3_closeMinuses_44 : decode cX3_closeMinuses 44 = .ok (.bipush (-3), 2) := by decide +kernel
theorem dX3_closeMinuses_46 : decode cX3_closeMinuses 46 = .ok (.invokevirtual 25, 3) := by decide +kernel
theorem dX3_closeMinuses_49 : decode cX3_closeMinuses 49 = .ok (.goto (-49), 3) := by decide +kernel
theorem dX3_closeMinuses_52 : decode cX3_closeMinuses 52 = .ok (.return_, 1) := by decide +kernel
set_option maxRecDepth 20000 in
theorem ggX3_closeMinuses_X3_putCode : GoodIn wsX3_closeMinuses wsX3_putCode := goodIn_r _ [8, 9, 10, 11, 12, 13, 14, 15, 16, 17, 18, 19] rfl (by decide +kernel)
set_option maxRecDepth 20000 in
theorem gX3_closeMinuses_X3_putCode : GoodIn wsX3_closeMinuses (wsV RX3 25 RX3 yX3_putCode wsX3_putCode) := goodIn_app (goodIn_of _ (by decide +kernel)) ggX3_closeMinuses_X3_putCode
set_option maxHeartbeats 4000000 in
set_option maxRecDepth 100000 in
theorem S_X3_closeMinuses_14 (l : Launch) (D : va_G) (K : Nat → ClassId) (a : Nat → Nat) (G : gS) (cq : (∃ t, xQ (G 31) (G 14 4).toInt (G 14 6).toInt (G 14 7).toInt t)) (hI : xI G) (sz : Nat) : Kv l yX3_closeMinuses wsX3_closeMinuses 2 61 0 0 D [.ref (a 14)] (xW K a G) (tK K) sz (fun (G' : gS) => (xI G') ∧ (gu_un xcd [1402, 1405, 1407, 2900] G G') ∧ ((∃ t, xQ (G 31) (G' 14 4).toInt (G' 14 6).toInt (G 14 7).toInt t ∧ 0 ≤ t)) ∧ (((G' 14 6).toInt ≤ (G 14 6).toInt))) (fun (G' : gS) => (xW K a G')) (fun _ => (tK K)) := by
  unfold Kv
  refine g_ofW (cc := cX3_closeMinuses) (lv := [(0, .ref (a 14))]) (by decide) rfl (Nat.le_of_ble_eq_true rfl) rfl ?_
  intro p e s m args below meth c A Q hA hQ F hr hnm
  have hts := F.2.2.2.2.1
  have w_0 : (Cond.fieldLink RX3 35 "QuietCut$Formula" "waits" "I").before args s = true := hts _ (List.mem_of_getElem? (i := 1) rfl)
  have i_X3 : ∀ w ∈ u_ws RX3 TX3 9, w ∈ wsX3_closeMinuses := fun _ h => List.mem_cons_of_mem _ (List.mem_append_right _ h)
  have w_1 : (Cond.fieldLink RX3 18 "QuietCut$Formula" "waiting" "[I").before args s = true := hts _ (List.mem_of_getElem? (i := 2) rfl)
  have w_2 : (Cond.fieldLink RX3 41 "QuietCut$Formula" "open" "I").before args s = true := hts _ (List.mem_of_getElem? (i := 3) rfl)
  have J_0 : ∀ (fuel : Nat) (Gj0 : gS), ((Gj0 14 4).toInt).toNat < fuel → (xI Gj0) → (gu_un xcd [1402, 1405, 1407, 2900] G Gj0) → ((∃ t, xQ (G 31) (Gj0 14 4).toInt (Gj0 14 6).toInt (G 14 7).toInt t)) → (((Gj0 14 6).toInt ≤ (G 14 6).toInt)) → gG p l e (gR 2 0 0 61) s m args below meth c D A 1 Q 0 0 (xW K a Gj0) (tK K) [(0, .ref (a 14))] 0 [] := by
    intro fuel
    induction fuel with
    | zero => intro Gj0 hm; exact absurd hm (Nat.not_lt_zero _)
    | succ fuel_0 ih_0 =>
      intro Gj0 hm_0 jI0 jU0 cq0 co0
      refine g_aload_n F 0 dX3_closeMinuses_0 rfl rfl ?_
      refine xg_14_4 F i_X3 w_0 dX3_closeMinuses_1 (Gj0 14 4) (rfl) ?_
      have b1 : (0 : Int) ≤ (Gj0 14 4).toInt ∧ (Gj0 14 4).toInt ≤ 16 := jI0 14 4
      refine v_if_le F 52 dX3_closeMinuses_4 (by decide) (Gj0 14 4).toInt rfl (fun c2 => ?_) (fun c2 => ?_)
      · exact u_vret F hA hQ hr Gj0 (⟨jI0, (gu_un.tr gu_un.rf (gu_un.su jU0 rfl)), (by obtain ⟨t9, h1⟩ := cq0; exact ⟨t9, h1, h1.topM (fun h3 => by omega)⟩), (by show ((Gj0 14 6).toInt ≤ (G 14 6).toInt); (first | omega | (simp only [Int32.reduceToInt, true_and, and_true, ne_eq, not_true_eq_false, false_and, or_false, false_or, true_or, or_true, false_implies] <;> omega)))⟩) rfl rfl dX3_closeMinuses_52
      · refine g_aload_n F 0 dX3_closeMinuses_7 rfl rfl ?_
        refine xg_14_3 F i_X3 w_1 dX3_closeMinuses_8 ?_
        refine g_aload_n F 0 dX3_closeMinuses_11 rfl rfl ?_
        refine xg_14_4 F i_X3 w_0 dX3_closeMinuses_12 (Gj0 14 4) (rfl) ?_
        refine g_iconst F 1 dX3_closeMinuses_15 (by decide) ?_
        refine u_isub F dX3_closeMinuses_16 (Gj0 14 4).toInt 1 rfl rfl (by omega) (by omega) (fun y3 ey3 => ?_)
        refine u1_iald F 31 0 xc_31 rfl y3.toInt rfl (by omega) (by omega) dX3_closeMinuses_17 ((G 31) (((Gj0 14 4).toInt - 1)).toNat) (by rw [show y3.toInt = ((Gj0 14 4).toInt - 1) by omega]; exact congrFun ((show Gj0 31 = G 31 from funext fun k_ => jU0 31 k_ (show (3100 : Nat) ∉ ([1402, 1405, 1407, 2900] : List Nat) by decide))) _) ?_
        refine g_bipush F (-3) dX3_closeMinuses_18 (by decide) ?_
        refine v_icmp_ne F 52 dX3_closeMinuses_20 (by decide) ((G 31) (((Gj0 14 4).toInt - 1)).toNat).toInt (-3) rfl rfl (fun c4 => ?_) (fun c4 => ?_)
        · exact u_vret F hA hQ hr Gj0 (⟨jI0, (gu_un.tr gu_un.rf (gu_un.su jU0 rfl)), (by obtain ⟨t9, h1⟩ := cq0; exact ⟨t9, h1, h1.topM (fun h3 => by omega)⟩), (by show ((Gj0 14 6).toInt ≤ (G 14 6).toInt); (first | omega | (simp only [Int32.reduceToInt, true_and, and_true, ne_eq, not_true_eq_false, false_and, or_false, false_or, true_or, or_true, false_implies] <;> omega)))⟩) rfl rfl dX3_closeMinuses_52
        · have pm : ∃ t, xQ (G 31) ((Gj0 14 4).toInt - 1) ((Gj0 14 6).toInt - 1) (G 14 7).toInt t := by obtain ⟨t9, h1⟩ := cq0; exact h1.popM (by omega) (by omega)
          have pr9 := ti_rng (Gj0 14 6)
          have pl : 1 ≤ (Gj0 14 6).toInt := by obtain ⟨t9, h1⟩ := pm; have h2 := h1.le; omega
          refine g_aload_n F 0 dX3_closeMinuses_23 rfl rfl ?_
          refine g_dup F dX3_closeMinuses_24 rfl ?_
          refine xg_14_4 F i_X3 w_0 dX3_closeMinuses_25 (Gj0 14 4) (rfl) ?_
          refine g_iconst F 1 dX3_closeMinuses_28 (by decide) ?_
          refine u_isub F dX3_closeMinuses_29 (Gj0 14 4).toInt 1 rfl rfl (by omega) (by omega) (fun y5 ey5 => ?_)
          refine xp_14_4 F i_X3 w_0 dX3_closeMinuses_30 ?_
          refine g_aload_n F 0 dX3_closeMinuses_33 rfl rfl ?_
          refine g_dup F dX3_closeMinuses_34 rfl ?_
          refine xg_14_6 F i_X3 w_2 dX3_closeMinuses_35 (Gj0 14 6) (rfl) ?_
          refine g_iconst F 1 dX3_closeMinuses_38 (by decide) ?_
          refine u_isubc F dX3_closeMinuses_39 (Gj0 14 6).toInt 1 rfl rfl (fun y6 ey6 => ?_)
          refine xp_14_6 F i_X3 w_2 dX3_closeMinuses_40 ?_
          refine g_aload_n F 0 dX3_closeMinuses_43 rfl rfl ?_
          refine g_bipush F (-3) dX3_closeMinuses_44 (by decide) ?_
          refine u_callVv (k := 0) (n := 0) (b := a 14) (As := [.int (-3)]) (st := []) F (fun sz => S_X3_putCode_14 l D K a (gu_up (gu_up Gj0 14 4 y5) 14 6 y6) (-3) (-3) rfl (gu_I.up (j := 14) (k := 6) (v := y6) (gu_I.up (j := 14) (k := 4) (v := y5) jI0 (show (0 : Int) ≤ Int32.toInt y5 by omega) (show Int32.toInt y5 ≤ 16 by omega)) (ti_rng _).1 (ti_rng _).2) sz) (cwV 1 hts gX3_closeMinuses_X3_putCode rfl rfl rfl (by decide +kernel) ⟨Nat.le_of_ble_eq_true rfl, Nat.le_of_ble_eq_true rfl⟩) rfl 14 xc_14 rfl (Nat.le_of_ble_eq_true rfl) ⟨Nat.zero_le _, Nat.zero_le _⟩ dX3_closeMinuses_46 (fun G9 hw8 => ?_)
          have hI10 : xI G9 := hw8.1
          have hU11 : gu_un xcd [1402, 2900] (gu_up (gu_up Gj0 14 4 y5) 14 6 y6) G9 := hw8.2
          refine g_goto F 0 dX3_closeMinuses_49 (by decide) ?_
          exact ih_0 G9 (by have e9_14_4 : G9 14 4 = y5 := hU11 14 4 (by decide); (try simp only [e9_14_4, true_and, and_true]) <;> omega) hI10 (gu_un.tr (gu_un.up (j := 14) (k := 6) (v := y6) (gu_un.up (j := 14) (k := 4) (v := y5) (gu_un.tr gu_un.rf (gu_un.su jU0 rfl)) (show (1405 : Nat) ∈ ([1402, 1405, 1407, 2900] : List Nat) by decide)) (show (1407 : Nat) ∈ ([1402, 1405, 1407, 2900] : List Nat) by decide)) (gu_un.su hU11 rfl)) (by obtain ⟨t9, h1⟩ := pm; exact ⟨t9, h1.cast rfl (show (G9 14 4).toInt = _ by rw [show G9 14 4 = y5 from hU11 14 4 (by decide)]; omega) (show (G9 14 6).toInt = _ by rw [show G9 14 6 = y6 from hU11 14 6 (by decide)]; omega) rfl⟩) (by have e9_14_6 : G9 14 6 = y6 := hU11 14 6 (by decide); (try simp only [e9_14_6, true_and, and_true]) <;> (first | omega | (simp only [Int32.reduceToInt, true_and, and_true, ne_eq, not_true_eq_false, false_and, or_false, false_or, true_or, or_true, false_implies] <;> omega)))
  have b13 : (0 : Int) ≤ (G 14 4).toInt ∧ (G 14 4).toInt ≤ 16 := hI 14 4
  exact J_0 _ G (Nat.lt_succ_self _) hI gu_un.rf (cq) (by (first | omega | (simp only [Int32.reduceToInt, true_and, and_true, ne_eq, not_true_eq_false, false_and, or_false, false_or, true_or, or_true, false_implies] <;> omega)))

theorem dX3_takeOperand_0 : decode cX3_takeOperand 0 = .ok (.aload_n 0, 1) := by decide +kernel
theorem dX3_takeOperand_1 : decode cX3_takeOperand 1 = .ok (.getfield 38, 3) := by decide +kernel
theorem dX3_takeOperand_4 : decode cX3_takeOperand 4 = .ok (.bipush 12, 2) := by decide +kernel
theorem dX3_takeOperand_6 : decode cX3_takeOperand 6 = .ok (.if_icmp .lt 5, 3) := by decide +kernel
theorem dX3_takeOperand_9 : decode cX3_takeOperand 9 = .ok (.iconst 4, 1) := by decide +kernel
theorem dX3_takeOperand_10 : decode cX3_takeOperand 10 = .ok (.ireturn, 1) := by decide +kernel
theorem dX3_takeOperand_11 : decode cX3_takeOperand 11 = .ok (.aload_n 0, 1) := by decide +kernel
theorem dX3_takeOperand_12 : decode cX3_takeOperand 12 = .ok (.dup, 1) := by decide +kernel
theorem dX3_takeOperand_13 : decode cX3_takeOperand 13 = .ok (.getfield 38, 3) := by decide +kernel
theorem dX3_takeOperand_16 : decode cX3_takeOperand 16 = .ok (.iconst 1, 1) := by decide +kernel
theorem dX3_takeOperand_17 : decode cX3_takeOperand 17 = .ok (.iadd, 1) := by decide +kernel
theorem dX3_takeOperand_18 : decode cX3_takeOperand 18 = .ok (.putfield 38, 3) := by decide +kernel
theorem dX3_takeOperand_21 : decode cX3_takeOperand 21 = .ok (.aload_n 0, 1) := by decide +kernel
theorem dX3_takeOperand_22 : decode cX3_takeOperand 22 = .ok (.iload_n 1, 1) := by decide +kernel
theorem dX3_takeOperand_23 : decode cX3_takeOperand 23 = .ok (.invokevirtual 25, 3) := by decide +kernel
theorem dX3_takeOperand_26 : decode cX3_takeOperand 26 = .ok (.aload_n 0, 1) := by decide +kernel
theorem dX3_takeOperand_27 : decode cX3_takeOperand 27 = .ok (.invokevirtual 85, 3) := by decide +kernel
theorem dX3_takeOperand_30 : decode cX3_takeOperand 30 = .ok (.aload_n 0, 1) := by decide +kernel
theorem dX3_takeOperand_31 : decode cX3_takeOperand 31 = .ok (.iconst 0, 1) := by decide +kernel
theorem dX3_takeOperand_32 : decode cX3_takeOperand 32 = .ok (.putfield 47, 3) := by decide +kernel
theorem dX3_takeOperand_35 : decode cX3_takeOperand 35 = .ok (.iconst 0, 1) := by decide +kernel
theorem dX3_takeOperand_36 : decode cX3_takeOperand 36 = .ok (.ireturn, 1) := by decide +kernel
set_option maxRecDepth 20000 in
theorem ggX3_takeOperand_X3_closeMinuses : GoodIn wsX3_takeOperand wsX3_closeMinuses := goodIn_r _ [13, 14, 15, 16, 3, 4, 5, 6, 7, 8, 9, 17, 18, 19, 20, 21, 22, 23, 24, 25] rfl (by decide +kernel)
set_option maxRecDepth 20000 in
theorem gX3_takeOperand_X3_closeMinuses : GoodIn wsX3_takeOperand (wsV RX3 85 RX3 yX3_closeMinuses wsX3_closeMinuses) := goodIn_app (goodIn_of _ (by decide +kernel)) ggX3_takeOperand_X3_closeMinuses
set_option maxRecDepth 20000 in
theorem ggX3_takeOperand_X3_putCode : GoodIn wsX3_takeOperand wsX3_putCode := goodIn_r _ [7, 8, 9, 17, 18, 19, 20, 21, 22, 23, 24, 25] rfl (by decide +kernel)
set_option maxRecDepth 20000 in
theorem gX3_takeOperand_X3_putCode : GoodIn wsX3_takeOperand (wsV RX3 25 RX3 yX3_putCode wsX3_putCode) := goodIn_app (goodIn_of _ (by decide +kernel)) ggX3_takeOperand_X3_putCode
set_option maxHeartbeats 4000000 in
set_option maxRecDepth 100000 in
theorem S_X3_takeOperand_14 (l : Launch) (D : va_G) (K : Nat → ClassId) (a : Nat → Nat) (G : gS) (p0 : Int32) (s0 : Int) (e0 : p0.toInt = s0) (fi : xFi 14 31 G) (hI : xI G) (sz : Nat) : Ki l yX3_takeOperand wsX3_takeOperand 3 81 0 0 D [.ref (a 14), .int p0] (xW K a G) (tK K) sz (fun (r : Int32) (G' : gS) => (xI G') ∧ (gu_un xcd [1402, 1405, 1406, 1407, 1409, 2900] G G') ∧ (0 ≤ r.toInt ∧ r.toInt ≤ 4) ∧ (xFi 14 31 G')) (fun (G' : gS) => (xW K a G')) (fun _ => (tK K)) := by
  unfold Ki
  refine g_ofW (cc := cX3_takeOperand) (lv := [(0, .ref (a 14)), (1, .int p0)]) (by decide) rfl (Nat.le_of_ble_eq_true rfl) rfl ?_
  intro p e s m args below meth c A Q hA hQ F hr hnm
  have hts := F.2.2.2.2.1
  have w_0 : (Cond.fieldLink RX3 38 "QuietCut$Formula" "operands" "I").before args s = true := hts _ (List.mem_of_getElem? (i := 1) rfl)
  have i_X3 : ∀ w ∈ u_ws RX3 TX3 9, w ∈ wsX3_takeOperand := fun _ h => List.mem_cons_of_mem _ (List.mem_append_right _ h)
  have w_1 : (Cond.fieldLink RX3 47 "QuietCut$Formula" "wantsOperand" "Z").before args s = true := hts _ (List.mem_of_getElem? (i := 2) rfl)
  have rg0 : -2147483648 ≤ s0 ∧ s0 ≤ 2147483647 := e0 ▸ ti_rng p0
  obtain ⟨⟨t9, f1, f2⟩, f3⟩ := id fi
  have f4 := f1.le
  refine g_aload_n F 0 dX3_takeOperand_0 rfl rfl ?_
  refine xg_14_5 F i_X3 w_0 dX3_takeOperand_1 (G 14 5) (rfl) ?_
  refine g_bipush F 12 dX3_takeOperand_4 (by decide) ?_
  have b1 : (0 : Int) ≤ (G 14 5).toInt ∧ (G 14 5).toInt ≤ 12 := hI 14 5
  refine v_icmp_lt F 11 dX3_takeOperand_6 (by decide) (G 14 5).toInt 12 rfl rfl (fun c2 => ?_) (fun c2 => ?_)
  · refine g_aload_n F 0 dX3_takeOperand_11 rfl rfl ?_
    refine g_dup F dX3_takeOperand_12 rfl ?_
    refine xg_14_5 F i_X3 w_0 dX3_takeOperand_13 (G 14 5) (rfl) ?_
    refine g_iconst F 1 dX3_takeOperand_16 (by decide) ?_
    refine u_iadd F dX3_takeOperand_17 (G 14 5).toInt 1 rfl rfl (by omega) (by omega) (fun y3 ey3 => ?_)
    refine xp_14_5 F i_X3 w_0 dX3_takeOperand_18 ?_
    refine g_aload_n F 0 dX3_takeOperand_21 rfl rfl ?_
    refine g_iload_n F 1 dX3_takeOperand_22 rfl rfl ?_
    refine u_callVv (k := 0) (n := 0) (b := a 14) (As := [.int p0]) (st := []) F (fun sz => S_X3_putCode_14 l D K a (gu_up G 14 5 y3) p0 s0 e0 (gu_I.up (j := 14) (k := 5) (v := y3) hI (show (0 : Int) ≤ Int32.toInt y3 by omega) (show Int32.toInt y3 ≤ 12 by omega)) sz) (cwV 1 hts gX3_takeOperand_X3_putCode rfl rfl rfl (by decide +kernel) ⟨Nat.le_of_ble_eq_true rfl, Nat.le_of_ble_eq_true rfl⟩) rfl 14 xc_14 rfl (Nat.le_of_ble_eq_true rfl) ⟨Nat.zero_le _, Nat.zero_le _⟩ dX3_takeOperand_23 (fun G6 hw5 => ?_)
    have hI7 : xI G6 := hw5.1
    have hU8 : gu_un xcd [1402, 2900] (gu_up G 14 5 y3) G6 := hw5.2
    refine g_aload_n F 0 dX3_takeOperand_26 rfl rfl ?_
    refine u_callVv (k := 0) (n := 0) (b := a 14) (As := []) (st := []) F (fun sz => S_X3_closeMinuses_14 l D K a G6  (by obtain ⟨⟨t8, h1, -⟩, -⟩ := (show xFi 14 31 G6 from (xFi.un fi (show gu_un xcd [1402, 1406, 2900] G G6 from (gu_un.tr (gu_un.up (j := 14) (k := 5) (v := y3) gu_un.rf (show (1406 : Nat) ∈ ([1402, 1406, 2900] : List Nat) by decide)) (gu_un.su hU8 rfl))) rfl (fun _ => rfl))); exact ⟨t8, h1⟩) hI7 sz) (cwV 0 hts gX3_takeOperand_X3_closeMinuses rfl rfl rfl (by decide +kernel) ⟨Nat.le_of_ble_eq_true rfl, Nat.le_of_ble_eq_true rfl⟩) rfl 14 xc_14 rfl (Nat.le_of_ble_eq_true rfl) ⟨Nat.zero_le _, Nat.zero_le _⟩ dX3_takeOperand_27 (fun G12 hw11 => ?_)
    have hI13 : xI G12 := hw11.1
    have hU14 : gu_un xcd [1402, 1405, 1407, 2900] G6 G12 := hw11.2.1
    have hp15 := hw11.2.2
    have b16 : (0 : Int) ≤ (G12 14 4).toInt ∧ (G12 14 4).toInt ≤ 16 := hI13 14 4
    have q17 : (∃ t, xQ (G 31) (G12 14 4).toInt (G12 14 6).toInt (G 14 7).toInt t ∧ 0 ≤ t) := by have h9 := hp15.1; (try simp only [(show G6 14 7 = (G 14 7) from hU8 14 7 (by decide)), (show G6 31 = (G 31) from (show G6 31 = (gu_up G 14 5 y3) 31 from funext fun k_ => hU8 31 k_ (show (3100 : Nat) ∉ ([1402, 2900] : List Nat) by decide)))] at h9); first | exact h9 | omega
    have q18 : ((G12 14 6).toInt ≤ (G 14 6).toInt) := by have h9 := hp15.2; (try simp only [(show G6 14 6 = (G 14 6) from hU8 14 6 (by decide))] at h9); first | exact h9 | omega
    refine g_aload_n F 0 dX3_takeOperand_30 rfl rfl ?_
    refine g_iconst F 0 dX3_takeOperand_31 (by decide) ?_
    refine xp_14_8 F i_X3 w_1 dX3_takeOperand_32 (by decide) ?_
    refine g_iconst F 0 dX3_takeOperand_35 (by decide) ?_
    exact u_iret F hA hQ hr (gu_up G12 14 8 0) (⟨(gu_I.up (j := 14) (k := 8) (v := 0) hI13 (show (0 : Int) ≤ (0 : Int32).toInt by decide) (show (0 : Int32).toInt ≤ 1 by decide)), (gu_un.up (j := 14) (k := 8) (v := 0) (gu_un.tr (gu_un.tr (gu_un.up (j := 14) (k := 5) (v := y3) gu_un.rf (show (1406 : Nat) ∈ ([1402, 1405, 1406, 1407, 1409, 2900] : List Nat) by decide)) (gu_un.su hU8 rfl)) (gu_un.su hU14 rfl)) (show (1409 : Nat) ∈ ([1402, 1405, 1406, 1407, 1409, 2900] : List Nat) by decide)), (by decide), (xFi.mk (w := 0) (by obtain ⟨t8, h1, h2⟩ := q17; exact ⟨t8, h1, fun _ => h2⟩) (by omega) (show (gu_up G12 14 8 0) 31 = _ from (show G12 31 = G6 31 from funext fun k_ => hU14 31 k_ (show (3100 : Nat) ∉ ([1402, 1405, 1407, 2900] : List Nat) by decide)).trans ((show G6 31 = (gu_up G 14 5 y3) 31 from funext fun k_ => hU8 31 k_ (show (3100 : Nat) ∉ ([1402, 2900] : List Nat) by decide)))) (show ((gu_up G12 14 8 0) 14 4).toInt = _ by rw [show (gu_up G12 14 8 0) 14 4 = (G12 14 4) from rfl]) (show ((gu_up G12 14 8 0) 14 6).toInt = _ by rw [show (gu_up G12 14 8 0) 14 6 = (G12 14 6) from rfl]) (show ((gu_up G12 14 8 0) 14 7).toInt = _ by rw [show (gu_up G12 14 8 0) 14 7 = (G 14 7) from (hU14 14 7 (by decide)).trans (hU8 14 7 (by decide))]) (show ((gu_up G12 14 8 0) 14 8).toInt = _ by rw [show (gu_up G12 14 8 0) 14 8 = 0 from rfl] <;> (first | rfl | omega)))⟩) rfl rfl dX3_takeOperand_36
  · refine g_iconst F 4 dX3_takeOperand_9 (by decide) ?_
    exact u_iret F hA hQ hr G (⟨hI, gu_un.rf, (by decide), (fi)⟩) rfl rfl dX3_takeOperand_10

theorem dX3_takeOpening_0 : decode cX3_takeOpening 0 = .ok (.aload_n 0, 1) := by decide +kernel
theorem dX3_takeOpening_1 : decode cX3_takeOpening 1 = .ok (.getfield 41, 3) := by decide +kernel
theorem dX3_takeOpening_4 : decode cX3_takeOpening 4 = .ok (.iconst 4, 1) := by decide +kernel
theorem dX3_takeOpening_5 : decode cX3_takeOpening 5 = .ok (.if_icmp .lt 5, 3) := by decide +kernel
theorem dX3_takeOpening_8 : decode cX3_takeOpening 8 = .ok (.iconst 4, 1) := by decide +kernel
theorem dX3_takeOpening_9 : decode cX3_takeOpening 9 = .ok (.ireturn, 1) := by decide +kernel
theorem dX3_takeOpening_10 : decode cX3_takeOpening 10 = .ok (.aload_n 0, 1) := by decide +kernel
theorem dX3_takeOpening_11 : decode cX3_takeOpening 11 = .ok (.dup, 1) := by decide +kernel
theorem dX3_takeOpening_12 : decode cX3_takeOpening 12 = .ok (.getfield 41, 3) := by decide +kernel
theorem dX3_takeOpening_15 : decode cX3_takeOpening 15 = .ok (.iconst 1, 1) := by decide +kernel
theorem dX3_takeOpening_16 : decode cX3_takeOpening 16 = .ok (.iadd, 1) := by decide +kernel
theorem dX3_takeOpening_17 : decode cX3_takeOpening 17 = .ok (.putfield 41, 3) := by decide +kernel
theorem dX3_takeOpening_20 : decode cX3_takeOpening 20 = .ok (.iload_n 1, 1) := by decide +kernel
theorem dX3_takeOpening_21 : decode cX3_takeOpening 21 = .ok (.bipush 40, 2) := by decide +kernel
theorem dX3_takeOpening_23 : decode cX3_takeOpening 23 = .ok (.if_icmp .ne 13, 3) := by decide +kernel
theorem dX3_takeOpening_26 : decode cX3_takeOpening 26 = .ok (.aload_n 0, 1) := by decide +kernel
theorem dX3_takeOpening_27 : decode cX3_takeOpening 27 = .ok (.dup, 1) := by decide +kernel
theorem dX3_takeOpening_28 : decode cX3_takeOpening 28 = .ok (.getfield 44, 3) := by decide +kernel
theorem dX3_takeOpening_31 : decode cX3_takeOpening 31 = .ok (.iconst 1, 1) := by decide +kernel
theorem dX3_takeOpening_32 : decode cX3_takeOpening 32 = .ok (.iadd, 1) := by decide +kernel
theorem dX3_takeOpening_33 : decode cX3_takeOpening 33 = .ok (.putfield 44, 3) := by decide +kernel
theorem dX3_takeOpening_36 : decode cX3_takeOpening 36 = .ok (.aload_n 0, 1) := by decide +kernel
theorem dX3_takeOpening_37 : decode cX3_takeOpening 37 = .ok (.iload_n 1, 1) := by decide +kernel
theorem dX3_takeOpening_38 : decode cX3_takeOpening 38 = .ok (.invokevirtual 82, 3) := by decide +kernel
theorem dX3_takeOpening_41 : decode cX3_takeOpening 41 = .ok (.iconst 0, 1) := by decide +kernel
theorem dX3_takeOpening_42 : decode cX3_takeOpening 42 = .ok (.ireturn, 1) := by decide +kernel
set_option maxRecDepth 20000 in
theorem ggX3_takeOpening_X3_putWaiting : GoodIn wsX3_takeOpening wsX3_putWaiting := goodIn_r _ [7, 8, 9, 10, 11, 12, 13, 14, 15, 16, 17, 18] rfl (by decide +kernel)
set_option maxRecDepth 20000 in
theorem gX3_takeOpening_X3_putWaiting : GoodIn wsX3_takeOpening (wsV RX3 82 RX3 yX3_putWaiting wsX3_putWaiting) := goodIn_app (goodIn_of _ (by decide +kernel)) ggX3_takeOpening_X3_putWaiting
set_option maxHeartbeats 4000000 in
set_option maxRecDepth 100000 in
theorem S_X3_takeOpening_14_v40 (l : Launch) (D : va_G) (K : Nat → ClassId) (a : Nat → Nat) (G : gS) (fi : xFi 14 31 G) (wo : ((G 14 8).toInt ≠ 0)) (hI : xI G) (sz : Nat) : Ki l yX3_takeOpening wsX3_takeOpening 2 61 0 0 D [.ref (a 14), .int 40] (xW K a G) (tK K) sz (fun (r : Int32) (G' : gS) => (xI G') ∧ (gu_un xcd [1405, 1407, 1408, 3100] G G') ∧ (0 ≤ r.toInt ∧ r.toInt ≤ 4) ∧ (xFi 14 31 G')) (fun (G' : gS) => (xW K a G')) (fun _ => (tK K)) := by
  unfold Ki
  refine g_ofW (cc := cX3_takeOpening) (lv := [(0, .ref (a 14)), (1, .int 40)]) (by decide) rfl (Nat.le_of_ble_eq_true rfl) rfl ?_
  intro p e s m args below meth c A Q hA hQ F hr hnm
  have hts := F.2.2.2.2.1
  have w_0 : (Cond.fieldLink RX3 41 "QuietCut$Formula" "open" "I").before args s = true := hts _ (List.mem_of_getElem? (i := 1) rfl)
  have i_X3 : ∀ w ∈ u_ws RX3 TX3 9, w ∈ wsX3_takeOpening := fun _ h => List.mem_cons_of_mem _ (List.mem_append_right _ h)
  have w_1 : (Cond.fieldLink RX3 44 "QuietCut$Formula" "parentheses" "I").before args s = true := hts _ (List.mem_of_getElem? (i := 2) rfl)
  obtain ⟨⟨t9, f1, f2⟩, f3⟩ := id fi
  have f4 := f1.le
  refine g_aload_n F 0 dX3_takeOpening_0 rfl rfl ?_
  refine xg_14_6 F i_X3 w_0 dX3_takeOpening_1 (G 14 6) (rfl) ?_
  refine g_iconst F 4 dX3_takeOpening_4 (by decide) ?_
  refine v_icmp_lt F 10 dX3_takeOpening_5 (by decide) (G 14 6).toInt 4 rfl rfl (fun c1 => ?_) (fun c1 => ?_)
  · refine g_aload_n F 0 dX3_takeOpening_10 rfl rfl ?_
    refine g_dup F dX3_takeOpening_11 rfl ?_
    refine xg_14_6 F i_X3 w_0 dX3_takeOpening_12 (G 14 6) (rfl) ?_
    refine g_iconst F 1 dX3_takeOpening_15 (by decide) ?_
    have b3 := ti_rng (G 14 6)
    refine u_iadd F dX3_takeOpening_16 (G 14 6).toInt 1 rfl rfl (by omega) (by omega) (fun y2 ey2 => ?_)
    refine xp_14_6 F i_X3 w_0 dX3_takeOpening_17 ?_
    refine g_iload_n F 1 dX3_takeOpening_20 rfl rfl ?_
    refine g_bipush F 40 dX3_takeOpening_21 (by decide) ?_
    refine v_icmp_ne F 36 dX3_takeOpening_23 (by decide) 40 40 rfl rfl (fun c4 => absurd c4 (by decide)) (fun c4 => ?_)
    refine g_aload_n F 0 dX3_takeOpening_26 rfl rfl ?_
    refine g_dup F dX3_takeOpening_27 rfl ?_
    refine xg_14_7 F i_X3 w_1 dX3_takeOpening_28 (G 14 7) (rfl) ?_
    refine g_iconst F 1 dX3_takeOpening_31 (by decide) ?_
    refine u_iaddc F dX3_takeOpening_32 (G 14 7).toInt 1 rfl rfl (fun y5 ey5 => ?_)
    refine xp_14_7 F i_X3 w_1 dX3_takeOpening_33 ?_
    refine g_aload_n F 0 dX3_takeOpening_36 rfl rfl ?_
    refine g_iload_n F 1 dX3_takeOpening_37 rfl rfl ?_
    refine u_callVv (k := 0) (n := 0) (b := a 14) (As := [.int 40]) (st := []) F (fun sz => S_X3_putWaiting_14 l D K a (gu_up (gu_up G 14 6 y2) 14 7 y5) 40 40 rfl (gu_I.up (j := 14) (k := 7) (v := y5) (gu_I.up (j := 14) (k := 6) (v := y2) hI (ti_rng _).1 (ti_rng _).2) (ti_rng _).1 (ti_rng _).2) sz) (cwV 1 hts gX3_takeOpening_X3_putWaiting rfl rfl rfl (by decide +kernel) ⟨Nat.le_of_ble_eq_true rfl, Nat.le_of_ble_eq_true rfl⟩) rfl 14 xc_14 rfl (Nat.le_of_ble_eq_true rfl) ⟨Nat.zero_le _, Nat.zero_le _⟩ dX3_takeOpening_38 (fun G8 hw7 => ?_)
    have hI9 : xI G8 := hw7.1
    have hU10 : gu_un xcd [1405, 3100] (gu_up (gu_up G 14 6 y2) 14 7 y5) G8 := hw7.2.1
    have hp11 := hw7.2.2
    have b12 : (0 : Int) ≤ (G 14 4).toInt ∧ (G 14 4).toInt ≤ 16 := hI 14 4
    have b13 : (0 : Int) ≤ (G8 14 4).toInt ∧ (G8 14 4).toInt ≤ 16 := hI9 14 4
    have q14 : ((G 14 4).toInt ≤ 15 → (G8 31 = upd (G 31) ((G 14 4).toInt).toNat 40 ∧ (G8 14 4).toInt = (G 14 4).toInt + 1)) := hp11
    refine g_iconst F 0 dX3_takeOpening_41 (by decide) ?_
    exact u_iret F hA hQ hr G8 (⟨hI9, (gu_un.tr (gu_un.up (j := 14) (k := 7) (v := y5) (gu_un.up (j := 14) (k := 6) (v := y2) gu_un.rf (show (1407 : Nat) ∈ ([1405, 1407, 1408, 3100] : List Nat) by decide)) (show (1408 : Nat) ∈ ([1405, 1407, 1408, 3100] : List Nat) by decide)) (gu_un.su hU10 rfl)), (by decide), (xFi.mk (w := (G 14 8).toInt) (by exact ⟨0, f1.push.1 rfl, fun _ => by omega⟩) (by omega) (show G8 31 = _ from (q14 (by omega)).1) (show (G8 14 4).toInt = _ by rw [show G8 14 4 = (G8 14 4) from rfl] <;> (exact (q14 (by omega)).2)) (show (G8 14 6).toInt = _ by rw [show G8 14 6 = y2 from hU10 14 6 (by decide)] <;> (omega)) (show (G8 14 7).toInt = _ by rw [show G8 14 7 = y5 from hU10 14 7 (by decide)] <;> (first | rfl | omega)) (show (G8 14 8).toInt = _ by rw [show G8 14 8 = (G 14 8) from hU10 14 8 (by decide)]))⟩) rfl rfl dX3_takeOpening_42
  · refine g_iconst F 4 dX3_takeOpening_8 (by decide) ?_
    exact u_iret F hA hQ hr G (⟨hI, gu_un.rf, (by decide), (fi)⟩) rfl rfl dX3_takeOpening_9


set_option maxHeartbeats 4000000 in
set_option maxRecDepth 100000 in
theorem S_X3_takeOpening_14_m3 (l : Launch) (D : va_G) (K : Nat → ClassId) (a : Nat → Nat) (G : gS) (fi : xFi 14 31 G) (wo : ((G 14 8).toInt ≠ 0)) (hI : xI G) (sz : Nat) : Ki l yX3_takeOpening wsX3_takeOpening 2 61 0 0 D [.ref (a 14), .int (-3)] (xW K a G) (tK K) sz (fun (r : Int32) (G' : gS) => (xI G') ∧ (gu_un xcd [1405, 1407, 3100] G G') ∧ (0 ≤ r.toInt ∧ r.toInt ≤ 4) ∧ (xFi 14 31 G')) (fun (G' : gS) => (xW K a G')) (fun _ => (tK K)) := by
  unfold Ki
  refine g_ofW (cc := cX3_takeOpening) (lv := [(0, .ref (a 14)), (1, .int (-3))]) (by decide) rfl (Nat.le_of_ble_eq_true rfl) rfl ?_
  intro p e s m args below meth c A Q hA hQ F hr hnm
  have hts := F.2.2.2.2.1
  have w_0 : (Cond.fieldLink RX3 41 "QuietCut$Formula" "open" "I").before args s = true := hts _ (List.mem_of_getElem? (i := 1) rfl)
  have i_X3 : ∀ w ∈ u_ws RX3 TX3 9, w ∈ wsX3_takeOpening := fun _ h => List.mem_cons_of_mem _ (List.mem_append_right _ h)
  obtain ⟨⟨t9, f1, f2⟩, f3⟩ := id fi
  have f4 := f1.le
  refine g_aload_n F 0 dX3_takeOpening_0 rfl rfl ?_
  refine xg_14_6 F i_X3 w_0 dX3_takeOpening_1 (G 14 6) (rfl) ?_
  refine g_iconst F 4 dX3_takeOpening_4 (by decide) ?_
  refine v_icmp_lt F 10 dX3_takeOpening_5 (by decide) (G 14 6).toInt 4 rfl rfl (fun c1 => ?_) (fun c1 => ?_)
  · refine g_aload_n F 0 dX3_takeOpening_10 rfl rfl ?_
    refine g_dup F dX3_takeOpening_11 rfl ?_
    refine xg_14_6 F i_X3 w_0 dX3_takeOpening_12 (G 14 6) (rfl) ?_
    refine g_iconst F 1 dX3_takeOpening_15 (by decide) ?_
    have b3 := ti_rng (G 14 6)
    refine u_iadd F dX3_takeOpening_16 (G 14 6).toInt 1 rfl rfl (by omega) (by omega) (fun y2 ey2 => ?_)
    refine xp_14_6 F i_X3 w_0 dX3_takeOpening_17 ?_
    refine g_iload_n F 1 dX3_takeOpening_20 rfl rfl ?_
    refine g_bipush F 40 dX3_takeOpening_21 (by decide) ?_
    refine v_icmp_ne F 36 dX3_takeOpening_23 (by decide) (-3) 40 rfl rfl (fun c4 => ?_) (fun c4 => absurd c4 (by decide))
    refine g_aload_n F 0 dX3_takeOpening_36 rfl rfl ?_
    refine g_iload_n F 1 dX3_takeOpening_37 rfl rfl ?_
    refine u_callVv (k := 0) (n := 0) (b := a 14) (As := [.int (-3)]) (st := []) F (fun sz => S_X3_putWaiting_14 l D K a (gu_up G 14 6 y2) (-3) (-3) rfl (gu_I.up (j := 14) (k := 6) (v := y2) hI (ti_rng _).1 (ti_rng _).2) sz) (cwV 1 hts gX3_takeOpening_X3_putWaiting rfl rfl rfl (by decide +kernel) ⟨Nat.le_of_ble_eq_true rfl, Nat.le_of_ble_eq_true rfl⟩) rfl 14 xc_14 rfl (Nat.le_of_ble_eq_true rfl) ⟨Nat.zero_le _, Nat.zero_le _⟩ dX3_takeOpening_38 (fun G7 hw6 => ?_)
    have hI8 : xI G7 := hw6.1
    have hU9 : gu_un xcd [1405, 3100] (gu_up G 14 6 y2) G7 := hw6.2.1
    have hp10 := hw6.2.2
    have b11 : (0 : Int) ≤ (G 14 4).toInt ∧ (G 14 4).toInt ≤ 16 := hI 14 4
    have b12 : (0 : Int) ≤ (G7 14 4).toInt ∧ (G7 14 4).toInt ≤ 16 := hI8 14 4
    have q13 : ((G 14 4).toInt ≤ 15 → (G7 31 = upd (G 31) ((G 14 4).toInt).toNat (-3) ∧ (G7 14 4).toInt = (G 14 4).toInt + 1)) := hp10
    refine g_iconst F 0 dX3_takeOpening_41 (by decide) ?_
    exact u_iret F hA hQ hr G7 (⟨hI8, (gu_un.tr (gu_un.up (j := 14) (k := 6) (v := y2) gu_un.rf (show (1407 : Nat) ∈ ([1405, 1407, 3100] : List Nat) by decide)) (gu_un.su hU9 rfl)), (by decide), (xFi.mk (w := (G 14 8).toInt) (by exact ⟨-1, f1.push.2.1 rfl, fun h => absurd h wo⟩) (by omega) (show G7 31 = _ from (q13 (by omega)).1) (show (G7 14 4).toInt = _ by rw [show G7 14 4 = (G7 14 4) from rfl] <;> (exact (q13 (by omega)).2)) (show (G7 14 6).toInt = _ by rw [show G7 14 6 = y2 from hU9 14 6 (by decide)] <;> (omega)) (show (G7 14 7).toInt = _ by rw [show G7 14 7 = (G 14 7) from hU9 14 7 (by decide)] <;> (first | rfl | omega)) (show (G7 14 8).toInt = _ by rw [show G7 14 8 = (G 14 8) from hU9 14 8 (by decide)]))⟩) rfl rfl dX3_takeOpening_42
  · refine g_iconst F 4 dX3_takeOpening_8 (by decide) ?_
    exact u_iret F hA hQ hr G (⟨hI, gu_un.rf, (by decide), (fi)⟩) rfl rfl dX3_takeOpening_9

theorem dX3_takeBehindOperand_0 : decode cX3_takeBehindOperand 0 = .ok (.aload_n 1, 1) := by decide +kernel
theorem dX3_takeBehindOperand_1 : decode cX3_takeBehindOperand 1 = .ok (.bipush 41, 2) := by decide +kernel
theorem dX3_takeBehindOperand_3 : decode cX3_takeBehindOperand 3 = .ok (.invokevirtual 58, 3) := by decide +kernel
theorem dX3_takeBehindOperand_6 : decode cX3_takeBehindOperand 6 = .ok (.ifCond .eq 51, 3) := by decide +kernel
theorem dX3_takeBehindOperand_9 : decode cX3_takeBehindOperand 9 = .ok (.aload_n 0, 1) := by decide +kernel
theorem dX3_takeBehindOperand_10 : decode cX3_takeBehindOperand 10 = .ok (.getfield 44, 3) := by decide +kernel
theorem dX3_takeBehindOperand_13 : decode cX3_takeBehindOperand 13 = .ok (.ifCond .le 44, 3) := by decide +kernel
theorem dX3_takeBehindOperand_16 : decode cX3_takeBehindOperand 16 = .ok (.aload_n 0, 1) := by decide +kernel
theorem dX3_takeBehindOperand_17 : decode cX3_takeBehindOperand 17 = .ok (.iconst 1, 1) := by decide +kernel
theorem dX3_takeBehindOperand_18 : decode cX3_takeBehindOperand 18 = .ok (.invokevirtual 51, 3) := by decide +kernel
theorem dX3_takeBehindOperand_21 : decode cX3_takeBehindOperand 21 = .ok (.aload_n 0, 1) := by decide +kernel
theorem dX3_takeBehindOperand_22 : decode cX3_takeBehindOperand 22 = .ok (.dup, 1) := by decide +kernel
theorem dX3_takeBehindOperand_23 : decode cX3_takeBehindOperand 23 = .ok (.getfield 35, 3) := by decide +kernel
theorem dX3_takeBehindOperand_26 : decode cX3_takeBehindOperand 26 = .ok (.iconst 1, 1) := by decide +kernel
theorem dX3_takeBehindOperand_27 : decode cX3_takeBehindOperand 27 = .ok (.isub, 1) := by decide +kernel
theorem dX3_takeBehindOperand_28 : decode cX3_takeBehindOperand 28 = .ok (.putfield 35, 3) := by decide +kernel
theorem dX3_takeBehindOperand_31 : decode cX3_takeBehindOperand 31 = .ok (.aload_n 0, 1) := by decide +kernel
theorem dX3_takeBehindOperand_32 : decode cX3_takeBehindOperand 32 = .ok (.dup, 1) := by decide +kernel
theorem dX3_takeBehindOperand_33 : decode cX3_takeBehindOperand 33 = .ok (.getfield 44, 3) := by decide +kernel
theorem dX3_takeBehindOperand_36 : decode cX3_takeBehindOperand 36 = .ok (.iconst 1, 1) := by decide +kernel
theorem dX3_takeBehindOperand_37 : decode cX3_takeBehindOperand 37 = .ok (.isub, 1) := by decide +kernel
theorem dX3_takeBehindOperand_38 : decode cX3_takeBehindOperand 38 = .ok (.putfield 44, 3) := by decide +kernel
theorem dX3_takeBehindOperand_41 : decode cX3_takeBehindOperand 41 = .ok (.aload_n 0, 1) := by decide +kernel
theorem dX3_takeBehindOperand_42 : decode cX3_takeBehindOperand 42 = .ok (.dup, 1) := by decide +kernel
theorem dX3_takeBehindOperand_43 : decode cX3_takeBehindOperand 43 = .ok (.getfield 41, 3) := by decide +kernel
theorem dX3_takeBehindOperand_46 : decode cX3_takeBehindOperand 46 = .ok (.iconst 1, 1) := by decide +kernel
theorem dX3_takeBehindOperand_47 : decode cX3_takeBehindOperand 47 = .ok (.isub, 1) := by decide +kernel
theorem dX3_takeBehindOperand_48 : decode cX3_takeBehindOperand 48 = .ok (.putfield 41, 3) := by decide +kernel
theorem dX3_takeBehindOperand_51 : decode cX3_takeBehindOperand 51 = .ok (.aload_n 0, 1) := by decide +kernel
theorem dX3_takeBehindOperand_52 : decode cX3_takeBehindOperand 52 = .ok (.invokevirtual 85, 3) := by decide +kernel
theorem dX3_takeBehindOperand_55 : decode cX3_takeBehindOperand 55 = .ok (.iconst 0, 1) := by decide +kernel
theorem dX3_takeBehindOperand_56 : decode cX3_takeBehindOperand 56 = .ok (.ireturn, 1) := by decide +kernel
theorem dX3_takeBehindOperand_57 : decode cX3_takeBehindOperand 57 = .ok (.aload_n 1, 1) := by decide +kernel
theorem dX3_takeBehindOperand_58 : decode cX3_takeBehindOperand 58 = .ok (.getfield 68, 3) := by decide +kernel
theorem dX3_takeBehindOperand_61 : decode cX3_takeBehindOperand 61 = .ok (.iconst 3, 1) := by decide +kernel
theorem dX3_takeBehindOperand_62 : decode cX3_takeBehindOperand 62 = .ok (.if_icmp .ne 13, 3) := by decide +kernel
theorem dX3_takeBehindOperand_65 : decode cX3_takeBehindOperand 65 = .ok (.aload_n 1, 1) := by decide +kernel
theorem dX3_takeBehindOperand_66 : decode cX3_takeBehindOperand 66 = .ok (.getfield 71, 3) := by decide +kernel
theorem dX3_takeBehindOperand_69 : decode cX3_takeBehindOperand 69 = .ok (.invokestatic 88, 3) := by decide +kernel
theorem dX3_takeBehindOperand_72 : decode cX3_takeBehindOperand 72 = .ok (.goto 4, 3) := by decide +kernel
theorem dX3_takeBehindOperand_75 : decode cX3_takeBehindOperand 75 = .ok (.iconst 0, 1) := by decide +kernel
theorem dX3_takeBehindOperand_76 : decode cX3_takeBehindOperand 76 = .ok (.istore_n 2, 1) := by decide +kernel
theorem dX3_takeBehindOperand_77 : decode cX3_takeBehindOperand 77 = .ok (.iload_n 2, 1) := by decide +kernel
theorem dX3_takeBehindOperand_78 : decode cX3_takeBehindOperand 78 = .ok (.ifCond .ne 5, 3) := by decide +kernel
theorem dX3_takeBehindOperand_81 : decode cX3_takeBehindOperand 81 = .ok (.iconst 1, 1) := by decide +kernel
theorem dX3_takeBehindOperand_82 : decode cX3_takeBehindOperand 82 = .ok (.ireturn, 1) := by decide +kernel
theorem dX3_takeBehindOperand_83 : decode cX3_takeBehindOperand 83 = .ok (.aload_n 0, 1) := by decide +kernel
theorem dX3_takeBehindOperand_84 : decode cX3_takeBehindOperand 84 = .ok (.iload_n 2, 1) := by decide +kernel
theorem dX3_takeBehindOperand_85 : decode cX3_takeBehindOperand 85 = .ok (.invokevirtual 51, 3) := by decide +kernel
theorem dX3_takeBehindOperand_88 : decode cX3_takeBehindOperand 88 = .ok (.aload_n 0, 1) := by decide +kernel
theorem dX3_takeBehindOperand_89 : decode cX3_takeBehindOperand 89 = .ok (.aload_n 1, 1) := by decide +kernel
theorem dX3_takeBehindOperand_90 : decode cX3_takeBehindOperand 90 = .ok (.getfield 71, 3) := by decide +kernel
theorem dX3_takeBehindOperand_93 : decode cX3_takeBehindOperand 93 = .ok (.invokevirtual 82, 3) := by decide +kernel
theorem dX3_takeBehindOperand_96 : decode cX3_takeBehindOperand 96 = .ok (.aload_n 0, 1) := by decide +kernel
theorem dX3_takeBehindOperand_97 : decode cX3_takeBehindOperand 97 = .ok (.iconst 1, 1) := by decide +kernel
theorem dX3_takeBehindOperand_98 : decode cX3_takeBehindOperand 98 = .ok (.putfield 47, 3) := by decide +kernel
theorem dX3_takeBehindOperand_101 : decode cX3_takeBehindOperand 101 = .ok (.iconst 0, 1) := by decide +kernel
theorem dX3_takeBehindOperand_102 : decode cX3_takeBehindOperand 102 = .ok (.ireturn, 1) := by decide +kernel
set_option maxRecDepth 20000 in
theorem ggX3_takeBehindOperand_X10_isSign : GoodIn wsX3_takeBehindOperand wsX10_isSign := goodIn_r _ [11, 12, 13, 49, 50, 51, 52, 53, 54] rfl (by decide +kernel)
set_option maxRecDepth 20000 in
theorem gX3_takeBehindOperand_X10_isSign : GoodIn wsX3_takeBehindOperand (wsV RX3 58 RX10 yX10_isSign wsX10_isSign) := goodIn_app (goodIn_of _ (by decide +kernel)) ggX3_takeBehindOperand_X10_isSign
set_option maxRecDepth 20000 in
theorem ggX3_takeBehindOperand_X3_closeMinuses : GoodIn wsX3_takeBehindOperand wsX3_closeMinuses := goodIn_r _ [35, 2, 19, 3, 26, 27, 28, 17, 29, 30, 31, 40, 41, 42, 43, 44, 45, 46, 47, 48] rfl (by decide +kernel)
set_option maxRecDepth 20000 in
theorem gX3_takeBehindOperand_X3_closeMinuses : GoodIn wsX3_takeBehindOperand (wsV RX3 85 RX3 yX3_closeMinuses wsX3_closeMinuses) := goodIn_app (goodIn_of _ (by decide +kernel)) ggX3_takeBehindOperand_X3_closeMinuses
set_option maxRecDepth 20000 in
theorem ggX3_takeBehindOperand_X3_joinDownTo : GoodIn wsX3_takeBehindOperand wsX3_joinDownTo := goodIn_r _ [18, 2, 19, 20, 21, 17, 22, 23, 24, 25, 26, 27, 28, 29, 30, 31, 40, 41, 42, 43, 44, 45, 46, 47, 48] rfl (by decide +kernel)
set_option maxRecDepth 20000 in
theorem gX3_takeBehindOperand_X3_joinDownTo : GoodIn wsX3_takeBehindOperand (wsV RX3 51 RX3 yX3_joinDownTo wsX3_joinDownTo) := goodIn_app (goodIn_of _ (by decide +kernel)) ggX3_takeBehindOperand_X3_joinDownTo
set_option maxRecDepth 20000 in
theorem ggX3_takeBehindOperand_X3_putWaiting : GoodIn wsX3_takeBehindOperand wsX3_putWaiting := goodIn_r _ [39, 2, 19, 40, 41, 42, 43, 44, 45, 46, 47, 48] rfl (by decide +kernel)
set_option maxRecDepth 20000 in
theorem gX3_takeBehindOperand_X3_putWaiting : GoodIn wsX3_takeBehindOperand (wsV RX3 82 RX3 yX3_putWaiting wsX3_putWaiting) := goodIn_app (goodIn_of _ (by decide +kernel)) ggX3_takeBehindOperand_X3_putWaiting
set_option maxRecDepth 20000 in
theorem ggX3_takeBehindOperand_X3_strengthOf : GoodIn wsX3_takeBehindOperand wsX3_strengthOf := goodIn_r _ [22] rfl (by decide +kernel)
set_option maxRecDepth 20000 in
theorem gX3_takeBehindOperand_X3_strengthOf : GoodIn wsX3_takeBehindOperand (va_wsS RX3 88 yX3_strengthOf wsX3_strengthOf) := goodIn_app (goodIn_of _ (by decide +kernel)) ggX3_takeBehindOperand_X3_strengthOf
set_option maxHeartbeats 4000000 in
set_option maxRecDepth 100000 in
theorem S_X3_takeBehindOperand_14_1 (l : Launch) (D : va_G) (K : Nat → ClassId) (a : Nat → Nat) (G : gS) (fi : xFi 14 31 G) (wo : ((G 14 8).toInt = 0)) (hI : xI G) (sz : Nat) : Ki l yX3_takeBehindOperand wsX3_takeBehindOperand 3 82 0 0 D [.ref (a 14), .ref (a 1)] (xW K a G) (tK K) sz (fun (r : Int32) (G' : gS) => (xI G') ∧ (gu_un xcd [1402, 1405, 1407, 1408, 1409, 2900, 3100] G G') ∧ (0 ≤ r.toInt ∧ r.toInt ≤ 1) ∧ (xFi 14 31 G')) (fun (G' : gS) => (xW K a G')) (fun _ => (tK K)) := by
  unfold Ki
  refine g_ofW (cc := cX3_takeBehindOperand) (lv := [(0, .ref (a 14)), (1, .ref (a 1))]) (by decide) rfl (Nat.le_of_ble_eq_true rfl) rfl ?_
  intro p e s m args below meth c A Q hA hQ F hr hnm
  have hts := F.2.2.2.2.1
  have w_0 : (Cond.fieldLink RX3 68 "QuietCut$Tape" "kind" "I").before args s = true := hts _ (List.mem_of_getElem? (i := 4) rfl)
  have i_X10 : ∀ w ∈ u_ws RX10 TX10 6, w ∈ wsX3_takeBehindOperand := fun _ h => List.mem_cons_of_mem _ (List.mem_append_right _ h)
  have w_1 : (Cond.fieldLink RX3 71 "QuietCut$Tape" "value" "I").before args s = true := hts _ (List.mem_of_getElem? (i := 5) rfl)
  have w_2 : (Cond.fieldLink RX3 47 "QuietCut$Formula" "wantsOperand" "Z").before args s = true := hts _ (List.mem_of_getElem? (i := 6) rfl)
  have i_X3 : ∀ w ∈ u_ws RX3 TX3 9, w ∈ wsX3_takeBehindOperand := fun _ h => List.mem_cons_of_mem _ (List.mem_append_left _ (List.mem_append_right _ h))
  have w_3 : (Cond.fieldLink RX3 44 "QuietCut$Formula" "parentheses" "I").before args s = true := hts _ (List.mem_of_getElem? (i := 1) rfl)
  have w_4 : (Cond.fieldLink RX3 35 "QuietCut$Formula" "waits" "I").before args s = true := hts _ (List.mem_of_getElem? (i := 2) rfl)
  have w_5 : (Cond.fieldLink RX3 41 "QuietCut$Formula" "open" "I").before args s = true := hts _ (List.mem_of_getElem? (i := 3) rfl)
  obtain ⟨⟨t9, f1, f2⟩, f3⟩ := id fi
  have f4 := f1.le
  refine g_aload_n F 1 dX3_takeBehindOperand_0 rfl rfl ?_
  refine g_bipush F 41 dX3_takeBehindOperand_1 (by decide) ?_
  refine u_callVi (k := 0) (n := 0) (b := a 1) (As := [.int 41]) (st := []) F (fun sz => S_X10_isSign l D K a G 41 41 rfl hI sz) (cwV 1 hts gX3_takeBehindOperand_X10_isSign rfl rfl rfl (by decide +kernel) ⟨Nat.le_of_ble_eq_true rfl, Nat.le_of_ble_eq_true rfl⟩) rfl 1 xc_1 rfl (Nat.le_of_ble_eq_true rfl) ⟨Nat.zero_le _, Nat.zero_le _⟩ dX3_takeBehindOperand_3 (fun r1 _ hw2 => ?_)
  refine v_if_eq F 57 dX3_takeBehindOperand_6 (by decide) r1.toInt rfl (fun c4 => ?_) (fun c4 => ?_)
  · refine g_aload_n F 1 dX3_takeBehindOperand_57 rfl rfl ?_
    refine xg_1_3 F i_X10 w_0 dX3_takeBehindOperand_58 (G 1 3) (rfl) ?_
    refine g_iconst F 3 dX3_takeBehindOperand_61 (by decide) ?_
    have b5 : (0 : Int) ≤ (G 1 3).toInt ∧ (G 1 3).toInt ≤ 4 := hI 1 3
    refine v_icmp_ne F 75 dX3_takeBehindOperand_62 (by decide) (G 1 3).toInt 3 rfl rfl (fun c6 => ?_) (fun c6 => ?_)
    · refine g_iconst F 0 dX3_takeBehindOperand_75 (by decide) ?_
      refine g_istore_n F [(2, .int 0), (0, .ref (a 14)), (1, .ref (a 1))] dX3_takeBehindOperand_76 rfl (by decide) rfl ?_
      refine g_iload_n F 0 dX3_takeBehindOperand_77 rfl rfl ?_
      refine v_if_ne F 83 dX3_takeBehindOperand_78 (by decide) 0 rfl (fun c7 => absurd c7 (by decide)) (fun c7 => ?_)
      refine g_iconst F 1 dX3_takeBehindOperand_81 (by decide) ?_
      exact u_iret F hA hQ hr G (⟨hI, gu_un.rf, (by decide), (fi)⟩) rfl rfl dX3_takeBehindOperand_82
    · refine g_aload_n F 1 dX3_takeBehindOperand_65 rfl rfl ?_
      refine xg_1_5 F i_X10 w_1 dX3_takeBehindOperand_66 (G 1 5) (rfl) ?_
      refine u_call0 (k := 0) (n := 0) (As := [.int (G 1 5)]) (st := []) F (fun sz => S_X3_strengthOf l D (G 1 5) (G 1 5).toInt rfl sz) (va_cwS 1 hts gX3_takeBehindOperand_X3_strengthOf rfl rfl rfl (by decide +kernel) ⟨Nat.le_of_ble_eq_true rfl, Nat.le_of_ble_eq_true rfl⟩) rfl (Nat.le_of_ble_eq_true rfl) ⟨Nat.zero_le _, Nat.zero_le _⟩ dX3_takeBehindOperand_69 (fun r8 _ hw9 => ?_)
      have q11 : (r8.toInt = xsg (G 1 5).toInt) := hw9.2
      refine g_goto F 76 dX3_takeBehindOperand_72 (by decide) ?_
      refine g_istore_n F [(2, .int r8), (0, .ref (a 14)), (1, .ref (a 1))] dX3_takeBehindOperand_76 rfl (by decide) rfl ?_
      refine g_iload_n F 0 dX3_takeBehindOperand_77 rfl rfl ?_
      refine v_if_ne F 83 dX3_takeBehindOperand_78 (by decide) r8.toInt rfl (fun c12 => ?_) (fun c12 => ?_)
      · refine g_aload_n F 1 dX3_takeBehindOperand_83 rfl rfl ?_
        refine g_iload_n F 0 dX3_takeBehindOperand_84 rfl rfl ?_
        refine u_callVv (k := 0) (n := 0) (b := a 14) (As := [.int r8]) (st := []) F (fun sz => S_X3_joinDownTo_14 l D K a G r8 r8.toInt rfl (by omega) (by exact ⟨t9, f1.cast rfl (congrArg Int32.toInt (show G 14 4 = (G 14 4) from rfl)) (congrArg Int32.toInt (show G 14 6 = (G 14 6) from rfl)) (congrArg Int32.toInt (show G 14 7 = (G 14 7) from rfl)), f2 wo⟩) hI sz) (cwV 1 hts gX3_takeBehindOperand_X3_joinDownTo rfl rfl rfl (by decide +kernel) ⟨Nat.le_of_ble_eq_true rfl, Nat.le_of_ble_eq_true rfl⟩) rfl 14 xc_14 rfl (Nat.le_of_ble_eq_true rfl) ⟨Nat.zero_le _, Nat.zero_le _⟩ dX3_takeBehindOperand_85 (fun G15 hw14 => ?_)
        have hI16 : xI G15 := hw14.1
        have hU17 : gu_un xcd [1402, 1405, 2900] G G15 := hw14.2.1
        have hp18 := hw14.2.2
        have b19 : (0 : Int) ≤ (G15 14 4).toInt ∧ (G15 14 4).toInt ≤ 16 := hI16 14 4
        have q20 : (∃ t, xQ (G 31) (G15 14 4).toInt (G 14 6).toInt (G 14 7).toInt t ∧ 0 ≤ t ∧ t < r8.toInt) := hp18
        obtain ⟨t8, j1, j2, j3⟩ := q20
        have j6 := j1.le
        refine g_aload_n F 1 dX3_takeBehindOperand_88 rfl rfl ?_
        refine g_aload_n F 2 dX3_takeBehindOperand_89 rfl rfl ?_
        refine xg_1_5 F i_X10 w_1 dX3_takeBehindOperand_90 (G 1 5) (hU17 1 5 (by decide)) ?_
        refine u_callVv (k := 0) (n := 0) (b := a 14) (As := [.int (G 1 5)]) (st := []) F (fun sz => S_X3_putWaiting_14 l D K a G15 (G 1 5) (G 1 5).toInt rfl hI16 sz) (cwV 1 hts gX3_takeBehindOperand_X3_putWaiting rfl rfl rfl (by decide +kernel) ⟨Nat.le_of_ble_eq_true rfl, Nat.le_of_ble_eq_true rfl⟩) rfl 14 xc_14 rfl (Nat.le_of_ble_eq_true rfl) ⟨Nat.zero_le _, Nat.zero_le _⟩ dX3_takeBehindOperand_93 (fun G23 hw22 => ?_)
        have hI24 : xI G23 := hw22.1
        have hU25 : gu_un xcd [1405, 3100] G15 G23 := hw22.2.1
        have hp26 := hw22.2.2
        have b27 : (0 : Int) ≤ (G23 14 4).toInt ∧ (G23 14 4).toInt ≤ 16 := hI24 14 4
        have q28 : ((G15 14 4).toInt ≤ 15 → (G23 31 = upd (G 31) ((G15 14 4).toInt).toNat (G 1 5) ∧ (G23 14 4).toInt = (G15 14 4).toInt + 1)) := by have h9 := hp26; (try simp only [(show G15 31 = (G 31) from (show G15 31 = G 31 from funext fun k_ => hU17 31 k_ (show (3100 : Nat) ∉ ([1402, 1405, 2900] : List Nat) by decide)))] at h9); first | exact h9 | omega
        refine g_aload_n F 1 dX3_takeBehindOperand_96 rfl rfl ?_
        refine g_iconst F 1 dX3_takeBehindOperand_97 (by decide) ?_
        refine xp_14_8 F i_X3 w_2 dX3_takeBehindOperand_98 (by decide) ?_
        refine g_iconst F 0 dX3_takeBehindOperand_101 (by decide) ?_
        exact u_iret F hA hQ hr (gu_up G23 14 8 1) (⟨(gu_I.up (j := 14) (k := 8) (v := 1) hI24 (show (0 : Int) ≤ (1 : Int32).toInt by decide) (show (1 : Int32).toInt ≤ 1 by decide)), (gu_un.up (j := 14) (k := 8) (v := 1) (gu_un.tr (gu_un.tr gu_un.rf (gu_un.su hU17 rfl)) (gu_un.su hU25 rfl)) (show (1409 : Nat) ∈ ([1402, 1405, 1407, 1408, 1409, 2900, 3100] : List Nat) by decide)), (by decide), (xFi.mk (w := 1) (by exact ⟨_, j1.push.2.2 j2 (by omega), fun h => absurd h (by decide)⟩) (by omega) (show (gu_up G23 14 8 1) 31 = _ from (q28 (by omega)).1) (show ((gu_up G23 14 8 1) 14 4).toInt = _ by rw [show (gu_up G23 14 8 1) 14 4 = (G23 14 4) from rfl] <;> (exact (q28 (by omega)).2)) (show ((gu_up G23 14 8 1) 14 6).toInt = _ by rw [show (gu_up G23 14 8 1) 14 6 = (G 14 6) from (hU25 14 6 (by decide)).trans (hU17 14 6 (by decide))]) (show ((gu_up G23 14 8 1) 14 7).toInt = _ by rw [show (gu_up G23 14 8 1) 14 7 = (G 14 7) from (hU25 14 7 (by decide)).trans (hU17 14 7 (by decide))]) (show ((gu_up G23 14 8 1) 14 8).toInt = _ by rw [show (gu_up G23 14 8 1) 14 8 = 1 from rfl] <;> (rfl)))⟩) rfl rfl dX3_takeBehindOperand_102
      · refine g_iconst F 1 dX3_takeBehindOperand_81 (by decide) ?_
        exact u_iret F hA hQ hr G (⟨hI, gu_un.rf, (by decide), (fi)⟩) rfl rfl dX3_takeBehindOperand_82
  · refine g_aload_n F 0 dX3_takeBehindOperand_9 rfl rfl ?_
    refine xg_14_7 F i_X3 w_3 dX3_takeBehindOperand_10 (G 14 7) (rfl) ?_
    refine v_if_le F 57 dX3_takeBehindOperand_13 (by decide) (G 14 7).toInt rfl (fun c29 => ?_) (fun c29 => ?_)
    · refine g_aload_n F 1 dX3_takeBehindOperand_57 rfl rfl ?_
      refine xg_1_3 F i_X10 w_0 dX3_takeBehindOperand_58 (G 1 3) (rfl) ?_
      refine g_iconst F 3 dX3_takeBehindOperand_61 (by decide) ?_
      have b30 : (0 : Int) ≤ (G 1 3).toInt ∧ (G 1 3).toInt ≤ 4 := hI 1 3
      refine v_icmp_ne F 75 dX3_takeBehindOperand_62 (by decide) (G 1 3).toInt 3 rfl rfl (fun c31 => ?_) (fun c31 => ?_)
      · refine g_iconst F 0 dX3_takeBehindOperand_75 (by decide) ?_
        refine g_istore_n F [(2, .int 0), (0, .ref (a 14)), (1, .ref (a 1))] dX3_takeBehindOperand_76 rfl (by decide) rfl ?_
        refine g_iload_n F 0 dX3_takeBehindOperand_77 rfl rfl ?_
        refine v_if_ne F 83 dX3_takeBehindOperand_78 (by decide) 0 rfl (fun c32 => absurd c32 (by decide)) (fun c32 => ?_)
        refine g_iconst F 1 dX3_takeBehindOperand_81 (by decide) ?_
        exact u_iret F hA hQ hr G (⟨hI, gu_un.rf, (by decide), (fi)⟩) rfl rfl dX3_takeBehindOperand_82
      · refine g_aload_n F 1 dX3_takeBehindOperand_65 rfl rfl ?_
        refine xg_1_5 F i_X10 w_1 dX3_takeBehindOperand_66 (G 1 5) (rfl) ?_
        refine u_call0 (k := 0) (n := 0) (As := [.int (G 1 5)]) (st := []) F (fun sz => S_X3_strengthOf l D (G 1 5) (G 1 5).toInt rfl sz) (va_cwS 1 hts gX3_takeBehindOperand_X3_strengthOf rfl rfl rfl (by decide +kernel) ⟨Nat.le_of_ble_eq_true rfl, Nat.le_of_ble_eq_true rfl⟩) rfl (Nat.le_of_ble_eq_true rfl) ⟨Nat.zero_le _, Nat.zero_le _⟩ dX3_takeBehindOperand_69 (fun r33 _ hw34 => ?_)
        have q36 : (r33.toInt = xsg (G 1 5).toInt) := hw34.2
        refine g_goto F 76 dX3_takeBehindOperand_72 (by decide) ?_
        refine g_istore_n F [(2, .int r33), (0, .ref (a 14)), (1, .ref (a 1))] dX3_takeBehindOperand_76 rfl (by decide) rfl ?_
        refine g_iload_n F 0 dX3_takeBehindOperand_77 rfl rfl ?_
        refine v_if_ne F 83 dX3_takeBehindOperand_78 (by decide) r33.toInt rfl (fun c37 => ?_) (fun c37 => ?_)
        · refine g_aload_n F 1 dX3_takeBehindOperand_83 rfl rfl ?_
          refine g_iload_n F 0 dX3_takeBehindOperand_84 rfl rfl ?_
          refine u_callVv (k := 0) (n := 0) (b := a 14) (As := [.int r33]) (st := []) F (fun sz => S_X3_joinDownTo_14 l D K a G r33 r33.toInt rfl (by omega) (by exact ⟨t9, f1.cast rfl (congrArg Int32.toInt (show G 14 4 = (G 14 4) from rfl)) (congrArg Int32.toInt (show G 14 6 = (G 14 6) from rfl)) (congrArg Int32.toInt (show G 14 7 = (G 14 7) from rfl)), f2 wo⟩) hI sz) (cwV 1 hts gX3_takeBehindOperand_X3_joinDownTo rfl rfl rfl (by decide +kernel) ⟨Nat.le_of_ble_eq_true rfl, Nat.le_of_ble_eq_true rfl⟩) rfl 14 xc_14 rfl (Nat.le_of_ble_eq_true rfl) ⟨Nat.zero_le _, Nat.zero_le _⟩ dX3_takeBehindOperand_85 (fun G40 hw39 => ?_)
          have hI41 : xI G40 := hw39.1
          have hU42 : gu_un xcd [1402, 1405, 2900] G G40 := hw39.2.1
          have hp43 := hw39.2.2
          have b44 : (0 : Int) ≤ (G40 14 4).toInt ∧ (G40 14 4).toInt ≤ 16 := hI41 14 4
          have q45 : (∃ t, xQ (G 31) (G40 14 4).toInt (G 14 6).toInt (G 14 7).toInt t ∧ 0 ≤ t ∧ t < r33.toInt) := hp43
          obtain ⟨t8, j1, j2, j3⟩ := q45
          have j6 := j1.le
          refine g_aload_n F 1 dX3_takeBehindOperand_88 rfl rfl ?_
          refine g_aload_n F 2 dX3_takeBehindOperand_89 rfl rfl ?_
          refine xg_1_5 F i_X10 w_1 dX3_takeBehindOperand_90 (G 1 5) (hU42 1 5 (by decide)) ?_
          refine u_callVv (k := 0) (n := 0) (b := a 14) (As := [.int (G 1 5)]) (st := []) F (fun sz => S_X3_putWaiting_14 l D K a G40 (G 1 5) (G 1 5).toInt rfl hI41 sz) (cwV 1 hts gX3_takeBehindOperand_X3_putWaiting rfl rfl rfl (by decide +kernel) ⟨Nat.le_of_ble_eq_true rfl, Nat.le_of_ble_eq_true rfl⟩) rfl 14 xc_14 rfl (Nat.le_of_ble_eq_true rfl) ⟨Nat.zero_le _, Nat.zero_le _⟩ dX3_takeBehindOperand_93 (fun G48 hw47 => ?_)
          have hI49 : xI G48 := hw47.1
          have hU50 : gu_un xcd [1405, 3100] G40 G48 := hw47.2.1
          have hp51 := hw47.2.2
          have b52 : (0 : Int) ≤ (G48 14 4).toInt ∧ (G48 14 4).toInt ≤ 16 := hI49 14 4
          have q53 : ((G40 14 4).toInt ≤ 15 → (G48 31 = upd (G 31) ((G40 14 4).toInt).toNat (G 1 5) ∧ (G48 14 4).toInt = (G40 14 4).toInt + 1)) := by have h9 := hp51; (try simp only [(show G40 31 = (G 31) from (show G40 31 = G 31 from funext fun k_ => hU42 31 k_ (show (3100 : Nat) ∉ ([1402, 1405, 2900] : List Nat) by decide)))] at h9); first | exact h9 | omega
          refine g_aload_n F 1 dX3_takeBehindOperand_96 rfl rfl ?_
          refine g_iconst F 1 dX3_takeBehindOperand_97 (by decide) ?_
          refine xp_14_8 F i_X3 w_2 dX3_takeBehindOperand_98 (by decide) ?_
          refine g_iconst F 0 dX3_takeBehindOperand_101 (by decide) ?_
          exact u_iret F hA hQ hr (gu_up G48 14 8 1) (⟨(gu_I.up (j := 14) (k := 8) (v := 1) hI49 (show (0 : Int) ≤ (1 : Int32).toInt by decide) (show (1 : Int32).toInt ≤ 1 by decide)), (gu_un.up (j := 14) (k := 8) (v := 1) (gu_un.tr (gu_un.tr gu_un.rf (gu_un.su hU42 rfl)) (gu_un.su hU50 rfl)) (show (1409 : Nat) ∈ ([1402, 1405, 1407, 1408, 1409, 2900, 3100] : List Nat) by decide)), (by decide), (xFi.mk (w := 1) (by exact ⟨_, j1.push.2.2 j2 (by omega), fun h => absurd h (by decide)⟩) (by omega) (show (gu_up G48 14 8 1) 31 = _ from (q53 (by omega)).1) (show ((gu_up G48 14 8 1) 14 4).toInt = _ by rw [show (gu_up G48 14 8 1) 14 4 = (G48 14 4) from rfl] <;> (exact (q53 (by omega)).2)) (show ((gu_up G48 14 8 1) 14 6).toInt = _ by rw [show (gu_up G48 14 8 1) 14 6 = (G 14 6) from (hU50 14 6 (by decide)).trans (hU42 14 6 (by decide))]) (show ((gu_up G48 14 8 1) 14 7).toInt = _ by rw [show (gu_up G48 14 8 1) 14 7 = (G 14 7) from (hU50 14 7 (by decide)).trans (hU42 14 7 (by decide))]) (show ((gu_up G48 14 8 1) 14 8).toInt = _ by rw [show (gu_up G48 14 8 1) 14 8 = 1 from rfl] <;> (rfl)))⟩) rfl rfl dX3_takeBehindOperand_102
        · refine g_iconst F 1 dX3_takeBehindOperand_81 (by decide) ?_
          exact u_iret F hA hQ hr G (⟨hI, gu_un.rf, (by decide), (fi)⟩) rfl rfl dX3_takeBehindOperand_82
    · refine g_aload_n F 0 dX3_takeBehindOperand_16 rfl rfl ?_
      refine g_iconst F 1 dX3_takeBehindOperand_17 (by decide) ?_
      refine u_callVv (k := 0) (n := 0) (b := a 14) (As := [.int 1]) (st := []) F (fun sz => S_X3_joinDownTo_14 l D K a G 1 1 rfl (by decide) (by exact ⟨t9, f1.cast rfl (congrArg Int32.toInt (show G 14 4 = (G 14 4) from rfl)) (congrArg Int32.toInt (show G 14 6 = (G 14 6) from rfl)) (congrArg Int32.toInt (show G 14 7 = (G 14 7) from rfl)), f2 wo⟩) hI sz) (cwV 1 hts gX3_takeBehindOperand_X3_joinDownTo rfl rfl rfl (by decide +kernel) ⟨Nat.le_of_ble_eq_true rfl, Nat.le_of_ble_eq_true rfl⟩) rfl 14 xc_14 rfl (Nat.le_of_ble_eq_true rfl) ⟨Nat.zero_le _, Nat.zero_le _⟩ dX3_takeBehindOperand_18 (fun G56 hw55 => ?_)
      have hI57 : xI G56 := hw55.1
      have hU58 : gu_un xcd [1402, 1405, 2900] G G56 := hw55.2.1
      have hp59 := hw55.2.2
      have b60 : (0 : Int) ≤ (G56 14 4).toInt ∧ (G56 14 4).toInt ≤ 16 := hI57 14 4
      have q61 : (∃ t, xQ (G 31) (G56 14 4).toInt (G 14 6).toInt (G 14 7).toInt t ∧ 0 ≤ t ∧ t < (1 : Int)) := hp59
      obtain ⟨t8, j1, j2, j3⟩ := q61
      obtain ⟨j4, j5⟩ := j1.popP (by omega) (by omega)
      have j6 := j1.le
      refine g_aload_n F 0 dX3_takeBehindOperand_21 rfl rfl ?_
      refine g_dup F dX3_takeBehindOperand_22 rfl ?_
      refine xg_14_4 F i_X3 w_4 dX3_takeBehindOperand_23 (G56 14 4) (rfl) ?_
      refine g_iconst F 1 dX3_takeBehindOperand_26 (by decide) ?_
      refine u_isub F dX3_takeBehindOperand_27 (G56 14 4).toInt 1 rfl rfl (by omega) (by omega) (fun y62 ey62 => ?_)
      refine xp_14_4 F i_X3 w_4 dX3_takeBehindOperand_28 ?_
      refine g_aload_n F 0 dX3_takeBehindOperand_31 rfl rfl ?_
      refine g_dup F dX3_takeBehindOperand_32 rfl ?_
      refine xg_14_7 F i_X3 w_3 dX3_takeBehindOperand_33 (G 14 7) (hU58 14 7 (by decide)) ?_
      refine g_iconst F 1 dX3_takeBehindOperand_36 (by decide) ?_
      have b64 := ti_rng (G 14 7)
      refine u_isub F dX3_takeBehindOperand_37 (G 14 7).toInt 1 rfl rfl (by omega) (by omega) (fun y63 ey63 => ?_)
      refine xp_14_7 F i_X3 w_3 dX3_takeBehindOperand_38 ?_
      refine g_aload_n F 0 dX3_takeBehindOperand_41 rfl rfl ?_
      refine g_dup F dX3_takeBehindOperand_42 rfl ?_
      refine xg_14_6 F i_X3 w_5 dX3_takeBehindOperand_43 (G 14 6) (hU58 14 6 (by decide)) ?_
      refine g_iconst F 1 dX3_takeBehindOperand_46 (by decide) ?_
      refine u_isubc F dX3_takeBehindOperand_47 (G 14 6).toInt 1 rfl rfl (fun y65 ey65 => ?_)
      refine xp_14_6 F i_X3 w_5 dX3_takeBehindOperand_48 ?_
      refine g_aload_n F 0 dX3_takeBehindOperand_51 rfl rfl ?_
      refine u_callVv (k := 0) (n := 0) (b := a 14) (As := []) (st := []) F (fun sz => S_X3_closeMinuses_14 l D K a (gu_up (gu_up (gu_up G56 14 4 y62) 14 7 y63) 14 6 y65)  (by obtain ⟨t7, h7⟩ := j5; exact ⟨t7, h7.cast (show (gu_up (gu_up (gu_up G56 14 4 y62) 14 7 y63) 14 6 y65) 31 = _ from (show G56 31 = G 31 from funext fun k_ => hU58 31 k_ (show (3100 : Nat) ∉ ([1402, 1405, 2900] : List Nat) by decide))) (show ((gu_up (gu_up (gu_up G56 14 4 y62) 14 7 y63) 14 6 y65) 14 4).toInt = _ by rw [show (gu_up (gu_up (gu_up G56 14 4 y62) 14 7 y63) 14 6 y65) 14 4 = y62 from rfl]; omega) (show ((gu_up (gu_up (gu_up G56 14 4 y62) 14 7 y63) 14 6 y65) 14 6).toInt = _ by rw [show (gu_up (gu_up (gu_up G56 14 4 y62) 14 7 y63) 14 6 y65) 14 6 = y65 from rfl]; omega) (show ((gu_up (gu_up (gu_up G56 14 4 y62) 14 7 y63) 14 6 y65) 14 7).toInt = _ by rw [show (gu_up (gu_up (gu_up G56 14 4 y62) 14 7 y63) 14 6 y65) 14 7 = y63 from rfl]; omega)⟩) (gu_I.up (j := 14) (k := 6) (v := y65) (gu_I.up (j := 14) (k := 7) (v := y63) (gu_I.up (j := 14) (k := 4) (v := y62) hI57 (show (0 : Int) ≤ Int32.toInt y62 by omega) (show Int32.toInt y62 ≤ 16 by omega)) (ti_rng _).1 (ti_rng _).2) (ti_rng _).1 (ti_rng _).2) sz) (cwV 0 hts gX3_takeBehindOperand_X3_closeMinuses rfl rfl rfl (by decide +kernel) ⟨Nat.le_of_ble_eq_true rfl, Nat.le_of_ble_eq_true rfl⟩) rfl 14 xc_14 rfl (Nat.le_of_ble_eq_true rfl) ⟨Nat.zero_le _, Nat.zero_le _⟩ dX3_takeBehindOperand_52 (fun G68 hw67 => ?_)
      have hI69 : xI G68 := hw67.1
      have hU70 : gu_un xcd [1402, 1405, 1407, 2900] (gu_up (gu_up (gu_up G56 14 4 y62) 14 7 y63) 14 6 y65) G68 := hw67.2.1
      have hp71 := hw67.2.2
      have b72 : (0 : Int) ≤ (G68 14 4).toInt ∧ (G68 14 4).toInt ≤ 16 := hI69 14 4
      have q73 : (∃ t, xQ (G 31) (G68 14 4).toInt (G68 14 6).toInt y63.toInt t ∧ 0 ≤ t) := by have h9 := hp71.1; (try simp only [(show (gu_up (gu_up (gu_up G56 14 4 y62) 14 7 y63) 14 6 y65) 31 = (G 31) from (show G56 31 = G 31 from funext fun k_ => hU58 31 k_ (show (3100 : Nat) ∉ ([1402, 1405, 2900] : List Nat) by decide)))] at h9); first | exact h9 | omega
      have q74 : ((G68 14 6).toInt ≤ y65.toInt) := hp71.2
      refine g_iconst F 0 dX3_takeBehindOperand_55 (by decide) ?_
      exact u_iret F hA hQ hr G68 (⟨hI69, (gu_un.tr (gu_un.up (j := 14) (k := 6) (v := y65) (gu_un.up (j := 14) (k := 7) (v := y63) (gu_un.up (j := 14) (k := 4) (v := y62) (gu_un.tr gu_un.rf (gu_un.su hU58 rfl)) (show (1405 : Nat) ∈ ([1402, 1405, 1407, 1408, 1409, 2900, 3100] : List Nat) by decide)) (show (1408 : Nat) ∈ ([1402, 1405, 1407, 1408, 1409, 2900, 3100] : List Nat) by decide)) (show (1407 : Nat) ∈ ([1402, 1405, 1407, 1408, 1409, 2900, 3100] : List Nat) by decide)) (gu_un.su hU70 rfl)), (by decide), (xFi.mk (w := 0) (by obtain ⟨t8, h1, h2⟩ := q73; exact ⟨t8, h1, fun _ => h2⟩) (by omega) (show G68 31 = _ from (show G68 31 = (gu_up (gu_up (gu_up G56 14 4 y62) 14 7 y63) 14 6 y65) 31 from funext fun k_ => hU70 31 k_ (show (3100 : Nat) ∉ ([1402, 1405, 1407, 2900] : List Nat) by decide)).trans ((show G56 31 = G 31 from funext fun k_ => hU58 31 k_ (show (3100 : Nat) ∉ ([1402, 1405, 2900] : List Nat) by decide)))) (show (G68 14 4).toInt = _ by rw [show G68 14 4 = (G68 14 4) from rfl]) (show (G68 14 6).toInt = _ by rw [show G68 14 6 = (G68 14 6) from rfl]) (show (G68 14 7).toInt = _ by rw [show G68 14 7 = y63 from hU70 14 7 (by decide)]) (show (G68 14 8).toInt = _ by rw [show G68 14 8 = (G 14 8) from (hU70 14 8 (by decide)).trans (hU58 14 8 (by decide))] <;> (first | rfl | omega)))⟩) rfl rfl dX3_takeBehindOperand_56

theorem dX3_begin_0 : decode cX3_begin 0 = .ok (.aload_n 0, 1) := by decide +kernel
theorem dX3_begin_1 : decode cX3_begin 1 = .ok (.iconst 0, 1) := by decide +kernel
theorem dX3_begin_2 : decode cX3_begin 2 = .ok (.putfield 21, 3) := by decide +kernel
theorem dX3_begin_5 : decode cX3_begin 5 = .ok (.aload_n 0, 1) := by decide +kernel
theorem dX3_begin_6 : decode cX3_begin 6 = .ok (.iconst 0, 1) := by decide +kernel
theorem dX3_begin_7 : decode cX3_begin 7 = .ok (.putfield 35, 3) := by decide +kernel
theorem dX3_begin_10 : decode cX3_begin 10 = .ok (.aload_n 0, 1) := by decide +kernel
theorem dX3_begin_11 : decode cX3_begin 11 = .ok (.iconst 0, 1) := by decide +kernel
theorem dX3_begin_12 : decode cX3_begin 12 = .ok (.putfield 38, 3) := by decide +kernel
theorem dX3_begin_15 : decode cX3_begin 15 = .ok (.aload_n 0, 1) := by decide +kernel
theorem dX3_begin_16 : decode cX3_begin 16 = .ok (.iconst 0, 1) := by decide +kernel
theorem dX3_begin_17 : decode cX3_begin 17 = .ok (.putfield 41, 3) := by decide +kernel
theorem dX3_begin_20 : decode cX3_begin 20 = .ok (.aload_n 0, 1) := by decide +kernel
theorem dX3_begin_21 : decode cX3_begin 21 = .ok (.iconst 0, 1) := by decide +kernel
theorem dX3_begin_22 : decode cX3_begin 22 = .ok (.putfield 44, 3) := by decide +kernel
theorem dX3_begin_25 : decode cX3_begin 25 = .ok (.aload_n 0, 1) := by decide +kernel
theorem dX3_begin_26 : decode cX3_begin 26 = .ok (.iconst 1, 1) := by decide +kernel
theorem dX3_begin_27 : decode cX3_begin 27 = .ok (.putfield 47, 3) := by decide +kernel
theorem dX3_begin_30 : decode cX3_begin 30 = .ok (.return_, 1) := by decide +kernel
set_option maxHeartbeats 4000000 in
set_option maxRecDepth 100000 in
theorem S_X3_begin_14 (l : Launch) (D : va_G) (K : Nat → ClassId) (a : Nat → Nat) (G : gS) (hI : xI G) (sz : Nat) : Kv l yX3_begin wsX3_begin 1 40 0 0 D [.ref (a 14)] (xW K a G) (tK K) sz (fun (G' : gS) => (xI G') ∧ (gu_un xcd [1402, 1405, 1406, 1407, 1408, 1409] G G') ∧ (xFi 14 31 G')) (fun (G' : gS) => (xW K a G')) (fun _ => (tK K)) := by
  unfold Kv
  refine g_ofW (cc := cX3_begin) (lv := [(0, .ref (a 14))]) (by decide) rfl (Nat.le_of_ble_eq_true rfl) rfl ?_
  intro p e s m args below meth c A Q hA hQ F hr hnm
  have hts := F.2.2.2.2.1
  have w_0 : (Cond.fieldLink RX3 21 "QuietCut$Formula" "length" "I").before args s = true := hts _ (List.mem_of_getElem? (i := 1) rfl)
  have i_X3 : ∀ w ∈ u_ws RX3 TX3 9, w ∈ wsX3_begin := fun _ h => List.mem_cons_of_mem _ (List.mem_append_right _ h)
  have w_1 : (Cond.fieldLink RX3 35 "QuietCut$Formula" "waits" "I").before args s = true := hts _ (List.mem_of_getElem? (i := 2) rfl)
  have w_2 : (Cond.fieldLink RX3 38 "QuietCut$Formula" "operands" "I").before args s = true := hts _ (List.mem_of_getElem? (i := 3) rfl)
  have w_3 : (Cond.fieldLink RX3 41 "QuietCut$Formula" "open" "I").before args s = true := hts _ (List.mem_of_getElem? (i := 4) rfl)
  have w_4 : (Cond.fieldLink RX3 44 "QuietCut$Formula" "parentheses" "I").before args s = true := hts _ (List.mem_of_getElem? (i := 5) rfl)
  have w_5 : (Cond.fieldLink RX3 47 "QuietCut$Formula" "wantsOperand" "Z").before args s = true := hts _ (List.mem_of_getElem? (i := 6) rfl)
  refine g_aload_n F 0 dX3_begin_0 rfl rfl ?_
  refine g_iconst F 0 dX3_begin_1 (by decide) ?_
  refine xp_14_1 F i_X3 w_0 dX3_begin_2 ?_
  refine g_aload_n F 0 dX3_begin_5 rfl rfl ?_
  refine g_iconst F 0 dX3_begin_6 (by decide) ?_
  refine xp_14_4 F i_X3 w_1 dX3_begin_7 ?_
  refine g_aload_n F 0 dX3_begin_10 rfl rfl ?_
  refine g_iconst F 0 dX3_begin_11 (by decide) ?_
  refine xp_14_5 F i_X3 w_2 dX3_begin_12 ?_
  refine g_aload_n F 0 dX3_begin_15 rfl rfl ?_
  refine g_iconst F 0 dX3_begin_16 (by decide) ?_
  refine xp_14_6 F i_X3 w_3 dX3_begin_17 ?_
  refine g_aload_n F 0 dX3_begin_20 rfl rfl ?_
  refine g_iconst F 0 dX3_begin_21 (by decide) ?_
  refine xp_14_7 F i_X3 w_4 dX3_begin_22 ?_
  refine g_aload_n F 0 dX3_begin_25 rfl rfl ?_
  refine g_iconst F 1 dX3_begin_26 (by decide) ?_
  refine xp_14_8 F i_X3 w_5 dX3_begin_27 (by decide) ?_
  exact u_vret F hA hQ hr (gu_up (gu_up (gu_up (gu_up (gu_up (gu_up G 14 1 0) 14 4 0) 14 5 0) 14 6 0) 14 7 0) 14 8 1) (⟨(gu_I.up (j := 14) (k := 8) (v := 1) (gu_I.up (j := 14) (k := 7) (v := 0) (gu_I.up (j := 14) (k := 6) (v := 0) (gu_I.up (j := 14) (k := 5) (v := 0) (gu_I.up (j := 14) (k := 4) (v := 0) (gu_I.up (j := 14) (k := 1) (v := 0) hI (show (0 : Int) ≤ (0 : Int32).toInt by decide) (show (0 : Int32).toInt ≤ 80 by decide)) (show (0 : Int) ≤ (0 : Int32).toInt by decide) (show (0 : Int32).toInt ≤ 16 by decide)) (show (0 : Int) ≤ (0 : Int32).toInt by decide) (show (0 : Int32).toInt ≤ 12 by decide)) (ti_rng _).1 (ti_rng _).2) (ti_rng _).1 (ti_rng _).2) (show (0 : Int) ≤ (1 : Int32).toInt by decide) (show (1 : Int32).toInt ≤ 1 by decide)), (gu_un.up (j := 14) (k := 8) (v := 1) (gu_un.up (j := 14) (k := 7) (v := 0) (gu_un.up (j := 14) (k := 6) (v := 0) (gu_un.up (j := 14) (k := 5) (v := 0) (gu_un.up (j := 14) (k := 4) (v := 0) (gu_un.up (j := 14) (k := 1) (v := 0) gu_un.rf (show (1402 : Nat) ∈ ([1402, 1405, 1406, 1407, 1408, 1409] : List Nat) by decide)) (show (1405 : Nat) ∈ ([1402, 1405, 1406, 1407, 1408, 1409] : List Nat) by decide)) (show (1406 : Nat) ∈ ([1402, 1405, 1406, 1407, 1408, 1409] : List Nat) by decide)) (show (1407 : Nat) ∈ ([1402, 1405, 1406, 1407, 1408, 1409] : List Nat) by decide)) (show (1408 : Nat) ∈ ([1402, 1405, 1406, 1407, 1408, 1409] : List Nat) by decide)) (show (1409 : Nat) ∈ ([1402, 1405, 1406, 1407, 1408, 1409] : List Nat) by decide)), (xFi.mk (f := G 31) (n := 0) (o := 0) (p := 0) (w := 1) ⟨0, xQ.at0, fun _ => by omega⟩ (by decide) rfl rfl rfl rfl rfl)⟩) rfl rfl dX3_begin_30
