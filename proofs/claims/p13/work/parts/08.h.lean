theorem dX13_wrong_0 : decode cX13_wrong 0 = .ok (.aload_n 0, 1) := by decide +kernel
theorem dX13_wrong_1 : decode cX13_wrong 1 = .ok (.iload_n 1, 1) := by decide +kernel
theorem dX13_wrong_2 : decode cX13_wrong 2 = .ok (.putfield 3, 3) := by decide +kernel
theorem dX13_wrong_5 : decode cX13_wrong 5 = .ok (.aload_n 0, 1) := by decide +kernel
theorem dX13_wrong_6 : decode cX13_wrong 6 = .ok (.aload_n 0, 1) := by decide +kernel
theorem dX13_wrong_7 : decode cX13_wrong 7 = .ok (.getfield 7, 3) := by decide +kernel
theorem dX13_wrong_10 : decode cX13_wrong 10 = .ok (.putfield 10, 3) := by decide +kernel
theorem dX13_wrong_13 : decode cX13_wrong 13 = .ok (.aload_n 0, 1) := by decide +kernel
theorem dX13_wrong_14 : decode cX13_wrong 14 = .ok (.getfield 13, 3) := by decide +kernel
theorem dX13_wrong_17 : decode cX13_wrong 17 = .ok (.areturn, 1) := by decide +kernel
set_option maxHeartbeats 4000000 in
set_option maxRecDepth 100000 in
theorem S_X13_wrong (l : Launch) (D : va_G) (K : Nat → ClassId) (a : Nat → Nat) (G : gS) (p0 : Int32) (s0 : Int) (e0 : p0.toInt = s0) (hI : yI G) (sz : Nat) : Kr l yX13_wrong wsX13_wrong 1 40 0 0 D [.ref (a 0), .int p0] (yW K a G) (tK K) sz (fun (G' : gS) => (yI G') ∧ (gu_un ycd [9, 10] G G') ∧ (((G' 0 8).toInt = s0 ∧ (G' 0 9).toInt = (G 0 4).toInt))) (fun (_ : gS) => a 1) (fun (G' : gS) => (yW K a G')) (fun _ => (tK K)) := by
  unfold Kr
  refine g_ofW (cc := cX13_wrong) (lv := [(0, .ref (a 0)), (1, .int p0)]) (by decide) rfl (Nat.le_of_ble_eq_true rfl) rfl ?_
  intro p e s m args below meth c A Q hA hQ F hr hnm
  have hts := F.2.2.2.2.1
  have w_0 : (Cond.fieldLink RX13 3 "QuietCutModel" "fault" "I").before args s = true := hts _ (List.mem_of_getElem? (i := 1) rfl)
  have i_X13 : ∀ w ∈ u_ws RX13 TX13 73, w ∈ wsX13_wrong := fun _ h => List.mem_cons_of_mem _ (List.mem_append_right _ h)
  have w_1 : (Cond.fieldLink RX13 7 "QuietCutModel" "from" "I").before args s = true := hts _ (List.mem_of_getElem? (i := 2) rfl)
  have w_2 : (Cond.fieldLink RX13 10 "QuietCutModel" "faultAt" "I").before args s = true := hts _ (List.mem_of_getElem? (i := 3) rfl)
  have w_3 : (Cond.fieldLink RX13 13 "QuietCutModel" "stop" "LQuietCutModel$Stop;").before args s = true := hts _ (List.mem_of_getElem? (i := 4) rfl)
  have rg0 : -2147483648 ≤ s0 ∧ s0 ≤ 2147483647 := e0 ▸ ti_rng p0
  refine g_aload_n F 0 dX13_wrong_0 rfl rfl ?_
  refine g_iload_n F 1 dX13_wrong_1 rfl rfl ?_
  refine yp_0_8 F i_X13 w_0 dX13_wrong_2 ?_
  refine g_aload_n F 0 dX13_wrong_5 rfl rfl ?_
  refine g_aload_n F 0 dX13_wrong_6 rfl rfl ?_
  refine yg_0_4 F i_X13 w_1 dX13_wrong_7 (G 0 4) (rfl) ?_
  have b1 : (0 : Int) ≤ (G 0 4).toInt ∧ (G 0 4).toInt ≤ 1000 := hI 0 4
  refine yp_0_9 F i_X13 w_2 dX13_wrong_10 ?_
  refine g_aload_n F 0 dX13_wrong_13 rfl rfl ?_
  refine yg_0_0 F i_X13 w_3 dX13_wrong_14 ?_
  exact u_aret F hA hQ hr (Or.inl ⟨_, rfl⟩) (gu_up (gu_up G 0 8 p0) 0 9 (G 0 4)) (⟨(gu_I.up (j := 0) (k := 9) (v := (G 0 4)) (gu_I.up (j := 0) (k := 8) (v := p0) hI (ti_rng _).1 (ti_rng _).2) (ti_rng _).1 (ti_rng _).2), (gu_un.up (j := 0) (k := 9) (v := (G 0 4)) (gu_un.up (j := 0) (k := 8) (v := p0) gu_un.rf (show (9 : Nat) ∈ ([9, 10] : List Nat) by decide)) (show (10 : Nat) ∈ ([9, 10] : List Nat) by decide)), (by show (((gu_up (gu_up G 0 8 p0) 0 9 (G 0 4)) 0 8).toInt = s0 ∧ ((gu_up (gu_up G 0 8 p0) 0 9 (G 0 4)) 0 9).toInt = (G 0 4).toInt); have e9_0_8 : (gu_up (gu_up G 0 8 p0) 0 9 (G 0 4)) 0 8 = p0 := rfl; have e9_0_9 : (gu_up (gu_up G 0 8 p0) 0 9 (G 0 4)) 0 9 = (G 0 4) := rfl; (try simp only [e9_0_8, e9_0_9, true_and, and_true]) <;> (first | omega | (simp only [Int32.reduceToInt, true_and, and_true, ne_eq, not_true_eq_false, false_and, or_false, false_or, true_or, or_true, false_implies] <;> omega)))⟩) rfl rfl rfl dX13_wrong_17

theorem dX13_need_0 : decode cX13_need 0 = .ok (.iload_n 1, 1) := by decide +kernel
theorem dX13_need_1 : decode cX13_need 1 = .ok (.ifCond .ne 9, 3) := by decide +kernel
theorem dX13_need_4 : decode cX13_need 4 = .ok (.aload_n 0, 1) := by decide +kernel
theorem dX13_need_5 : decode cX13_need 5 = .ok (.iload_n 2, 1) := by decide +kernel
theorem dX13_need_6 : decode cX13_need 6 = .ok (.invokevirtual 53, 3) := by decide +kernel
theorem dX13_need_9 : decode cX13_need 9 = .ok (.athrow, 1) := by decide +kernel
theorem dX13_need_10 : decode cX13_need 10 = .ok (.return_, 1) := by decide +kernel
def wsT_X13_need : List Cond := wsX13_need ++ wsT_nx
set_option maxRecDepth 20000 in
theorem gT_need_wrong : GoodIn wsT_X13_need (wsV RX13 53 RX13 yX13_wrong wsX13_wrong) := goodIn_of _ (by decide +kernel)
set_option maxHeartbeats 4000000 in
set_option maxRecDepth 100000 in
theorem S_X13_need (l : Launch) (D : va_G) (K : Nat → ClassId) (a : Nat → Nat) (G : gS) (p0 : Int32) (s0 : Int) (p1 : Int32) (s1 : Int) (e0 : p0.toInt = s0) (h0 : 0 ≤ s0 ∧ s0 ≤ 1) (e1 : p1.toInt = s1) (hI : yI G) (sz : Nat) : Kxv l yX13_need wsT_X13_need 2 61 D [.ref (a 0), .int p0, .int p1] (yW K a G) (tK K) sz (fun (G' : gS) => (yI G') ∧ (gu_un ycd [9, 10] G G') ∧ ((s0 ≠ 0)) ∧ (yFf G G')) (fun (G' : gS) => (yI G') ∧ (gu_un ycd [9, 10] G G') ∧ ((s0 = 0)) ∧ (((G' 0 8).toInt = s1 ∧ (G' 0 9).toInt = (G 0 4).toInt))) (a 1) (fun (G' : gS) => (yW K a G')) := by
  unfold Kxv
  refine gx_ofW (cc := cX13_need) (lv := [(0, .ref (a 0)), (1, .int p0), (2, .int p1)]) (by decide) rfl (Nat.le_of_ble_eq_true rfl) rfl ?_
  intro p e s m args below meth c A Q hA hQ F hr hex
  have hts := F.2.2.2.2.1
  have rg1 : -2147483648 ≤ s1 ∧ s1 ≤ 2147483647 := e1 ▸ ti_rng p1
  refine g_iload_n F 1 dX13_need_0 rfl rfl ?_
  refine v_if_ne F 10 dX13_need_1 (by decide) s0 e0 (fun c1 => ?_) (fun c1 => ?_)
  · exact ux_vret F hA hQ hr G (⟨hI, gu_un.rf, (by show (s0 ≠ 0); (first | omega | (simp only [Int32.reduceToInt, true_and, and_true, ne_eq, not_true_eq_false, false_and, or_false, false_or, true_or, or_true, false_implies] <;> omega))), (yFf.rf)⟩) rfl rfl dX13_need_10
  · refine g_aload_n F 0 dX13_need_4 rfl rfl ?_
    refine g_iload_n F 2 dX13_need_5 rfl rfl ?_
    refine u_callVr (k := 0) (n := 0) (b := a 0) (As := [.int p1]) (st := []) F (fun sz => S_X13_wrong l D K a G p1 s1 e1 hI sz) (cwV 1 hts gT_need_wrong rfl rfl rfl (by decide +kernel) ⟨Nat.le_of_ble_eq_true rfl, Nat.le_of_ble_eq_true rfl⟩) rfl 0 yc_0 rfl (Nat.le_of_ble_eq_true rfl) ⟨Nat.zero_le _, Nat.zero_le _⟩ dX13_need_6 (fun G4 hw3 => ?_)
    have hI5 : yI G4 := hw3.1
    have hU6 : gu_un ycd [9, 10] G G4 := hw3.2.1
    have hp7 := hw3.2.2
    show gG p l e (gR 2 0 0 61) s m args below meth c D A 3 Q 0 0 (yW K a G4) (tK K) [(0, .ref (a 0)), (1, .int p0), (2, .int p1)] 9 [.ref (a 1)]
    exact ux_athrow F hex hA hQ G4 (⟨hI5, (gu_un.tr gu_un.rf (gu_un.su hU6 rfl)), (by omega), (by omega)⟩) rfl rfl dX13_need_9

theorem dX13_look_0 : decode cX13_look 0 = .ok (.aload_n 0, 1) := by decide +kernel
theorem dX13_look_1 : decode cX13_look 1 = .ok (.aload_n 0, 1) := by decide +kernel
theorem dX13_look_2 : decode cX13_look 2 = .ok (.getfield 31, 3) := by decide +kernel
theorem dX13_look_5 : decode cX13_look 5 = .ok (.iconst 2, 1) := by decide +kernel
theorem dX13_look_6 : decode cX13_look 6 = .ok (.if_icmp .ne 7, 3) := by decide +kernel
theorem dX13_look_9 : decode cX13_look 9 = .ok (.iconst 1, 1) := by decide +kernel
theorem dX13_look_10 : decode cX13_look 10 = .ok (.goto 4, 3) := by decide +kernel
theorem dX13_look_13 : decode cX13_look 13 = .ok (.iconst 0, 1) := by decide +kernel
theorem dX13_look_14 : decode cX13_look 14 = .ok (.iconst 1, 1) := by decide +kernel
theorem dX13_look_15 : decode cX13_look 15 = .ok (.invokevirtual 57, 3) := by decide +kernel
theorem dX13_look_18 : decode cX13_look 18 = .ok (.aload_n 0, 1) := by decide +kernel
theorem dX13_look_19 : decode cX13_look 19 = .ok (.aload_n 0, 1) := by decide +kernel
theorem dX13_look_20 : decode cX13_look 20 = .ok (.getfield 41, 3) := by decide +kernel
theorem dX13_look_23 : decode cX13_look 23 = .ok (.i2l, 1) := by decide +kernel
theorem dX13_look_24 : decode cX13_look 24 = .ok (.iload_n 1, 1) := by decide +kernel
theorem dX13_look_25 : decode cX13_look 25 = .ok (.i2l, 1) := by decide +kernel
theorem dX13_look_26 : decode cX13_look 26 = .ok (.iload_n 2, 1) := by decide +kernel
theorem dX13_look_27 : decode cX13_look 27 = .ok (.i2l, 1) := by decide +kernel
theorem dX13_look_28 : decode cX13_look 28 = .ok (.invokestatic 61, 3) := by decide +kernel
theorem dX13_look_31 : decode cX13_look 31 = .ok (.iconst 2, 1) := by decide +kernel
theorem dX13_look_32 : decode cX13_look 32 = .ok (.invokevirtual 57, 3) := by decide +kernel
theorem dX13_look_35 : decode cX13_look 35 = .ok (.aload_n 0, 1) := by decide +kernel
theorem dX13_look_36 : decode cX13_look 36 = .ok (.getfield 41, 3) := by decide +kernel
theorem dX13_look_39 : decode cX13_look 39 = .ok (.ireturn, 1) := by decide +kernel
set_option maxRecDepth 20000 in
theorem ggX13_look_X13_in : GoodIn wsX13_look wsX13_in := goodIn_r _ [10] rfl (by decide +kernel)
set_option maxRecDepth 20000 in
theorem gX13_look_X13_in : GoodIn wsX13_look (va_wsS RX13 61 yX13_in wsX13_in) := goodIn_app (goodIn_of _ (by decide +kernel)) ggX13_look_X13_in
set_option maxRecDepth 20000 in
theorem ggX13_look_X13_need : GoodIn wsX13_look wsX13_need := goodIn_r _ [7] rfl (by decide +kernel)
set_option maxRecDepth 20000 in
theorem gX13_look_X13_need : GoodIn wsX13_look (wsV RX13 57 RX13 yX13_need wsX13_need) := goodIn_app (goodIn_of _ (by decide +kernel)) ggX13_look_X13_need
def wsT_X13_look : List Cond := wsX13_look ++ wsT_nx
theorem gT_X13_look_X13_need : GoodIn wsT_X13_look (wsV RX13 57 RX13 yX13_need wsT_X13_need) := gT_call gX13_look_X13_need gT_nx
set_option maxHeartbeats 4000000 in
set_option maxRecDepth 100000 in
theorem S_X13_look (l : Launch) (D : va_G) (K : Nat → ClassId) (a : Nat → Nat) (G : gS) (p0 : Int32) (s0 : Int) (p1 : Int32) (s1 : Int) (e0 : p0.toInt = s0) (e1 : p1.toInt = s1) (hI : yI G) (sz : Nat) : Kxi l yX13_look wsT_X13_look 3 83 D [.ref (a 0), .int p0, .int p1] (yW K a G) (tK K) sz (fun (r : Int32) (G' : gS) => (yI G') ∧ (gu_un ycd [9, 10] G G') ∧ (0 ≤ r.toInt ∧ r.toInt ≤ 9999) ∧ ((s0 ≤ r.toInt ∧ r.toInt ≤ s1 ∧ (G 0 6).toInt = 2 ∧ r.toInt = (G 0 7).toInt)) ∧ (yFf G G')) (fun (G' : gS) => (yI G') ∧ (gu_un ycd [9, 10] G G') ∧ (yLk s0 s1 G G') ∧ (((G' 0 8).toInt ≠ 0))) (a 1) (fun (G' : gS) => (yW K a G')) := by
  unfold Kxi
  refine gx_ofW (cc := cX13_look) (lv := [(0, .ref (a 0)), (1, .int p0), (2, .int p1)]) (by decide) rfl (Nat.le_of_ble_eq_true rfl) rfl ?_
  intro p e s m args below meth c A Q hA hQ F hr hex
  have hts := F.2.2.2.2.1
  have w_0 : (Cond.fieldLink RX13 31 "QuietCutModel" "hand" "I").before args s = true := hts _ (List.mem_of_getElem? (i := 1) rfl)
  have i_X13 : ∀ w ∈ u_ws RX13 TX13 73, w ∈ wsT_X13_look := fun w h => List.mem_append_left _ ((show ∀ w ∈ u_ws RX13 TX13 73, w ∈ wsX13_look from fun _ h => List.mem_cons_of_mem _ (List.mem_append_right _ h)) w h)
  have w_1 : (Cond.fieldLink RX13 41 "QuietCutModel" "value" "I").before args s = true := hts _ (List.mem_of_getElem? (i := 2) rfl)
  have rg0 : -2147483648 ≤ s0 ∧ s0 ≤ 2147483647 := e0 ▸ ti_rng p0
  have rg1 : -2147483648 ≤ s1 ∧ s1 ≤ 2147483647 := e1 ▸ ti_rng p1
  refine g_aload_n F 0 dX13_look_0 rfl rfl ?_
  refine g_aload_n F 0 dX13_look_1 rfl rfl ?_
  refine yg_0_6 F i_X13 w_0 dX13_look_2 (G 0 6) (rfl) ?_
  refine g_iconst F 2 dX13_look_5 (by decide) ?_
  have b1 : (0 : Int) ≤ (G 0 6).toInt ∧ (G 0 6).toInt ≤ 4 := hI 0 6
  refine v_icmp_ne F 13 dX13_look_6 (by decide) (G 0 6).toInt 2 rfl rfl (fun c2 => ?_) (fun c2 => ?_)
  · refine g_iconst F 0 dX13_look_13 (by decide) ?_
    refine g_iconst F 1 dX13_look_14 (by decide) ?_
    refine ux_callvi (k := 0) (n := 0) (b := a 0) (As := [.int 0, .int 1]) (st := []) F (fun sz => S_X13_need l D K a G 0 0 1 1 rfl (by decide) rfl hI sz) (cwV 2 hts gT_X13_look_X13_need rfl rfl rfl (by decide +kernel) ⟨Nat.le_of_ble_eq_true rfl, Nat.le_of_ble_eq_true rfl⟩) rfl 0 yc_0 rfl (Nat.le_of_ble_eq_true rfl) ⟨Nat.zero_le _, Nat.zero_le _⟩ dX13_look_15 hex hA hQ (fun u9 h9 => ⟨h9.1, gu_un.tr gu_un.rf (gu_un.su h9.2.1 rfl), (⟨by have h9 := h9.2.2.2.2; exact h9, Or.inl ⟨by omega, h9.2.2.2.1⟩⟩), (by have h9 := h9.2.2.2.1; omega)⟩) (fun G5 hw4 => ?_)
    have hI6 : yI G5 := hw4.1
    have hU7 : gu_un ycd [9, 10] G G5 := hw4.2.1
    have hp8 := hw4.2.2
    have q9 : ((0 : Int) ≠ 0) := hp8.1
    have q10 : yFf G G5 := hp8.2
    exfalso; omega
  · refine g_iconst F 1 dX13_look_9 (by decide) ?_
    refine g_goto F 14 dX13_look_10 (by decide) ?_
    refine g_iconst F 1 dX13_look_14 (by decide) ?_
    refine ux_callvi (k := 0) (n := 0) (b := a 0) (As := [.int 1, .int 1]) (st := []) F (fun sz => S_X13_need l D K a G 1 1 1 1 rfl (by decide) rfl hI sz) (cwV 2 hts gT_X13_look_X13_need rfl rfl rfl (by decide +kernel) ⟨Nat.le_of_ble_eq_true rfl, Nat.le_of_ble_eq_true rfl⟩) rfl 0 yc_0 rfl (Nat.le_of_ble_eq_true rfl) ⟨Nat.zero_le _, Nat.zero_le _⟩ dX13_look_15 hex hA hQ (fun u9 h9 => ⟨h9.1, gu_un.tr gu_un.rf (gu_un.su h9.2.1 rfl), (absurd h9.2.2.1 (by decide)), (absurd h9.2.2.1 (by decide))⟩) (fun G13 hw12 => ?_)
    have hI14 : yI G13 := hw12.1
    have hU15 : gu_un ycd [9, 10] G G13 := hw12.2.1
    have hp16 := hw12.2.2
    have q17 : ((1 : Int) ≠ 0) := hp16.1
    have q18 : yFf G G13 := hp16.2
    clear hp16 hw12
    refine g_aload_n F 0 dX13_look_18 rfl rfl ?_
    refine g_aload_n F 0 dX13_look_19 rfl rfl ?_
    refine yg_0_7 F i_X13 w_1 dX13_look_20 (G 0 7) (hU15 0 7 (by decide)) ?_
    refine g_i2l F dX13_look_23 ?_
    have b19 : (0 : Int) ≤ (G 0 7).toInt ∧ (G 0 7).toInt ≤ 9999 := hI 0 7
    refine g_iload_n F 1 dX13_look_24 rfl rfl ?_
    refine g_i2l F dX13_look_25 ?_
    refine g_iload_n F 2 dX13_look_26 rfl rfl ?_
    refine g_i2l F dX13_look_27 ?_
    refine u_call0 (k := 0) (n := 0) (As := [.long (Int32.toInt64 (G 0 7)), .long (Int32.toInt64 p0), .long (Int32.toInt64 p1)]) (st := [.ref (a 0)]) F (fun sz => S_X13_in l D (Int32.toInt64 (G 0 7)) (G 0 7).toInt (Int32.toInt64 p0) s0 (Int32.toInt64 p1) s1 (ti_i2l rfl) (ti_i2l e0) (ti_i2l e1) sz) (va_cwS 3 hts (gT_left gX13_look_X13_in) rfl rfl rfl (by decide +kernel) ⟨Nat.le_of_ble_eq_true rfl, Nat.le_of_ble_eq_true rfl⟩) rfl (Nat.le_of_ble_eq_true rfl) ⟨Nat.zero_le _, Nat.zero_le _⟩ dX13_look_28 (fun r20 _ hw21 => ?_)
    rcases hw21 with ⟨rfl, q23⟩ | ⟨rfl, q24⟩
    · refine g_iconst F 2 dX13_look_31 (by decide) ?_
      refine ux_callvi (k := 0) (n := 0) (b := a 0) (As := [.int 1, .int 2]) (st := []) F (fun sz => S_X13_need l D K a G13 1 1 2 2 rfl (by decide) rfl hI14 sz) (cwV 2 hts gT_X13_look_X13_need rfl rfl rfl (by decide +kernel) ⟨Nat.le_of_ble_eq_true rfl, Nat.le_of_ble_eq_true rfl⟩) rfl 0 yc_0 rfl (Nat.le_of_ble_eq_true rfl) ⟨Nat.zero_le _, Nat.zero_le _⟩ dX13_look_32 hex hA hQ (fun u9 h9 => ⟨h9.1, gu_un.tr (gu_un.tr gu_un.rf (gu_un.su hU15 rfl)) (gu_un.su h9.2.1 rfl), (absurd h9.2.2.1 (by decide)), (absurd h9.2.2.1 (by decide))⟩) (fun G27 hw26 => ?_)
      have hI28 : yI G27 := hw26.1
      have hU29 : gu_un ycd [9, 10] G13 G27 := hw26.2.1
      have hp30 := hw26.2.2
      have q31 : ((1 : Int) ≠ 0) := hp30.1
      have q32 : yFf G13 G27 := hp30.2
      clear hp30 hw26
      refine g_aload_n F 0 dX13_look_35 rfl rfl ?_
      refine yg_0_7 F i_X13 w_1 dX13_look_36 (G 0 7) ((hU29 0 7 (by decide)).trans (hU15 0 7 (by decide))) ?_
      exact ux_iret F hA hQ hr G27 (⟨hI28, (gu_un.tr (gu_un.tr gu_un.rf (gu_un.su hU15 rfl)) (gu_un.su hU29 rfl)), (by have h9 := ti_rng (G 0 7); omega), (by show (s0 ≤ (G 0 7).toInt ∧ (G 0 7).toInt ≤ s1 ∧ (G 0 6).toInt = 2 ∧ (G 0 7).toInt = (G 0 7).toInt); (first | omega | (simp only [Int32.reduceToInt, true_and, and_true, ne_eq, not_true_eq_false, false_and, or_false, false_or, true_or, or_true, false_implies] <;> omega))), ((yFf.tr (show yFf G G13 from (yFf.tr (show yFf G G from yFf.rf) q18)) q32))⟩) rfl rfl dX13_look_39
    · refine g_iconst F 2 dX13_look_31 (by decide) ?_
      refine ux_callvi (k := 0) (n := 0) (b := a 0) (As := [.int 0, .int 2]) (st := []) F (fun sz => S_X13_need l D K a G13 0 0 2 2 rfl (by decide) rfl hI14 sz) (cwV 2 hts gT_X13_look_X13_need rfl rfl rfl (by decide +kernel) ⟨Nat.le_of_ble_eq_true rfl, Nat.le_of_ble_eq_true rfl⟩) rfl 0 yc_0 rfl (Nat.le_of_ble_eq_true rfl) ⟨Nat.zero_le _, Nat.zero_le _⟩ dX13_look_32 hex hA hQ (fun u9 h9 => ⟨h9.1, gu_un.tr (gu_un.tr gu_un.rf (gu_un.su hU15 rfl)) (gu_un.su h9.2.1 rfl), (⟨by have h9 := h9.2.2.2.2; rw [show G13 0 4 = (G 0 4) from hU15 0 4 (by decide)] at h9; exact h9, Or.inr ⟨by omega, by omega, h9.2.2.2.1⟩⟩), (by have h9 := h9.2.2.2.1; omega)⟩) (fun G35 hw34 => ?_)
      have hI36 : yI G35 := hw34.1
      have hU37 : gu_un ycd [9, 10] G13 G35 := hw34.2.1
      have hp38 := hw34.2.2
      have q39 : ((0 : Int) ≠ 0) := hp38.1
      have q40 : yFf G13 G35 := hp38.2
      exfalso; omega

theorem dX13_number_0 : decode cX13_number 0 = .ok (.aload_n 0, 1) := by decide +kernel
theorem dX13_number_1 : decode cX13_number 1 = .ok (.iload_n 1, 1) := by decide +kernel
theorem dX13_number_2 : decode cX13_number 2 = .ok (.iload_n 2, 1) := by decide +kernel
theorem dX13_number_3 : decode cX13_number 3 = .ok (.invokevirtual 65, 3) := by decide +kernel
theorem dX13_number_6 : decode cX13_number 6 = .ok (.istore_n 3, 1) := by decide +kernel
theorem dX13_number_7 : decode cX13_number 7 = .ok (.aload_n 0, 1) := by decide +kernel
theorem dX13_number_8 : decode cX13_number 8 = .ok (.invokevirtual 69, 3) := by decide +kernel
theorem dX13_number_11 : decode cX13_number 11 = .ok (.iload_n 3, 1) := by decide +kernel
theorem dX13_number_12 : decode cX13_number 12 = .ok (.ireturn, 1) := by decide +kernel
set_option maxRecDepth 20000 in
theorem ggX13_number_X13_look : GoodIn wsX13_number wsX13_look := goodIn_r _ [5, 6, 7, 8, 9, 10, 4, 11, 12, 13, 14, 33, 34, 35, 36, 37, 38, 39, 40, 41, 42, 43, 44, 45, 46, 47, 48, 49, 50, 51, 52, 53, 54, 55, 56, 57, 58, 59, 60, 61, 62, 63, 64, 65, 66, 67, 68, 69, 70, 71, 72, 73, 74, 75, 76, 77, 78, 79, 80, 81, 82, 83, 84, 85, 86, 87, 88, 89, 90, 91, 92, 93, 94, 95, 96, 97, 98, 99, 100, 101, 102, 103, 104, 105] rfl (by decide +kernel)
set_option maxRecDepth 20000 in
theorem gX13_number_X13_look : GoodIn wsX13_number (wsV RX13 65 RX13 yX13_look wsX13_look) := goodIn_app (goodIn_of _ (by decide +kernel)) ggX13_number_X13_look
set_option maxRecDepth 20000 in
theorem ggX13_number_X13_scan : GoodIn wsX13_number wsX13_scan := goodIn_r _ [18, 19, 20, 21, 22, 6, 7, 23, 24, 25, 4, 26, 27, 28, 29, 30, 31, 32, 33, 34, 35, 36, 37, 38, 39, 40, 41, 42, 43, 44, 45, 46, 47, 48, 49, 50, 51, 52, 53, 54, 55, 56, 57, 58, 59, 60, 61, 62, 63, 64, 65, 66, 67, 68, 69, 70, 71, 72, 73, 74, 75, 76, 77, 78, 79, 80, 81, 82, 83, 84, 85, 86, 87, 88, 89, 90, 91, 92, 93, 94, 95, 96, 97, 98, 99, 100, 101, 102, 103, 104, 105] rfl (by decide +kernel)
set_option maxRecDepth 20000 in
theorem gX13_number_X13_scan : GoodIn wsX13_number (wsV RX13 69 RX13 yX13_scan wsX13_scan) := goodIn_app (goodIn_of _ (by decide +kernel)) ggX13_number_X13_scan
def wsT_X13_number : List Cond := wsX13_number ++ wsT_nx
theorem gT_X13_number_X13_look : GoodIn wsT_X13_number (wsV RX13 65 RX13 yX13_look wsT_X13_look) := gT_call gX13_number_X13_look gT_nx
set_option maxHeartbeats 4000000 in
set_option maxRecDepth 100000 in
theorem S_X13_number (l : Launch) (D : va_G) (K : Nat → ClassId) (a : Nat → Nat) (G : gS) (p0 : Int32) (s0 : Int) (p1 : Int32) (s1 : Int) (e0 : p0.toInt = s0) (e1 : p1.toInt = s1) (pb : ((G 0 5).toInt ≤ (G 0 3).toInt)) (hI : yI G) (sz : Nat) : Kxi l yX13_number wsT_X13_number 4 105 D [.ref (a 0), .int p0, .int p1] (yW K a G) (tK K) sz (fun (r : Int32) (G' : gS) => (yI G') ∧ (gu_un ycd [5, 6, 7, 8, 9, 10] G G') ∧ (0 ≤ r.toInt ∧ r.toInt ≤ 9999) ∧ ((s0 ≤ r.toInt ∧ r.toInt ≤ s1)) ∧ (((G' 0 5).toInt ≤ (G 0 3).toInt ∧ (G 0 5).toInt ≤ (G' 0 5).toInt ∧ ((G' 0 6).toInt = 0 ∨ (G 0 5).toInt < (G' 0 5).toInt))) ∧ (((G 0 6).toInt = 2 ∧ r.toInt = (G 0 7).toInt)) ∧ (tTok (G 2) (G 0 3).toInt (G 0 5).toInt (G' 0 6).toInt (G' 0 4).toInt (G' 0 7).toInt (G' 0 5).toInt) ∧ (yFf G G')) (fun (G' : gS) => (yI G') ∧ (gu_un ycd [5, 6, 7, 8, 9, 10] G G') ∧ (yLk s0 s1 G G') ∧ (((G' 0 8).toInt ≠ 0))) (a 1) (fun (G' : gS) => (yW K a G')) := by
  unfold Kxi
  refine gx_ofW (cc := cX13_number) (lv := [(0, .ref (a 0)), (1, .int p0), (2, .int p1)]) (by decide) rfl (Nat.le_of_ble_eq_true rfl) rfl ?_
  intro p e s m args below meth c A Q hA hQ F hr hex
  have hts := F.2.2.2.2.1
  have rg0 : -2147483648 ≤ s0 ∧ s0 ≤ 2147483647 := e0 ▸ ti_rng p0
  have rg1 : -2147483648 ≤ s1 ∧ s1 ≤ 2147483647 := e1 ▸ ti_rng p1
  refine g_aload_n F 0 dX13_number_0 rfl rfl ?_
  refine g_iload_n F 1 dX13_number_1 rfl rfl ?_
  refine g_iload_n F 2 dX13_number_2 rfl rfl ?_
  refine ux_callii (k := 0) (n := 0) (b := a 0) (As := [.int p0, .int p1]) (st := []) F (fun sz => S_X13_look l D K a G p0 s0 p1 s1 e0 e1 hI sz) (cwV 2 hts gT_X13_number_X13_look rfl rfl rfl (by decide +kernel) ⟨Nat.le_of_ble_eq_true rfl, Nat.le_of_ble_eq_true rfl⟩) rfl 0 yc_0 rfl (Nat.le_of_ble_eq_true rfl) ⟨Nat.zero_le _, Nat.zero_le _⟩ dX13_number_3 hex hA hQ (fun u9 h9 => ⟨h9.1, gu_un.tr gu_un.rf (gu_un.su h9.2.1 rfl), (h9.2.2.1), (h9.2.2.2)⟩) (fun r1 G3 hw2 => ?_)
  have hI4 : yI G3 := hw2.1
  have hU5 : gu_un ycd [9, 10] G G3 := hw2.2.1
  have hp6 := hw2.2.2
  have b7 : (0 : Int) ≤ (G 0 6).toInt ∧ (G 0 6).toInt ≤ 4 := hI 0 6
  have b8 : (0 : Int) ≤ (G 0 7).toInt ∧ (G 0 7).toInt ≤ 9999 := hI 0 7
  have q9 : (s0 ≤ r1.toInt ∧ r1.toInt ≤ s1 ∧ (G 0 6).toInt = 2 ∧ r1.toInt = (G 0 7).toInt) := hp6.2.1
  have q10 : yFf G G3 := hp6.2.2
  have rg11 := hp6.1
  clear hp6 hw2
  refine g_istore_n F [(3, .int r1), (0, .ref (a 0)), (1, .int p0), (2, .int p1)] dX13_number_6 rfl (by decide) rfl ?_
  refine g_aload_n F 1 dX13_number_7 rfl rfl ?_
  have b12 : (0 : Int) ≤ (G 0 3).toInt ∧ (G 0 3).toInt ≤ 1000 := hI 0 3
  have b13 : (0 : Int) ≤ (G 0 5).toInt ∧ (G 0 5).toInt ≤ 1000 := hI 0 5
  refine u_callVv (k := 0) (n := 0) (b := a 0) (As := []) (st := []) F (fun sz => S_X13_scan l D K a G3  (by have e9_0_3 : G3 0 3 = (G 0 3) := hU5 0 3 (by decide); have e9_0_5 : G3 0 5 = (G 0 5) := hU5 0 5 (by decide); (try simp only [e9_0_3, e9_0_5, true_and, and_true]) <;> (first | omega | (simp only [Int32.reduceToInt, true_and, and_true, ne_eq, not_true_eq_false, false_and, or_false, false_or, true_or, or_true, false_implies] <;> omega))) hI4 sz) (cwV 0 hts (gT_left gX13_number_X13_scan) rfl rfl rfl (by decide +kernel) ⟨Nat.le_of_ble_eq_true rfl, Nat.le_of_ble_eq_true rfl⟩) rfl 0 yc_0 rfl (Nat.le_of_ble_eq_true rfl) ⟨Nat.zero_le _, Nat.zero_le _⟩ dX13_number_8 (fun G16 hw15 => ?_)
  have hI17 : yI G16 := hw15.1
  have hU18 : gu_un ycd [5, 6, 7, 8] G3 G16 := hw15.2.1
  have hp19 := hw15.2.2
  have b20 : (0 : Int) ≤ (G16 0 5).toInt ∧ (G16 0 5).toInt ≤ 1000 := hI17 0 5
  have b21 : (0 : Int) ≤ (G16 0 4).toInt ∧ (G16 0 4).toInt ≤ 1000 := hI17 0 4
  have q22 : ((G16 0 5).toInt ≤ (G 0 3).toInt ∧ (G 0 5).toInt ≤ (G16 0 4).toInt ∧ (G16 0 4).toInt ≤ (G16 0 5).toInt) := by have h9 := hp19.1; (try simp only [(show G3 0 3 = (G 0 3) from hU5 0 3 (by decide)), (show G3 0 5 = (G 0 5) from hU5 0 5 (by decide))] at h9); first | exact h9 | omega
  have b23 : (0 : Int) ≤ (G16 0 6).toInt ∧ (G16 0 6).toInt ≤ 4 := hI17 0 6
  have q24 : (((G16 0 6).toInt = 0 ∧ (G16 0 4).toInt = (G 0 3).toInt) ∨ ((G16 0 6).toInt ≠ 0 ∧ (G16 0 4).toInt < (G16 0 5).toInt)) := by have h9 := hp19.2.1; (try simp only [(show G3 0 3 = (G 0 3) from hU5 0 3 (by decide))] at h9); first | exact h9 | omega
  have b25 : (0 : Int) ≤ (G16 0 7).toInt ∧ (G16 0 7).toInt ≤ 9999 := hI17 0 7
  have q26 : tTok (G 2) (G 0 3).toInt (G 0 5).toInt (G16 0 6).toInt (G16 0 4).toInt (G16 0 7).toInt (G16 0 5).toInt := by have h9 := hp19.2.2; (try simp only [(show G3 0 3 = (G 0 3) from hU5 0 3 (by decide)), (show G3 0 5 = (G 0 5) from hU5 0 5 (by decide)), (show G3 2 = (G 2) from (show G3 2 = G 2 from funext fun k_ => hU5 2 k_ (show (200 : Nat) ∉ ([9, 10] : List Nat) by decide)))] at h9); first | exact h9 | omega
  clear hp19 hw15
  refine g_iload_n F 0 dX13_number_11 rfl rfl ?_
  exact ux_iret F hA hQ hr G16 (⟨hI17, (gu_un.tr (gu_un.tr gu_un.rf (gu_un.su hU5 rfl)) (gu_un.su hU18 rfl)), (by have h9 := ti_rng r1; omega), (by show (s0 ≤ r1.toInt ∧ r1.toInt ≤ s1); (first | omega | (simp only [Int32.reduceToInt, true_and, and_true, ne_eq, not_true_eq_false, false_and, or_false, false_or, true_or, or_true, false_implies] <;> omega))), (by show ((G16 0 5).toInt ≤ (G 0 3).toInt ∧ (G 0 5).toInt ≤ (G16 0 5).toInt ∧ ((G16 0 6).toInt = 0 ∨ (G 0 5).toInt < (G16 0 5).toInt)); (first | omega | (simp only [Int32.reduceToInt, true_and, and_true, ne_eq, not_true_eq_false, false_and, or_false, false_or, true_or, or_true, false_implies] <;> omega))), (by show ((G 0 6).toInt = 2 ∧ r1.toInt = (G 0 7).toInt); (first | omega | (simp only [Int32.reduceToInt, true_and, and_true, ne_eq, not_true_eq_false, false_and, or_false, false_or, true_or, or_true, false_implies] <;> omega))), (q26), ((yFf.tr (show yFf G G3 from (yFf.tr (show yFf G G from yFf.rf) q10)) (show yFf _ G16 from yFf.un hU18 rfl)))⟩) rfl rfl dX13_number_12

theorem dX13_begin_0 : decode cX13_begin 0 = .ok (.aload_n 0, 1) := by decide +kernel
theorem dX13_begin_1 : decode cX13_begin 1 = .ok (.aload_n 0, 1) := by decide +kernel
theorem dX13_begin_2 : decode cX13_begin 2 = .ok (.getfield 73, 3) := by decide +kernel
theorem dX13_begin_5 : decode cX13_begin 5 = .ok (.putfield 17, 3) := by decide +kernel
theorem dX13_begin_8 : decode cX13_begin 8 = .ok (.aload_n 0, 1) := by decide +kernel
theorem dX13_begin_9 : decode cX13_begin 9 = .ok (.iconst 0, 1) := by decide +kernel
theorem dX13_begin_10 : decode cX13_begin 10 = .ok (.putfield 73, 3) := by decide +kernel
theorem dX13_begin_13 : decode cX13_begin 13 = .ok (.aload_n 0, 1) := by decide +kernel
theorem dX13_begin_14 : decode cX13_begin 14 = .ok (.iconst 0, 1) := by decide +kernel
theorem dX13_begin_15 : decode cX13_begin 15 = .ok (.putfield 24, 3) := by decide +kernel
theorem dX13_begin_18 : decode cX13_begin 18 = .ok (.aload_n 0, 1) := by decide +kernel
theorem dX13_begin_19 : decode cX13_begin 19 = .ok (.iconst 0, 1) := by decide +kernel
theorem dX13_begin_20 : decode cX13_begin 20 = .ok (.putfield 3, 3) := by decide +kernel
theorem dX13_begin_23 : decode cX13_begin 23 = .ok (.aload_n 0, 1) := by decide +kernel
theorem dX13_begin_24 : decode cX13_begin 24 = .ok (.iconst (-1), 1) := by decide +kernel
theorem dX13_begin_25 : decode cX13_begin 25 = .ok (.putfield 10, 3) := by decide +kernel
theorem dX13_begin_28 : decode cX13_begin 28 = .ok (.aload_n 0, 1) := by decide +kernel
theorem dX13_begin_29 : decode cX13_begin 29 = .ok (.invokevirtual 69, 3) := by decide +kernel
theorem dX13_begin_32 : decode cX13_begin 32 = .ok (.return_, 1) := by decide +kernel
set_option maxRecDepth 20000 in
theorem ggX13_begin_X13_scan : GoodIn wsX13_begin wsX13_scan := goodIn_r _ [10, 3, 2, 11, 12, 13, 14, 15, 16, 17, 9, 18, 19, 20, 21, 22, 23, 24, 25, 26, 27, 28, 29, 30, 31, 32, 33, 34, 35, 36, 37, 38, 39, 40, 41, 42, 43, 44, 45, 46, 47, 48, 49, 50, 51, 52, 53, 54, 55, 56, 57, 58, 59, 60, 61, 62, 63, 64, 65, 66, 67, 68, 69, 70, 71, 72, 73, 74, 75, 76, 77, 78, 79, 80, 81, 82, 83, 84, 85, 86, 87, 88, 89, 90, 91, 92, 93, 94, 95, 96, 97] rfl (by decide +kernel)
set_option maxRecDepth 20000 in
theorem gX13_begin_X13_scan : GoodIn wsX13_begin (wsV RX13 69 RX13 yX13_scan wsX13_scan) := goodIn_app (goodIn_of _ (by decide +kernel)) ggX13_begin_X13_scan
set_option maxHeartbeats 4000000 in
set_option maxRecDepth 100000 in
theorem S_X13_begin (l : Launch) (D : va_G) (K : Nat → ClassId) (a : Nat → Nat) (G : gS) (hI : yI G) (sz : Nat) : Kv l yX13_begin wsX13_begin 3 83 0 0 D [.ref (a 0)] (yW K a G) (tK K) sz (fun (G' : gS) => (yI G') ∧ (gu_un ycd [3, 4, 5, 6, 7, 8, 9, 10] G G') ∧ (((G' 0 5).toInt ≤ (G' 0 3).toInt ∧ (G' 0 2).toInt = 0)) ∧ (((G' 0 4).toInt ≤ (G' 0 5).toInt)) ∧ (((G' 0 6).toInt ≠ 2 ∨ (0 ≤ (G' 0 7).toInt ∧ (G' 0 7).toInt ≤ 9999))) ∧ (((G' 0 3).toInt = (G 0 2).toInt ∧ (G' 0 8).toInt = 0 ∧ (G' 0 9).toInt = -1)) ∧ (tTok (G 2) (G 0 2).toInt 0 (G' 0 6).toInt (G' 0 4).toInt (G' 0 7).toInt (G' 0 5).toInt)) (fun (G' : gS) => (yW K a G')) (fun _ => (tK K)) := by
  unfold Kv
  refine g_ofW (cc := cX13_begin) (lv := [(0, .ref (a 0))]) (by decide) rfl (Nat.le_of_ble_eq_true rfl) rfl ?_
  intro p e s m args below meth c A Q hA hQ F hr hnm
  have hts := F.2.2.2.2.1
  have w_0 : (Cond.fieldLink RX13 73 "QuietCutModel" "taped" "I").before args s = true := hts _ (List.mem_of_getElem? (i := 1) rfl)
  have i_X13 : ∀ w ∈ u_ws RX13 TX13 73, w ∈ wsX13_begin := fun _ h => List.mem_cons_of_mem _ (List.mem_append_right _ h)
  have w_1 : (Cond.fieldLink RX13 17 "QuietCutModel" "length" "I").before args s = true := hts _ (List.mem_of_getElem? (i := 2) rfl)
  have w_2 : (Cond.fieldLink RX13 24 "QuietCutModel" "behind" "I").before args s = true := hts _ (List.mem_of_getElem? (i := 3) rfl)
  have w_3 : (Cond.fieldLink RX13 3 "QuietCutModel" "fault" "I").before args s = true := hts _ (List.mem_of_getElem? (i := 4) rfl)
  have w_4 : (Cond.fieldLink RX13 10 "QuietCutModel" "faultAt" "I").before args s = true := hts _ (List.mem_of_getElem? (i := 5) rfl)
  have b1 : (0 : Int) ≤ (G 0 2).toInt ∧ (G 0 2).toInt ≤ 1000 := hI 0 2
  refine g_aload_n F 0 dX13_begin_0 rfl rfl ?_
  refine g_aload_n F 0 dX13_begin_1 rfl rfl ?_
  refine yg_0_2 F i_X13 w_0 dX13_begin_2 (G 0 2) (rfl) ?_
  refine yp_0_3 F i_X13 w_1 dX13_begin_5 ?_
  refine g_aload_n F 0 dX13_begin_8 rfl rfl ?_
  refine g_iconst F 0 dX13_begin_9 (by decide) ?_
  refine yp_0_2 F i_X13 w_0 dX13_begin_10 ?_
  refine g_aload_n F 0 dX13_begin_13 rfl rfl ?_
  refine g_iconst F 0 dX13_begin_14 (by decide) ?_
  refine yp_0_5 F i_X13 w_2 dX13_begin_15 ?_
  refine g_aload_n F 0 dX13_begin_18 rfl rfl ?_
  refine g_iconst F 0 dX13_begin_19 (by decide) ?_
  refine yp_0_8 F i_X13 w_3 dX13_begin_20 ?_
  refine g_aload_n F 0 dX13_begin_23 rfl rfl ?_
  refine g_iconst F (-1) dX13_begin_24 (by decide) ?_
  refine yp_0_9 F i_X13 w_4 dX13_begin_25 ?_
  refine g_aload_n F 0 dX13_begin_28 rfl rfl ?_
  refine u_callVv (k := 0) (n := 0) (b := a 0) (As := []) (st := []) F (fun sz => S_X13_scan l D K a (gu_up (gu_up (gu_up (gu_up (gu_up G 0 3 (G 0 2)) 0 2 0) 0 5 0) 0 8 0) 0 9 (-1))  (by have e9_0_3 : (gu_up (gu_up (gu_up (gu_up (gu_up G 0 3 (G 0 2)) 0 2 0) 0 5 0) 0 8 0) 0 9 (-1)) 0 3 = (G 0 2) := rfl; have e9_0_5 : (gu_up (gu_up (gu_up (gu_up (gu_up G 0 3 (G 0 2)) 0 2 0) 0 5 0) 0 8 0) 0 9 (-1)) 0 5 = 0 := rfl; (try simp only [e9_0_3, e9_0_5, true_and, and_true]) <;> (first | omega | (simp only [Int32.reduceToInt, true_and, and_true, ne_eq, not_true_eq_false, false_and, or_false, false_or, true_or, or_true, false_implies] <;> omega))) (gu_I.up (j := 0) (k := 9) (v := (-1)) (gu_I.up (j := 0) (k := 8) (v := 0) (gu_I.up (j := 0) (k := 5) (v := 0) (gu_I.up (j := 0) (k := 2) (v := 0) (gu_I.up (j := 0) (k := 3) (v := (G 0 2)) hI (show (0 : Int) ≤ Int32.toInt (G 0 2) by omega) (show Int32.toInt (G 0 2) ≤ 1000 by omega)) (show (0 : Int) ≤ (0 : Int32).toInt by decide) (show (0 : Int32).toInt ≤ 1000 by decide)) (show (0 : Int) ≤ (0 : Int32).toInt by decide) (show (0 : Int32).toInt ≤ 1000 by decide)) (ti_rng _).1 (ti_rng _).2) (ti_rng _).1 (ti_rng _).2) sz) (cwV 0 hts gX13_begin_X13_scan rfl rfl rfl (by decide +kernel) ⟨Nat.le_of_ble_eq_true rfl, Nat.le_of_ble_eq_true rfl⟩) rfl 0 yc_0 rfl (Nat.le_of_ble_eq_true rfl) ⟨Nat.zero_le _, Nat.zero_le _⟩ dX13_begin_29 (fun G4 hw3 => ?_)
  have hI5 : yI G4 := hw3.1
  have hU6 : gu_un ycd [5, 6, 7, 8] (gu_up (gu_up (gu_up (gu_up (gu_up G 0 3 (G 0 2)) 0 2 0) 0 5 0) 0 8 0) 0 9 (-1)) G4 := hw3.2.1
  have hp7 := hw3.2.2
  have b8 : (0 : Int) ≤ (G4 0 5).toInt ∧ (G4 0 5).toInt ≤ 1000 := hI5 0 5
  have b9 : (0 : Int) ≤ (G4 0 4).toInt ∧ (G4 0 4).toInt ≤ 1000 := hI5 0 4
  have q10 : ((G4 0 5).toInt ≤ (G 0 2).toInt ∧ (0 : Int) ≤ (G4 0 4).toInt ∧ (G4 0 4).toInt ≤ (G4 0 5).toInt) := hp7.1
  have b11 : (0 : Int) ≤ (G4 0 6).toInt ∧ (G4 0 6).toInt ≤ 4 := hI5 0 6
  have q12 : (((G4 0 6).toInt = 0 ∧ (G4 0 4).toInt = (G 0 2).toInt) ∨ ((G4 0 6).toInt ≠ 0 ∧ (G4 0 4).toInt < (G4 0 5).toInt)) := hp7.2.1
  have b13 : (0 : Int) ≤ (G4 0 7).toInt ∧ (G4 0 7).toInt ≤ 9999 := hI5 0 7
  have q14 : tTok (G 2) (G 0 2).toInt (0 : Int) (G4 0 6).toInt (G4 0 4).toInt (G4 0 7).toInt (G4 0 5).toInt := hp7.2.2
  clear hp7 hw3
  exact u_vret F hA hQ hr G4 (⟨hI5, (gu_un.tr (gu_un.up (j := 0) (k := 9) (v := (-1)) (gu_un.up (j := 0) (k := 8) (v := 0) (gu_un.up (j := 0) (k := 5) (v := 0) (gu_un.up (j := 0) (k := 2) (v := 0) (gu_un.up (j := 0) (k := 3) (v := (G 0 2)) gu_un.rf (show (4 : Nat) ∈ ([3, 4, 5, 6, 7, 8, 9, 10] : List Nat) by decide)) (show (3 : Nat) ∈ ([3, 4, 5, 6, 7, 8, 9, 10] : List Nat) by decide)) (show (6 : Nat) ∈ ([3, 4, 5, 6, 7, 8, 9, 10] : List Nat) by decide)) (show (9 : Nat) ∈ ([3, 4, 5, 6, 7, 8, 9, 10] : List Nat) by decide)) (show (10 : Nat) ∈ ([3, 4, 5, 6, 7, 8, 9, 10] : List Nat) by decide)) (gu_un.su hU6 rfl)), (by show ((G4 0 5).toInt ≤ (G4 0 3).toInt ∧ (G4 0 2).toInt = 0); have e9_0_2 : G4 0 2 = 0 := hU6 0 2 (by decide); have e9_0_3 : G4 0 3 = (G 0 2) := hU6 0 3 (by decide); (try simp only [e9_0_2, e9_0_3, true_and, and_true]) <;> (first | omega | (simp only [Int32.reduceToInt, true_and, and_true, ne_eq, not_true_eq_false, false_and, or_false, false_or, true_or, or_true, false_implies] <;> omega))), (by show ((G4 0 4).toInt ≤ (G4 0 5).toInt); (first | omega | (simp only [Int32.reduceToInt, true_and, and_true, ne_eq, not_true_eq_false, false_and, or_false, false_or, true_or, or_true, false_implies] <;> omega))), (by have h9 := q14.lt (by omega); show _ ∨ _; omega), (by show ((G4 0 3).toInt = (G 0 2).toInt ∧ (G4 0 8).toInt = 0 ∧ (G4 0 9).toInt = -1); have e9_0_3 : G4 0 3 = (G 0 2) := hU6 0 3 (by decide); have e9_0_8 : G4 0 8 = 0 := hU6 0 8 (by decide); have e9_0_9 : G4 0 9 = (-1) := hU6 0 9 (by decide); (try simp only [e9_0_3, e9_0_8, e9_0_9, true_and, and_true]) <;> (first | omega | (simp only [Int32.reduceToInt, true_and, and_true, ne_eq, not_true_eq_false, false_and, or_false, false_or, true_or, or_true, false_implies] <;> omega))), (q14)⟩) rfl rfl dX13_begin_32

theorem dX13_readNumbers_0 : decode cX13_readNumbers 0 = .ok (.iconst 0, 1) := by decide +kernel
theorem dX13_readNumbers_1 : decode cX13_readNumbers 1 = .ok (.istore_n 1, 1) := by decide +kernel
theorem dX13_readNumbers_2 : decode cX13_readNumbers 2 = .ok (.aload_n 0, 1) := by decide +kernel
theorem dX13_readNumbers_3 : decode cX13_readNumbers 3 = .ok (.bipush 45, 2) := by decide +kernel
theorem dX13_readNumbers_5 : decode cX13_readNumbers 5 = .ok (.invokevirtual 110, 3) := by decide +kernel
theorem dX13_readNumbers_8 : decode cX13_readNumbers 8 = .ok (.istore_n 2, 1) := by decide +kernel
theorem dX13_readNumbers_9 : decode cX13_readNumbers 9 = .ok (.iload_n 2, 1) := by decide +kernel
theorem dX13_readNumbers_10 : decode cX13_readNumbers 10 = .ok (.ifCond .eq 7, 3) := by decide +kernel
theorem dX13_readNumbers_13 : decode cX13_readNumbers 13 = .ok (.aload_n 0, 1) := by decide +kernel
theorem dX13_readNumbers_14 : decode cX13_readNumbers 14 = .ok (.invokevirtual 69, 3) := by decide +kernel
theorem dX13_readNumbers_17 : decode cX13_readNumbers 17 = .ok (.aload_n 0, 1) := by decide +kernel
theorem dX13_readNumbers_18 : decode cX13_readNumbers 18 = .ok (.aload_n 0, 1) := by decide +kernel
theorem dX13_readNumbers_19 : decode cX13_readNumbers 19 = .ok (.getfield 31, 3) := by decide +kernel
theorem dX13_readNumbers_22 : decode cX13_readNumbers 22 = .ok (.iconst 2, 1) := by decide +kernel
theorem dX13_readNumbers_23 : decode cX13_readNumbers 23 = .ok (.if_icmp .ne 7, 3) := by decide +kernel
theorem dX13_readNumbers_26 : decode cX13_readNumbers 26 = .ok (.iconst 1, 1) := by decide +kernel
theorem dX13_readNumbers_27 : decode cX13_readNumbers 27 = .ok (.goto 4, 3) := by decide +kernel
theorem dX13_readNumbers_30 : decode cX13_readNumbers 30 = .ok (.iconst 0, 1) := by decide +kernel
theorem dX13_readNumbers_31 : decode cX13_readNumbers 31 = .ok (.iconst 1, 1) := by decide +kernel
theorem dX13_readNumbers_32 : decode cX13_readNumbers 32 = .ok (.invokevirtual 57, 3) := by decide +kernel
theorem dX13_readNumbers_35 : decode cX13_readNumbers 35 = .ok (.aload_n 0, 1) := by decide +kernel
theorem dX13_readNumbers_36 : decode cX13_readNumbers 36 = .ok (.iload_n 1, 1) := by decide +kernel
theorem dX13_readNumbers_37 : decode cX13_readNumbers 37 = .ok (.sipush 150, 3) := by decide +kernel
theorem dX13_readNumbers_40 : decode cX13_readNumbers 40 = .ok (.if_icmp .ge 7, 3) := by decide +kernel
theorem dX13_readNumbers_43 : decode cX13_readNumbers 43 = .ok (.iconst 1, 1) := by decide +kernel
theorem dX13_readNumbers_44 : decode cX13_readNumbers 44 = .ok (.goto 4, 3) := by decide +kernel
theorem dX13_readNumbers_47 : decode cX13_readNumbers 47 = .ok (.iconst 0, 1) := by decide +kernel
theorem dX13_readNumbers_48 : decode cX13_readNumbers 48 = .ok (.iconst 4, 1) := by decide +kernel
theorem dX13_readNumbers_49 : decode cX13_readNumbers 49 = .ok (.invokevirtual 57, 3) := by decide +kernel
theorem dX13_readNumbers_52 : decode cX13_readNumbers 52 = .ok (.aload_n 0, 1) := by decide +kernel
theorem dX13_readNumbers_53 : decode cX13_readNumbers 53 = .ok (.getfield 313, 3) := by decide +kernel
theorem dX13_readNumbers_56 : decode cX13_readNumbers 56 = .ok (.iload_n 1, 1) := by decide +kernel
theorem dX13_readNumbers_57 : decode cX13_readNumbers 57 = .ok (.iload_n 2, 1) := by decide +kernel
theorem dX13_readNumbers_58 : decode cX13_readNumbers 58 = .ok (.ifCond .eq 11, 3) := by decide +kernel
theorem dX13_readNumbers_61 : decode cX13_readNumbers 61 = .ok (.aload_n 0, 1) := by decide +kernel
theorem dX13_readNumbers_62 : decode cX13_readNumbers 62 = .ok (.getfield 41, 3) := by decide +kernel
theorem dX13_readNumbers_65 : decode cX13_readNumbers 65 = .ok (.ineg, 1) := by decide +kernel
theorem dX13_readNumbers_66 : decode cX13_readNumbers 66 = .ok (.goto 7, 3) := by decide +kernel
theorem dX13_readNumbers_69 : decode cX13_readNumbers 69 = .ok (.aload_n 0, 1) := by decide +kernel
theorem dX13_readNumbers_70 : decode cX13_readNumbers 70 = .ok (.getfield 41, 3) := by decide +kernel
theorem dX13_readNumbers_73 : decode cX13_readNumbers 73 = .ok (.iastore, 1) := by decide +kernel
theorem dX13_readNumbers_74 : decode cX13_readNumbers 74 = .ok (.iinc 1 1, 3) := by decide +kernel
theorem dX13_readNumbers_77 : decode cX13_readNumbers 77 = .ok (.aload_n 0, 1) := by decide +kernel
theorem dX13_readNumbers_78 : decode cX13_readNumbers 78 = .ok (.invokevirtual 69, 3) := by decide +kernel
theorem dX13_readNumbers_81 : decode cX13_readNumbers 81 = .ok (.aload_n 0, 1) := by decide +kernel
theorem dX13_readNumbers_82 : decode cX13_readNumbers 82 = .ok (.getfield 31, 3) := by decide +kernel
theorem dX13_readNumbers_85 : decode cX13_readNumbers 85 = .ok (.ifCond .ne (-83), 3) := by decide +kernel
theorem dX13_readNumbers_88 : decode cX13_readNumbers 88 = .ok (.iload_n 1, 1) := by decide +kernel
theorem dX13_readNumbers_89 : decode cX13_readNumbers 89 = .ok (.ireturn, 1) := by decide +kernel
set_option maxRecDepth 20000 in
theorem ggX13_readNumbers_X13_isSign : GoodIn wsX13_readNumbers wsX13_isSign := goodIn_r _ [8, 1, 3, 31, 32, 33, 34, 35, 36, 37, 38, 39, 40, 41, 42, 43, 44, 45, 46, 47, 48, 49, 50, 51, 52, 53, 54, 55, 56, 57, 58, 59, 60, 61, 62, 63, 64, 65, 66, 67, 68, 69, 70, 71, 72, 73, 74, 75, 76, 77, 78, 79, 80, 81, 82, 83, 84, 85, 86, 87, 88, 89, 90, 91, 92, 93, 94, 95, 96, 97, 98, 99, 100, 101, 102, 103] rfl (by decide +kernel)
set_option maxRecDepth 20000 in
theorem gX13_readNumbers_X13_isSign : GoodIn wsX13_readNumbers (wsV RX13 110 RX13 yX13_isSign wsX13_isSign) := goodIn_app (goodIn_of _ (by decide +kernel)) ggX13_readNumbers_X13_isSign
set_option maxRecDepth 20000 in
theorem ggX13_readNumbers_X13_need : GoodIn wsX13_readNumbers wsX13_need := goodIn_r _ [30] rfl (by decide +kernel)
set_option maxRecDepth 20000 in
theorem gX13_readNumbers_X13_need : GoodIn wsX13_readNumbers (wsV RX13 57 RX13 yX13_need wsX13_need) := goodIn_app (goodIn_of _ (by decide +kernel)) ggX13_readNumbers_X13_need
set_option maxRecDepth 20000 in
theorem ggX13_readNumbers_X13_scan : GoodIn wsX13_readNumbers wsX13_scan := goodIn_r _ [12, 13, 14, 15, 16, 1, 3, 17, 18, 19, 7, 20, 21, 22, 23, 24, 25, 26, 31, 32, 33, 34, 35, 36, 37, 38, 39, 40, 41, 42, 43, 44, 45, 46, 47, 48, 49, 50, 51, 52, 53, 54, 55, 56, 57, 58, 59, 60, 61, 62, 63, 64, 65, 66, 67, 68, 69, 70, 71, 72, 73, 74, 75, 76, 77, 78, 79, 80, 81, 82, 83, 84, 85, 86, 87, 88, 89, 90, 91, 92, 93, 94, 95, 96, 97, 98, 99, 100, 101, 102, 103] rfl (by decide +kernel)
set_option maxRecDepth 20000 in
theorem gX13_readNumbers_X13_scan : GoodIn wsX13_readNumbers (wsV RX13 69 RX13 yX13_scan wsX13_scan) := goodIn_app (goodIn_of _ (by decide +kernel)) ggX13_readNumbers_X13_scan
def wsT_X13_readNumbers : List Cond := wsX13_readNumbers ++ wsT_nx
theorem gT_X13_readNumbers_X13_need : GoodIn wsT_X13_readNumbers (wsV RX13 57 RX13 yX13_need wsT_X13_need) := gT_call gX13_readNumbers_X13_need gT_nx
set_option maxHeartbeats 4000000 in
set_option maxRecDepth 100000 in
theorem S_X13_readNumbers (l : Launch) (D : va_G) (K : Nat → ClassId) (a : Nat → Nat) (G : gS) (pb : ((G 0 5).toInt ≤ (G 0 3).toInt)) (vr0 : ((G 0 6).toInt ≠ 2 ∨ (0 ≤ (G 0 7).toInt ∧ (G 0 7).toInt ≤ 9999))) (hI : yI G) (sz : Nat) : Kxi l yX13_readNumbers wsT_X13_readNumbers 3 83 D [.ref (a 0)] (yW K a G) (tK K) sz (fun (r : Int32) (G' : gS) => (yI G') ∧ (gu_un ycd [5, 6, 7, 8, 9, 10, 4700] G G') ∧ (1 ≤ r.toInt ∧ r.toInt ≤ 150) ∧ (((G' 0 5).toInt ≤ (G 0 3).toInt ∧ 0 ≤ r.toInt ∧ r.toInt ≤ 150)) ∧ ((∀ p9 : Int, tTok (G 2) (G 0 3).toInt p9 (G 0 6).toInt (G 0 4).toInt (G 0 7).toInt (G 0 5).toInt → ∃ m : Nat, sOut (G 2) (G 0 3).toInt m p9 0 0 (G 47) 0 0 r.toInt (G' 47))) ∧ (yFf G G')) (fun (G' : gS) => (yI G') ∧ (gu_un ycd [5, 6, 7, 8, 9, 10, 4700] G G') ∧ ((∀ p9 : Int, tTok (G 2) (G 0 3).toInt p9 (G 0 6).toInt (G 0 4).toInt (G 0 7).toInt (G 0 5).toInt → ∃ (m : Nat) (ct : Int) (f9 : Nat → Int32), sOut (G 2) (G 0 3).toInt m p9 0 0 (G 47) (G' 0 8).toInt (G' 0 9).toInt ct f9)) ∧ (((G' 0 8).toInt ≠ 0))) (a 1) (fun (G' : gS) => (yW K a G')) := by
  unfold Kxi
  refine gx_ofW (cc := cX13_readNumbers) (lv := [(0, .ref (a 0))]) (by decide) rfl (Nat.le_of_ble_eq_true rfl) rfl ?_
  intro p e s m args below meth c A Q hA hQ F hr hex
  have hts := F.2.2.2.2.1
  have w_0 : (Cond.fieldLink RX13 31 "QuietCutModel" "hand" "I").before args s = true := hts _ (List.mem_of_getElem? (i := 1) rfl)
  have i_X13 : ∀ w ∈ u_ws RX13 TX13 73, w ∈ wsT_X13_readNumbers := fun w h => List.mem_append_left _ ((show ∀ w ∈ u_ws RX13 TX13 73, w ∈ wsX13_readNumbers from fun _ h => List.mem_cons_of_mem _ (List.mem_append_right _ h)) w h)
  have w_1 : (Cond.fieldLink RX13 313 "QuietCutModel" "readSound" "[I").before args s = true := hts _ (List.mem_of_getElem? (i := 2) rfl)
  have w_2 : (Cond.fieldLink RX13 41 "QuietCutModel" "value" "I").before args s = true := hts _ (List.mem_of_getElem? (i := 3) rfl)
  have b1 : (0 : Int) ≤ (G 0 3).toInt ∧ (G 0 3).toInt ≤ 1000 := hI 0 3
  have b2 : (0 : Int) ≤ (G 0 5).toInt ∧ (G 0 5).toInt ≤ 1000 := hI 0 5
  have J_2 : ∀ (fuel : Nat) (x2_1 : Int32) (Gj2 : gS), (8 * (1000 - (Gj2 0 5).toInt) + (Gj2 0 6).toInt).toNat < fuel → (0 ≤ x2_1.toInt ∧ x2_1.toInt ≤ 150) → (yI Gj2) → (gu_un ycd [5, 6, 7, 8, 9, 10, 4700] G Gj2) → (((Gj2 0 6).toInt ≠ 2 ∨ (0 ≤ (Gj2 0 7).toInt ∧ (Gj2 0 7).toInt ≤ 9999))) → (∀ p9 : Int, tTok (G 2) (G 0 3).toInt p9 (G 0 6).toInt (G 0 4).toInt (G 0 7).toInt (G 0 5).toInt → ∃ p : Int, tTok (G 2) (G 0 3).toInt p (Gj2 0 6).toInt (Gj2 0 4).toInt (Gj2 0 7).toInt (Gj2 0 5).toInt ∧ ∀ (kd pc ct : Int) (f9 : Nat → Int32), (∃ m : Nat, sOut (G 2) (G 0 3).toInt m p x2_1.toInt 0 (Gj2 47) kd pc ct f9) → ∃ m : Nat, sOut (G 2) (G 0 3).toInt m p9 0 0 (G 47) kd pc ct f9) → ((x2_1.toInt = 0 ∨ (Gj2 0 6).toInt ≠ 0)) → (yFf G Gj2) → (((Gj2 0 5).toInt ≤ (G 0 3).toInt)) → gG p l e (gR 3 0 0 83) s m args below meth c D A 3 Q 0 0 (yW K a Gj2) (tK K) [(0, .ref (a 0)), (1, .int x2_1)] 2 [] := by
    intro fuel
    induction fuel with
    | zero => intro x2_1 Gj2 hm; exact absurd hm (Nat.not_lt_zero _)
    | succ fuel_2 ih_2 =>
      intro x2_1 Gj2 hm_2 h2_1 jI2 jU2 vr si nz ff2 bl_2
      refine g_aload_n F 0 dX13_readNumbers_2 rfl rfl ?_
      refine g_bipush F 45 dX13_readNumbers_3 (by decide) ?_
      refine u_callVi (k := 0) (n := 0) (b := a 0) (As := [.int 45]) (st := []) F (fun sz => S_X13_isSign l D K a Gj2 45 45 rfl jI2 sz) (cwV 1 hts (gT_left gX13_readNumbers_X13_isSign) rfl rfl rfl (by decide +kernel) ⟨Nat.le_of_ble_eq_true rfl, Nat.le_of_ble_eq_true rfl⟩) rfl 0 yc_0 rfl (Nat.le_of_ble_eq_true rfl) ⟨Nat.zero_le _, Nat.zero_le _⟩ dX13_readNumbers_5 (fun r3 _ hw4 => ?_)
      rcases hw4 with ⟨rfl, q6⟩ | ⟨rfl, q7⟩
      · have b8 : (0 : Int) ≤ (Gj2 0 6).toInt ∧ (Gj2 0 6).toInt ≤ 4 := jI2 0 6
        have b9 : (0 : Int) ≤ (Gj2 0 7).toInt ∧ (Gj2 0 7).toInt ≤ 9999 := jI2 0 7
        have q6 : ((Gj2 0 6).toInt = 3 ∧ (Gj2 0 7).toInt = (45 : Int)) := q6
        refine g_istore_n F [(2, .int 1), (0, .ref (a 0)), (1, .int x2_1)] dX13_readNumbers_8 rfl (by decide) rfl ?_
        refine g_iload_n F 0 dX13_readNumbers_9 rfl rfl ?_
        refine v_if_eq F 17 dX13_readNumbers_10 (by decide) 1 rfl (fun c10 => absurd c10 (by decide)) (fun c10 => ?_)
        refine g_aload_n F 1 dX13_readNumbers_13 rfl rfl ?_
        have b11 : (0 : Int) ≤ (Gj2 0 5).toInt ∧ (Gj2 0 5).toInt ≤ 1000 := jI2 0 5
        refine u_callVv (k := 0) (n := 0) (b := a 0) (As := []) (st := []) F (fun sz => S_X13_scan l D K a Gj2  (by have e9_0_3 : Gj2 0 3 = (G 0 3) := jU2 0 3 (by decide); (try simp only [e9_0_3, true_and, and_true]) <;> (first | omega | (simp only [Int32.reduceToInt, true_and, and_true, ne_eq, not_true_eq_false, false_and, or_false, false_or, true_or, or_true, false_implies] <;> omega))) jI2 sz) (cwV 0 hts (gT_left gX13_readNumbers_X13_scan) rfl rfl rfl (by decide +kernel) ⟨Nat.le_of_ble_eq_true rfl, Nat.le_of_ble_eq_true rfl⟩) rfl 0 yc_0 rfl (Nat.le_of_ble_eq_true rfl) ⟨Nat.zero_le _, Nat.zero_le _⟩ dX13_readNumbers_14 (fun G14 hw13 => ?_)
        have hI15 : yI G14 := hw13.1
        have hU16 : gu_un ycd [5, 6, 7, 8] Gj2 G14 := hw13.2.1
        have hp17 := hw13.2.2
        have b18 : (0 : Int) ≤ (G14 0 5).toInt ∧ (G14 0 5).toInt ≤ 1000 := hI15 0 5
        have b19 : (0 : Int) ≤ (G14 0 4).toInt ∧ (G14 0 4).toInt ≤ 1000 := hI15 0 4
        have q20 : ((G14 0 5).toInt ≤ (G 0 3).toInt ∧ (Gj2 0 5).toInt ≤ (G14 0 4).toInt ∧ (G14 0 4).toInt ≤ (G14 0 5).toInt) := by have h9 := hp17.1; (try simp only [(show Gj2 0 3 = (G 0 3) from jU2 0 3 (by decide))] at h9); first | exact h9 | omega
        have b21 : (0 : Int) ≤ (G14 0 6).toInt ∧ (G14 0 6).toInt ≤ 4 := hI15 0 6
        have q22 : (((G14 0 6).toInt = 0 ∧ (G14 0 4).toInt = (G 0 3).toInt) ∨ ((G14 0 6).toInt ≠ 0 ∧ (G14 0 4).toInt < (G14 0 5).toInt)) := by have h9 := hp17.2.1; (try simp only [(show Gj2 0 3 = (G 0 3) from jU2 0 3 (by decide))] at h9); first | exact h9 | omega
        have b23 : (0 : Int) ≤ (G14 0 7).toInt ∧ (G14 0 7).toInt ≤ 9999 := hI15 0 7
        have q24 : tTok (G 2) (G 0 3).toInt (Gj2 0 5).toInt (G14 0 6).toInt (G14 0 4).toInt (G14 0 7).toInt (G14 0 5).toInt := by have h9 := hp17.2.2; (try simp only [(show Gj2 0 3 = (G 0 3) from jU2 0 3 (by decide)), (show Gj2 2 = (G 2) from (show Gj2 2 = G 2 from funext fun k_ => jU2 2 k_ (show (200 : Nat) ∉ ([5, 6, 7, 8, 9, 10, 4700] : List Nat) by decide)))] at h9); first | exact h9 | omega
        have tl25 := q24.lt (by omega)
        clear hp17 hw13
        refine g_aload_n F 1 dX13_readNumbers_17 rfl rfl ?_
        refine g_aload_n F 1 dX13_readNumbers_18 rfl rfl ?_
        refine yg_0_6 F i_X13 w_0 dX13_readNumbers_19 (G14 0 6) (rfl) ?_
        refine g_iconst F 2 dX13_readNumbers_22 (by decide) ?_
        refine v_icmp_ne F 30 dX13_readNumbers_23 (by decide) (G14 0 6).toInt 2 rfl rfl (fun c26 => ?_) (fun c26 => ?_)
        · refine g_iconst F 0 dX13_readNumbers_30 (by decide) ?_
          refine g_iconst F 1 dX13_readNumbers_31 (by decide) ?_
          refine ux_callvi (k := 0) (n := 0) (b := a 0) (As := [.int 0, .int 1]) (st := []) F (fun sz => S_X13_need l D K a G14 0 0 1 1 rfl (by decide) rfl hI15 sz) (cwV 2 hts gT_X13_readNumbers_X13_need rfl rfl rfl (by decide +kernel) ⟨Nat.le_of_ble_eq_true rfl, Nat.le_of_ble_eq_true rfl⟩) rfl 0 yc_0 rfl (Nat.le_of_ble_eq_true rfl) ⟨Nat.zero_le _, Nat.zero_le _⟩ dX13_readNumbers_32 hex hA hQ (fun u9 h9 => ⟨h9.1, gu_un.tr (gu_un.tr (gu_un.tr gu_un.rf (gu_un.su jU2 rfl)) (gu_un.su hU16 rfl)) (gu_un.su h9.2.1 rfl), (fun p9 g9 => by obtain ⟨p8, t8, c8⟩ := si p9 g9; obtain ⟨m7, h7⟩ := c8 (u9 0 8).toInt (u9 0 9).toInt 0 (G 47) ⟨1 + 1, _, _, _, _, t8, Or.inr (Or.inr (Or.inl ⟨by omega, by omega, rfl, _, _, _, _, q24, Or.inr (Or.inr (Or.inr (Or.inr ⟨by omega, by omega, by omega, h9.2.2.2.1, (by have h6 := h9.2.2.2.2; exact h6)⟩)))⟩))⟩; exact ⟨m7, _, _, h7⟩), (by have h9 := h9.2.2.2.1; omega)⟩) (fun G29 hw28 => ?_)
          have hI30 : yI G29 := hw28.1
          have hU31 : gu_un ycd [9, 10] G14 G29 := hw28.2.1
          have hp32 := hw28.2.2
          have q33 : ((0 : Int) ≠ 0) := hp32.1
          have q34 : yFf G14 G29 := hp32.2
          exfalso; omega
        · refine g_iconst F 1 dX13_readNumbers_26 (by decide) ?_
          refine g_goto F 31 dX13_readNumbers_27 (by decide) ?_
          refine g_iconst F 1 dX13_readNumbers_31 (by decide) ?_
          refine ux_callvi (k := 0) (n := 0) (b := a 0) (As := [.int 1, .int 1]) (st := []) F (fun sz => S_X13_need l D K a G14 1 1 1 1 rfl (by decide) rfl hI15 sz) (cwV 2 hts gT_X13_readNumbers_X13_need rfl rfl rfl (by decide +kernel) ⟨Nat.le_of_ble_eq_true rfl, Nat.le_of_ble_eq_true rfl⟩) rfl 0 yc_0 rfl (Nat.le_of_ble_eq_true rfl) ⟨Nat.zero_le _, Nat.zero_le _⟩ dX13_readNumbers_32 hex hA hQ (fun u9 h9 => ⟨h9.1, gu_un.tr (gu_un.tr (gu_un.tr gu_un.rf (gu_un.su jU2 rfl)) (gu_un.su hU16 rfl)) (gu_un.su h9.2.1 rfl), (absurd h9.2.2.1 (by decide)), (absurd h9.2.2.1 (by decide))⟩) (fun G37 hw36 => ?_)
          have hI38 : yI G37 := hw36.1
          have hU39 : gu_un ycd [9, 10] G14 G37 := hw36.2.1
          have hp40 := hw36.2.2
          have q41 : ((1 : Int) ≠ 0) := hp40.1
          have q42 : yFf G14 G37 := hp40.2
          clear hp40 hw36
          refine g_aload_n F 1 dX13_readNumbers_35 rfl rfl ?_
          refine g_iload_n F 2 dX13_readNumbers_36 rfl rfl ?_
          refine g_sipush F 150 dX13_readNumbers_37 (by decide) ?_
          refine v_icmp_ge F 47 dX13_readNumbers_40 (by decide) x2_1.toInt 150 rfl rfl (fun c43 => ?_) (fun c43 => ?_)
          · refine g_iconst F 0 dX13_readNumbers_47 (by decide) ?_
            refine g_iconst F 4 dX13_readNumbers_48 (by decide) ?_
            refine ux_callvi (k := 0) (n := 0) (b := a 0) (As := [.int 0, .int 4]) (st := []) F (fun sz => S_X13_need l D K a G37 0 0 4 4 rfl (by decide) rfl hI38 sz) (cwV 2 hts gT_X13_readNumbers_X13_need rfl rfl rfl (by decide +kernel) ⟨Nat.le_of_ble_eq_true rfl, Nat.le_of_ble_eq_true rfl⟩) rfl 0 yc_0 rfl (Nat.le_of_ble_eq_true rfl) ⟨Nat.zero_le _, Nat.zero_le _⟩ dX13_readNumbers_49 hex hA hQ (fun u9 h9 => ⟨h9.1, gu_un.tr (gu_un.tr (gu_un.tr (gu_un.tr gu_un.rf (gu_un.su jU2 rfl)) (gu_un.su hU16 rfl)) (gu_un.su hU39 rfl)) (gu_un.su h9.2.1 rfl), (fun p9 g9 => by obtain ⟨p8, t8, c8⟩ := si p9 g9; obtain ⟨m7, h7⟩ := c8 (u9 0 8).toInt (u9 0 9).toInt 0 (G 47) ⟨1 + 1, _, _, _, _, t8, Or.inr (Or.inr (Or.inl ⟨by omega, by omega, rfl, _, _, _, _, q24, Or.inr (Or.inl ⟨by omega, by omega, h9.2.2.2.1, (by have h6 := h9.2.2.2.2; rw [show G37 0 4 = (G14 0 4) from hU39 0 4 (by decide)] at h6; exact h6)⟩)⟩))⟩; exact ⟨m7, _, _, h7⟩), (by have h9 := h9.2.2.2.1; omega)⟩) (fun G46 hw45 => ?_)
            have hI47 : yI G46 := hw45.1
            have hU48 : gu_un ycd [9, 10] G37 G46 := hw45.2.1
            have hp49 := hw45.2.2
            have q50 : ((0 : Int) ≠ 0) := hp49.1
            have q51 : yFf G37 G46 := hp49.2
            exfalso; omega
          · refine g_iconst F 1 dX13_readNumbers_43 (by decide) ?_
            refine g_goto F 48 dX13_readNumbers_44 (by decide) ?_
            refine g_iconst F 4 dX13_readNumbers_48 (by decide) ?_
            refine ux_callvi (k := 0) (n := 0) (b := a 0) (As := [.int 1, .int 4]) (st := []) F (fun sz => S_X13_need l D K a G37 1 1 4 4 rfl (by decide) rfl hI38 sz) (cwV 2 hts gT_X13_readNumbers_X13_need rfl rfl rfl (by decide +kernel) ⟨Nat.le_of_ble_eq_true rfl, Nat.le_of_ble_eq_true rfl⟩) rfl 0 yc_0 rfl (Nat.le_of_ble_eq_true rfl) ⟨Nat.zero_le _, Nat.zero_le _⟩ dX13_readNumbers_49 hex hA hQ (fun u9 h9 => ⟨h9.1, gu_un.tr (gu_un.tr (gu_un.tr (gu_un.tr gu_un.rf (gu_un.su jU2 rfl)) (gu_un.su hU16 rfl)) (gu_un.su hU39 rfl)) (gu_un.su h9.2.1 rfl), (absurd h9.2.2.1 (by decide)), (absurd h9.2.2.1 (by decide))⟩) (fun G54 hw53 => ?_)
            have hI55 : yI G54 := hw53.1
            have hU56 : gu_un ycd [9, 10] G37 G54 := hw53.2.1
            have hp57 := hw53.2.2
            have q58 : ((1 : Int) ≠ 0) := hp57.1
            have q59 : yFf G37 G54 := hp57.2
            clear hp57 hw53
            refine g_aload_n F 1 dX13_readNumbers_52 rfl rfl ?_
            refine yg_0_71 F i_X13 w_1 dX13_readNumbers_53 ?_
            refine g_iload_n F 2 dX13_readNumbers_56 rfl rfl ?_
            refine g_iload_n F 0 dX13_readNumbers_57 rfl rfl ?_
            refine v_if_eq F 69 dX13_readNumbers_58 (by decide) 1 rfl (fun c60 => absurd c60 (by decide)) (fun c60 => ?_)
            refine g_aload_n F 1 dX13_readNumbers_61 rfl rfl ?_
            refine yg_0_7 F i_X13 w_2 dX13_readNumbers_62 (G14 0 7) ((hU56 0 7 (by decide)).trans (hU39 0 7 (by decide))) ?_
            refine g_ineg F dX13_readNumbers_65 ?_
            have ng62 : -2147483648 < (G14 0 7).toInt → ((-(G14 0 7)) : Int32).toInt = -(G14 0 7).toInt := fun h9 => ti_neg rfl h9
            refine g_goto F 73 dX13_readNumbers_66 (by decide) ?_
            refine u_iast F 47 0 yc_47 rfl x2_1.toInt rfl (by omega) (by omega) (yW K a (gu_up G54 47 (x2_1.toInt).toNat (-(G14 0 7)))) (ys_47 _) dX13_readNumbers_73 ?_
            refine u_iinc F (fun v_ => [(1, .int v_), (2, .int 1), (0, .ref (a 0))]) dX13_readNumbers_74 (j := 2) rfl x2_1.toInt 1 rfl rfl (by omega) (by omega) (by decide) (fun _ => rfl) (fun y63 ey63 => ?_)
            refine g_aload_n F 2 dX13_readNumbers_77 rfl rfl ?_
            refine u_callVv (k := 0) (n := 0) (b := a 0) (As := []) (st := []) F (fun sz => S_X13_scan l D K a (gu_up G54 47 (x2_1.toInt).toNat (-(G14 0 7)))  (by have e9_0_3 : (gu_up G54 47 (x2_1.toInt).toNat (-(G14 0 7))) 0 3 = (G 0 3) := (hU56 0 3 (by decide)).trans ((hU39 0 3 (by decide)).trans ((hU16 0 3 (by decide)).trans (jU2 0 3 (by decide)))); have e9_0_5 : (gu_up G54 47 (x2_1.toInt).toNat (-(G14 0 7))) 0 5 = (G14 0 5) := (hU56 0 5 (by decide)).trans (hU39 0 5 (by decide)); (try simp only [e9_0_3, e9_0_5, true_and, and_true]) <;> (first | omega | (simp only [Int32.reduceToInt, true_and, and_true, ne_eq, not_true_eq_false, false_and, or_false, false_or, true_or, or_true, false_implies] <;> omega))) (gu_I.up (j := 47) (k := (x2_1.toInt).toNat) (v := (-(G14 0 7))) hI55 (show ((-9999) : Int) ≤ Int32.toInt (-(G14 0 7)) by omega) (show Int32.toInt (-(G14 0 7)) ≤ 9999 by omega)) sz) (cwV 0 hts (gT_left gX13_readNumbers_X13_scan) rfl rfl rfl (by decide +kernel) ⟨Nat.le_of_ble_eq_true rfl, Nat.le_of_ble_eq_true rfl⟩) rfl 0 yc_0 rfl (Nat.le_of_ble_eq_true rfl) ⟨Nat.zero_le _, Nat.zero_le _⟩ dX13_readNumbers_78 (fun G66 hw65 => ?_)
            have hI67 : yI G66 := hw65.1
            have hU68 : gu_un ycd [5, 6, 7, 8] (gu_up G54 47 (x2_1.toInt).toNat (-(G14 0 7))) G66 := hw65.2.1
            have hp69 := hw65.2.2
            have b70 : (0 : Int) ≤ (G66 0 5).toInt ∧ (G66 0 5).toInt ≤ 1000 := hI67 0 5
            have b71 : (0 : Int) ≤ (G66 0 4).toInt ∧ (G66 0 4).toInt ≤ 1000 := hI67 0 4
            have q72 : ((G66 0 5).toInt ≤ (G 0 3).toInt ∧ (G14 0 5).toInt ≤ (G66 0 4).toInt ∧ (G66 0 4).toInt ≤ (G66 0 5).toInt) := by have h9 := hp69.1; (try simp only [(show (gu_up G54 47 (x2_1.toInt).toNat (-(G14 0 7))) 0 3 = (G 0 3) from (hU56 0 3 (by decide)).trans ((hU39 0 3 (by decide)).trans ((hU16 0 3 (by decide)).trans (jU2 0 3 (by decide))))), (show (gu_up G54 47 (x2_1.toInt).toNat (-(G14 0 7))) 0 5 = (G14 0 5) from (hU56 0 5 (by decide)).trans (hU39 0 5 (by decide)))] at h9); first | exact h9 | omega
            have b73 : (0 : Int) ≤ (G66 0 6).toInt ∧ (G66 0 6).toInt ≤ 4 := hI67 0 6
            have q74 : (((G66 0 6).toInt = 0 ∧ (G66 0 4).toInt = (G 0 3).toInt) ∨ ((G66 0 6).toInt ≠ 0 ∧ (G66 0 4).toInt < (G66 0 5).toInt)) := by have h9 := hp69.2.1; (try simp only [(show (gu_up G54 47 (x2_1.toInt).toNat (-(G14 0 7))) 0 3 = (G 0 3) from (hU56 0 3 (by decide)).trans ((hU39 0 3 (by decide)).trans ((hU16 0 3 (by decide)).trans (jU2 0 3 (by decide)))))] at h9); first | exact h9 | omega
            have b75 : (0 : Int) ≤ (G66 0 7).toInt ∧ (G66 0 7).toInt ≤ 9999 := hI67 0 7
            have q76 : tTok (G 2) (G 0 3).toInt (G14 0 5).toInt (G66 0 6).toInt (G66 0 4).toInt (G66 0 7).toInt (G66 0 5).toInt := by have h9 := hp69.2.2; (try simp only [(show (gu_up G54 47 (x2_1.toInt).toNat (-(G14 0 7))) 0 3 = (G 0 3) from (hU56 0 3 (by decide)).trans ((hU39 0 3 (by decide)).trans ((hU16 0 3 (by decide)).trans (jU2 0 3 (by decide))))), (show (gu_up G54 47 (x2_1.toInt).toNat (-(G14 0 7))) 0 5 = (G14 0 5) from (hU56 0 5 (by decide)).trans (hU39 0 5 (by decide))), (show (gu_up G54 47 (x2_1.toInt).toNat (-(G14 0 7))) 2 = (G 2) from (show G54 2 = G37 2 from funext fun k_ => hU56 2 k_ (show (200 : Nat) ∉ ([9, 10] : List Nat) by decide)).trans ((show G37 2 = G14 2 from funext fun k_ => hU39 2 k_ (show (200 : Nat) ∉ ([9, 10] : List Nat) by decide)).trans ((show G14 2 = Gj2 2 from funext fun k_ => hU16 2 k_ (show (200 : Nat) ∉ ([5, 6, 7, 8] : List Nat) by decide)).trans ((show Gj2 2 = G 2 from funext fun k_ => jU2 2 k_ (show (200 : Nat) ∉ ([5, 6, 7, 8, 9, 10, 4700] : List Nat) by decide))))))] at h9); first | exact h9 | omega
            have tl77 := q76.lt (by omega)
            clear hp69 hw65
            refine g_aload_n F 2 dX13_readNumbers_81 rfl rfl ?_
            refine yg_0_6 F i_X13 w_0 dX13_readNumbers_82 (G66 0 6) (rfl) ?_
            refine v_if_ne F 2 dX13_readNumbers_85 (by decide) (G66 0 6).toInt rfl (fun c78 => ?_) (fun c78 => ?_)
            · refine g_locals [(0, .ref (a 0)), (1, .int y63)] [2, 0] rfl ?_
              exact ih_2 y63 G66 (by omega) (by have h9 := ti_rng y63; omega) hI67 (gu_un.tr (gu_un.up (j := 47) (k := (x2_1.toInt).toNat) (v := (-(G14 0 7))) (gu_un.tr (gu_un.tr (gu_un.tr (gu_un.tr gu_un.rf (gu_un.su jU2 rfl)) (gu_un.su hU16 rfl)) (gu_un.su hU39 rfl)) (gu_un.su hU56 rfl)) (show (4700 : Nat) ∈ ([5, 6, 7, 8, 9, 10, 4700] : List Nat) by decide)) (gu_un.su hU68 rfl)) (by (first | omega | (simp only [Int32.reduceToInt, true_and, and_true, ne_eq, not_true_eq_false, false_and, or_false, false_or, true_or, or_true, false_implies] <;> omega))) (fun p9 h9 => by obtain ⟨p8, t8, c8⟩ := si p9 h9; exact ⟨_, q76, fun kd pc ct f9 h => by obtain ⟨m7, h7⟩ := h; exact c8 kd pc ct f9 ⟨m7 + 1 + 1, _, _, _, _, t8, Or.inr (Or.inr (Or.inl ⟨by omega, by omega, rfl, _, _, _, _, q24, Or.inl ⟨by omega, by omega, h7.cast rfl (by omega) rfl (by rw [if_neg (by decide), i32_neg rfl]; show _ = G66 47; rw [show G66 47 = (gu_up G54 47 (x2_1.toInt).toNat (-(G14 0 7))) 47 from funext fun k_ => hU68 47 k_ (by simp [ycd])]; show _ = upd (G54 47) _ _; rw [show G54 47 = Gj2 47 from (show G54 47 = G37 47 from funext fun k_ => hU56 47 k_ (show (4700 : Nat) ∉ ([9, 10] : List Nat) by decide)).trans ((show G37 47 = G14 47 from funext fun k_ => hU39 47 k_ (show (4700 : Nat) ∉ ([9, 10] : List Nat) by decide)).trans ((show G14 47 = Gj2 47 from funext fun k_ => hU16 47 k_ (show (4700 : Nat) ∉ ([5, 6, 7, 8] : List Nat) by decide))))])⟩⟩))⟩⟩) (by (first | omega | (simp only [Int32.reduceToInt, true_and, and_true, ne_eq, not_true_eq_false, false_and, or_false, false_or, true_or, or_true, false_implies] <;> omega))) ((yFf.tr (show yFf G (gu_up G54 47 (x2_1.toInt).toNat (-(G14 0 7))) from (yFf.tr (show yFf G G37 from (yFf.tr (show yFf G G14 from (yFf.tr (show yFf G Gj2 from ff2) (show yFf _ G14 from yFf.un hU16 rfl))) q42)) q59)) (show yFf _ G66 from yFf.un hU68 rfl))) (by have e9_0_3 : G66 0 3 = (G 0 3) := (hU68 0 3 (by decide)).trans ((hU56 0 3 (by decide)).trans ((hU39 0 3 (by decide)).trans ((hU16 0 3 (by decide)).trans (jU2 0 3 (by decide))))); (try simp only [e9_0_3, true_and, and_true]) <;> (first | omega | (simp only [Int32.reduceToInt, true_and, and_true, ne_eq, not_true_eq_false, false_and, or_false, false_or, true_or, or_true, false_implies] <;> omega)))
            · refine g_iload_n F 0 dX13_readNumbers_88 rfl rfl ?_
              exact ux_iret F hA hQ hr G66 (⟨hI67, (gu_un.tr (gu_un.up (j := 47) (k := (x2_1.toInt).toNat) (v := (-(G14 0 7))) (gu_un.tr (gu_un.tr (gu_un.tr (gu_un.tr gu_un.rf (gu_un.su jU2 rfl)) (gu_un.su hU16 rfl)) (gu_un.su hU39 rfl)) (gu_un.su hU56 rfl)) (show (4700 : Nat) ∈ ([5, 6, 7, 8, 9, 10, 4700] : List Nat) by decide)) (gu_un.su hU68 rfl)), (by have h9 := ti_rng y63; omega), (by show ((G66 0 5).toInt ≤ (G 0 3).toInt ∧ 0 ≤ y63.toInt ∧ y63.toInt ≤ 150); (first | omega | (simp only [Int32.reduceToInt, true_and, and_true, ne_eq, not_true_eq_false, false_and, or_false, false_or, true_or, or_true, false_implies] <;> omega))), (fun p9 h9 => by obtain ⟨p7, t7, c7⟩ := (fun p9 h9 => by obtain ⟨p8, t8, c8⟩ := si p9 h9; exact ⟨_, q76, fun kd pc ct f9 h => by obtain ⟨m7, h7⟩ := h; exact c8 kd pc ct f9 ⟨m7 + 1 + 1, _, _, _, _, t8, Or.inr (Or.inr (Or.inl ⟨by omega, by omega, rfl, _, _, _, _, q24, Or.inl ⟨by omega, by omega, h7.cast rfl (by omega) rfl (by rw [if_neg (by decide), i32_neg rfl]; show _ = G66 47; rw [show G66 47 = (gu_up G54 47 (x2_1.toInt).toNat (-(G14 0 7))) 47 from funext fun k_ => hU68 47 k_ (by simp [ycd])]; show _ = upd (G54 47) _ _; rw [show G54 47 = Gj2 47 from (show G54 47 = G37 47 from funext fun k_ => hU56 47 k_ (show (4700 : Nat) ∉ ([9, 10] : List Nat) by decide)).trans ((show G37 47 = G14 47 from funext fun k_ => hU39 47 k_ (show (4700 : Nat) ∉ ([9, 10] : List Nat) by decide)).trans ((show G14 47 = Gj2 47 from funext fun k_ => hU16 47 k_ (show (4700 : Nat) ∉ ([5, 6, 7, 8] : List Nat) by decide))))])⟩⟩))⟩⟩ : ∀ p9 : Int, tTok (G 2) (G 0 3).toInt p9 (G 0 6).toInt (G 0 4).toInt (G 0 7).toInt (G 0 5).toInt → ∃ p : Int, tTok (G 2) (G 0 3).toInt p (G66 0 6).toInt (G66 0 4).toInt (G66 0 7).toInt (G66 0 5).toInt ∧ ∀ (kd pc ct : Int) (f9 : Nat → Int32), (∃ m : Nat, sOut (G 2) (G 0 3).toInt m p y63.toInt 0 (G66 47) kd pc ct f9) → ∃ m : Nat, sOut (G 2) (G 0 3).toInt m p9 0 0 (G 47) kd pc ct f9) p9 h9; exact c7 0 0 _ _ ⟨1, _, _, _, _, t7, Or.inr (Or.inr (Or.inr (Or.inl ⟨by omega, by omega, rfl, rfl, rfl, rfl⟩)))⟩), ((yFf.tr (show yFf G (gu_up G54 47 (x2_1.toInt).toNat (-(G14 0 7))) from (yFf.tr (show yFf G G37 from (yFf.tr (show yFf G G14 from (yFf.tr (show yFf G Gj2 from ff2) (show yFf _ G14 from yFf.un hU16 rfl))) q42)) q59)) (show yFf _ G66 from yFf.un hU68 rfl)))⟩) rfl rfl dX13_readNumbers_89
      · have b79 : (0 : Int) ≤ (Gj2 0 6).toInt ∧ (Gj2 0 6).toInt ≤ 4 := jI2 0 6
        have b80 : (0 : Int) ≤ (Gj2 0 7).toInt ∧ (Gj2 0 7).toInt ≤ 9999 := jI2 0 7
        have q7 : ((Gj2 0 6).toInt ≠ 3 ∨ (Gj2 0 7).toInt ≠ (45 : Int)) := q7
        refine g_istore_n F [(2, .int 0), (0, .ref (a 0)), (1, .int x2_1)] dX13_readNumbers_8 rfl (by decide) rfl ?_
        refine g_iload_n F 0 dX13_readNumbers_9 rfl rfl ?_
        refine v_if_eq F 17 dX13_readNumbers_10 (by decide) 0 rfl (fun c81 => ?_) (fun c81 => absurd c81 (by decide))
        refine g_aload_n F 1 dX13_readNumbers_17 rfl rfl ?_
        refine g_aload_n F 1 dX13_readNumbers_18 rfl rfl ?_
        refine yg_0_6 F i_X13 w_0 dX13_readNumbers_19 (Gj2 0 6) (rfl) ?_
        refine g_iconst F 2 dX13_readNumbers_22 (by decide) ?_
        refine v_icmp_ne F 30 dX13_readNumbers_23 (by decide) (Gj2 0 6).toInt 2 rfl rfl (fun c82 => ?_) (fun c82 => ?_)
        · refine g_iconst F 0 dX13_readNumbers_30 (by decide) ?_
          refine g_iconst F 1 dX13_readNumbers_31 (by decide) ?_
          refine ux_callvi (k := 0) (n := 0) (b := a 0) (As := [.int 0, .int 1]) (st := []) F (fun sz => S_X13_need l D K a Gj2 0 0 1 1 rfl (by decide) rfl jI2 sz) (cwV 2 hts gT_X13_readNumbers_X13_need rfl rfl rfl (by decide +kernel) ⟨Nat.le_of_ble_eq_true rfl, Nat.le_of_ble_eq_true rfl⟩) rfl 0 yc_0 rfl (Nat.le_of_ble_eq_true rfl) ⟨Nat.zero_le _, Nat.zero_le _⟩ dX13_readNumbers_32 hex hA hQ (fun u9 h9 => ⟨h9.1, gu_un.tr (gu_un.tr gu_un.rf (gu_un.su jU2 rfl)) (gu_un.su h9.2.1 rfl), (fun p9 g9 => by obtain ⟨p8, t8, c8⟩ := si p9 g9; obtain ⟨m7, h7⟩ := c8 (u9 0 8).toInt (u9 0 9).toInt 0 (G 47) ⟨1, _, _, _, _, t8, Or.inr (Or.inr (Or.inr (Or.inr ⟨by omega, by omega, by omega, h9.2.2.2.1, (by have h6 := h9.2.2.2.2; exact h6)⟩)))⟩; exact ⟨m7, _, _, h7⟩), (by have h9 := h9.2.2.2.1; omega)⟩) (fun G85 hw84 => ?_)
          have hI86 : yI G85 := hw84.1
          have hU87 : gu_un ycd [9, 10] Gj2 G85 := hw84.2.1
          have hp88 := hw84.2.2
          have q89 : ((0 : Int) ≠ 0) := hp88.1
          have q90 : yFf Gj2 G85 := hp88.2
          exfalso; omega
        · refine g_iconst F 1 dX13_readNumbers_26 (by decide) ?_
          refine g_goto F 31 dX13_readNumbers_27 (by decide) ?_
          refine g_iconst F 1 dX13_readNumbers_31 (by decide) ?_
          refine ux_callvi (k := 0) (n := 0) (b := a 0) (As := [.int 1, .int 1]) (st := []) F (fun sz => S_X13_need l D K a Gj2 1 1 1 1 rfl (by decide) rfl jI2 sz) (cwV 2 hts gT_X13_readNumbers_X13_need rfl rfl rfl (by decide +kernel) ⟨Nat.le_of_ble_eq_true rfl, Nat.le_of_ble_eq_true rfl⟩) rfl 0 yc_0 rfl (Nat.le_of_ble_eq_true rfl) ⟨Nat.zero_le _, Nat.zero_le _⟩ dX13_readNumbers_32 hex hA hQ (fun u9 h9 => ⟨h9.1, gu_un.tr (gu_un.tr gu_un.rf (gu_un.su jU2 rfl)) (gu_un.su h9.2.1 rfl), (absurd h9.2.2.1 (by decide)), (absurd h9.2.2.1 (by decide))⟩) (fun G93 hw92 => ?_)
          have hI94 : yI G93 := hw92.1
          have hU95 : gu_un ycd [9, 10] Gj2 G93 := hw92.2.1
          have hp96 := hw92.2.2
          have q97 : ((1 : Int) ≠ 0) := hp96.1
          have q98 : yFf Gj2 G93 := hp96.2
          clear hp96 hw92
          refine g_aload_n F 1 dX13_readNumbers_35 rfl rfl ?_
          refine g_iload_n F 2 dX13_readNumbers_36 rfl rfl ?_
          refine g_sipush F 150 dX13_readNumbers_37 (by decide) ?_
          refine v_icmp_ge F 47 dX13_readNumbers_40 (by decide) x2_1.toInt 150 rfl rfl (fun c99 => ?_) (fun c99 => ?_)
          · refine g_iconst F 0 dX13_readNumbers_47 (by decide) ?_
            refine g_iconst F 4 dX13_readNumbers_48 (by decide) ?_
            refine ux_callvi (k := 0) (n := 0) (b := a 0) (As := [.int 0, .int 4]) (st := []) F (fun sz => S_X13_need l D K a G93 0 0 4 4 rfl (by decide) rfl hI94 sz) (cwV 2 hts gT_X13_readNumbers_X13_need rfl rfl rfl (by decide +kernel) ⟨Nat.le_of_ble_eq_true rfl, Nat.le_of_ble_eq_true rfl⟩) rfl 0 yc_0 rfl (Nat.le_of_ble_eq_true rfl) ⟨Nat.zero_le _, Nat.zero_le _⟩ dX13_readNumbers_49 hex hA hQ (fun u9 h9 => ⟨h9.1, gu_un.tr (gu_un.tr (gu_un.tr gu_un.rf (gu_un.su jU2 rfl)) (gu_un.su hU95 rfl)) (gu_un.su h9.2.1 rfl), (fun p9 g9 => by obtain ⟨p8, t8, c8⟩ := si p9 g9; obtain ⟨m7, h7⟩ := c8 (u9 0 8).toInt (u9 0 9).toInt 0 (G 47) ⟨1, _, _, _, _, t8, Or.inr (Or.inl ⟨by omega, by omega, h9.2.2.2.1, (by have h6 := h9.2.2.2.2; rw [show G93 0 4 = (Gj2 0 4) from hU95 0 4 (by decide)] at h6; exact h6)⟩)⟩; exact ⟨m7, _, _, h7⟩), (by have h9 := h9.2.2.2.1; omega)⟩) (fun G102 hw101 => ?_)
            have hI103 : yI G102 := hw101.1
            have hU104 : gu_un ycd [9, 10] G93 G102 := hw101.2.1
            have hp105 := hw101.2.2
            have q106 : ((0 : Int) ≠ 0) := hp105.1
            have q107 : yFf G93 G102 := hp105.2
            exfalso; omega
          · refine g_iconst F 1 dX13_readNumbers_43 (by decide) ?_
            refine g_goto F 48 dX13_readNumbers_44 (by decide) ?_
            refine g_iconst F 4 dX13_readNumbers_48 (by decide) ?_
            refine ux_callvi (k := 0) (n := 0) (b := a 0) (As := [.int 1, .int 4]) (st := []) F (fun sz => S_X13_need l D K a G93 1 1 4 4 rfl (by decide) rfl hI94 sz) (cwV 2 hts gT_X13_readNumbers_X13_need rfl rfl rfl (by decide +kernel) ⟨Nat.le_of_ble_eq_true rfl, Nat.le_of_ble_eq_true rfl⟩) rfl 0 yc_0 rfl (Nat.le_of_ble_eq_true rfl) ⟨Nat.zero_le _, Nat.zero_le _⟩ dX13_readNumbers_49 hex hA hQ (fun u9 h9 => ⟨h9.1, gu_un.tr (gu_un.tr (gu_un.tr gu_un.rf (gu_un.su jU2 rfl)) (gu_un.su hU95 rfl)) (gu_un.su h9.2.1 rfl), (absurd h9.2.2.1 (by decide)), (absurd h9.2.2.1 (by decide))⟩) (fun G110 hw109 => ?_)
            have hI111 : yI G110 := hw109.1
            have hU112 : gu_un ycd [9, 10] G93 G110 := hw109.2.1
            have hp113 := hw109.2.2
            have q114 : ((1 : Int) ≠ 0) := hp113.1
            have q115 : yFf G93 G110 := hp113.2
            clear hp113 hw109
            refine g_aload_n F 1 dX13_readNumbers_52 rfl rfl ?_
            refine yg_0_71 F i_X13 w_1 dX13_readNumbers_53 ?_
            refine g_iload_n F 2 dX13_readNumbers_56 rfl rfl ?_
            refine g_iload_n F 0 dX13_readNumbers_57 rfl rfl ?_
            refine v_if_eq F 69 dX13_readNumbers_58 (by decide) 0 rfl (fun c116 => ?_) (fun c116 => absurd c116 (by decide))
            refine g_aload_n F 1 dX13_readNumbers_69 rfl rfl ?_
            refine yg_0_7 F i_X13 w_2 dX13_readNumbers_70 (Gj2 0 7) ((hU112 0 7 (by decide)).trans (hU95 0 7 (by decide))) ?_
            refine u_iast F 47 0 yc_47 rfl x2_1.toInt rfl (by omega) (by omega) (yW K a (gu_up G110 47 (x2_1.toInt).toNat (Gj2 0 7))) (ys_47 _) dX13_readNumbers_73 ?_
            refine u_iinc F (fun v_ => [(1, .int v_), (2, .int 0), (0, .ref (a 0))]) dX13_readNumbers_74 (j := 2) rfl x2_1.toInt 1 rfl rfl (by omega) (by omega) (by decide) (fun _ => rfl) (fun y117 ey117 => ?_)
            refine g_aload_n F 2 dX13_readNumbers_77 rfl rfl ?_
            have b118 : (0 : Int) ≤ (Gj2 0 5).toInt ∧ (Gj2 0 5).toInt ≤ 1000 := jI2 0 5
            refine u_callVv (k := 0) (n := 0) (b := a 0) (As := []) (st := []) F (fun sz => S_X13_scan l D K a (gu_up G110 47 (x2_1.toInt).toNat (Gj2 0 7))  (by have e9_0_3 : (gu_up G110 47 (x2_1.toInt).toNat (Gj2 0 7)) 0 3 = (G 0 3) := (hU112 0 3 (by decide)).trans ((hU95 0 3 (by decide)).trans (jU2 0 3 (by decide))); have e9_0_5 : (gu_up G110 47 (x2_1.toInt).toNat (Gj2 0 7)) 0 5 = (Gj2 0 5) := (hU112 0 5 (by decide)).trans (hU95 0 5 (by decide)); (try simp only [e9_0_3, e9_0_5, true_and, and_true]) <;> (first | omega | (simp only [Int32.reduceToInt, true_and, and_true, ne_eq, not_true_eq_false, false_and, or_false, false_or, true_or, or_true, false_implies] <;> omega))) (gu_I.up (j := 47) (k := (x2_1.toInt).toNat) (v := (Gj2 0 7)) hI111 (show ((-9999) : Int) ≤ Int32.toInt (Gj2 0 7) by omega) (show Int32.toInt (Gj2 0 7) ≤ 9999 by omega)) sz) (cwV 0 hts (gT_left gX13_readNumbers_X13_scan) rfl rfl rfl (by decide +kernel) ⟨Nat.le_of_ble_eq_true rfl, Nat.le_of_ble_eq_true rfl⟩) rfl 0 yc_0 rfl (Nat.le_of_ble_eq_true rfl) ⟨Nat.zero_le _, Nat.zero_le _⟩ dX13_readNumbers_78 (fun G121 hw120 => ?_)
            have hI122 : yI G121 := hw120.1
            have hU123 : gu_un ycd [5, 6, 7, 8] (gu_up G110 47 (x2_1.toInt).toNat (Gj2 0 7)) G121 := hw120.2.1
            have hp124 := hw120.2.2
            have b125 : (0 : Int) ≤ (G121 0 5).toInt ∧ (G121 0 5).toInt ≤ 1000 := hI122 0 5
            have b126 : (0 : Int) ≤ (G121 0 4).toInt ∧ (G121 0 4).toInt ≤ 1000 := hI122 0 4
            have q127 : ((G121 0 5).toInt ≤ (G 0 3).toInt ∧ (Gj2 0 5).toInt ≤ (G121 0 4).toInt ∧ (G121 0 4).toInt ≤ (G121 0 5).toInt) := by have h9 := hp124.1; (try simp only [(show (gu_up G110 47 (x2_1.toInt).toNat (Gj2 0 7)) 0 3 = (G 0 3) from (hU112 0 3 (by decide)).trans ((hU95 0 3 (by decide)).trans (jU2 0 3 (by decide)))), (show (gu_up G110 47 (x2_1.toInt).toNat (Gj2 0 7)) 0 5 = (Gj2 0 5) from (hU112 0 5 (by decide)).trans (hU95 0 5 (by decide)))] at h9); first | exact h9 | omega
            have b128 : (0 : Int) ≤ (G121 0 6).toInt ∧ (G121 0 6).toInt ≤ 4 := hI122 0 6
            have q129 : (((G121 0 6).toInt = 0 ∧ (G121 0 4).toInt = (G 0 3).toInt) ∨ ((G121 0 6).toInt ≠ 0 ∧ (G121 0 4).toInt < (G121 0 5).toInt)) := by have h9 := hp124.2.1; (try simp only [(show (gu_up G110 47 (x2_1.toInt).toNat (Gj2 0 7)) 0 3 = (G 0 3) from (hU112 0 3 (by decide)).trans ((hU95 0 3 (by decide)).trans (jU2 0 3 (by decide))))] at h9); first | exact h9 | omega
            have b130 : (0 : Int) ≤ (G121 0 7).toInt ∧ (G121 0 7).toInt ≤ 9999 := hI122 0 7
            have q131 : tTok (G 2) (G 0 3).toInt (Gj2 0 5).toInt (G121 0 6).toInt (G121 0 4).toInt (G121 0 7).toInt (G121 0 5).toInt := by have h9 := hp124.2.2; (try simp only [(show (gu_up G110 47 (x2_1.toInt).toNat (Gj2 0 7)) 0 3 = (G 0 3) from (hU112 0 3 (by decide)).trans ((hU95 0 3 (by decide)).trans (jU2 0 3 (by decide)))), (show (gu_up G110 47 (x2_1.toInt).toNat (Gj2 0 7)) 0 5 = (Gj2 0 5) from (hU112 0 5 (by decide)).trans (hU95 0 5 (by decide))), (show (gu_up G110 47 (x2_1.toInt).toNat (Gj2 0 7)) 2 = (G 2) from (show G110 2 = G93 2 from funext fun k_ => hU112 2 k_ (show (200 : Nat) ∉ ([9, 10] : List Nat) by decide)).trans ((show G93 2 = Gj2 2 from funext fun k_ => hU95 2 k_ (show (200 : Nat) ∉ ([9, 10] : List Nat) by decide)).trans ((show Gj2 2 = G 2 from funext fun k_ => jU2 2 k_ (show (200 : Nat) ∉ ([5, 6, 7, 8, 9, 10, 4700] : List Nat) by decide)))))] at h9); first | exact h9 | omega
            have tl132 := q131.lt (by omega)
            clear hp124 hw120
            refine g_aload_n F 2 dX13_readNumbers_81 rfl rfl ?_
            refine yg_0_6 F i_X13 w_0 dX13_readNumbers_82 (G121 0 6) (rfl) ?_
            refine v_if_ne F 2 dX13_readNumbers_85 (by decide) (G121 0 6).toInt rfl (fun c133 => ?_) (fun c133 => ?_)
            · refine g_locals [(0, .ref (a 0)), (1, .int y117)] [2, 0] rfl ?_
              exact ih_2 y117 G121 (by omega) (by have h9 := ti_rng y117; omega) hI122 (gu_un.tr (gu_un.up (j := 47) (k := (x2_1.toInt).toNat) (v := (Gj2 0 7)) (gu_un.tr (gu_un.tr (gu_un.tr gu_un.rf (gu_un.su jU2 rfl)) (gu_un.su hU95 rfl)) (gu_un.su hU112 rfl)) (show (4700 : Nat) ∈ ([5, 6, 7, 8, 9, 10, 4700] : List Nat) by decide)) (gu_un.su hU123 rfl)) (by (first | omega | (simp only [Int32.reduceToInt, true_and, and_true, ne_eq, not_true_eq_false, false_and, or_false, false_or, true_or, or_true, false_implies] <;> omega))) (fun p9 h9 => by obtain ⟨p8, t8, c8⟩ := si p9 h9; exact ⟨_, q131, fun kd pc ct f9 h => by obtain ⟨m7, h7⟩ := h; exact c8 kd pc ct f9 ⟨m7 + 1, _, _, _, _, t8, Or.inl ⟨by omega, by omega, h7.cast rfl (by omega) rfl (by rw [if_pos rfl, i32_pos rfl]; show _ = G121 47; rw [show G121 47 = (gu_up G110 47 (x2_1.toInt).toNat (Gj2 0 7)) 47 from funext fun k_ => hU123 47 k_ (by simp [ycd])]; show _ = upd (G110 47) _ _; rw [show G110 47 = Gj2 47 from (show G110 47 = G93 47 from funext fun k_ => hU112 47 k_ (show (4700 : Nat) ∉ ([9, 10] : List Nat) by decide)).trans ((show G93 47 = Gj2 47 from funext fun k_ => hU95 47 k_ (show (4700 : Nat) ∉ ([9, 10] : List Nat) by decide)))])⟩⟩⟩) (by (first | omega | (simp only [Int32.reduceToInt, true_and, and_true, ne_eq, not_true_eq_false, false_and, or_false, false_or, true_or, or_true, false_implies] <;> omega))) ((yFf.tr (show yFf G (gu_up G110 47 (x2_1.toInt).toNat (Gj2 0 7)) from (yFf.tr (show yFf G G93 from (yFf.tr (show yFf G Gj2 from ff2) q98)) q115)) (show yFf _ G121 from yFf.un hU123 rfl))) (by have e9_0_3 : G121 0 3 = (G 0 3) := (hU123 0 3 (by decide)).trans ((hU112 0 3 (by decide)).trans ((hU95 0 3 (by decide)).trans (jU2 0 3 (by decide)))); (try simp only [e9_0_3, true_and, and_true]) <;> (first | omega | (simp only [Int32.reduceToInt, true_and, and_true, ne_eq, not_true_eq_false, false_and, or_false, false_or, true_or, or_true, false_implies] <;> omega)))
            · refine g_iload_n F 0 dX13_readNumbers_88 rfl rfl ?_
              exact ux_iret F hA hQ hr G121 (⟨hI122, (gu_un.tr (gu_un.up (j := 47) (k := (x2_1.toInt).toNat) (v := (Gj2 0 7)) (gu_un.tr (gu_un.tr (gu_un.tr gu_un.rf (gu_un.su jU2 rfl)) (gu_un.su hU95 rfl)) (gu_un.su hU112 rfl)) (show (4700 : Nat) ∈ ([5, 6, 7, 8, 9, 10, 4700] : List Nat) by decide)) (gu_un.su hU123 rfl)), (by have h9 := ti_rng y117; omega), (by show ((G121 0 5).toInt ≤ (G 0 3).toInt ∧ 0 ≤ y117.toInt ∧ y117.toInt ≤ 150); (first | omega | (simp only [Int32.reduceToInt, true_and, and_true, ne_eq, not_true_eq_false, false_and, or_false, false_or, true_or, or_true, false_implies] <;> omega))), (fun p9 h9 => by obtain ⟨p7, t7, c7⟩ := (fun p9 h9 => by obtain ⟨p8, t8, c8⟩ := si p9 h9; exact ⟨_, q131, fun kd pc ct f9 h => by obtain ⟨m7, h7⟩ := h; exact c8 kd pc ct f9 ⟨m7 + 1, _, _, _, _, t8, Or.inl ⟨by omega, by omega, h7.cast rfl (by omega) rfl (by rw [if_pos rfl, i32_pos rfl]; show _ = G121 47; rw [show G121 47 = (gu_up G110 47 (x2_1.toInt).toNat (Gj2 0 7)) 47 from funext fun k_ => hU123 47 k_ (by simp [ycd])]; show _ = upd (G110 47) _ _; rw [show G110 47 = Gj2 47 from (show G110 47 = G93 47 from funext fun k_ => hU112 47 k_ (show (4700 : Nat) ∉ ([9, 10] : List Nat) by decide)).trans ((show G93 47 = Gj2 47 from funext fun k_ => hU95 47 k_ (show (4700 : Nat) ∉ ([9, 10] : List Nat) by decide)))])⟩⟩⟩ : ∀ p9 : Int, tTok (G 2) (G 0 3).toInt p9 (G 0 6).toInt (G 0 4).toInt (G 0 7).toInt (G 0 5).toInt → ∃ p : Int, tTok (G 2) (G 0 3).toInt p (G121 0 6).toInt (G121 0 4).toInt (G121 0 7).toInt (G121 0 5).toInt ∧ ∀ (kd pc ct : Int) (f9 : Nat → Int32), (∃ m : Nat, sOut (G 2) (G 0 3).toInt m p y117.toInt 0 (G121 47) kd pc ct f9) → ∃ m : Nat, sOut (G 2) (G 0 3).toInt m p9 0 0 (G 47) kd pc ct f9) p9 h9; exact c7 0 0 _ _ ⟨1, _, _, _, _, t7, Or.inr (Or.inr (Or.inr (Or.inl ⟨by omega, by omega, rfl, rfl, rfl, rfl⟩)))⟩), ((yFf.tr (show yFf G (gu_up G110 47 (x2_1.toInt).toNat (Gj2 0 7)) from (yFf.tr (show yFf G G93 from (yFf.tr (show yFf G Gj2 from ff2) q98)) q115)) (show yFf _ G121 from yFf.un hU123 rfl)))⟩) rfl rfl dX13_readNumbers_89
  refine g_iconst F 0 dX13_readNumbers_0 (by decide) ?_
  refine g_istore_n F [(1, .int 0), (0, .ref (a 0))] dX13_readNumbers_1 rfl (by decide) rfl ?_
  refine g_locals [(0, .ref (a 0)), (1, .int 0)] [1, 0] rfl ?_
  have b134 : (0 : Int) ≤ (G 0 6).toInt ∧ (G 0 6).toInt ≤ 4 := hI 0 6
  have b135 : (0 : Int) ≤ (G 0 7).toInt ∧ (G 0 7).toInt ≤ 9999 := hI 0 7
  exact J_2 _ 0 G (Nat.lt_succ_self _) (by decide) hI gu_un.rf (by (first | omega | (simp only [Int32.reduceToInt, true_and, and_true, ne_eq, not_true_eq_false, false_and, or_false, false_or, true_or, or_true, false_implies] <;> omega))) (fun p9 h9 => ⟨p9, h9, fun kd pc ct f9 h => h⟩) (by (first | omega | (simp only [Int32.reduceToInt, true_and, and_true, ne_eq, not_true_eq_false, false_and, or_false, false_or, true_or, or_true, false_implies] <;> omega))) (yFf.rf) (by (first | omega | (simp only [Int32.reduceToInt, true_and, and_true, ne_eq, not_true_eq_false, false_and, or_false, false_or, true_or, or_true, false_implies] <;> omega)))

theorem dX13_sound_0 : decode cX13_sound 0 = .ok (.aload_n 0, 1) := by decide +kernel
theorem dX13_sound_1 : decode cX13_sound 1 = .ok (.invokevirtual 325, 3) := by decide +kernel
theorem dX13_sound_4 : decode cX13_sound 4 = .ok (.aload_n 0, 1) := by decide +kernel
theorem dX13_sound_5 : decode cX13_sound 5 = .ok (.invokevirtual 514, 3) := by decide +kernel
theorem dX13_sound_8 : decode cX13_sound 8 = .ok (.istore_n 1, 1) := by decide +kernel
theorem dX13_sound_9 : decode cX13_sound 9 = .ok (.goto 6, 3) := by decide +kernel
theorem dX13_sound_12 : decode cX13_sound 12 = .ok (.astore_n 2, 1) := by decide +kernel
theorem dX13_sound_13 : decode cX13_sound 13 = .ok (.iconst (-1), 1) := by decide +kernel
theorem dX13_sound_14 : decode cX13_sound 14 = .ok (.ireturn, 1) := by decide +kernel
theorem dX13_sound_15 : decode cX13_sound 15 = .ok (.iconst 0, 1) := by decide +kernel
theorem dX13_sound_16 : decode cX13_sound 16 = .ok (.istore_n 2, 1) := by decide +kernel
theorem dX13_sound_17 : decode cX13_sound 17 = .ok (.iload_n 2, 1) := by decide +kernel
theorem dX13_sound_18 : decode cX13_sound 18 = .ok (.iload_n 1, 1) := by decide +kernel
theorem dX13_sound_19 : decode cX13_sound 19 = .ok (.if_icmp .ge 21, 3) := by decide +kernel
theorem dX13_sound_22 : decode cX13_sound 22 = .ok (.aload_n 0, 1) := by decide +kernel
theorem dX13_sound_23 : decode cX13_sound 23 = .ok (.getfield 310, 3) := by decide +kernel
theorem dX13_sound_26 : decode cX13_sound 26 = .ok (.iload_n 2, 1) := by decide +kernel
theorem dX13_sound_27 : decode cX13_sound 27 = .ok (.aload_n 0, 1) := by decide +kernel
theorem dX13_sound_28 : decode cX13_sound 28 = .ok (.getfield 313, 3) := by decide +kernel
theorem dX13_sound_31 : decode cX13_sound 31 = .ok (.iload_n 2, 1) := by decide +kernel
theorem dX13_sound_32 : decode cX13_sound 32 = .ok (.iaload, 1) := by decide +kernel
theorem dX13_sound_33 : decode cX13_sound 33 = .ok (.iastore, 1) := by decide +kernel
theorem dX13_sound_34 : decode cX13_sound 34 = .ok (.iinc 2 1, 3) := by decide +kernel
theorem dX13_sound_37 : decode cX13_sound 37 = .ok (.goto (-20), 3) := by decide +kernel
theorem dX13_sound_40 : decode cX13_sound 40 = .ok (.aload_n 0, 1) := by decide +kernel
theorem dX13_sound_41 : decode cX13_sound 41 = .ok (.iload_n 1, 1) := by decide +kernel
theorem dX13_sound_42 : decode cX13_sound 42 = .ok (.putfield 517, 3) := by decide +kernel
theorem dX13_sound_45 : decode cX13_sound 45 = .ok (.iload_n 1, 1) := by decide +kernel
theorem dX13_sound_46 : decode cX13_sound 46 = .ok (.ireturn, 1) := by decide +kernel
set_option maxRecDepth 20000 in
theorem ggX13_sound_X13_begin : GoodIn wsX13_sound wsX13_begin := goodIn_r _ [8, 9, 10, 11, 12, 13, 14, 15, 16, 7, 17, 18, 19, 20, 21, 22, 23, 24, 25, 26, 27, 28, 29, 30, 31, 44, 45, 46, 47, 48, 49, 50, 51, 52, 53, 54, 55, 56, 57, 58, 59, 60, 61, 62, 63, 64, 65, 66, 67, 68, 69, 70, 71, 72, 73, 74, 75, 76, 77, 78, 79, 80, 81, 82, 83, 84, 85, 86, 87, 88, 89, 90, 91, 92, 93, 94, 95, 96, 97, 98, 99, 100, 101, 102, 103, 104, 105, 106, 107, 108, 109, 110, 111, 112, 113, 114, 115, 116] rfl (by decide +kernel)
set_option maxRecDepth 20000 in
theorem gX13_sound_X13_begin : GoodIn wsX13_sound (wsV RX13 325 RX13 yX13_begin wsX13_begin) := goodIn_app (goodIn_of _ (by decide +kernel)) ggX13_sound_X13_begin
set_option maxRecDepth 20000 in
theorem ggX13_sound_X13_readNumbers : GoodIn wsX13_sound wsX13_readNumbers := goodIn_r _ [35, 20, 2, 21, 36, 37, 38, 7, 39, 14, 15, 16, 17, 11, 10, 18, 19, 22, 23, 24, 25, 26, 27, 28, 29, 30, 31, 40, 41, 42, 43, 44, 45, 46, 47, 48, 49, 50, 51, 52, 53, 54, 55, 56, 57, 58, 59, 60, 61, 62, 63, 64, 65, 66, 67, 68, 69, 70, 71, 72, 73, 74, 75, 76, 77, 78, 79, 80, 81, 82, 83, 84, 85, 86, 87, 88, 89, 90, 91, 92, 93, 94, 95, 96, 97, 98, 99, 100, 101, 102, 103, 104, 105, 106, 107, 108, 109, 110, 111, 112, 113, 114, 115, 116] rfl (by decide +kernel)
set_option maxRecDepth 20000 in
theorem gX13_sound_X13_readNumbers : GoodIn wsX13_sound (wsV RX13 514 RX13 yX13_readNumbers wsX13_readNumbers) := goodIn_app (goodIn_of _ (by decide +kernel)) ggX13_sound_X13_readNumbers
def wsT_X13_sound : List Cond := wsX13_sound ++ (wsT_nx ++ [.classLink RX13 211 RX12])
theorem gT_X13_sound_X13_readNumbers : GoodIn wsT_X13_sound (wsV RX13 514 RX13 yX13_readNumbers wsT_X13_readNumbers) := gT_call gX13_sound_X13_readNumbers (gT_left gT_nx)
set_option maxHeartbeats 4000000 in
set_option maxRecDepth 100000 in
theorem S_X13_sound (l : Launch) (D : va_G) (K : Nat → ClassId) (a : Nat → Nat) (G : gS) (hI : yI G) (sz : Nat) : Ki l yX13_sound wsT_X13_sound 4 105 0 0 D [.ref (a 0)] (yW K a G) (tK K) sz (fun (r : Int32) (G' : gS) => (yI G') ∧ (gu_un ycd [3, 4, 5, 6, 7, 8, 9, 10, 73, 4600, 4700] G G') ∧ ((-1) ≤ r.toInt ∧ r.toInt ≤ 150) ∧ (((G' 0 2).toInt = 0)) ∧ ((∃ (m : Nat) (kd pc ct : Int) (f9 : Nat → Int32), sOut (G 2) (G 0 2).toInt m 0 0 0 (G 47) kd pc ct f9 ∧ ((kd = 0 ∧ (G' 0 8).toInt = 0 ∧ (G' 0 9).toInt = -1 ∧ r.toInt = ct ∧ (G' 0 72).toInt = ct ∧ ∀ i : Nat, (i : Int) < ct → G' 46 i = f9 i) ∨ (kd ≠ 0 ∧ (G' 0 8).toInt = kd ∧ (G' 0 9).toInt = pc ∧ r.toInt = -1 ∧ (G' 0 72).toInt = (G 0 72).toInt ∧ G' 46 = (G 46)))))) (fun (G' : gS) => (yW K a G')) (fun _ => (tK K)) := by
  unfold Ki
  refine gw_ofWx (hh := [(0, 9, 12, 211)]) (cc := cX13_sound) (lv := [(0, .ref (a 0))]) (by decide) rfl (Nat.le_of_ble_eq_true rfl) rfl ?_
  intro p e s m args below meth c A Q hA hQ F hr hnm hexx
  have hts := F.2.2.2.2.1
  have w_0 : (Cond.fieldLink RX13 517 "QuietCutModel" "sounds" "I").before args s = true := hts _ (List.mem_of_getElem? (i := 3) rfl)
  have i_X13 : ∀ w ∈ u_ws RX13 TX13 73, w ∈ wsT_X13_sound := fun w h => List.mem_append_left _ ((show ∀ w ∈ u_ws RX13 TX13 73, w ∈ wsX13_sound from fun _ h => List.mem_cons_of_mem _ (List.mem_append_right _ h)) w h)
  have w_1 : (Cond.fieldLink RX13 310 "QuietCutModel" "sound" "[I").before args s = true := hts _ (List.mem_of_getElem? (i := 1) rfl)
  have w_2 : (Cond.fieldLink RX13 313 "QuietCutModel" "readSound" "[I").before args s = true := hts _ (List.mem_of_getElem? (i := 2) rfl)
  have w_3 : (Cond.classLink RX13 211 RX12).before args s = true := hts _ (by decide +kernel)
  have J_17 : ∀ (fuel : Nat) (x17_1 : Int32) (x17_2 : Int32) (Gj17 : gS), (2147483647 - x17_2.toInt).toNat < fuel → (1 ≤ x17_1.toInt ∧ x17_1.toInt ≤ 150) → (0 ≤ x17_2.toInt ∧ x17_2.toInt ≤ 150) → (yI Gj17) → (gu_un ycd [3, 4, 5, 6, 7, 8, 9, 10, 4600, 4700] G Gj17) → (∀ i : Nat, (i : Int) < x17_2.toInt → Gj17 46 i = (Gj17 47) i) → (∃ m : Nat, sOut (G 2) (G 0 2).toInt m 0 0 0 (G 47) 0 0 x17_1.toInt (Gj17 47)) → (((Gj17 0 2).toInt = 0 ∧ (Gj17 0 8).toInt = 0 ∧ (Gj17 0 9).toInt = -1)) → gG p l e (gR 4 0 0 105) s m args below meth c D A 3 Q 0 0 (yW K a Gj17) (tK K) [(0, .ref (a 0)), (1, .int x17_1), (2, .int x17_2)] 17 [] := by
    intro fuel
    induction fuel with
    | zero => intro x17_1 x17_2 Gj17 hm; exact absurd hm (Nat.not_lt_zero _)
    | succ fuel_17 ih_17 =>
      intro x17_1 x17_2 Gj17 hm_17 h17_1 h17_2 jI17 jU17 sc17 sp17 ta_17
      refine g_iload_n F 2 dX13_sound_17 rfl rfl ?_
      refine g_iload_n F 1 dX13_sound_18 rfl rfl ?_
      refine v_icmp_ge F 40 dX13_sound_19 (by decide) x17_2.toInt x17_1.toInt rfl rfl (fun c1 => ?_) (fun c1 => ?_)
      · refine g_aload_n F 0 dX13_sound_40 rfl rfl ?_
        refine g_iload_n F 1 dX13_sound_41 rfl rfl ?_
        refine yp_0_72 F i_X13 w_0 dX13_sound_42 ?_
        refine g_iload_n F 1 dX13_sound_45 rfl rfl ?_
        have b2 : (0 : Int) ≤ (Gj17 0 2).toInt ∧ (Gj17 0 2).toInt ≤ 1000 := jI17 0 2
        exact u_iret F hA hQ hr (gu_up Gj17 0 72 x17_1) (⟨(gu_I.up (j := 0) (k := 72) (v := x17_1) jI17 (show (0 : Int) ≤ Int32.toInt x17_1 by omega) (show Int32.toInt x17_1 ≤ 150 by omega)), (gu_un.up (j := 0) (k := 72) (v := x17_1) (gu_un.tr gu_un.rf (gu_un.su jU17 rfl)) (show (73 : Nat) ∈ ([3, 4, 5, 6, 7, 8, 9, 10, 73, 4600, 4700] : List Nat) by decide)), (by have h9 := ti_rng x17_1; omega), (by show (((gu_up Gj17 0 72 x17_1) 0 2).toInt = 0); have e9_0_2 : (gu_up Gj17 0 72 x17_1) 0 2 = (Gj17 0 2) := rfl; (try simp only [e9_0_2, true_and, and_true]) <;> (first | omega | (simp only [Int32.reduceToInt, true_and, and_true, ne_eq, not_true_eq_false, false_and, or_false, false_or, true_or, or_true, false_implies] <;> omega))), (by obtain ⟨m9, h9⟩ := sp17; exact ⟨m9, 0, 0, _, _, h9, Or.inl ⟨rfl, by have e9_0_8 : (gu_up Gj17 0 72 x17_1) 0 8 = (Gj17 0 8) := rfl; have e9_0_9 : (gu_up Gj17 0 72 x17_1) 0 9 = (Gj17 0 9) := rfl; (try simp only [e9_0_8, e9_0_9, true_and, and_true]) <;> omega, by have e9_0_8 : (gu_up Gj17 0 72 x17_1) 0 8 = (Gj17 0 8) := rfl; have e9_0_9 : (gu_up Gj17 0 72 x17_1) 0 9 = (Gj17 0 9) := rfl; (try simp only [e9_0_8, e9_0_9, true_and, and_true]) <;> omega, rfl, by have e9_0_72 : (gu_up Gj17 0 72 x17_1) 0 72 = x17_1 := rfl; (try simp only [e9_0_72, true_and, and_true]) <;> first | rfl | omega, fun i hi => sc17 i (by omega)⟩⟩)⟩) rfl rfl dX13_sound_46
      · refine g_aload_n F 0 dX13_sound_22 rfl rfl ?_
        refine yg_0_70 F i_X13 w_1 dX13_sound_23 ?_
        refine g_iload_n F 2 dX13_sound_26 rfl rfl ?_
        refine g_aload_n F 0 dX13_sound_27 rfl rfl ?_
        refine yg_0_71 F i_X13 w_2 dX13_sound_28 ?_
        refine g_iload_n F 2 dX13_sound_31 rfl rfl ?_
        refine u1_iald F 47 0 yc_47 rfl x17_2.toInt rfl (by omega) (by omega) dX13_sound_32 ((Gj17 47) (x17_2.toInt).toNat) (rfl) ?_
        have b3 : ((-9999) : Int) ≤ ((Gj17 47) (x17_2.toInt).toNat).toInt ∧ ((Gj17 47) (x17_2.toInt).toNat).toInt ≤ 9999 := jI17 47 _
        refine u_iast F 46 0 yc_46 rfl x17_2.toInt rfl (by omega) (by omega) (yW K a (gu_up Gj17 46 (x17_2.toInt).toNat ((Gj17 47) (x17_2.toInt).toNat))) (ys_46 _) dX13_sound_33 ?_
        refine u_iinc F (fun v_ => [(2, .int v_), (0, .ref (a 0)), (1, .int x17_1)]) dX13_sound_34 (j := 2) rfl x17_2.toInt 1 rfl rfl (by omega) (by omega) (by decide) (fun _ => rfl) (fun y4 ey4 => ?_)
        refine g_goto F 17 dX13_sound_37 (by decide) ?_
        refine g_locals [(0, .ref (a 0)), (1, .int x17_1), (2, .int y4)] [1, 2, 0] rfl ?_
        have b5 : (0 : Int) ≤ (Gj17 0 2).toInt ∧ (Gj17 0 2).toInt ≤ 1000 := jI17 0 2
        exact ih_17 x17_1 y4 (gu_up Gj17 46 (x17_2.toInt).toNat ((Gj17 47) (x17_2.toInt).toNat)) (by omega) (by have h9 := ti_rng x17_1; omega) (by have h9 := ti_rng y4; omega) (gu_I.up (j := 46) (k := (x17_2.toInt).toNat) (v := ((Gj17 47) (x17_2.toInt).toNat)) jI17 (show ((-9999) : Int) ≤ Int32.toInt ((Gj17 47) (x17_2.toInt).toNat) by omega) (show Int32.toInt ((Gj17 47) (x17_2.toInt).toNat) ≤ 9999 by omega)) (gu_un.up (j := 46) (k := (x17_2.toInt).toNat) (v := ((Gj17 47) (x17_2.toInt).toNat)) (gu_un.tr gu_un.rf (gu_un.su jU17 rfl)) (show (4600 : Nat) ∈ ([3, 4, 5, 6, 7, 8, 9, 10, 4600, 4700] : List Nat) by decide)) (copy_1 (by omega) (by omega) sc17 rfl) (sp17) (by have e9_0_2 : (gu_up Gj17 46 (x17_2.toInt).toNat ((Gj17 47) (x17_2.toInt).toNat)) 0 2 = (Gj17 0 2) := rfl; have e9_0_8 : (gu_up Gj17 46 (x17_2.toInt).toNat ((Gj17 47) (x17_2.toInt).toNat)) 0 8 = (Gj17 0 8) := rfl; have e9_0_9 : (gu_up Gj17 46 (x17_2.toInt).toNat ((Gj17 47) (x17_2.toInt).toNat)) 0 9 = (Gj17 0 9) := rfl; (try simp only [e9_0_2, e9_0_8, e9_0_9, true_and, and_true]) <;> (first | omega | (simp only [Int32.reduceToInt, true_and, and_true, ne_eq, not_true_eq_false, false_and, or_false, false_or, true_or, or_true, false_implies] <;> omega)))
  refine g_aload_n F 0 dX13_sound_0 rfl rfl ?_
  refine u_callVv (k := 0) (n := 0) (b := a 0) (As := []) (st := []) F (fun sz => S_X13_begin l D K a G  hI sz) (cwV 0 hts (gT_left gX13_sound_X13_begin) rfl rfl rfl (by decide +kernel) ⟨Nat.le_of_ble_eq_true rfl, Nat.le_of_ble_eq_true rfl⟩) rfl 0 yc_0 rfl (Nat.le_of_ble_eq_true rfl) ⟨Nat.zero_le _, Nat.zero_le _⟩ dX13_sound_1 (fun G8 hw7 => ?_)
  have hI9 : yI G8 := hw7.1
  have hU10 : gu_un ycd [3, 4, 5, 6, 7, 8, 9, 10] G G8 := hw7.2.1
  have hp11 := hw7.2.2
  have b12 : (0 : Int) ≤ (G8 0 5).toInt ∧ (G8 0 5).toInt ≤ 1000 := hI9 0 5
  have b13 : (0 : Int) ≤ (G8 0 3).toInt ∧ (G8 0 3).toInt ≤ 1000 := hI9 0 3
  have b14 : (0 : Int) ≤ (G8 0 2).toInt ∧ (G8 0 2).toInt ≤ 1000 := hI9 0 2
  have q15 : ((G8 0 5).toInt ≤ (G8 0 3).toInt ∧ (G8 0 2).toInt = 0) := hp11.1
  have b16 : (0 : Int) ≤ (G8 0 4).toInt ∧ (G8 0 4).toInt ≤ 1000 := hI9 0 4
  have q17 : ((G8 0 4).toInt ≤ (G8 0 5).toInt) := hp11.2.1
  have b18 : (0 : Int) ≤ (G8 0 6).toInt ∧ (G8 0 6).toInt ≤ 4 := hI9 0 6
  have b19 : (0 : Int) ≤ (G8 0 7).toInt ∧ (G8 0 7).toInt ≤ 9999 := hI9 0 7
  have q20 : ((G8 0 6).toInt ≠ 2 ∨ (0 ≤ (G8 0 7).toInt ∧ (G8 0 7).toInt ≤ 9999)) := hp11.2.2.1
  have b21 : (0 : Int) ≤ (G 0 2).toInt ∧ (G 0 2).toInt ≤ 1000 := hI 0 2
  have q22 : ((G8 0 3).toInt = (G 0 2).toInt ∧ (G8 0 8).toInt = 0 ∧ (G8 0 9).toInt = -1) := hp11.2.2.2.1
  have q23 : tTok (G 2) (G 0 2).toInt 0 (G8 0 6).toInt (G8 0 4).toInt (G8 0 7).toInt (G8 0 5).toInt := hp11.2.2.2.2
  clear hp11 hw7
  refine g_aload_n F 0 dX13_sound_4 rfl rfl ?_
  obtain ⟨r0, htab, hr1, hr2, hr3, hr4⟩ := gt_row hexx
  refine ux_catchi (k := 0) (n := 0) (b := a 0) (As := []) (st := []) F (fun sz => S_X13_readNumbers l D K a G8  (by (first | omega | (simp only [Int32.reduceToInt, true_and, and_true, ne_eq, not_true_eq_false, false_and, or_false, false_or, true_or, or_true, false_implies] <;> omega))) (by (first | omega | (simp only [Int32.reduceToInt, true_and, and_true, ne_eq, not_true_eq_false, false_and, or_false, false_or, true_or, or_true, false_implies] <;> omega))) hI9 sz) (cwV 0 hts gT_X13_sound_X13_readNumbers rfl rfl rfl (by decide +kernel) ⟨Nat.le_of_ble_eq_true rfl, Nat.le_of_ble_eq_true rfl⟩) rfl 0 yc_0 rfl (Nat.le_of_ble_eq_true rfl) ⟨Nat.zero_le _, Nat.zero_le _⟩ dX13_sound_5 htab (by simp [covers, hr1, hr2]) (by rw [hr4]; decide) (cn := RX12) (by rw [hr4]; exact w_3) rfl 1 (fun _ => yc_1) 12 hr3 (fun r24 G26 hw25 => ?_) (fun G28 hT27 => ?_)
  · have hI31 : yI G26 := hw25.1
    have hU32 : gu_un ycd [5, 6, 7, 8, 9, 10, 4700] G8 G26 := hw25.2.1
    have hp33 := hw25.2.2
    have b34 : (0 : Int) ≤ (G26 0 5).toInt ∧ (G26 0 5).toInt ≤ 1000 := hI31 0 5
    have q35 : ((G26 0 5).toInt ≤ (G8 0 3).toInt ∧ 0 ≤ r24.toInt ∧ r24.toInt ≤ 150) := hp33.2.1
    have q36 : (∀ p9 : Int, tTok (G 2) (G8 0 3).toInt p9 (G8 0 6).toInt (G8 0 4).toInt (G8 0 7).toInt (G8 0 5).toInt → ∃ m : Nat, sOut (G 2) (G8 0 3).toInt m p9 0 0 (G 47) 0 0 r24.toInt (G26 47)) := by have h9 := hp33.2.2.1; (try simp only [(show G8 2 = (G 2) from (show G8 2 = G 2 from funext fun k_ => hU10 2 k_ (show (200 : Nat) ∉ ([3, 4, 5, 6, 7, 8, 9, 10] : List Nat) by decide))), (show G8 2 = (G 2) from (show G8 2 = G 2 from funext fun k_ => hU10 2 k_ (show (200 : Nat) ∉ ([3, 4, 5, 6, 7, 8, 9, 10] : List Nat) by decide))), (show G8 47 = (G 47) from (show G8 47 = G 47 from funext fun k_ => hU10 47 k_ (show (4700 : Nat) ∉ ([3, 4, 5, 6, 7, 8, 9, 10] : List Nat) by decide)))] at h9); first | exact h9 | omega
    have q37 : yFf G8 G26 := hp33.2.2.2
    have ff1 := congrArg Int32.toInt q37.1
    have ff2 := congrArg Int32.toInt q37.2
    have rg38 := hp33.1
    clear hp33 hw25
    refine g_istore_n F [(1, .int r24), (0, .ref (a 0))] dX13_sound_8 rfl (by decide) rfl ?_
    refine g_goto F 15 dX13_sound_9 (by decide) ?_
    refine g_iconst F 0 dX13_sound_15 (by decide) ?_
    refine g_istore_n F [(2, .int 0), (1, .int r24), (0, .ref (a 0))] dX13_sound_16 rfl (by decide) rfl ?_
    refine g_locals [(0, .ref (a 0)), (1, .int r24), (2, .int 0)] [2, 1, 0] rfl ?_
    exact J_17 _ r24 0 G26 (Nat.lt_succ_self _) (by have h9 := ti_rng r24; omega) (by decide) hI31 (gu_un.tr (gu_un.tr gu_un.rf (gu_un.su hU10 rfl)) (gu_un.su hU32 rfl)) (fun i hi => by have h9 : (i : Int) < 0 := hi; omega) (by have h9 := q36 0 (by have h8 := q23; rw [show (G8 0 3).toInt = (G 0 2).toInt by omega]; exact h8); rw [show (G8 0 3).toInt = (G 0 2).toInt by omega] at h9; exact h9) (by have e9_0_2 : G26 0 2 = (G8 0 2) := hU32 0 2 (by decide); (try simp only [e9_0_2, true_and, and_true]) <;> (first | omega | (simp only [Int32.reduceToInt, true_and, and_true, ne_eq, not_true_eq_false, false_and, or_false, false_or, true_or, or_true, false_implies] <;> omega)))
  · have hI29 : yI G28 := hT27.1
    have hU30 : gu_un ycd [5, 6, 7, 8, 9, 10, 4700] G8 G28 := hT27.2.1
    skip
    refine g_astore_n F [(2, .ref (a 1)), (0, .ref (a 0))] dX13_sound_12 rfl (by decide) rfl ?_
    refine g_iconst F (-1) dX13_sound_13 (by decide) ?_
    have b39 : (0 : Int) ≤ (G 0 72).toInt ∧ (G 0 72).toInt ≤ 150 := hI 0 72
    exact u_iret F hA hQ hr G28 (⟨hI29, (gu_un.tr (gu_un.tr gu_un.rf (gu_un.su hU10 rfl)) (gu_un.su hU30 rfl)), (by decide), (by show ((G28 0 2).toInt = 0); have e9_0_2 : G28 0 2 = (G8 0 2) := hU30 0 2 (by decide); (try simp only [e9_0_2, true_and, and_true]) <;> (first | omega | (simp only [Int32.reduceToInt, true_and, and_true, ne_eq, not_true_eq_false, false_and, or_false, false_or, true_or, or_true, false_implies] <;> omega))), (by obtain ⟨m9, ct9, f9, h9⟩ := hT27.2.2.1 0 (by have h8 := q23; rw [show G8 2 = G 2 from (show G8 2 = G 2 from funext fun k_ => hU10 2 k_ (show (200 : Nat) ∉ ([3, 4, 5, 6, 7, 8, 9, 10] : List Nat) by decide)), show (G8 0 3).toInt = (G 0 2).toInt by omega]; exact h8); rw [show G8 2 = G 2 from (show G8 2 = G 2 from funext fun k_ => hU10 2 k_ (show (200 : Nat) ∉ ([3, 4, 5, 6, 7, 8, 9, 10] : List Nat) by decide)), show (G8 0 3).toInt = (G 0 2).toInt by omega, show G8 47 = G 47 from (show G8 47 = G 47 from funext fun k_ => hU10 47 k_ (show (4700 : Nat) ∉ ([3, 4, 5, 6, 7, 8, 9, 10] : List Nat) by decide))] at h9; exact ⟨m9, _, _, ct9, f9, h9, Or.inr ⟨hT27.2.2.2, rfl, rfl, by decide, by have e9_0_72 : G28 0 72 = (G 0 72) := (hU30 0 72 (by decide)).trans (hU10 0 72 (by decide)); (try simp only [e9_0_72, true_and, and_true]) <;> first | rfl | omega, (show G28 46 = G8 46 from funext fun k_ => hU30 46 k_ (show (4600 : Nat) ∉ ([5, 6, 7, 8, 9, 10, 4700] : List Nat) by decide)).trans ((show G8 46 = G 46 from funext fun k_ => hU10 46 k_ (show (4600 : Nat) ∉ ([3, 4, 5, 6, 7, 8, 9, 10] : List Nat) by decide)))⟩⟩)⟩) rfl rfl dX13_sound_14
