
set_option maxHeartbeats 4000000 in
set_option maxRecDepth 100000 in
theorem S_X3_putWaiting_15 (l : Launch) (D : va_G) (K : Nat → ClassId) (a : Nat → Nat) (G : gS) (p0 : Int32) (s0 : Int) (e0 : p0.toInt = s0) (hI : xI G) (sz : Nat) : Kv l yX3_putWaiting wsX3_putWaiting 1 40 0 0 D [.ref (a 15), .int p0] (xW K a G) (tK K) sz (fun (G' : gS) => (xI G') ∧ (gu_un xcd [1505, 3400] G G') ∧ (((G 15 4).toInt ≤ 15 → (G' 34 = upd (G 34) ((G 15 4).toInt).toNat p0 ∧ (G' 15 4).toInt = (G 15 4).toInt + 1)))) (fun (G' : gS) => (xW K a G')) (fun _ => (tK K)) := by
  unfold Kv
  refine g_ofW (cc := cX3_putWaiting) (lv := [(0, .ref (a 15)), (1, .int p0)]) (by decide) rfl (Nat.le_of_ble_eq_true rfl) rfl ?_
  intro p e s m args below meth c A Q hA hQ F hr hnm
  have hts := F.2.2.2.2.1
  have w_0 : (Cond.fieldLink RX3 35 "QuietCut$Formula" "waits" "I").before args s = true := hts _ (List.mem_of_getElem? (i := 1) rfl)
  have i_X3 : ∀ w ∈ u_ws RX3 TX3 9, w ∈ wsX3_putWaiting := fun _ h => List.mem_cons_of_mem _ (List.mem_append_right _ h)
  have w_1 : (Cond.fieldLink RX3 18 "QuietCut$Formula" "waiting" "[I").before args s = true := hts _ (List.mem_of_getElem? (i := 2) rfl)
  have rg0 : -2147483648 ≤ s0 ∧ s0 ≤ 2147483647 := e0 ▸ ti_rng p0
  refine g_aload_n F 0 dX3_putWaiting_0 rfl rfl ?_
  refine xg_15_4 F i_X3 w_0 dX3_putWaiting_1 (G 15 4) (rfl) ?_
  refine g_bipush F 16 dX3_putWaiting_4 (by decide) ?_
  have b1 : (0 : Int) ≤ (G 15 4).toInt ∧ (G 15 4).toInt ≤ 16 := hI 15 4
  refine v_icmp_ge F 29 dX3_putWaiting_6 (by decide) (G 15 4).toInt 16 rfl rfl (fun c2 => ?_) (fun c2 => ?_)
  · exact u_vret F hA hQ hr G (⟨hI, gu_un.rf, (fun h => absurd h (by omega))⟩) rfl rfl dX3_putWaiting_29
  · refine g_aload_n F 0 dX3_putWaiting_9 rfl rfl ?_
    refine xg_15_3 F i_X3 w_1 dX3_putWaiting_10 ?_
    refine g_aload_n F 0 dX3_putWaiting_13 rfl rfl ?_
    refine xg_15_4 F i_X3 w_0 dX3_putWaiting_14 (G 15 4) (rfl) ?_
    refine g_iload_n F 1 dX3_putWaiting_17 rfl rfl ?_
    refine u_iast F 34 0 xc_34 rfl (G 15 4).toInt rfl (by omega) (by omega) (xW K a (gu_up G 34 ((G 15 4).toInt).toNat p0)) (xs_34 _) dX3_putWaiting_18 ?_
    refine g_aload_n F 0 dX3_putWaiting_19 rfl rfl ?_
    refine g_dup F dX3_putWaiting_20 rfl ?_
    refine xg_15_4 F i_X3 w_0 dX3_putWaiting_21 (G 15 4) (rfl) ?_
    refine g_iconst F 1 dX3_putWaiting_24 (by decide) ?_
    refine u_iadd F dX3_putWaiting_25 (G 15 4).toInt 1 rfl rfl (by omega) (by omega) (fun y3 ey3 => ?_)
    refine xp_15_4 F i_X3 w_0 dX3_putWaiting_26 ?_
    exact u_vret F hA hQ hr (gu_up (gu_up G 34 ((G 15 4).toInt).toNat p0) 15 4 y3) (⟨(gu_I.up (j := 15) (k := 4) (v := y3) (gu_I.up (j := 34) (k := ((G 15 4).toInt).toNat) (v := p0) hI (ti_rng _).1 (ti_rng _).2) (show (0 : Int) ≤ Int32.toInt y3 by omega) (show Int32.toInt y3 ≤ 16 by omega)), (gu_un.up (j := 15) (k := 4) (v := y3) (gu_un.up (j := 34) (k := ((G 15 4).toInt).toNat) (v := p0) gu_un.rf (show (3400 : Nat) ∈ ([1505, 3400] : List Nat) by decide)) (show (1505 : Nat) ∈ ([1505, 3400] : List Nat) by decide)), (fun _ => ⟨rfl, show (y3 : Int32).toInt = _ by omega⟩)⟩) rfl rfl dX3_putWaiting_29


set_option maxHeartbeats 4000000 in
set_option maxRecDepth 100000 in
theorem S_X3_putCode_15 (l : Launch) (D : va_G) (K : Nat → ClassId) (a : Nat → Nat) (G : gS) (p0 : Int32) (s0 : Int) (e0 : p0.toInt = s0) (hI : xI G) (sz : Nat) : Kv l yX3_putCode wsX3_putCode 1 40 0 0 D [.ref (a 15), .int p0] (xW K a G) (tK K) sz (fun (G' : gS) => (xI G') ∧ (gu_un xcd [1502, 3200] G G')) (fun (G' : gS) => (xW K a G')) (fun _ => (tK K)) := by
  unfold Kv
  refine g_ofW (cc := cX3_putCode) (lv := [(0, .ref (a 15)), (1, .int p0)]) (by decide) rfl (Nat.le_of_ble_eq_true rfl) rfl ?_
  intro p e s m args below meth c A Q hA hQ F hr hnm
  have hts := F.2.2.2.2.1
  have w_0 : (Cond.fieldLink RX3 21 "QuietCut$Formula" "length" "I").before args s = true := hts _ (List.mem_of_getElem? (i := 1) rfl)
  have i_X3 : ∀ w ∈ u_ws RX3 TX3 9, w ∈ wsX3_putCode := fun _ h => List.mem_cons_of_mem _ (List.mem_append_right _ h)
  have w_1 : (Cond.fieldLink RX3 11 "QuietCut$Formula" "codes" "[I").before args s = true := hts _ (List.mem_of_getElem? (i := 2) rfl)
  have rg0 : -2147483648 ≤ s0 ∧ s0 ≤ 2147483647 := e0 ▸ ti_rng p0
  refine g_aload_n F 0 dX3_putCode_0 rfl rfl ?_
  refine xg_15_1 F i_X3 w_0 dX3_putCode_1 (G 15 1) (rfl) ?_
  refine g_bipush F 80 dX3_putCode_4 (by decide) ?_
  have b1 : (0 : Int) ≤ (G 15 1).toInt ∧ (G 15 1).toInt ≤ 80 := hI 15 1
  refine v_icmp_ge F 29 dX3_putCode_6 (by decide) (G 15 1).toInt 80 rfl rfl (fun c2 => ?_) (fun c2 => ?_)
  · exact u_vret F hA hQ hr G (⟨hI, gu_un.rf⟩) rfl rfl dX3_putCode_29
  · refine g_aload_n F 0 dX3_putCode_9 rfl rfl ?_
    refine xg_15_0 F i_X3 w_1 dX3_putCode_10 ?_
    refine g_aload_n F 0 dX3_putCode_13 rfl rfl ?_
    refine xg_15_1 F i_X3 w_0 dX3_putCode_14 (G 15 1) (rfl) ?_
    refine g_iload_n F 1 dX3_putCode_17 rfl rfl ?_
    refine u_iast F 32 0 xc_32 rfl (G 15 1).toInt rfl (by omega) (by omega) (xW K a (gu_up G 32 ((G 15 1).toInt).toNat p0)) (xs_32 _) dX3_putCode_18 ?_
    refine g_aload_n F 0 dX3_putCode_19 rfl rfl ?_
    refine g_dup F dX3_putCode_20 rfl ?_
    refine xg_15_1 F i_X3 w_0 dX3_putCode_21 (G 15 1) (rfl) ?_
    refine g_iconst F 1 dX3_putCode_24 (by decide) ?_
    refine u_iadd F dX3_putCode_25 (G 15 1).toInt 1 rfl rfl (by omega) (by omega) (fun y3 ey3 => ?_)
    refine xp_15_1 F i_X3 w_0 dX3_putCode_26 ?_
    exact u_vret F hA hQ hr (gu_up (gu_up G 32 ((G 15 1).toInt).toNat p0) 15 1 y3) (⟨(gu_I.up (j := 15) (k := 1) (v := y3) (gu_I.up (j := 32) (k := ((G 15 1).toInt).toNat) (v := p0) hI (ti_rng _).1 (ti_rng _).2) (show (0 : Int) ≤ Int32.toInt y3 by omega) (show Int32.toInt y3 ≤ 80 by omega)), (gu_un.up (j := 15) (k := 1) (v := y3) (gu_un.up (j := 32) (k := ((G 15 1).toInt).toNat) (v := p0) gu_un.rf (show (3200 : Nat) ∈ ([1502, 3200] : List Nat) by decide)) (show (1502 : Nat) ∈ ([1502, 3200] : List Nat) by decide))⟩) rfl rfl dX3_putCode_29


set_option maxHeartbeats 4000000 in
set_option maxRecDepth 100000 in
theorem S_X3_joinDownTo_15 (l : Launch) (D : va_G) (K : Nat → ClassId) (a : Nat → Nat) (G : gS) (p0 : Int32) (s0 : Int) (e0 : p0.toInt = s0) (h0 : 1 ≤ s0 ∧ s0 ≤ 2) (jq : (∃ t, xQ (G 34) (G 15 4).toInt (G 15 6).toInt (G 15 7).toInt t ∧ 0 ≤ t)) (hI : xI G) (sz : Nat) : Kv l yX3_joinDownTo wsX3_joinDownTo 2 61 0 0 D [.ref (a 15), .int p0] (xW K a G) (tK K) sz (fun (G' : gS) => (xI G') ∧ (gu_un xcd [1502, 1505, 3200] G G') ∧ ((∃ t, xQ (G 34) (G' 15 4).toInt (G 15 6).toInt (G 15 7).toInt t ∧ 0 ≤ t ∧ t < s0))) (fun (G' : gS) => (xW K a G')) (fun _ => (tK K)) := by
  unfold Kv
  refine g_ofW (cc := cX3_joinDownTo) (lv := [(0, .ref (a 15)), (1, .int p0)]) (by decide) rfl (Nat.le_of_ble_eq_true rfl) rfl ?_
  intro p e s m args below meth c A Q hA hQ F hr hnm
  have hts := F.2.2.2.2.1
  have w_0 : (Cond.fieldLink RX3 35 "QuietCut$Formula" "waits" "I").before args s = true := hts _ (List.mem_of_getElem? (i := 1) rfl)
  have i_X3 : ∀ w ∈ u_ws RX3 TX3 9, w ∈ wsX3_joinDownTo := fun _ h => List.mem_cons_of_mem _ (List.mem_append_right _ h)
  have w_1 : (Cond.fieldLink RX3 18 "QuietCut$Formula" "waiting" "[I").before args s = true := hts _ (List.mem_of_getElem? (i := 2) rfl)
  have J_0 : ∀ (fuel : Nat) (Gj0 : gS), ((Gj0 15 4).toInt).toNat < fuel → (xI Gj0) → (gu_un xcd [1502, 1505, 3200] G Gj0) → ((∃ t, xQ (G 34) (Gj0 15 4).toInt (G 15 6).toInt (G 15 7).toInt t ∧ 0 ≤ t)) → gG p l e (gR 2 0 0 61) s m args below meth c D A 2 Q 0 0 (xW K a Gj0) (tK K) [(0, .ref (a 15)), (1, .int p0)] 0 [] := by
    intro fuel
    induction fuel with
    | zero => intro Gj0 hm; exact absurd hm (Nat.not_lt_zero _)
    | succ fuel_0 ih_0 =>
      intro Gj0 hm_0 jI0 jU0 jq0
      refine g_aload_n F 0 dX3_joinDownTo_0 rfl rfl ?_
      refine xg_15_4 F i_X3 w_0 dX3_joinDownTo_1 (Gj0 15 4) (rfl) ?_
      have b1 : (0 : Int) ≤ (Gj0 15 4).toInt ∧ (Gj0 15 4).toInt ≤ 16 := jI0 15 4
      refine v_if_le F 54 dX3_joinDownTo_4 (by decide) (Gj0 15 4).toInt rfl (fun c2 => ?_) (fun c2 => ?_)
      · exact u_vret F hA hQ hr Gj0 (⟨jI0, (gu_un.tr gu_un.rf (gu_un.su jU0 rfl)), (by obtain ⟨t9, h1, h2⟩ := jq0; exact ⟨t9, h1, h2, h1.topS h2 (by omega) (fun h3 => by omega)⟩)⟩) rfl rfl dX3_joinDownTo_54
      · refine g_aload_n F 0 dX3_joinDownTo_7 rfl rfl ?_
        refine xg_15_3 F i_X3 w_1 dX3_joinDownTo_8 ?_
        refine g_aload_n F 0 dX3_joinDownTo_11 rfl rfl ?_
        refine xg_15_4 F i_X3 w_0 dX3_joinDownTo_12 (Gj0 15 4) (rfl) ?_
        refine g_iconst F 1 dX3_joinDownTo_15 (by decide) ?_
        refine u_isub F dX3_joinDownTo_16 (Gj0 15 4).toInt 1 rfl rfl (by omega) (by omega) (fun y3 ey3 => ?_)
        refine u1_iald F 34 0 xc_34 rfl y3.toInt rfl (by omega) (by omega) dX3_joinDownTo_17 ((G 34) (((Gj0 15 4).toInt - 1)).toNat) (by rw [show y3.toInt = ((Gj0 15 4).toInt - 1) by omega]; exact congrFun ((show Gj0 34 = G 34 from funext fun k_ => jU0 34 k_ (show (3400 : Nat) ∉ ([1502, 1505, 3200] : List Nat) by decide))) _) ?_
        refine u_call0 (k := 0) (n := 0) (As := [.int ((G 34) (((Gj0 15 4).toInt - 1)).toNat)]) (st := []) F (fun sz => S_X3_strengthOf l D ((G 34) (((Gj0 15 4).toInt - 1)).toNat) ((G 34) (((Gj0 15 4).toInt - 1)).toNat).toInt rfl sz) (va_cwS 1 hts gX3_joinDownTo_X3_strengthOf rfl rfl rfl (by decide +kernel) ⟨Nat.le_of_ble_eq_true rfl, Nat.le_of_ble_eq_true rfl⟩) rfl (Nat.le_of_ble_eq_true rfl) ⟨Nat.zero_le _, Nat.zero_le _⟩ dX3_joinDownTo_18 (fun r4 _ hw5 => ?_)
        have q7 : (r4.toInt = xsg ((G 34) (((Gj0 15 4).toInt - 1)).toNat).toInt) := hw5.2
        refine g_iload_n F 1 dX3_joinDownTo_21 rfl rfl ?_
        refine v_icmp_lt F 54 dX3_joinDownTo_22 (by decide) r4.toInt s0 rfl e0 (fun c8 => ?_) (fun c8 => ?_)
        · exact u_vret F hA hQ hr Gj0 (⟨jI0, (gu_un.tr gu_un.rf (gu_un.su jU0 rfl)), (by obtain ⟨t9, h1, h2⟩ := jq0; exact ⟨t9, h1, h2, h1.topS h2 (by omega) (fun h3 => by omega)⟩)⟩) rfl rfl dX3_joinDownTo_54
        · refine g_aload_n F 0 dX3_joinDownTo_25 rfl rfl ?_
          refine g_dup F dX3_joinDownTo_26 rfl ?_
          refine xg_15_4 F i_X3 w_0 dX3_joinDownTo_27 (Gj0 15 4) (rfl) ?_
          refine g_iconst F 1 dX3_joinDownTo_30 (by decide) ?_
          refine u_isub F dX3_joinDownTo_31 (Gj0 15 4).toInt 1 rfl rfl (by omega) (by omega) (fun y9 ey9 => ?_)
          refine xp_15_4 F i_X3 w_0 dX3_joinDownTo_32 ?_
          refine g_aload_n F 0 dX3_joinDownTo_35 rfl rfl ?_
          refine g_aload_n F 0 dX3_joinDownTo_36 rfl rfl ?_
          refine xg_15_3 F i_X3 w_1 dX3_joinDownTo_37 ?_
          refine g_aload_n F 0 dX3_joinDownTo_40 rfl rfl ?_
          refine xg_15_4 F i_X3 w_0 dX3_joinDownTo_41 y9 (rfl) ?_
          refine u_iald F 34 0 xc_34 rfl y9.toInt rfl (by omega) (by omega) dX3_joinDownTo_44 (fun _ => True) (fun _ => trivial) (fun y10 by10 => ?_)
          refine u_call0 (k := 0) (n := 0) (As := [.int y10]) (st := [.ref (a 15)]) F (fun sz => S_X3_joinCode l D y10 y10.toInt rfl sz) (va_cwS 1 hts gX3_joinDownTo_X3_joinCode rfl rfl rfl (by decide +kernel) ⟨Nat.le_of_ble_eq_true rfl, Nat.le_of_ble_eq_true rfl⟩) rfl (Nat.le_of_ble_eq_true rfl) ⟨Nat.zero_le _, Nat.zero_le _⟩ dX3_joinDownTo_45 (fun r11 _ hw12 => ?_)
          refine u_callVv (k := 0) (n := 0) (b := a 15) (As := [.int r11]) (st := []) F (fun sz => S_X3_putCode_15 l D K a (gu_up Gj0 15 4 y9) r11 r11.toInt rfl (gu_I.up (j := 15) (k := 4) (v := y9) jI0 (show (0 : Int) ≤ Int32.toInt y9 by omega) (show Int32.toInt y9 ≤ 16 by omega)) sz) (cwV 1 hts gX3_joinDownTo_X3_putCode rfl rfl rfl (by decide +kernel) ⟨Nat.le_of_ble_eq_true rfl, Nat.le_of_ble_eq_true rfl⟩) rfl 15 xc_15 rfl (Nat.le_of_ble_eq_true rfl) ⟨Nat.zero_le _, Nat.zero_le _⟩ dX3_joinDownTo_48 (fun G16 hw15 => ?_)
          have hI17 : xI G16 := hw15.1
          have hU18 : gu_un xcd [1502, 3200] (gu_up Gj0 15 4 y9) G16 := hw15.2
          refine g_goto F 0 dX3_joinDownTo_51 (by decide) ?_
          exact ih_0 G16 (by have e9_15_4 : G16 15 4 = y9 := hU18 15 4 (by decide); (try simp only [e9_15_4, true_and, and_true]) <;> omega) hI17 (gu_un.tr (gu_un.up (j := 15) (k := 4) (v := y9) (gu_un.tr gu_un.rf (gu_un.su jU0 rfl)) (show (1505 : Nat) ∈ ([1502, 1505, 3200] : List Nat) by decide)) (gu_un.su hU18 rfl)) (by obtain ⟨t9, h1, h2⟩ := jq0; rw [show G16 15 4 = y9 from hU18 15 4 (by decide), show y9.toInt = (Gj0 15 4).toInt - 1 by omega]; exact h1.popS (by omega) (by omega))
  have b20 : (0 : Int) ≤ (G 15 4).toInt ∧ (G 15 4).toInt ≤ 16 := hI 15 4
  exact J_0 _ G (Nat.lt_succ_self _) hI gu_un.rf (jq)


set_option maxHeartbeats 4000000 in
set_option maxRecDepth 100000 in
theorem S_X3_closeMinuses_15 (l : Launch) (D : va_G) (K : Nat → ClassId) (a : Nat → Nat) (G : gS) (cq : (∃ t, xQ (G 34) (G 15 4).toInt (G 15 6).toInt (G 15 7).toInt t)) (hI : xI G) (sz : Nat) : Kv l yX3_closeMinuses wsX3_closeMinuses 2 61 0 0 D [.ref (a 15)] (xW K a G) (tK K) sz (fun (G' : gS) => (xI G') ∧ (gu_un xcd [1502, 1505, 1507, 3200] G G') ∧ ((∃ t, xQ (G 34) (G' 15 4).toInt (G' 15 6).toInt (G 15 7).toInt t ∧ 0 ≤ t)) ∧ (((G' 15 6).toInt ≤ (G 15 6).toInt))) (fun (G' : gS) => (xW K a G')) (fun _ => (tK K)) := by
  unfold Kv
  refine g_ofW (cc := cX3_closeMinuses) (lv := [(0, .ref (a 15))]) (by decide) rfl (Nat.le_of_ble_eq_true rfl) rfl ?_
  intro p e s m args below meth c A Q hA hQ F hr hnm
  have hts := F.2.2.2.2.1
  have w_0 : (Cond.fieldLink RX3 35 "QuietCut$Formula" "waits" "I").before args s = true := hts _ (List.mem_of_getElem? (i := 1) rfl)
  have i_X3 : ∀ w ∈ u_ws RX3 TX3 9, w ∈ wsX3_closeMinuses := fun _ h => List.mem_cons_of_mem _ (List.mem_append_right _ h)
  have w_1 : (Cond.fieldLink RX3 18 "QuietCut$Formula" "waiting" "[I").before args s = true := hts _ (List.mem_of_getElem? (i := 2) rfl)
  have w_2 : (Cond.fieldLink RX3 41 "QuietCut$Formula" "open" "I").before args s = true := hts _ (List.mem_of_getElem? (i := 3) rfl)
  have J_0 : ∀ (fuel : Nat) (Gj0 : gS), ((Gj0 15 4).toInt).toNat < fuel → (xI Gj0) → (gu_un xcd [1502, 1505, 1507, 3200] G Gj0) → ((∃ t, xQ (G 34) (Gj0 15 4).toInt (Gj0 15 6).toInt (G 15 7).toInt t)) → (((Gj0 15 6).toInt ≤ (G 15 6).toInt)) → gG p l e (gR 2 0 0 61) s m args below meth c D A 1 Q 0 0 (xW K a Gj0) (tK K) [(0, .ref (a 15))] 0 [] := by
    intro fuel
    induction fuel with
    | zero => intro Gj0 hm; exact absurd hm (Nat.not_lt_zero _)
    | succ fuel_0 ih_0 =>
      intro Gj0 hm_0 jI0 jU0 cq0 co0
      refine g_aload_n F 0 dX3_closeMinuses_0 rfl rfl ?_
      refine xg_15_4 F i_X3 w_0 dX3_closeMinuses_1 (Gj0 15 4) (rfl) ?_
      have b1 : (0 : Int) ≤ (Gj0 15 4).toInt ∧ (Gj0 15 4).toInt ≤ 16 := jI0 15 4
      refine v_if_le F 52 dX3_closeMinuses_4 (by decide) (Gj0 15 4).toInt rfl (fun c2 => ?_) (fun c2 => ?_)
      · exact u_vret F hA hQ hr Gj0 (⟨jI0, (gu_un.tr gu_un.rf (gu_un.su jU0 rfl)), (by obtain ⟨t9, h1⟩ := cq0; exact ⟨t9, h1, h1.topM (fun h3 => by omega)⟩), (by show ((Gj0 15 6).toInt ≤ (G 15 6).toInt); (first | omega | (simp only [Int32.reduceToInt, true_and, and_true, ne_eq, not_true_eq_false, false_and, or_false, false_or, true_or, or_true, false_implies] <;> omega)))⟩) rfl rfl dX3_closeMinuses_52
      · refine g_aload_n F 0 dX3_closeMinuses_7 rfl rfl ?_
        refine xg_15_3 F i_X3 w_1 dX3_closeMinuses_8 ?_
        refine g_aload_n F 0 dX3_closeMinuses_11 rfl rfl ?_
        refine xg_15_4 F i_X3 w_0 dX3_closeMinuses_12 (Gj0 15 4) (rfl) ?_
        refine g_iconst F 1 dX3_closeMinuses_15 (by decide) ?_
        refine u_isub F dX3_closeMinuses_16 (Gj0 15 4).toInt 1 rfl rfl (by omega) (by omega) (fun y3 ey3 => ?_)
        refine u1_iald F 34 0 xc_34 rfl y3.toInt rfl (by omega) (by omega) dX3_closeMinuses_17 ((G 34) (((Gj0 15 4).toInt - 1)).toNat) (by rw [show y3.toInt = ((Gj0 15 4).toInt - 1) by omega]; exact congrFun ((show Gj0 34 = G 34 from funext fun k_ => jU0 34 k_ (show (3400 : Nat) ∉ ([1502, 1505, 1507, 3200] : List Nat) by decide))) _) ?_
        refine g_bipush F (-3) dX3_closeMinuses_18 (by decide) ?_
        refine v_icmp_ne F 52 dX3_closeMinuses_20 (by decide) ((G 34) (((Gj0 15 4).toInt - 1)).toNat).toInt (-3) rfl rfl (fun c4 => ?_) (fun c4 => ?_)
        · exact u_vret F hA hQ hr Gj0 (⟨jI0, (gu_un.tr gu_un.rf (gu_un.su jU0 rfl)), (by obtain ⟨t9, h1⟩ := cq0; exact ⟨t9, h1, h1.topM (fun h3 => by omega)⟩), (by show ((Gj0 15 6).toInt ≤ (G 15 6).toInt); (first | omega | (simp only [Int32.reduceToInt, true_and, and_true, ne_eq, not_true_eq_false, false_and, or_false, false_or, true_or, or_true, false_implies] <;> omega)))⟩) rfl rfl dX3_closeMinuses_52
        · have pm : ∃ t, xQ (G 34) ((Gj0 15 4).toInt - 1) ((Gj0 15 6).toInt - 1) (G 15 7).toInt t := by obtain ⟨t9, h1⟩ := cq0; exact h1.popM (by omega) (by omega)
          have pr9 := ti_rng (Gj0 15 6)
          have pl : 1 ≤ (Gj0 15 6).toInt := by obtain ⟨t9, h1⟩ := pm; have h2 := h1.le; omega
          refine g_aload_n F 0 dX3_closeMinuses_23 rfl rfl ?_
          refine g_dup F dX3_closeMinuses_24 rfl ?_
          refine xg_15_4 F i_X3 w_0 dX3_closeMinuses_25 (Gj0 15 4) (rfl) ?_
          refine g_iconst F 1 dX3_closeMinuses_28 (by decide) ?_
          refine u_isub F dX3_closeMinuses_29 (Gj0 15 4).toInt 1 rfl rfl (by omega) (by omega) (fun y5 ey5 => ?_)
          refine xp_15_4 F i_X3 w_0 dX3_closeMinuses_30 ?_
          refine g_aload_n F 0 dX3_closeMinuses_33 rfl rfl ?_
          refine g_dup F dX3_closeMinuses_34 rfl ?_
          refine xg_15_6 F i_X3 w_2 dX3_closeMinuses_35 (Gj0 15 6) (rfl) ?_
          refine g_iconst F 1 dX3_closeMinuses_38 (by decide) ?_
          refine u_isubc F dX3_closeMinuses_39 (Gj0 15 6).toInt 1 rfl rfl (fun y6 ey6 => ?_)
          refine xp_15_6 F i_X3 w_2 dX3_closeMinuses_40 ?_
          refine g_aload_n F 0 dX3_closeMinuses_43 rfl rfl ?_
          refine g_bipush F (-3) dX3_closeMinuses_44 (by decide) ?_
          refine u_callVv (k := 0) (n := 0) (b := a 15) (As := [.int (-3)]) (st := []) F (fun sz => S_X3_putCode_15 l D K a (gu_up (gu_up Gj0 15 4 y5) 15 6 y6) (-3) (-3) rfl (gu_I.up (j := 15) (k := 6) (v := y6) (gu_I.up (j := 15) (k := 4) (v := y5) jI0 (show (0 : Int) ≤ Int32.toInt y5 by omega) (show Int32.toInt y5 ≤ 16 by omega)) (ti_rng _).1 (ti_rng _).2) sz) (cwV 1 hts gX3_closeMinuses_X3_putCode rfl rfl rfl (by decide +kernel) ⟨Nat.le_of_ble_eq_true rfl, Nat.le_of_ble_eq_true rfl⟩) rfl 15 xc_15 rfl (Nat.le_of_ble_eq_true rfl) ⟨Nat.zero_le _, Nat.zero_le _⟩ dX3_closeMinuses_46 (fun G9 hw8 => ?_)
          have hI10 : xI G9 := hw8.1
          have hU11 : gu_un xcd [1502, 3200] (gu_up (gu_up Gj0 15 4 y5) 15 6 y6) G9 := hw8.2
          refine g_goto F 0 dX3_closeMinuses_49 (by decide) ?_
          exact ih_0 G9 (by have e9_15_4 : G9 15 4 = y5 := hU11 15 4 (by decide); (try simp only [e9_15_4, true_and, and_true]) <;> omega) hI10 (gu_un.tr (gu_un.up (j := 15) (k := 6) (v := y6) (gu_un.up (j := 15) (k := 4) (v := y5) (gu_un.tr gu_un.rf (gu_un.su jU0 rfl)) (show (1505 : Nat) ∈ ([1502, 1505, 1507, 3200] : List Nat) by decide)) (show (1507 : Nat) ∈ ([1502, 1505, 1507, 3200] : List Nat) by decide)) (gu_un.su hU11 rfl)) (by obtain ⟨t9, h1⟩ := pm; exact ⟨t9, h1.cast rfl (show (G9 15 4).toInt = _ by rw [show G9 15 4 = y5 from hU11 15 4 (by decide)]; omega) (show (G9 15 6).toInt = _ by rw [show G9 15 6 = y6 from hU11 15 6 (by decide)]; omega) rfl⟩) (by have e9_15_6 : G9 15 6 = y6 := hU11 15 6 (by decide); (try simp only [e9_15_6, true_and, and_true]) <;> (first | omega | (simp only [Int32.reduceToInt, true_and, and_true, ne_eq, not_true_eq_false, false_and, or_false, false_or, true_or, or_true, false_implies] <;> omega)))
  have b13 : (0 : Int) ≤ (G 15 4).toInt ∧ (G 15 4).toInt ≤ 16 := hI 15 4
  exact J_0 _ G (Nat.lt_succ_self _) hI gu_un.rf (cq) (by (first | omega | (simp only [Int32.reduceToInt, true_and, and_true, ne_eq, not_true_eq_false, false_and, or_false, false_or, true_or, or_true, false_implies] <;> omega)))


set_option maxHeartbeats 4000000 in
set_option maxRecDepth 100000 in
theorem S_X3_takeOperand_15 (l : Launch) (D : va_G) (K : Nat → ClassId) (a : Nat → Nat) (G : gS) (p0 : Int32) (s0 : Int) (e0 : p0.toInt = s0) (fi : xFi 15 34 G) (hI : xI G) (sz : Nat) : Ki l yX3_takeOperand wsX3_takeOperand 3 81 0 0 D [.ref (a 15), .int p0] (xW K a G) (tK K) sz (fun (r : Int32) (G' : gS) => (xI G') ∧ (gu_un xcd [1502, 1505, 1506, 1507, 1509, 3200] G G') ∧ (0 ≤ r.toInt ∧ r.toInt ≤ 4) ∧ (xFi 15 34 G')) (fun (G' : gS) => (xW K a G')) (fun _ => (tK K)) := by
  unfold Ki
  refine g_ofW (cc := cX3_takeOperand) (lv := [(0, .ref (a 15)), (1, .int p0)]) (by decide) rfl (Nat.le_of_ble_eq_true rfl) rfl ?_
  intro p e s m args below meth c A Q hA hQ F hr hnm
  have hts := F.2.2.2.2.1
  have w_0 : (Cond.fieldLink RX3 38 "QuietCut$Formula" "operands" "I").before args s = true := hts _ (List.mem_of_getElem? (i := 1) rfl)
  have i_X3 : ∀ w ∈ u_ws RX3 TX3 9, w ∈ wsX3_takeOperand := fun _ h => List.mem_cons_of_mem _ (List.mem_append_right _ h)
  have w_1 : (Cond.fieldLink RX3 47 "QuietCut$Formula" "wantsOperand" "Z").before args s = true := hts _ (List.mem_of_getElem? (i := 2) rfl)
  have rg0 : -2147483648 ≤ s0 ∧ s0 ≤ 2147483647 := e0 ▸ ti_rng p0
  obtain ⟨⟨t9, f1, f2⟩, f3⟩ := id fi
  have f4 := f1.le
  refine g_aload_n F 0 dX3_takeOperand_0 rfl rfl ?_
  refine xg_15_5 F i_X3 w_0 dX3_takeOperand_1 (G 15 5) (rfl) ?_
  refine g_bipush F 12 dX3_takeOperand_4 (by decide) ?_
  have b1 : (0 : Int) ≤ (G 15 5).toInt ∧ (G 15 5).toInt ≤ 12 := hI 15 5
  refine v_icmp_lt F 11 dX3_takeOperand_6 (by decide) (G 15 5).toInt 12 rfl rfl (fun c2 => ?_) (fun c2 => ?_)
  · refine g_aload_n F 0 dX3_takeOperand_11 rfl rfl ?_
    refine g_dup F dX3_takeOperand_12 rfl ?_
    refine xg_15_5 F i_X3 w_0 dX3_takeOperand_13 (G 15 5) (rfl) ?_
    refine g_iconst F 1 dX3_takeOperand_16 (by decide) ?_
    refine u_iadd F dX3_takeOperand_17 (G 15 5).toInt 1 rfl rfl (by omega) (by omega) (fun y3 ey3 => ?_)
    refine xp_15_5 F i_X3 w_0 dX3_takeOperand_18 ?_
    refine g_aload_n F 0 dX3_takeOperand_21 rfl rfl ?_
    refine g_iload_n F 1 dX3_takeOperand_22 rfl rfl ?_
    refine u_callVv (k := 0) (n := 0) (b := a 15) (As := [.int p0]) (st := []) F (fun sz => S_X3_putCode_15 l D K a (gu_up G 15 5 y3) p0 s0 e0 (gu_I.up (j := 15) (k := 5) (v := y3) hI (show (0 : Int) ≤ Int32.toInt y3 by omega) (show Int32.toInt y3 ≤ 12 by omega)) sz) (cwV 1 hts gX3_takeOperand_X3_putCode rfl rfl rfl (by decide +kernel) ⟨Nat.le_of_ble_eq_true rfl, Nat.le_of_ble_eq_true rfl⟩) rfl 15 xc_15 rfl (Nat.le_of_ble_eq_true rfl) ⟨Nat.zero_le _, Nat.zero_le _⟩ dX3_takeOperand_23 (fun G6 hw5 => ?_)
    have hI7 : xI G6 := hw5.1
    have hU8 : gu_un xcd [1502, 3200] (gu_up G 15 5 y3) G6 := hw5.2
    refine g_aload_n F 0 dX3_takeOperand_26 rfl rfl ?_
    refine u_callVv (k := 0) (n := 0) (b := a 15) (As := []) (st := []) F (fun sz => S_X3_closeMinuses_15 l D K a G6  (by obtain ⟨⟨t8, h1, -⟩, -⟩ := (show xFi 15 34 G6 from (xFi.un fi (show gu_un xcd [1502, 1506, 3200] G G6 from (gu_un.tr (gu_un.up (j := 15) (k := 5) (v := y3) gu_un.rf (show (1506 : Nat) ∈ ([1502, 1506, 3200] : List Nat) by decide)) (gu_un.su hU8 rfl))) rfl (fun _ => rfl))); exact ⟨t8, h1⟩) hI7 sz) (cwV 0 hts gX3_takeOperand_X3_closeMinuses rfl rfl rfl (by decide +kernel) ⟨Nat.le_of_ble_eq_true rfl, Nat.le_of_ble_eq_true rfl⟩) rfl 15 xc_15 rfl (Nat.le_of_ble_eq_true rfl) ⟨Nat.zero_le _, Nat.zero_le _⟩ dX3_takeOperand_27 (fun G12 hw11 => ?_)
    have hI13 : xI G12 := hw11.1
    have hU14 : gu_un xcd [1502, 1505, 1507, 3200] G6 G12 := hw11.2.1
    have hp15 := hw11.2.2
    have b16 : (0 : Int) ≤ (G12 15 4).toInt ∧ (G12 15 4).toInt ≤ 16 := hI13 15 4
    have q17 : (∃ t, xQ (G 34) (G12 15 4).toInt (G12 15 6).toInt (G 15 7).toInt t ∧ 0 ≤ t) := by have h9 := hp15.1; (try simp only [(show G6 15 7 = (G 15 7) from hU8 15 7 (by decide)), (show G6 34 = (G 34) from (show G6 34 = (gu_up G 15 5 y3) 34 from funext fun k_ => hU8 34 k_ (show (3400 : Nat) ∉ ([1502, 3200] : List Nat) by decide)))] at h9); first | exact h9 | omega
    have q18 : ((G12 15 6).toInt ≤ (G 15 6).toInt) := by have h9 := hp15.2; (try simp only [(show G6 15 6 = (G 15 6) from hU8 15 6 (by decide))] at h9); first | exact h9 | omega
    refine g_aload_n F 0 dX3_takeOperand_30 rfl rfl ?_
    refine g_iconst F 0 dX3_takeOperand_31 (by decide) ?_
    refine xp_15_8 F i_X3 w_1 dX3_takeOperand_32 (by decide) ?_
    refine g_iconst F 0 dX3_takeOperand_35 (by decide) ?_
    exact u_iret F hA hQ hr (gu_up G12 15 8 0) (⟨(gu_I.up (j := 15) (k := 8) (v := 0) hI13 (show (0 : Int) ≤ (0 : Int32).toInt by decide) (show (0 : Int32).toInt ≤ 1 by decide)), (gu_un.up (j := 15) (k := 8) (v := 0) (gu_un.tr (gu_un.tr (gu_un.up (j := 15) (k := 5) (v := y3) gu_un.rf (show (1506 : Nat) ∈ ([1502, 1505, 1506, 1507, 1509, 3200] : List Nat) by decide)) (gu_un.su hU8 rfl)) (gu_un.su hU14 rfl)) (show (1509 : Nat) ∈ ([1502, 1505, 1506, 1507, 1509, 3200] : List Nat) by decide)), (by decide), (xFi.mk (w := 0) (by obtain ⟨t8, h1, h2⟩ := q17; exact ⟨t8, h1, fun _ => h2⟩) (by omega) (show (gu_up G12 15 8 0) 34 = _ from (show G12 34 = G6 34 from funext fun k_ => hU14 34 k_ (show (3400 : Nat) ∉ ([1502, 1505, 1507, 3200] : List Nat) by decide)).trans ((show G6 34 = (gu_up G 15 5 y3) 34 from funext fun k_ => hU8 34 k_ (show (3400 : Nat) ∉ ([1502, 3200] : List Nat) by decide)))) (show ((gu_up G12 15 8 0) 15 4).toInt = _ by rw [show (gu_up G12 15 8 0) 15 4 = (G12 15 4) from rfl]) (show ((gu_up G12 15 8 0) 15 6).toInt = _ by rw [show (gu_up G12 15 8 0) 15 6 = (G12 15 6) from rfl]) (show ((gu_up G12 15 8 0) 15 7).toInt = _ by rw [show (gu_up G12 15 8 0) 15 7 = (G 15 7) from (hU14 15 7 (by decide)).trans (hU8 15 7 (by decide))]) (show ((gu_up G12 15 8 0) 15 8).toInt = _ by rw [show (gu_up G12 15 8 0) 15 8 = 0 from rfl] <;> (first | rfl | omega)))⟩) rfl rfl dX3_takeOperand_36
  · refine g_iconst F 4 dX3_takeOperand_9 (by decide) ?_
    exact u_iret F hA hQ hr G (⟨hI, gu_un.rf, (by decide), (fi)⟩) rfl rfl dX3_takeOperand_10


set_option maxHeartbeats 4000000 in
set_option maxRecDepth 100000 in
theorem S_X3_takeOpening_15_v40 (l : Launch) (D : va_G) (K : Nat → ClassId) (a : Nat → Nat) (G : gS) (fi : xFi 15 34 G) (wo : ((G 15 8).toInt ≠ 0)) (hI : xI G) (sz : Nat) : Ki l yX3_takeOpening wsX3_takeOpening 2 61 0 0 D [.ref (a 15), .int 40] (xW K a G) (tK K) sz (fun (r : Int32) (G' : gS) => (xI G') ∧ (gu_un xcd [1505, 1507, 1508, 3400] G G') ∧ (0 ≤ r.toInt ∧ r.toInt ≤ 4) ∧ (xFi 15 34 G')) (fun (G' : gS) => (xW K a G')) (fun _ => (tK K)) := by
  unfold Ki
  refine g_ofW (cc := cX3_takeOpening) (lv := [(0, .ref (a 15)), (1, .int 40)]) (by decide) rfl (Nat.le_of_ble_eq_true rfl) rfl ?_
  intro p e s m args below meth c A Q hA hQ F hr hnm
  have hts := F.2.2.2.2.1
  have w_0 : (Cond.fieldLink RX3 41 "QuietCut$Formula" "open" "I").before args s = true := hts _ (List.mem_of_getElem? (i := 1) rfl)
  have i_X3 : ∀ w ∈ u_ws RX3 TX3 9, w ∈ wsX3_takeOpening := fun _ h => List.mem_cons_of_mem _ (List.mem_append_right _ h)
  have w_1 : (Cond.fieldLink RX3 44 "QuietCut$Formula" "parentheses" "I").before args s = true := hts _ (List.mem_of_getElem? (i := 2) rfl)
  obtain ⟨⟨t9, f1, f2⟩, f3⟩ := id fi
  have f4 := f1.le
  refine g_aload_n F 0 dX3_takeOpening_0 rfl rfl ?_
  refine xg_15_6 F i_X3 w_0 dX3_takeOpening_1 (G 15 6) (rfl) ?_
  refine g_iconst F 4 dX3_takeOpening_4 (by decide) ?_
  refine v_icmp_lt F 10 dX3_takeOpening_5 (by decide) (G 15 6).toInt 4 rfl rfl (fun c1 => ?_) (fun c1 => ?_)
  · refine g_aload_n F 0 dX3_takeOpening_10 rfl rfl ?_
    refine g_dup F dX3_takeOpening_11 rfl ?_
    refine xg_15_6 F i_X3 w_0 dX3_takeOpening_12 (G 15 6) (rfl) ?_
    refine g_iconst F 1 dX3_takeOpening_15 (by decide) ?_
    have b3 := ti_rng (G 15 6)
    refine u_iadd F dX3_takeOpening_16 (G 15 6).toInt 1 rfl rfl (by omega) (by omega) (fun y2 ey2 => ?_)
    refine xp_15_6 F i_X3 w_0 dX3_takeOpening_17 ?_
    refine g_iload_n F 1 dX3_takeOpening_20 rfl rfl ?_
    refine g_bipush F 40 dX3_takeOpening_21 (by decide) ?_
    refine v_icmp_ne F 36 dX3_takeOpening_23 (by decide) 40 40 rfl rfl (fun c4 => absurd c4 (by decide)) (fun c4 => ?_)
    refine g_aload_n F 0 dX3_takeOpening_26 rfl rfl ?_
    refine g_dup F dX3_takeOpening_27 rfl ?_
    refine xg_15_7 F i_X3 w_1 dX3_takeOpening_28 (G 15 7) (rfl) ?_
    refine g_iconst F 1 dX3_takeOpening_31 (by decide) ?_
    refine u_iaddc F dX3_takeOpening_32 (G 15 7).toInt 1 rfl rfl (fun y5 ey5 => ?_)
    refine xp_15_7 F i_X3 w_1 dX3_takeOpening_33 ?_
    refine g_aload_n F 0 dX3_takeOpening_36 rfl rfl ?_
    refine g_iload_n F 1 dX3_takeOpening_37 rfl rfl ?_
    refine u_callVv (k := 0) (n := 0) (b := a 15) (As := [.int 40]) (st := []) F (fun sz => S_X3_putWaiting_15 l D K a (gu_up (gu_up G 15 6 y2) 15 7 y5) 40 40 rfl (gu_I.up (j := 15) (k := 7) (v := y5) (gu_I.up (j := 15) (k := 6) (v := y2) hI (ti_rng _).1 (ti_rng _).2) (ti_rng _).1 (ti_rng _).2) sz) (cwV 1 hts gX3_takeOpening_X3_putWaiting rfl rfl rfl (by decide +kernel) ⟨Nat.le_of_ble_eq_true rfl, Nat.le_of_ble_eq_true rfl⟩) rfl 15 xc_15 rfl (Nat.le_of_ble_eq_true rfl) ⟨Nat.zero_le _, Nat.zero_le _⟩ dX3_takeOpening_38 (fun G8 hw7 => ?_)
    have hI9 : xI G8 := hw7.1
    have hU10 : gu_un xcd [1505, 3400] (gu_up (gu_up G 15 6 y2) 15 7 y5) G8 := hw7.2.1
    have hp11 := hw7.2.2
    have b12 : (0 : Int) ≤ (G 15 4).toInt ∧ (G 15 4).toInt ≤ 16 := hI 15 4
    have b13 : (0 : Int) ≤ (G8 15 4).toInt ∧ (G8 15 4).toInt ≤ 16 := hI9 15 4
    have q14 : ((G 15 4).toInt ≤ 15 → (G8 34 = upd (G 34) ((G 15 4).toInt).toNat 40 ∧ (G8 15 4).toInt = (G 15 4).toInt + 1)) := hp11
    refine g_iconst F 0 dX3_takeOpening_41 (by decide) ?_
    exact u_iret F hA hQ hr G8 (⟨hI9, (gu_un.tr (gu_un.up (j := 15) (k := 7) (v := y5) (gu_un.up (j := 15) (k := 6) (v := y2) gu_un.rf (show (1507 : Nat) ∈ ([1505, 1507, 1508, 3400] : List Nat) by decide)) (show (1508 : Nat) ∈ ([1505, 1507, 1508, 3400] : List Nat) by decide)) (gu_un.su hU10 rfl)), (by decide), (xFi.mk (w := (G 15 8).toInt) (by exact ⟨0, f1.push.1 rfl, fun _ => by omega⟩) (by omega) (show G8 34 = _ from (q14 (by omega)).1) (show (G8 15 4).toInt = _ by rw [show G8 15 4 = (G8 15 4) from rfl] <;> (exact (q14 (by omega)).2)) (show (G8 15 6).toInt = _ by rw [show G8 15 6 = y2 from hU10 15 6 (by decide)] <;> (omega)) (show (G8 15 7).toInt = _ by rw [show G8 15 7 = y5 from hU10 15 7 (by decide)] <;> (first | rfl | omega)) (show (G8 15 8).toInt = _ by rw [show G8 15 8 = (G 15 8) from hU10 15 8 (by decide)]))⟩) rfl rfl dX3_takeOpening_42
  · refine g_iconst F 4 dX3_takeOpening_8 (by decide) ?_
    exact u_iret F hA hQ hr G (⟨hI, gu_un.rf, (by decide), (fi)⟩) rfl rfl dX3_takeOpening_9


set_option maxHeartbeats 4000000 in
set_option maxRecDepth 100000 in
theorem S_X3_takeOpening_15_m3 (l : Launch) (D : va_G) (K : Nat → ClassId) (a : Nat → Nat) (G : gS) (fi : xFi 15 34 G) (wo : ((G 15 8).toInt ≠ 0)) (hI : xI G) (sz : Nat) : Ki l yX3_takeOpening wsX3_takeOpening 2 61 0 0 D [.ref (a 15), .int (-3)] (xW K a G) (tK K) sz (fun (r : Int32) (G' : gS) => (xI G') ∧ (gu_un xcd [1505, 1507, 3400] G G') ∧ (0 ≤ r.toInt ∧ r.toInt ≤ 4) ∧ (xFi 15 34 G')) (fun (G' : gS) => (xW K a G')) (fun _ => (tK K)) := by
  unfold Ki
  refine g_ofW (cc := cX3_takeOpening) (lv := [(0, .ref (a 15)), (1, .int (-3))]) (by decide) rfl (Nat.le_of_ble_eq_true rfl) rfl ?_
  intro p e s m args below meth c A Q hA hQ F hr hnm
  have hts := F.2.2.2.2.1
  have w_0 : (Cond.fieldLink RX3 41 "QuietCut$Formula" "open" "I").before args s = true := hts _ (List.mem_of_getElem? (i := 1) rfl)
  have i_X3 : ∀ w ∈ u_ws RX3 TX3 9, w ∈ wsX3_takeOpening := fun _ h => List.mem_cons_of_mem _ (List.mem_append_right _ h)
  obtain ⟨⟨t9, f1, f2⟩, f3⟩ := id fi
  have f4 := f1.le
  refine g_aload_n F 0 dX3_takeOpening_0 rfl rfl ?_
  refine xg_15_6 F i_X3 w_0 dX3_takeOpening_1 (G 15 6) (rfl) ?_
  refine g_iconst F 4 dX3_takeOpening_4 (by decide) ?_
  refine v_icmp_lt F 10 dX3_takeOpening_5 (by decide) (G 15 6).toInt 4 rfl rfl (fun c1 => ?_) (fun c1 => ?_)
  · refine g_aload_n F 0 dX3_takeOpening_10 rfl rfl ?_
    refine g_dup F dX3_takeOpening_11 rfl ?_
    refine xg_15_6 F i_X3 w_0 dX3_takeOpening_12 (G 15 6) (rfl) ?_
    refine g_iconst F 1 dX3_takeOpening_15 (by decide) ?_
    have b3 := ti_rng (G 15 6)
    refine u_iadd F dX3_takeOpening_16 (G 15 6).toInt 1 rfl rfl (by omega) (by omega) (fun y2 ey2 => ?_)
    refine xp_15_6 F i_X3 w_0 dX3_takeOpening_17 ?_
    refine g_iload_n F 1 dX3_takeOpening_20 rfl rfl ?_
    refine g_bipush F 40 dX3_takeOpening_21 (by decide) ?_
    refine v_icmp_ne F 36 dX3_takeOpening_23 (by decide) (-3) 40 rfl rfl (fun c4 => ?_) (fun c4 => absurd c4 (by decide))
    refine g_aload_n F 0 dX3_takeOpening_36 rfl rfl ?_
    refine g_iload_n F 1 dX3_takeOpening_37 rfl rfl ?_
    refine u_callVv (k := 0) (n := 0) (b := a 15) (As := [.int (-3)]) (st := []) F (fun sz => S_X3_putWaiting_15 l D K a (gu_up G 15 6 y2) (-3) (-3) rfl (gu_I.up (j := 15) (k := 6) (v := y2) hI (ti_rng _).1 (ti_rng _).2) sz) (cwV 1 hts gX3_takeOpening_X3_putWaiting rfl rfl rfl (by decide +kernel) ⟨Nat.le_of_ble_eq_true rfl, Nat.le_of_ble_eq_true rfl⟩) rfl 15 xc_15 rfl (Nat.le_of_ble_eq_true rfl) ⟨Nat.zero_le _, Nat.zero_le _⟩ dX3_takeOpening_38 (fun G7 hw6 => ?_)
    have hI8 : xI G7 := hw6.1
    have hU9 : gu_un xcd [1505, 3400] (gu_up G 15 6 y2) G7 := hw6.2.1
    have hp10 := hw6.2.2
    have b11 : (0 : Int) ≤ (G 15 4).toInt ∧ (G 15 4).toInt ≤ 16 := hI 15 4
    have b12 : (0 : Int) ≤ (G7 15 4).toInt ∧ (G7 15 4).toInt ≤ 16 := hI8 15 4
    have q13 : ((G 15 4).toInt ≤ 15 → (G7 34 = upd (G 34) ((G 15 4).toInt).toNat (-3) ∧ (G7 15 4).toInt = (G 15 4).toInt + 1)) := hp10
    refine g_iconst F 0 dX3_takeOpening_41 (by decide) ?_
    exact u_iret F hA hQ hr G7 (⟨hI8, (gu_un.tr (gu_un.up (j := 15) (k := 6) (v := y2) gu_un.rf (show (1507 : Nat) ∈ ([1505, 1507, 3400] : List Nat) by decide)) (gu_un.su hU9 rfl)), (by decide), (xFi.mk (w := (G 15 8).toInt) (by exact ⟨-1, f1.push.2.1 rfl, fun h => absurd h wo⟩) (by omega) (show G7 34 = _ from (q13 (by omega)).1) (show (G7 15 4).toInt = _ by rw [show G7 15 4 = (G7 15 4) from rfl] <;> (exact (q13 (by omega)).2)) (show (G7 15 6).toInt = _ by rw [show G7 15 6 = y2 from hU9 15 6 (by decide)] <;> (omega)) (show (G7 15 7).toInt = _ by rw [show G7 15 7 = (G 15 7) from hU9 15 7 (by decide)] <;> (first | rfl | omega)) (show (G7 15 8).toInt = _ by rw [show G7 15 8 = (G 15 8) from hU9 15 8 (by decide)]))⟩) rfl rfl dX3_takeOpening_42
  · refine g_iconst F 4 dX3_takeOpening_8 (by decide) ?_
    exact u_iret F hA hQ hr G (⟨hI, gu_un.rf, (by decide), (fi)⟩) rfl rfl dX3_takeOpening_9


set_option maxHeartbeats 4000000 in
set_option maxRecDepth 100000 in
theorem S_X3_takeBehindOperand_15_1 (l : Launch) (D : va_G) (K : Nat → ClassId) (a : Nat → Nat) (G : gS) (fi : xFi 15 34 G) (wo : ((G 15 8).toInt = 0)) (hI : xI G) (sz : Nat) : Ki l yX3_takeBehindOperand wsX3_takeBehindOperand 3 82 0 0 D [.ref (a 15), .ref (a 1)] (xW K a G) (tK K) sz (fun (r : Int32) (G' : gS) => (xI G') ∧ (gu_un xcd [1502, 1505, 1507, 1508, 1509, 3200, 3400] G G') ∧ (0 ≤ r.toInt ∧ r.toInt ≤ 1) ∧ (xFi 15 34 G')) (fun (G' : gS) => (xW K a G')) (fun _ => (tK K)) := by
  unfold Ki
  refine g_ofW (cc := cX3_takeBehindOperand) (lv := [(0, .ref (a 15)), (1, .ref (a 1))]) (by decide) rfl (Nat.le_of_ble_eq_true rfl) rfl ?_
  intro p e s m args below meth c A Q hA hQ F hr hnm
  have hts := F.2.2.2.2.1
  have w_0 : (Cond.fieldLink RX3 68 "QuietCut$Tape" "kind" "I").before args s = true := hts _ (List.mem_of_getElem? (i := 4) rfl)
  have i_X10 : ∀ w ∈ u_ws RX10 TX10 6, w ∈ wsX3_takeBehindOperand := fun _ h => List.mem_cons_of_mem _ (List.mem_append_right _ h)
  have w_1 : (Cond.fieldLink RX3 71 "QuietCut$Tape" "value" "I").before args s = true := hts _ (List.mem_of_getElem? (i := 5) rfl)
  have w_2 : (Cond.fieldLink RX3 47 "QuietCut$Formula" "wantsOperand" "Z").before args s = true := hts _ (List.mem_of_getElem? (i := 6) rfl)
  have i_X3 : ∀ w ∈ u_ws RX3 TX3 9, w ∈ wsX3_takeBehindOperand := fun _ h => List.mem_cons_of_mem _ (List.mem_append_left _ (List.mem_append_right _ h))
  have w_3 : (Cond.fieldLink RX3 44 "QuietCut$Formula" "parentheses" "I").before args s = true := hts _ (List.mem_of_getElem? (i := 1) rfl)
  have w_4 : (Cond.fieldLink RX3 35 "QuietCut$Formula" "waits" "I").before args s = true := hts _ (List.mem_of_getElem? (i := 2) rfl)
  have w_5 : (Cond.fieldLink RX3 41 "QuietCut$Formula" "open" "I").before args s = true := hts _ (List.mem_of_getElem? (i := 3) rfl)
  obtain ⟨⟨t9, f1, f2⟩, f3⟩ := id fi
  have f4 := f1.le
  refine g_aload_n F 1 dX3_takeBehindOperand_0 rfl rfl ?_
  refine g_bipush F 41 dX3_takeBehindOperand_1 (by decide) ?_
  refine u_callVi (k := 0) (n := 0) (b := a 1) (As := [.int 41]) (st := []) F (fun sz => S_X10_isSign l D K a G 41 41 rfl hI sz) (cwV 1 hts gX3_takeBehindOperand_X10_isSign rfl rfl rfl (by decide +kernel) ⟨Nat.le_of_ble_eq_true rfl, Nat.le_of_ble_eq_true rfl⟩) rfl 1 xc_1 rfl (Nat.le_of_ble_eq_true rfl) ⟨Nat.zero_le _, Nat.zero_le _⟩ dX3_takeBehindOperand_3 (fun r1 _ hw2 => ?_)
  refine v_if_eq F 57 dX3_takeBehindOperand_6 (by decide) r1.toInt rfl (fun c4 => ?_) (fun c4 => ?_)
  · refine g_aload_n F 1 dX3_takeBehindOperand_57 rfl rfl ?_
    refine xg_1_3 F i_X10 w_0 dX3_takeBehindOperand_58 (G 1 3) (rfl) ?_
    refine g_iconst F 3 dX3_takeBehindOperand_61 (by decide) ?_
    have b5 : (0 : Int) ≤ (G 1 3).toInt ∧ (G 1 3).toInt ≤ 4 := hI 1 3
    refine v_icmp_ne F 75 dX3_takeBehindOperand_62 (by decide) (G 1 3).toInt 3 rfl rfl (fun c6 => ?_) (fun c6 => ?_)
    · refine g_iconst F 0 dX3_takeBehindOperand_75 (by decide) ?_
      refine g_istore_n F [(2, .int 0), (0, .ref (a 15)), (1, .ref (a 1))] dX3_takeBehindOperand_76 rfl (by decide) rfl ?_
      refine g_iload_n F 0 dX3_takeBehindOperand_77 rfl rfl ?_
      refine v_if_ne F 83 dX3_takeBehindOperand_78 (by decide) 0 rfl (fun c7 => absurd c7 (by decide)) (fun c7 => ?_)
      refine g_iconst F 1 dX3_takeBehindOperand_81 (by decide) ?_
      exact u_iret F hA hQ hr G (⟨hI, gu_un.rf, (by decide), (fi)⟩) rfl rfl dX3_takeBehindOperand_82
    · refine g_aload_n F 1 dX3_takeBehindOperand_65 rfl rfl ?_
      refine xg_1_5 F i_X10 w_1 dX3_takeBehindOperand_66 (G 1 5) (rfl) ?_
      refine u_call0 (k := 0) (n := 0) (As := [.int (G 1 5)]) (st := []) F (fun sz => S_X3_strengthOf l D (G 1 5) (G 1 5).toInt rfl sz) (va_cwS 1 hts gX3_takeBehindOperand_X3_strengthOf rfl rfl rfl (by decide +kernel) ⟨Nat.le_of_ble_eq_true rfl, Nat.le_of_ble_eq_true rfl⟩) rfl (Nat.le_of_ble_eq_true rfl) ⟨Nat.zero_le _, Nat.zero_le _⟩ dX3_takeBehindOperand_69 (fun r8 _ hw9 => ?_)
      have q11 : (r8.toInt = xsg (G 1 5).toInt) := hw9.2
      refine g_goto F 76 dX3_takeBehindOperand_72 (by decide) ?_
      refine g_istore_n F [(2, .int r8), (0, .ref (a 15)), (1, .ref (a 1))] dX3_takeBehindOperand_76 rfl (by decide) rfl ?_
      refine g_iload_n F 0 dX3_takeBehindOperand_77 rfl rfl ?_
      refine v_if_ne F 83 dX3_takeBehindOperand_78 (by decide) r8.toInt rfl (fun c12 => ?_) (fun c12 => ?_)
      · refine g_aload_n F 1 dX3_takeBehindOperand_83 rfl rfl ?_
        refine g_iload_n F 0 dX3_takeBehindOperand_84 rfl rfl ?_
        refine u_callVv (k := 0) (n := 0) (b := a 15) (As := [.int r8]) (st := []) F (fun sz => S_X3_joinDownTo_15 l D K a G r8 r8.toInt rfl (by omega) (by exact ⟨t9, f1.cast rfl (congrArg Int32.toInt (show G 15 4 = (G 15 4) from rfl)) (congrArg Int32.toInt (show G 15 6 = (G 15 6) from rfl)) (congrArg Int32.toInt (show G 15 7 = (G 15 7) from rfl)), f2 wo⟩) hI sz) (cwV 1 hts gX3_takeBehindOperand_X3_joinDownTo rfl rfl rfl (by decide +kernel) ⟨Nat.le_of_ble_eq_true rfl, Nat.le_of_ble_eq_true rfl⟩) rfl 15 xc_15 rfl (Nat.le_of_ble_eq_true rfl) ⟨Nat.zero_le _, Nat.zero_le _⟩ dX3_takeBehindOperand_85 (fun G15 hw14 => ?_)
        have hI16 : xI G15 := hw14.1
        have hU17 : gu_un xcd [1502, 1505, 3200] G G15 := hw14.2.1
        have hp18 := hw14.2.2
        have b19 : (0 : Int) ≤ (G15 15 4).toInt ∧ (G15 15 4).toInt ≤ 16 := hI16 15 4
        have q20 : (∃ t, xQ (G 34) (G15 15 4).toInt (G 15 6).toInt (G 15 7).toInt t ∧ 0 ≤ t ∧ t < r8.toInt) := hp18
        obtain ⟨t8, j1, j2, j3⟩ := q20
        have j6 := j1.le
        refine g_aload_n F 1 dX3_takeBehindOperand_88 rfl rfl ?_
        refine g_aload_n F 2 dX3_takeBehindOperand_89 rfl rfl ?_
        refine xg_1_5 F i_X10 w_1 dX3_takeBehindOperand_90 (G 1 5) (hU17 1 5 (by decide)) ?_
        refine u_callVv (k := 0) (n := 0) (b := a 15) (As := [.int (G 1 5)]) (st := []) F (fun sz => S_X3_putWaiting_15 l D K a G15 (G 1 5) (G 1 5).toInt rfl hI16 sz) (cwV 1 hts gX3_takeBehindOperand_X3_putWaiting rfl rfl rfl (by decide +kernel) ⟨Nat.le_of_ble_eq_true rfl, Nat.le_of_ble_eq_true rfl⟩) rfl 15 xc_15 rfl (Nat.le_of_ble_eq_true rfl) ⟨Nat.zero_le _, Nat.zero_le _⟩ dX3_takeBehindOperand_93 (fun G23 hw22 => ?_)
        have hI24 : xI G23 := hw22.1
        have hU25 : gu_un xcd [1505, 3400] G15 G23 := hw22.2.1
        have hp26 := hw22.2.2
        have b27 : (0 : Int) ≤ (G23 15 4).toInt ∧ (G23 15 4).toInt ≤ 16 := hI24 15 4
        have q28 : ((G15 15 4).toInt ≤ 15 → (G23 34 = upd (G 34) ((G15 15 4).toInt).toNat (G 1 5) ∧ (G23 15 4).toInt = (G15 15 4).toInt + 1)) := by have h9 := hp26; (try simp only [(show G15 34 = (G 34) from (show G15 34 = G 34 from funext fun k_ => hU17 34 k_ (show (3400 : Nat) ∉ ([1502, 1505, 3200] : List Nat) by decide)))] at h9); first | exact h9 | omega
        refine g_aload_n F 1 dX3_takeBehindOperand_96 rfl rfl ?_
        refine g_iconst F 1 dX3_takeBehindOperand_97 (by decide) ?_
        refine xp_15_8 F i_X3 w_2 dX3_takeBehindOperand_98 (by decide) ?_
        refine g_iconst F 0 dX3_takeBehindOperand_101 (by decide) ?_
        exact u_iret F hA hQ hr (gu_up G23 15 8 1) (⟨(gu_I.up (j := 15) (k := 8) (v := 1) hI24 (show (0 : Int) ≤ (1 : Int32).toInt by decide) (show (1 : Int32).toInt ≤ 1 by decide)), (gu_un.up (j := 15) (k := 8) (v := 1) (gu_un.tr (gu_un.tr gu_un.rf (gu_un.su hU17 rfl)) (gu_un.su hU25 rfl)) (show (1509 : Nat) ∈ ([1502, 1505, 1507, 1508, 1509, 3200, 3400] : List Nat) by decide)), (by decide), (xFi.mk (w := 1) (by exact ⟨_, j1.push.2.2 j2 (by omega), fun h => absurd h (by decide)⟩) (by omega) (show (gu_up G23 15 8 1) 34 = _ from (q28 (by omega)).1) (show ((gu_up G23 15 8 1) 15 4).toInt = _ by rw [show (gu_up G23 15 8 1) 15 4 = (G23 15 4) from rfl] <;> (exact (q28 (by omega)).2)) (show ((gu_up G23 15 8 1) 15 6).toInt = _ by rw [show (gu_up G23 15 8 1) 15 6 = (G 15 6) from (hU25 15 6 (by decide)).trans (hU17 15 6 (by decide))]) (show ((gu_up G23 15 8 1) 15 7).toInt = _ by rw [show (gu_up G23 15 8 1) 15 7 = (G 15 7) from (hU25 15 7 (by decide)).trans (hU17 15 7 (by decide))]) (show ((gu_up G23 15 8 1) 15 8).toInt = _ by rw [show (gu_up G23 15 8 1) 15 8 = 1 from rfl] <;> (rfl)))⟩) rfl rfl dX3_takeBehindOperand_102
      · refine g_iconst F 1 dX3_takeBehindOperand_81 (by decide) ?_
        exact u_iret F hA hQ hr G (⟨hI, gu_un.rf, (by decide), (fi)⟩) rfl rfl dX3_takeBehindOperand_82
  · refine g_aload_n F 0 dX3_takeBehindOperand_9 rfl rfl ?_
    refine xg_15_7 F i_X3 w_3 dX3_takeBehindOperand_10 (G 15 7) (rfl) ?_
    refine v_if_le F 57 dX3_takeBehindOperand_13 (by decide) (G 15 7).toInt rfl (fun c29 => ?_) (fun c29 => ?_)
    · refine g_aload_n F 1 dX3_takeBehindOperand_57 rfl rfl ?_
      refine xg_1_3 F i_X10 w_0 dX3_takeBehindOperand_58 (G 1 3) (rfl) ?_
      refine g_iconst F 3 dX3_takeBehindOperand_61 (by decide) ?_
      have b30 : (0 : Int) ≤ (G 1 3).toInt ∧ (G 1 3).toInt ≤ 4 := hI 1 3
      refine v_icmp_ne F 75 dX3_takeBehindOperand_62 (by decide) (G 1 3).toInt 3 rfl rfl (fun c31 => ?_) (fun c31 => ?_)
      · refine g_iconst F 0 dX3_takeBehindOperand_75 (by decide) ?_
        refine g_istore_n F [(2, .int 0), (0, .ref (a 15)), (1, .ref (a 1))] dX3_takeBehindOperand_76 rfl (by decide) rfl ?_
        refine g_iload_n F 0 dX3_takeBehindOperand_77 rfl rfl ?_
        refine v_if_ne F 83 dX3_takeBehindOperand_78 (by decide) 0 rfl (fun c32 => absurd c32 (by decide)) (fun c32 => ?_)
        refine g_iconst F 1 dX3_takeBehindOperand_81 (by decide) ?_
        exact u_iret F hA hQ hr G (⟨hI, gu_un.rf, (by decide), (fi)⟩) rfl rfl dX3_takeBehindOperand_82
      · refine g_aload_n F 1 dX3_takeBehindOperand_65 rfl rfl ?_
        refine xg_1_5 F i_X10 w_1 dX3_takeBehindOperand_66 (G 1 5) (rfl) ?_
        refine u_call0 (k := 0) (n := 0) (As := [.int (G 1 5)]) (st := []) F (fun sz => S_X3_strengthOf l D (G 1 5) (G 1 5).toInt rfl sz) (va_cwS 1 hts gX3_takeBehindOperand_X3_strengthOf rfl rfl rfl (by decide +kernel) ⟨Nat.le_of_ble_eq_true rfl, Nat.le_of_ble_eq_true rfl⟩) rfl (Nat.le_of_ble_eq_true rfl) ⟨Nat.zero_le _, Nat.zero_le _⟩ dX3_takeBehindOperand_69 (fun r33 _ hw34 => ?_)
        have q36 : (r33.toInt = xsg (G 1 5).toInt) := hw34.2
        refine g_goto F 76 dX3_takeBehindOperand_72 (by decide) ?_
        refine g_istore_n F [(2, .int r33), (0, .ref (a 15)), (1, .ref (a 1))] dX3_takeBehindOperand_76 rfl (by decide) rfl ?_
        refine g_iload_n F 0 dX3_takeBehindOperand_77 rfl rfl ?_
        refine v_if_ne F 83 dX3_takeBehindOperand_78 (by decide) r33.toInt rfl (fun c37 => ?_) (fun c37 => ?_)
        · refine g_aload_n F 1 dX3_takeBehindOperand_83 rfl rfl ?_
          refine g_iload_n F 0 dX3_takeBehindOperand_84 rfl rfl ?_
          refine u_callVv (k := 0) (n := 0) (b := a 15) (As := [.int r33]) (st := []) F (fun sz => S_X3_joinDownTo_15 l D K a G r33 r33.toInt rfl (by omega) (by exact ⟨t9, f1.cast rfl (congrArg Int32.toInt (show G 15 4 = (G 15 4) from rfl)) (congrArg Int32.toInt (show G 15 6 = (G 15 6) from rfl)) (congrArg Int32.toInt (show G 15 7 = (G 15 7) from rfl)), f2 wo⟩) hI sz) (cwV 1 hts gX3_takeBehindOperand_X3_joinDownTo rfl rfl rfl (by decide +kernel) ⟨Nat.le_of_ble_eq_true rfl, Nat.le_of_ble_eq_true rfl⟩) rfl 15 xc_15 rfl (Nat.le_of_ble_eq_true rfl) ⟨Nat.zero_le _, Nat.zero_le _⟩ dX3_takeBehindOperand_85 (fun G40 hw39 => ?_)
          have hI41 : xI G40 := hw39.1
          have hU42 : gu_un xcd [1502, 1505, 3200] G G40 := hw39.2.1
          have hp43 := hw39.2.2
          have b44 : (0 : Int) ≤ (G40 15 4).toInt ∧ (G40 15 4).toInt ≤ 16 := hI41 15 4
          have q45 : (∃ t, xQ (G 34) (G40 15 4).toInt (G 15 6).toInt (G 15 7).toInt t ∧ 0 ≤ t ∧ t < r33.toInt) := hp43
          obtain ⟨t8, j1, j2, j3⟩ := q45
          have j6 := j1.le
          refine g_aload_n F 1 dX3_takeBehindOperand_88 rfl rfl ?_
          refine g_aload_n F 2 dX3_takeBehindOperand_89 rfl rfl ?_
          refine xg_1_5 F i_X10 w_1 dX3_takeBehindOperand_90 (G 1 5) (hU42 1 5 (by decide)) ?_
          refine u_callVv (k := 0) (n := 0) (b := a 15) (As := [.int (G 1 5)]) (st := []) F (fun sz => S_X3_putWaiting_15 l D K a G40 (G 1 5) (G 1 5).toInt rfl hI41 sz) (cwV 1 hts gX3_takeBehindOperand_X3_putWaiting rfl rfl rfl (by decide +kernel) ⟨Nat.le_of_ble_eq_true rfl, Nat.le_of_ble_eq_true rfl⟩) rfl 15 xc_15 rfl (Nat.le_of_ble_eq_true rfl) ⟨Nat.zero_le _, Nat.zero_le _⟩ dX3_takeBehindOperand_93 (fun G48 hw47 => ?_)
          have hI49 : xI G48 := hw47.1
          have hU50 : gu_un xcd [1505, 3400] G40 G48 := hw47.2.1
          have hp51 := hw47.2.2
          have b52 : (0 : Int) ≤ (G48 15 4).toInt ∧ (G48 15 4).toInt ≤ 16 := hI49 15 4
          have q53 : ((G40 15 4).toInt ≤ 15 → (G48 34 = upd (G 34) ((G40 15 4).toInt).toNat (G 1 5) ∧ (G48 15 4).toInt = (G40 15 4).toInt + 1)) := by have h9 := hp51; (try simp only [(show G40 34 = (G 34) from (show G40 34 = G 34 from funext fun k_ => hU42 34 k_ (show (3400 : Nat) ∉ ([1502, 1505, 3200] : List Nat) by decide)))] at h9); first | exact h9 | omega
          refine g_aload_n F 1 dX3_takeBehindOperand_96 rfl rfl ?_
          refine g_iconst F 1 dX3_takeBehindOperand_97 (by decide) ?_
          refine xp_15_8 F i_X3 w_2 dX3_takeBehindOperand_98 (by decide) ?_
          refine g_iconst F 0 dX3_takeBehindOperand_101 (by decide) ?_
          exact u_iret F hA hQ hr (gu_up G48 15 8 1) (⟨(gu_I.up (j := 15) (k := 8) (v := 1) hI49 (show (0 : Int) ≤ (1 : Int32).toInt by decide) (show (1 : Int32).toInt ≤ 1 by decide)), (gu_un.up (j := 15) (k := 8) (v := 1) (gu_un.tr (gu_un.tr gu_un.rf (gu_un.su hU42 rfl)) (gu_un.su hU50 rfl)) (show (1509 : Nat) ∈ ([1502, 1505, 1507, 1508, 1509, 3200, 3400] : List Nat) by decide)), (by decide), (xFi.mk (w := 1) (by exact ⟨_, j1.push.2.2 j2 (by omega), fun h => absurd h (by decide)⟩) (by omega) (show (gu_up G48 15 8 1) 34 = _ from (q53 (by omega)).1) (show ((gu_up G48 15 8 1) 15 4).toInt = _ by rw [show (gu_up G48 15 8 1) 15 4 = (G48 15 4) from rfl] <;> (exact (q53 (by omega)).2)) (show ((gu_up G48 15 8 1) 15 6).toInt = _ by rw [show (gu_up G48 15 8 1) 15 6 = (G 15 6) from (hU50 15 6 (by decide)).trans (hU42 15 6 (by decide))]) (show ((gu_up G48 15 8 1) 15 7).toInt = _ by rw [show (gu_up G48 15 8 1) 15 7 = (G 15 7) from (hU50 15 7 (by decide)).trans (hU42 15 7 (by decide))]) (show ((gu_up G48 15 8 1) 15 8).toInt = _ by rw [show (gu_up G48 15 8 1) 15 8 = 1 from rfl] <;> (rfl)))⟩) rfl rfl dX3_takeBehindOperand_102
        · refine g_iconst F 1 dX3_takeBehindOperand_81 (by decide) ?_
          exact u_iret F hA hQ hr G (⟨hI, gu_un.rf, (by decide), (fi)⟩) rfl rfl dX3_takeBehindOperand_82
    · refine g_aload_n F 0 dX3_takeBehindOperand_16 rfl rfl ?_
      refine g_iconst F 1 dX3_takeBehindOperand_17 (by decide) ?_
      refine u_callVv (k := 0) (n := 0) (b := a 15) (As := [.int 1]) (st := []) F (fun sz => S_X3_joinDownTo_15 l D K a G 1 1 rfl (by decide) (by exact ⟨t9, f1.cast rfl (congrArg Int32.toInt (show G 15 4 = (G 15 4) from rfl)) (congrArg Int32.toInt (show G 15 6 = (G 15 6) from rfl)) (congrArg Int32.toInt (show G 15 7 = (G 15 7) from rfl)), f2 wo⟩) hI sz) (cwV 1 hts gX3_takeBehindOperand_X3_joinDownTo rfl rfl rfl (by decide +kernel) ⟨Nat.le_of_ble_eq_true rfl, Nat.le_of_ble_eq_true rfl⟩) rfl 15 xc_15 rfl (Nat.le_of_ble_eq_true rfl) ⟨Nat.zero_le _, Nat.zero_le _⟩ dX3_takeBehindOperand_18 (fun G56 hw55 => ?_)
      have hI57 : xI G56 := hw55.1
      have hU58 : gu_un xcd [1502, 1505, 3200] G G56 := hw55.2.1
      have hp59 := hw55.2.2
      have b60 : (0 : Int) ≤ (G56 15 4).toInt ∧ (G56 15 4).toInt ≤ 16 := hI57 15 4
      have q61 : (∃ t, xQ (G 34) (G56 15 4).toInt (G 15 6).toInt (G 15 7).toInt t ∧ 0 ≤ t ∧ t < (1 : Int)) := hp59
      obtain ⟨t8, j1, j2, j3⟩ := q61
      obtain ⟨j4, j5⟩ := j1.popP (by omega) (by omega)
      have j6 := j1.le
      refine g_aload_n F 0 dX3_takeBehindOperand_21 rfl rfl ?_
      refine g_dup F dX3_takeBehindOperand_22 rfl ?_
      refine xg_15_4 F i_X3 w_4 dX3_takeBehindOperand_23 (G56 15 4) (rfl) ?_
      refine g_iconst F 1 dX3_takeBehindOperand_26 (by decide) ?_
      refine u_isub F dX3_takeBehindOperand_27 (G56 15 4).toInt 1 rfl rfl (by omega) (by omega) (fun y62 ey62 => ?_)
      refine xp_15_4 F i_X3 w_4 dX3_takeBehindOperand_28 ?_
      refine g_aload_n F 0 dX3_takeBehindOperand_31 rfl rfl ?_
      refine g_dup F dX3_takeBehindOperand_32 rfl ?_
      refine xg_15_7 F i_X3 w_3 dX3_takeBehindOperand_33 (G 15 7) (hU58 15 7 (by decide)) ?_
      refine g_iconst F 1 dX3_takeBehindOperand_36 (by decide) ?_
      have b64 := ti_rng (G 15 7)
      refine u_isub F dX3_takeBehindOperand_37 (G 15 7).toInt 1 rfl rfl (by omega) (by omega) (fun y63 ey63 => ?_)
      refine xp_15_7 F i_X3 w_3 dX3_takeBehindOperand_38 ?_
      refine g_aload_n F 0 dX3_takeBehindOperand_41 rfl rfl ?_
      refine g_dup F dX3_takeBehindOperand_42 rfl ?_
      refine xg_15_6 F i_X3 w_5 dX3_takeBehindOperand_43 (G 15 6) (hU58 15 6 (by decide)) ?_
      refine g_iconst F 1 dX3_takeBehindOperand_46 (by decide) ?_
      refine u_isubc F dX3_takeBehindOperand_47 (G 15 6).toInt 1 rfl rfl (fun y65 ey65 => ?_)
      refine xp_15_6 F i_X3 w_5 dX3_takeBehindOperand_48 ?_
      refine g_aload_n F 0 dX3_takeBehindOperand_51 rfl rfl ?_
      refine u_callVv (k := 0) (n := 0) (b := a 15) (As := []) (st := []) F (fun sz => S_X3_closeMinuses_15 l D K a (gu_up (gu_up (gu_up G56 15 4 y62) 15 7 y63) 15 6 y65)  (by obtain ⟨t7, h7⟩ := j5; exact ⟨t7, h7.cast (show (gu_up (gu_up (gu_up G56 15 4 y62) 15 7 y63) 15 6 y65) 34 = _ from (show G56 34 = G 34 from funext fun k_ => hU58 34 k_ (show (3400 : Nat) ∉ ([1502, 1505, 3200] : List Nat) by decide))) (show ((gu_up (gu_up (gu_up G56 15 4 y62) 15 7 y63) 15 6 y65) 15 4).toInt = _ by rw [show (gu_up (gu_up (gu_up G56 15 4 y62) 15 7 y63) 15 6 y65) 15 4 = y62 from rfl]; omega) (show ((gu_up (gu_up (gu_up G56 15 4 y62) 15 7 y63) 15 6 y65) 15 6).toInt = _ by rw [show (gu_up (gu_up (gu_up G56 15 4 y62) 15 7 y63) 15 6 y65) 15 6 = y65 from rfl]; omega) (show ((gu_up (gu_up (gu_up G56 15 4 y62) 15 7 y63) 15 6 y65) 15 7).toInt = _ by rw [show (gu_up (gu_up (gu_up G56 15 4 y62) 15 7 y63) 15 6 y65) 15 7 = y63 from rfl]; omega)⟩) (gu_I.up (j := 15) (k := 6) (v := y65) (gu_I.up (j := 15) (k := 7) (v := y63) (gu_I.up (j := 15) (k := 4) (v := y62) hI57 (show (0 : Int) ≤ Int32.toInt y62 by omega) (show Int32.toInt y62 ≤ 16 by omega)) (ti_rng _).1 (ti_rng _).2) (ti_rng _).1 (ti_rng _).2) sz) (cwV 0 hts gX3_takeBehindOperand_X3_closeMinuses rfl rfl rfl (by decide +kernel) ⟨Nat.le_of_ble_eq_true rfl, Nat.le_of_ble_eq_true rfl⟩) rfl 15 xc_15 rfl (Nat.le_of_ble_eq_true rfl) ⟨Nat.zero_le _, Nat.zero_le _⟩ dX3_takeBehindOperand_52 (fun G68 hw67 => ?_)
      have hI69 : xI G68 := hw67.1
      have hU70 : gu_un xcd [1502, 1505, 1507, 3200] (gu_up (gu_up (gu_up G56 15 4 y62) 15 7 y63) 15 6 y65) G68 := hw67.2.1
      have hp71 := hw67.2.2
      have b72 : (0 : Int) ≤ (G68 15 4).toInt ∧ (G68 15 4).toInt ≤ 16 := hI69 15 4
      have q73 : (∃ t, xQ (G 34) (G68 15 4).toInt (G68 15 6).toInt y63.toInt t ∧ 0 ≤ t) := by have h9 := hp71.1; (try simp only [(show (gu_up (gu_up (gu_up G56 15 4 y62) 15 7 y63) 15 6 y65) 34 = (G 34) from (show G56 34 = G 34 from funext fun k_ => hU58 34 k_ (show (3400 : Nat) ∉ ([1502, 1505, 3200] : List Nat) by decide)))] at h9); first | exact h9 | omega
      have q74 : ((G68 15 6).toInt ≤ y65.toInt) := hp71.2
      refine g_iconst F 0 dX3_takeBehindOperand_55 (by decide) ?_
      exact u_iret F hA hQ hr G68 (⟨hI69, (gu_un.tr (gu_un.up (j := 15) (k := 6) (v := y65) (gu_un.up (j := 15) (k := 7) (v := y63) (gu_un.up (j := 15) (k := 4) (v := y62) (gu_un.tr gu_un.rf (gu_un.su hU58 rfl)) (show (1505 : Nat) ∈ ([1502, 1505, 1507, 1508, 1509, 3200, 3400] : List Nat) by decide)) (show (1508 : Nat) ∈ ([1502, 1505, 1507, 1508, 1509, 3200, 3400] : List Nat) by decide)) (show (1507 : Nat) ∈ ([1502, 1505, 1507, 1508, 1509, 3200, 3400] : List Nat) by decide)) (gu_un.su hU70 rfl)), (by decide), (xFi.mk (w := 0) (by obtain ⟨t8, h1, h2⟩ := q73; exact ⟨t8, h1, fun _ => h2⟩) (by omega) (show G68 34 = _ from (show G68 34 = (gu_up (gu_up (gu_up G56 15 4 y62) 15 7 y63) 15 6 y65) 34 from funext fun k_ => hU70 34 k_ (show (3400 : Nat) ∉ ([1502, 1505, 1507, 3200] : List Nat) by decide)).trans ((show G56 34 = G 34 from funext fun k_ => hU58 34 k_ (show (3400 : Nat) ∉ ([1502, 1505, 3200] : List Nat) by decide)))) (show (G68 15 4).toInt = _ by rw [show G68 15 4 = (G68 15 4) from rfl]) (show (G68 15 6).toInt = _ by rw [show G68 15 6 = (G68 15 6) from rfl]) (show (G68 15 7).toInt = _ by rw [show G68 15 7 = y63 from hU70 15 7 (by decide)]) (show (G68 15 8).toInt = _ by rw [show G68 15 8 = (G 15 8) from (hU70 15 8 (by decide)).trans (hU58 15 8 (by decide))] <;> (first | rfl | omega)))⟩) rfl rfl dX3_takeBehindOperand_56


set_option maxHeartbeats 4000000 in
set_option maxRecDepth 100000 in
theorem S_X3_begin_15 (l : Launch) (D : va_G) (K : Nat → ClassId) (a : Nat → Nat) (G : gS) (hI : xI G) (sz : Nat) : Kv l yX3_begin wsX3_begin 1 40 0 0 D [.ref (a 15)] (xW K a G) (tK K) sz (fun (G' : gS) => (xI G') ∧ (gu_un xcd [1502, 1505, 1506, 1507, 1508, 1509] G G') ∧ (xFi 15 34 G')) (fun (G' : gS) => (xW K a G')) (fun _ => (tK K)) := by
  unfold Kv
  refine g_ofW (cc := cX3_begin) (lv := [(0, .ref (a 15))]) (by decide) rfl (Nat.le_of_ble_eq_true rfl) rfl ?_
  intro p e s m args below meth c A Q hA hQ F hr hnm
  have hts := F.2.2.2.2.1
  have w_0 : (Cond.fieldLink RX3 21 "QuietCut$Formula" "length" "I").before args s = true := hts _ (List.mem_of_getElem? (i := 1) rfl)
  have i_X3 : ∀ w ∈ u_ws RX3 TX3 9, w ∈ wsX3_begin := fun _ h => List.mem_cons_of_mem _ (List.mem_append_right _ h)
  have w_1 : (Cond.fieldLink RX3 35 "QuietCut$Formula" "waits" "I").before args s = true := hts _ (List.mem_of_getElem? (i := 2) rfl)
  have w_2 : (Cond.fieldLink RX3 38 "QuietCut$Formula" "operands" "I").before args s = true := hts _ (List.mem_of_getElem? (i := 3) rfl)
  have w_3 : (Cond.fieldLink RX3 41 "QuietCut$Formula" "open" "I").before args s = true := hts _ (List.mem_of_getElem? (i := 4) rfl)
  have w_4 : (Cond.fieldLink RX3 44 "QuietCut$Formula" "parentheses" "I").before args s = true := hts _ (List.mem_of_getElem? (i := 5) rfl)
  have w_5 : (Cond.fieldLink RX3 47 "QuietCut$Formula" "wantsOperand" "Z").before args s = true := hts _ (List.mem_of_getElem? (i := 6) rfl)
  refine g_aload_n F 0 dX3_begin_0 rfl rfl ?_
  refine g_iconst F 0 dX3_begin_1 (by decide) ?_
  refine xp_15_1 F i_X3 w_0 dX3_begin_2 ?_
  refine g_aload_n F 0 dX3_begin_5 rfl rfl ?_
  refine g_iconst F 0 dX3_begin_6 (by decide) ?_
  refine xp_15_4 F i_X3 w_1 dX3_begin_7 ?_
  refine g_aload_n F 0 dX3_begin_10 rfl rfl ?_
  refine g_iconst F 0 dX3_begin_11 (by decide) ?_
  refine xp_15_5 F i_X3 w_2 dX3_begin_12 ?_
  refine g_aload_n F 0 dX3_begin_15 rfl rfl ?_
  refine g_iconst F 0 dX3_begin_16 (by decide) ?_
  refine xp_15_6 F i_X3 w_3 dX3_begin_17 ?_
  refine g_aload_n F 0 dX3_begin_20 rfl rfl ?_
  refine g_iconst F 0 dX3_begin_21 (by decide) ?_
  refine xp_15_7 F i_X3 w_4 dX3_begin_22 ?_
  refine g_aload_n F 0 dX3_begin_25 rfl rfl ?_
  refine g_iconst F 1 dX3_begin_26 (by decide) ?_
  refine xp_15_8 F i_X3 w_5 dX3_begin_27 (by decide) ?_
  exact u_vret F hA hQ hr (gu_up (gu_up (gu_up (gu_up (gu_up (gu_up G 15 1 0) 15 4 0) 15 5 0) 15 6 0) 15 7 0) 15 8 1) (⟨(gu_I.up (j := 15) (k := 8) (v := 1) (gu_I.up (j := 15) (k := 7) (v := 0) (gu_I.up (j := 15) (k := 6) (v := 0) (gu_I.up (j := 15) (k := 5) (v := 0) (gu_I.up (j := 15) (k := 4) (v := 0) (gu_I.up (j := 15) (k := 1) (v := 0) hI (show (0 : Int) ≤ (0 : Int32).toInt by decide) (show (0 : Int32).toInt ≤ 80 by decide)) (show (0 : Int) ≤ (0 : Int32).toInt by decide) (show (0 : Int32).toInt ≤ 16 by decide)) (show (0 : Int) ≤ (0 : Int32).toInt by decide) (show (0 : Int32).toInt ≤ 12 by decide)) (ti_rng _).1 (ti_rng _).2) (ti_rng _).1 (ti_rng _).2) (show (0 : Int) ≤ (1 : Int32).toInt by decide) (show (1 : Int32).toInt ≤ 1 by decide)), (gu_un.up (j := 15) (k := 8) (v := 1) (gu_un.up (j := 15) (k := 7) (v := 0) (gu_un.up (j := 15) (k := 6) (v := 0) (gu_un.up (j := 15) (k := 5) (v := 0) (gu_un.up (j := 15) (k := 4) (v := 0) (gu_un.up (j := 15) (k := 1) (v := 0) gu_un.rf (show (1502 : Nat) ∈ ([1502, 1505, 1506, 1507, 1508, 1509] : List Nat) by decide)) (show (1505 : Nat) ∈ ([1502, 1505, 1506, 1507, 1508, 1509] : List Nat) by decide)) (show (1506 : Nat) ∈ ([1502, 1505, 1506, 1507, 1508, 1509] : List Nat) by decide)) (show (1507 : Nat) ∈ ([1502, 1505, 1506, 1507, 1508, 1509] : List Nat) by decide)) (show (1508 : Nat) ∈ ([1502, 1505, 1506, 1507, 1508, 1509] : List Nat) by decide)) (show (1509 : Nat) ∈ ([1502, 1505, 1506, 1507, 1508, 1509] : List Nat) by decide)), (xFi.mk (f := G 34) (n := 0) (o := 0) (p := 0) (w := 1) ⟨0, xQ.at0, fun _ => by omega⟩ (by decide) rfl rfl rfl rfl rfl)⟩) rfl rfl dX3_begin_30


set_option maxHeartbeats 4000000 in
set_option maxRecDepth 100000 in
theorem S_X3_putWaiting_16 (l : Launch) (D : va_G) (K : Nat → ClassId) (a : Nat → Nat) (G : gS) (p0 : Int32) (s0 : Int) (e0 : p0.toInt = s0) (hI : xI G) (sz : Nat) : Kv l yX3_putWaiting wsX3_putWaiting 1 40 0 0 D [.ref (a 16), .int p0] (xW K a G) (tK K) sz (fun (G' : gS) => (xI G') ∧ (gu_un xcd [1605, 3700] G G') ∧ (((G 16 4).toInt ≤ 15 → (G' 37 = upd (G 37) ((G 16 4).toInt).toNat p0 ∧ (G' 16 4).toInt = (G 16 4).toInt + 1)))) (fun (G' : gS) => (xW K a G')) (fun _ => (tK K)) := by
  unfold Kv
  refine g_ofW (cc := cX3_putWaiting) (lv := [(0, .ref (a 16)), (1, .int p0)]) (by decide) rfl (Nat.le_of_ble_eq_true rfl) rfl ?_
  intro p e s m args below meth c A Q hA hQ F hr hnm
  have hts := F.2.2.2.2.1
  have w_0 : (Cond.fieldLink RX3 35 "QuietCut$Formula" "waits" "I").before args s = true := hts _ (List.mem_of_getElem? (i := 1) rfl)
  have i_X3 : ∀ w ∈ u_ws RX3 TX3 9, w ∈ wsX3_putWaiting := fun _ h => List.mem_cons_of_mem _ (List.mem_append_right _ h)
  have w_1 : (Cond.fieldLink RX3 18 "QuietCut$Formula" "waiting" "[I").before args s = true := hts _ (List.mem_of_getElem? (i := 2) rfl)
  have rg0 : -2147483648 ≤ s0 ∧ s0 ≤ 2147483647 := e0 ▸ ti_rng p0
  refine g_aload_n F 0 dX3_putWaiting_0 rfl rfl ?_
  refine xg_16_4 F i_X3 w_0 dX3_putWaiting_1 (G 16 4) (rfl) ?_
  refine g_bipush F 16 dX3_putWaiting_4 (by decide) ?_
  have b1 : (0 : Int) ≤ (G 16 4).toInt ∧ (G 16 4).toInt ≤ 16 := hI 16 4
  refine v_icmp_ge F 29 dX3_putWaiting_6 (by decide) (G 16 4).toInt 16 rfl rfl (fun c2 => ?_) (fun c2 => ?_)
  · exact u_vret F hA hQ hr G (⟨hI, gu_un.rf, (fun h => absurd h (by omega))⟩) rfl rfl dX3_putWaiting_29
  · refine g_aload_n F 0 dX3_putWaiting_9 rfl rfl ?_
    refine xg_16_3 F i_X3 w_1 dX3_putWaiting_10 ?_
    refine g_aload_n F 0 dX3_putWaiting_13 rfl rfl ?_
    refine xg_16_4 F i_X3 w_0 dX3_putWaiting_14 (G 16 4) (rfl) ?_
    refine g_iload_n F 1 dX3_putWaiting_17 rfl rfl ?_
    refine u_iast F 37 0 xc_37 rfl (G 16 4).toInt rfl (by omega) (by omega) (xW K a (gu_up G 37 ((G 16 4).toInt).toNat p0)) (xs_37 _) dX3_putWaiting_18 ?_
    refine g_aload_n F 0 dX3_putWaiting_19 rfl rfl ?_
    refine g_dup F dX3_putWaiting_20 rfl ?_
    refine xg_16_4 F i_X3 w_0 dX3_putWaiting_21 (G 16 4) (rfl) ?_
    refine g_iconst F 1 dX3_putWaiting_24 (by decide) ?_
    refine u_iadd F dX3_putWaiting_25 (G 16 4).toInt 1 rfl rfl (by omega) (by omega) (fun y3 ey3 => ?_)
    refine xp_16_4 F i_X3 w_0 dX3_putWaiting_26 ?_
    exact u_vret F hA hQ hr (gu_up (gu_up G 37 ((G 16 4).toInt).toNat p0) 16 4 y3) (⟨(gu_I.up (j := 16) (k := 4) (v := y3) (gu_I.up (j := 37) (k := ((G 16 4).toInt).toNat) (v := p0) hI (ti_rng _).1 (ti_rng _).2) (show (0 : Int) ≤ Int32.toInt y3 by omega) (show Int32.toInt y3 ≤ 16 by omega)), (gu_un.up (j := 16) (k := 4) (v := y3) (gu_un.up (j := 37) (k := ((G 16 4).toInt).toNat) (v := p0) gu_un.rf (show (3700 : Nat) ∈ ([1605, 3700] : List Nat) by decide)) (show (1605 : Nat) ∈ ([1605, 3700] : List Nat) by decide)), (fun _ => ⟨rfl, show (y3 : Int32).toInt = _ by omega⟩)⟩) rfl rfl dX3_putWaiting_29


set_option maxHeartbeats 4000000 in
set_option maxRecDepth 100000 in
theorem S_X3_putCode_16 (l : Launch) (D : va_G) (K : Nat → ClassId) (a : Nat → Nat) (G : gS) (p0 : Int32) (s0 : Int) (e0 : p0.toInt = s0) (hI : xI G) (sz : Nat) : Kv l yX3_putCode wsX3_putCode 1 40 0 0 D [.ref (a 16), .int p0] (xW K a G) (tK K) sz (fun (G' : gS) => (xI G') ∧ (gu_un xcd [1602, 3500] G G')) (fun (G' : gS) => (xW K a G')) (fun _ => (tK K)) := by
  unfold Kv
  refine g_ofW (cc := cX3_putCode) (lv := [(0, .ref (a 16)), (1, .int p0)]) (by decide) rfl (Nat.le_of_ble_eq_true rfl) rfl ?_
  intro p e s m args below meth c A Q hA hQ F hr hnm
  have hts := F.2.2.2.2.1
  have w_0 : (Cond.fieldLink RX3 21 "QuietCut$Formula" "length" "I").before args s = true := hts _ (List.mem_of_getElem? (i := 1) rfl)
  have i_X3 : ∀ w ∈ u_ws RX3 TX3 9, w ∈ wsX3_putCode := fun _ h => List.mem_cons_of_mem _ (List.mem_append_right _ h)
  have w_1 : (Cond.fieldLink RX3 11 "QuietCut$Formula" "codes" "[I").before args s = true := hts _ (List.mem_of_getElem? (i := 2) rfl)
  have rg0 : -2147483648 ≤ s0 ∧ s0 ≤ 2147483647 := e0 ▸ ti_rng p0
  refine g_aload_n F 0 dX3_putCode_0 rfl rfl ?_
  refine xg_16_1 F i_X3 w_0 dX3_putCode_1 (G 16 1) (rfl) ?_
  refine g_bipush F 80 dX3_putCode_4 (by decide) ?_
  have b1 : (0 : Int) ≤ (G 16 1).toInt ∧ (G 16 1).toInt ≤ 80 := hI 16 1
  refine v_icmp_ge F 29 dX3_putCode_6 (by decide) (G 16 1).toInt 80 rfl rfl (fun c2 => ?_) (fun c2 => ?_)
  · exact u_vret F hA hQ hr G (⟨hI, gu_un.rf⟩) rfl rfl dX3_putCode_29
  · refine g_aload_n F 0 dX3_putCode_9 rfl rfl ?_
    refine xg_16_0 F i_X3 w_1 dX3_putCode_10 ?_
    refine g_aload_n F 0 dX3_putCode_13 rfl rfl ?_
    refine xg_16_1 F i_X3 w_0 dX3_putCode_14 (G 16 1) (rfl) ?_
    refine g_iload_n F 1 dX3_putCode_17 rfl rfl ?_
    refine u_iast F 35 0 xc_35 rfl (G 16 1).toInt rfl (by omega) (by omega) (xW K a (gu_up G 35 ((G 16 1).toInt).toNat p0)) (xs_35 _) dX3_putCode_18 ?_
    refine g_aload_n F 0 dX3_putCode_19 rfl rfl ?_
    refine g_dup F dX3_putCode_20 rfl ?_
    refine xg_16_1 F i_X3 w_0 dX3_putCode_21 (G 16 1) (rfl) ?_
    refine g_iconst F 1 dX3_putCode_24 (by decide) ?_
    refine u_iadd F dX3_putCode_25 (G 16 1).toInt 1 rfl rfl (by omega) (by omega) (fun y3 ey3 => ?_)
    refine xp_16_1 F i_X3 w_0 dX3_putCode_26 ?_
    exact u_vret F hA hQ hr (gu_up (gu_up G 35 ((G 16 1).toInt).toNat p0) 16 1 y3) (⟨(gu_I.up (j := 16) (k := 1) (v := y3) (gu_I.up (j := 35) (k := ((G 16 1).toInt).toNat) (v := p0) hI (ti_rng _).1 (ti_rng _).2) (show (0 : Int) ≤ Int32.toInt y3 by omega) (show Int32.toInt y3 ≤ 80 by omega)), (gu_un.up (j := 16) (k := 1) (v := y3) (gu_un.up (j := 35) (k := ((G 16 1).toInt).toNat) (v := p0) gu_un.rf (show (3500 : Nat) ∈ ([1602, 3500] : List Nat) by decide)) (show (1602 : Nat) ∈ ([1602, 3500] : List Nat) by decide))⟩) rfl rfl dX3_putCode_29


set_option maxHeartbeats 4000000 in
set_option maxRecDepth 100000 in
theorem S_X3_joinDownTo_16 (l : Launch) (D : va_G) (K : Nat → ClassId) (a : Nat → Nat) (G : gS) (p0 : Int32) (s0 : Int) (e0 : p0.toInt = s0) (h0 : 1 ≤ s0 ∧ s0 ≤ 2) (jq : (∃ t, xQ (G 37) (G 16 4).toInt (G 16 6).toInt (G 16 7).toInt t ∧ 0 ≤ t)) (hI : xI G) (sz : Nat) : Kv l yX3_joinDownTo wsX3_joinDownTo 2 61 0 0 D [.ref (a 16), .int p0] (xW K a G) (tK K) sz (fun (G' : gS) => (xI G') ∧ (gu_un xcd [1602, 1605, 3500] G G') ∧ ((∃ t, xQ (G 37) (G' 16 4).toInt (G 16 6).toInt (G 16 7).toInt t ∧ 0 ≤ t ∧ t < s0))) (fun (G' : gS) => (xW K a G')) (fun _ => (tK K)) := by
  unfold Kv
  refine g_ofW (cc := cX3_joinDownTo) (lv := [(0, .ref (a 16)), (1, .int p0)]) (by decide) rfl (Nat.le_of_ble_eq_true rfl) rfl ?_
  intro p e s m args below meth c A Q hA hQ F hr hnm
  have hts := F.2.2.2.2.1
  have w_0 : (Cond.fieldLink RX3 35 "QuietCut$Formula" "waits" "I").before args s = true := hts _ (List.mem_of_getElem? (i := 1) rfl)
  have i_X3 : ∀ w ∈ u_ws RX3 TX3 9, w ∈ wsX3_joinDownTo := fun _ h => List.mem_cons_of_mem _ (List.mem_append_right _ h)
  have w_1 : (Cond.fieldLink RX3 18 "QuietCut$Formula" "waiting" "[I").before args s = true := hts _ (List.mem_of_getElem? (i := 2) rfl)
  have J_0 : ∀ (fuel : Nat) (Gj0 : gS), ((Gj0 16 4).toInt).toNat < fuel → (xI Gj0) → (gu_un xcd [1602, 1605, 3500] G Gj0) → ((∃ t, xQ (G 37) (Gj0 16 4).toInt (G 16 6).toInt (G 16 7).toInt t ∧ 0 ≤ t)) → gG p l e (gR 2 0 0 61) s m args below meth c D A 2 Q 0 0 (xW K a Gj0) (tK K) [(0, .ref (a 16)), (1, .int p0)] 0 [] := by
    intro fuel
    induction fuel with
    | zero => intro Gj0 hm; exact absurd hm (Nat.not_lt_zero _)
    | succ fuel_0 ih_0 =>
      intro Gj0 hm_0 jI0 jU0 jq0
      refine g_aload_n F 0 dX3_joinDownTo_0 rfl rfl ?_
      refine xg_16_4 F i_X3 w_0 dX3_joinDownTo_1 (Gj0 16 4) (rfl) ?_
      have b1 : (0 : Int) ≤ (Gj0 16 4).toInt ∧ (Gj0 16 4).toInt ≤ 16 := jI0 16 4
      refine v_if_le F 54 dX3_joinDownTo_4 (by decide) (Gj0 16 4).toInt rfl (fun c2 => ?_) (fun c2 => ?_)
      · exact u_vret F hA hQ hr Gj0 (⟨jI0, (gu_un.tr gu_un.rf (gu_un.su jU0 rfl)), (by obtain ⟨t9, h1, h2⟩ := jq0; exact ⟨t9, h1, h2, h1.topS h2 (by omega) (fun h3 => by omega)⟩)⟩) rfl rfl dX3_joinDownTo_54
      · refine g_aload_n F 0 dX3_joinDownTo_7 rfl rfl ?_
        refine xg_16_3 F i_X3 w_1 dX3_joinDownTo_8 ?_
        refine g_aload_n F 0 dX3_joinDownTo_11 rfl rfl ?_
        refine xg_16_4 F i_X3 w_0 dX3_joinDownTo_12 (Gj0 16 4) (rfl) ?_
        refine g_iconst F 1 dX3_joinDownTo_15 (by decide) ?_
        refine u_isub F dX3_joinDownTo_16 (Gj0 16 4).toInt 1 rfl rfl (by omega) (by omega) (fun y3 ey3 => ?_)
        refine u1_iald F 37 0 xc_37 rfl y3.toInt rfl (by omega) (by omega) dX3_joinDownTo_17 ((G 37) (((Gj0 16 4).toInt - 1)).toNat) (by rw [show y3.toInt = ((Gj0 16 4).toInt - 1) by omega]; exact congrFun ((show Gj0 37 = G 37 from funext fun k_ => jU0 37 k_ (show (3700 : Nat) ∉ ([1602, 1605, 3500] : List Nat) by decide))) _) ?_
        refine u_call0 (k := 0) (n := 0) (As := [.int ((G 37) (((Gj0 16 4).toInt - 1)).toNat)]) (st := []) F (fun sz => S_X3_strengthOf l D ((G 37) (((Gj0 16 4).toInt - 1)).toNat) ((G 37) (((Gj0 16 4).toInt - 1)).toNat).toInt rfl sz) (va_cwS 1 hts gX3_joinDownTo_X3_strengthOf rfl rfl rfl (by decide +kernel) ⟨Nat.le_of_ble_eq_true rfl, Nat.le_of_ble_eq_true rfl⟩) rfl (Nat.le_of_ble_eq_true rfl) ⟨Nat.zero_le _, Nat.zero_le _⟩ dX3_joinDownTo_18 (fun r4 _ hw5 => ?_)
        have q7 : (r4.toInt = xsg ((G 37) (((Gj0 16 4).toInt - 1)).toNat).toInt) := hw5.2
        refine g_iload_n F 1 dX3_joinDownTo_21 rfl rfl ?_
        refine v_icmp_lt F 54 dX3_joinDownTo_22 (by decide) r4.toInt s0 rfl e0 (fun c8 => ?_) (fun c8 => ?_)
        · exact u_vret F hA hQ hr Gj0 (⟨jI0, (gu_un.tr gu_un.rf (gu_un.su jU0 rfl)), (by obtain ⟨t9, h1, h2⟩ := jq0; exact ⟨t9, h1, h2, h1.topS h2 (by omega) (fun h3 => by omega)⟩)⟩) rfl rfl dX3_joinDownTo_54
        · refine g_aload_n F 0 dX3_joinDownTo_25 rfl rfl ?_
          refine g_dup F dX3_joinDownTo_26 rfl ?_
          refine xg_16_4 F i_X3 w_0 dX3_joinDownTo_27 (Gj0 16 4) (rfl) ?_
          refine g_iconst F 1 dX3_joinDownTo_30 (by decide) ?_
          refine u_isub F dX3_joinDownTo_31 (Gj0 16 4).toInt 1 rfl rfl (by omega) (by omega) (fun y9 ey9 => ?_)
          refine xp_16_4 F i_X3 w_0 dX3_joinDownTo_32 ?_
          refine g_aload_n F 0 dX3_joinDownTo_35 rfl rfl ?_
          refine g_aload_n F 0 dX3_joinDownTo_36 rfl rfl ?_
          refine xg_16_3 F i_X3 w_1 dX3_joinDownTo_37 ?_
          refine g_aload_n F 0 dX3_joinDownTo_40 rfl rfl ?_
          refine xg_16_4 F i_X3 w_0 dX3_joinDownTo_41 y9 (rfl) ?_
          refine u_iald F 37 0 xc_37 rfl y9.toInt rfl (by omega) (by omega) dX3_joinDownTo_44 (fun _ => True) (fun _ => trivial) (fun y10 by10 => ?_)
          refine u_call0 (k := 0) (n := 0) (As := [.int y10]) (st := [.ref (a 16)]) F (fun sz => S_X3_joinCode l D y10 y10.toInt rfl sz) (va_cwS 1 hts gX3_joinDownTo_X3_joinCode rfl rfl rfl (by decide +kernel) ⟨Nat.le_of_ble_eq_true rfl, Nat.le_of_ble_eq_true rfl⟩) rfl (Nat.le_of_ble_eq_true rfl) ⟨Nat.zero_le _, Nat.zero_le _⟩ dX3_joinDownTo_45 (fun r11 _ hw12 => ?_)
          refine u_callVv (k := 0) (n := 0) (b := a 16) (As := [.int r11]) (st := []) F (fun sz => S_X3_putCode_16 l D K a (gu_up Gj0 16 4 y9) r11 r11.toInt rfl (gu_I.up (j := 16) (k := 4) (v := y9) jI0 (show (0 : Int) ≤ Int32.toInt y9 by omega) (show Int32.toInt y9 ≤ 16 by omega)) sz) (cwV 1 hts gX3_joinDownTo_X3_putCode rfl rfl rfl (by decide +kernel) ⟨Nat.le_of_ble_eq_true rfl, Nat.le_of_ble_eq_true rfl⟩) rfl 16 xc_16 rfl (Nat.le_of_ble_eq_true rfl) ⟨Nat.zero_le _, Nat.zero_le _⟩ dX3_joinDownTo_48 (fun G16 hw15 => ?_)
          have hI17 : xI G16 := hw15.1
          have hU18 : gu_un xcd [1602, 3500] (gu_up Gj0 16 4 y9) G16 := hw15.2
          refine g_goto F 0 dX3_joinDownTo_51 (by decide) ?_
          exact ih_0 G16 (by have e9_16_4 : G16 16 4 = y9 := hU18 16 4 (by decide); (try simp only [e9_16_4, true_and, and_true]) <;> omega) hI17 (gu_un.tr (gu_un.up (j := 16) (k := 4) (v := y9) (gu_un.tr gu_un.rf (gu_un.su jU0 rfl)) (show (1605 : Nat) ∈ ([1602, 1605, 3500] : List Nat) by decide)) (gu_un.su hU18 rfl)) (by obtain ⟨t9, h1, h2⟩ := jq0; rw [show G16 16 4 = y9 from hU18 16 4 (by decide), show y9.toInt = (Gj0 16 4).toInt - 1 by omega]; exact h1.popS (by omega) (by omega))
  have b20 : (0 : Int) ≤ (G 16 4).toInt ∧ (G 16 4).toInt ≤ 16 := hI 16 4
  exact J_0 _ G (Nat.lt_succ_self _) hI gu_un.rf (jq)


set_option maxHeartbeats 4000000 in
set_option maxRecDepth 100000 in
theorem S_X3_closeMinuses_16 (l : Launch) (D : va_G) (K : Nat → ClassId) (a : Nat → Nat) (G : gS) (cq : (∃ t, xQ (G 37) (G 16 4).toInt (G 16 6).toInt (G 16 7).toInt t)) (hI : xI G) (sz : Nat) : Kv l yX3_closeMinuses wsX3_closeMinuses 2 61 0 0 D [.ref (a 16)] (xW K a G) (tK K) sz (fun (G' : gS) => (xI G') ∧ (gu_un xcd [1602, 1605, 1607, 3500] G G') ∧ ((∃ t, xQ (G 37) (G' 16 4).toInt (G' 16 6).toInt (G 16 7).toInt t ∧ 0 ≤ t)) ∧ (((G' 16 6).toInt ≤ (G 16 6).toInt))) (fun (G' : gS) => (xW K a G')) (fun _ => (tK K)) := by
  unfold Kv
  refine g_ofW (cc := cX3_closeMinuses) (lv := [(0, .ref (a 16))]) (by decide) rfl (Nat.le_of_ble_eq_true rfl) rfl ?_
  intro p e s m args below meth c A Q hA hQ F hr hnm
  have hts := F.2.2.2.2.1
  have w_0 : (Cond.fieldLink RX3 35 "QuietCut$Formula" "waits" "I").before args s = true := hts _ (List.mem_of_getElem? (i := 1) rfl)
  have i_X3 : ∀ w ∈ u_ws RX3 TX3 9, w ∈ wsX3_closeMinuses := fun _ h => List.mem_cons_of_mem _ (List.mem_append_right _ h)
  have w_1 : (Cond.fieldLink RX3 18 "QuietCut$Formula" "waiting" "[I").before args s = true := hts _ (List.mem_of_getElem? (i := 2) rfl)
  have w_2 : (Cond.fieldLink RX3 41 "QuietCut$Formula" "open" "I").before args s = true := hts _ (List.mem_of_getElem? (i := 3) rfl)
  have J_0 : ∀ (fuel : Nat) (Gj0 : gS), ((Gj0 16 4).toInt).toNat < fuel → (xI Gj0) → (gu_un xcd [1602, 1605, 1607, 3500] G Gj0) → ((∃ t, xQ (G 37) (Gj0 16 4).toInt (Gj0 16 6).toInt (G 16 7).toInt t)) → (((Gj0 16 6).toInt ≤ (G 16 6).toInt)) → gG p l e (gR 2 0 0 61) s m args below meth c D A 1 Q 0 0 (xW K a Gj0) (tK K) [(0, .ref (a 16))] 0 [] := by
    intro fuel
    induction fuel with
    | zero => intro Gj0 hm; exact absurd hm (Nat.not_lt_zero _)
    | succ fuel_0 ih_0 =>
      intro Gj0 hm_0 jI0 jU0 cq0 co0
      refine g_aload_n F 0 dX3_closeMinuses_0 rfl rfl ?_
      refine xg_16_4 F i_X3 w_0 dX3_closeMinuses_1 (Gj0 16 4) (rfl) ?_
      have b1 : (0 : Int) ≤ (Gj0 16 4).toInt ∧ (Gj0 16 4).toInt ≤ 16 := jI0 16 4
      refine v_if_le F 52 dX3_closeMinuses_4 (by decide) (Gj0 16 4).toInt rfl (fun c2 => ?_) (fun c2 => ?_)
      · exact u_vret F hA hQ hr Gj0 (⟨jI0, (gu_un.tr gu_un.rf (gu_un.su jU0 rfl)), (by obtain ⟨t9, h1⟩ := cq0; exact ⟨t9, h1, h1.topM (fun h3 => by omega)⟩), (by show ((Gj0 16 6).toInt ≤ (G 16 6).toInt); (first | omega | (simp only [Int32.reduceToInt, true_and, and_true, ne_eq, not_true_eq_false, false_and, or_false, false_or, true_or, or_true, false_implies] <;> omega)))⟩) rfl rfl dX3_closeMinuses_52
      · refine g_aload_n F 0 dX3_closeMinuses_7 rfl rfl ?_
        refine xg_16_3 F i_X3 w_1 dX3_closeMinuses_8 ?_
        refine g_aload_n F 0 dX3_closeMinuses_11 rfl rfl ?_
        refine xg_16_4 F i_X3 w_0 dX3_closeMinuses_12 (Gj0 16 4) (rfl) ?_
        refine g_iconst F 1 dX3_closeMinuses_15 (by decide) ?_
        refine u_isub F dX3_closeMinuses_16 (Gj0 16 4).toInt 1 rfl rfl (by omega) (by omega) (fun y3 ey3 => ?_)
        refine u1_iald F 37 0 xc_37 rfl y3.toInt rfl (by omega) (by omega) dX3_closeMinuses_17 ((G 37) (((Gj0 16 4).toInt - 1)).toNat) (by rw [show y3.toInt = ((Gj0 16 4).toInt - 1) by omega]; exact congrFun ((show Gj0 37 = G 37 from funext fun k_ => jU0 37 k_ (show (3700 : Nat) ∉ ([1602, 1605, 1607, 3500] : List Nat) by decide))) _) ?_
        refine g_bipush F (-3) dX3_closeMinuses_18 (by decide) ?_
        refine v_icmp_ne F 52 dX3_closeMinuses_20 (by decide) ((G 37) (((Gj0 16 4).toInt - 1)).toNat).toInt (-3) rfl rfl (fun c4 => ?_) (fun c4 => ?_)
        · exact u_vret F hA hQ hr Gj0 (⟨jI0, (gu_un.tr gu_un.rf (gu_un.su jU0 rfl)), (by obtain ⟨t9, h1⟩ := cq0; exact ⟨t9, h1, h1.topM (fun h3 => by omega)⟩), (by show ((Gj0 16 6).toInt ≤ (G 16 6).toInt); (first | omega | (simp only [Int32.reduceToInt, true_and, and_true, ne_eq, not_true_eq_false, false_and, or_false, false_or, true_or, or_true, false_implies] <;> omega)))⟩) rfl rfl dX3_closeMinuses_52
        · have pm : ∃ t, xQ (G 37) ((Gj0 16 4).toInt - 1) ((Gj0 16 6).toInt - 1) (G 16 7).toInt t := by obtain ⟨t9, h1⟩ := cq0; exact h1.popM (by omega) (by omega)
          have pr9 := ti_rng (Gj0 16 6)
          have pl : 1 ≤ (Gj0 16 6).toInt := by obtain ⟨t9, h1⟩ := pm; have h2 := h1.le; omega
          refine g_aload_n F 0 dX3_closeMinuses_23 rfl rfl ?_
          refine g_dup F dX3_closeMinuses_24 rfl ?_
          refine xg_16_4 F i_X3 w_0 dX3_closeMinuses_25 (Gj0 16 4) (rfl) ?_
          refine g_iconst F 1 dX3_closeMinuses_28 (by decide) ?_
          refine u_isub F dX3_closeMinuses_29 (Gj0 16 4).toInt 1 rfl rfl (by omega) (by omega) (fun y5 ey5 => ?_)
          refine xp_16_4 F i_X3 w_0 dX3_closeMinuses_30 ?_
          refine g_aload_n F 0 dX3_closeMinuses_33 rfl rfl ?_
          refine g_dup F dX3_closeMinuses_34 rfl ?_
          refine xg_16_6 F i_X3 w_2 dX3_closeMinuses_35 (Gj0 16 6) (rfl) ?_
          refine g_iconst F 1 dX3_closeMinuses_38 (by decide) ?_
          refine u_isubc F dX3_closeMinuses_39 (Gj0 16 6).toInt 1 rfl rfl (fun y6 ey6 => ?_)
          refine xp_16_6 F i_X3 w_2 dX3_closeMinuses_40 ?_
          refine g_aload_n F 0 dX3_closeMinuses_43 rfl rfl ?_
          refine g_bipush F (-3) dX3_closeMinuses_44 (by decide) ?_
          refine u_callVv (k := 0) (n := 0) (b := a 16) (As := [.int (-3)]) (st := []) F (fun sz => S_X3_putCode_16 l D K a (gu_up (gu_up Gj0 16 4 y5) 16 6 y6) (-3) (-3) rfl (gu_I.up (j := 16) (k := 6) (v := y6) (gu_I.up (j := 16) (k := 4) (v := y5) jI0 (show (0 : Int) ≤ Int32.toInt y5 by omega) (show Int32.toInt y5 ≤ 16 by omega)) (ti_rng _).1 (ti_rng _).2) sz) (cwV 1 hts gX3_closeMinuses_X3_putCode rfl rfl rfl (by decide +kernel) ⟨Nat.le_of_ble_eq_true rfl, Nat.le_of_ble_eq_true rfl⟩) rfl 16 xc_16 rfl (Nat.le_of_ble_eq_true rfl) ⟨Nat.zero_le _, Nat.zero_le _⟩ dX3_closeMinuses_46 (fun G9 hw8 => ?_)
          have hI10 : xI G9 := hw8.1
          have hU11 : gu_un xcd [1602, 3500] (gu_up (gu_up Gj0 16 4 y5) 16 6 y6) G9 := hw8.2
          refine g_goto F 0 dX3_closeMinuses_49 (by decide) ?_
          exact ih_0 G9 (by have e9_16_4 : G9 16 4 = y5 := hU11 16 4 (by decide); (try simp only [e9_16_4, true_and, and_true]) <;> omega) hI10 (gu_un.tr (gu_un.up (j := 16) (k := 6) (v := y6) (gu_un.up (j := 16) (k := 4) (v := y5) (gu_un.tr gu_un.rf (gu_un.su jU0 rfl)) (show (1605 : Nat) ∈ ([1602, 1605, 1607, 3500] : List Nat) by decide)) (show (1607 : Nat) ∈ ([1602, 1605, 1607, 3500] : List Nat) by decide)) (gu_un.su hU11 rfl)) (by obtain ⟨t9, h1⟩ := pm; exact ⟨t9, h1.cast rfl (show (G9 16 4).toInt = _ by rw [show G9 16 4 = y5 from hU11 16 4 (by decide)]; omega) (show (G9 16 6).toInt = _ by rw [show G9 16 6 = y6 from hU11 16 6 (by decide)]; omega) rfl⟩) (by have e9_16_6 : G9 16 6 = y6 := hU11 16 6 (by decide); (try simp only [e9_16_6, true_and, and_true]) <;> (first | omega | (simp only [Int32.reduceToInt, true_and, and_true, ne_eq, not_true_eq_false, false_and, or_false, false_or, true_or, or_true, false_implies] <;> omega)))
  have b13 : (0 : Int) ≤ (G 16 4).toInt ∧ (G 16 4).toInt ≤ 16 := hI 16 4
  exact J_0 _ G (Nat.lt_succ_self _) hI gu_un.rf (cq) (by (first | omega | (simp only [Int32.reduceToInt, true_and, and_true, ne_eq, not_true_eq_false, false_and, or_false, false_or, true_or, or_true, false_implies] <;> omega)))


set_option maxHeartbeats 4000000 in
set_option maxRecDepth 100000 in
theorem S_X3_takeOperand_16 (l : Launch) (D : va_G) (K : Nat → ClassId) (a : Nat → Nat) (G : gS) (p0 : Int32) (s0 : Int) (e0 : p0.toInt = s0) (fi : xFi 16 37 G) (hI : xI G) (sz : Nat) : Ki l yX3_takeOperand wsX3_takeOperand 3 81 0 0 D [.ref (a 16), .int p0] (xW K a G) (tK K) sz (fun (r : Int32) (G' : gS) => (xI G') ∧ (gu_un xcd [1602, 1605, 1606, 1607, 1609, 3500] G G') ∧ (0 ≤ r.toInt ∧ r.toInt ≤ 4) ∧ (xFi 16 37 G')) (fun (G' : gS) => (xW K a G')) (fun _ => (tK K)) := by
  unfold Ki
  refine g_ofW (cc := cX3_takeOperand) (lv := [(0, .ref (a 16)), (1, .int p0)]) (by decide) rfl (Nat.le_of_ble_eq_true rfl) rfl ?_
  intro p e s m args below meth c A Q hA hQ F hr hnm
  have hts := F.2.2.2.2.1
  have w_0 : (Cond.fieldLink RX3 38 "QuietCut$Formula" "operands" "I").before args s = true := hts _ (List.mem_of_getElem? (i := 1) rfl)
  have i_X3 : ∀ w ∈ u_ws RX3 TX3 9, w ∈ wsX3_takeOperand := fun _ h => List.mem_cons_of_mem _ (List.mem_append_right _ h)
  have w_1 : (Cond.fieldLink RX3 47 "QuietCut$Formula" "wantsOperand" "Z").before args s = true := hts _ (List.mem_of_getElem? (i := 2) rfl)
  have rg0 : -2147483648 ≤ s0 ∧ s0 ≤ 2147483647 := e0 ▸ ti_rng p0
  obtain ⟨⟨t9, f1, f2⟩, f3⟩ := id fi
  have f4 := f1.le
  refine g_aload_n F 0 dX3_takeOperand_0 rfl rfl ?_
  refine xg_16_5 F i_X3 w_0 dX3_takeOperand_1 (G 16 5) (rfl) ?_
  refine g_bipush F 12 dX3_takeOperand_4 (by decide) ?_
  have b1 : (0 : Int) ≤ (G 16 5).toInt ∧ (G 16 5).toInt ≤ 12 := hI 16 5
  refine v_icmp_lt F 11 dX3_takeOperand_6 (by decide) (G 16 5).toInt 12 rfl rfl (fun c2 => ?_) (fun c2 => ?_)
  · refine g_aload_n F 0 dX3_takeOperand_11 rfl rfl ?_
    refine g_dup F dX3_takeOperand_12 rfl ?_
    refine xg_16_5 F i_X3 w_0 dX3_takeOperand_13 (G 16 5) (rfl) ?_
    refine g_iconst F 1 dX3_takeOperand_16 (by decide) ?_
    refine u_iadd F dX3_takeOperand_17 (G 16 5).toInt 1 rfl rfl (by omega) (by omega) (fun y3 ey3 => ?_)
    refine xp_16_5 F i_X3 w_0 dX3_takeOperand_18 ?_
    refine g_aload_n F 0 dX3_takeOperand_21 rfl rfl ?_
    refine g_iload_n F 1 dX3_takeOperand_22 rfl rfl ?_
    refine u_callVv (k := 0) (n := 0) (b := a 16) (As := [.int p0]) (st := []) F (fun sz => S_X3_putCode_16 l D K a (gu_up G 16 5 y3) p0 s0 e0 (gu_I.up (j := 16) (k := 5) (v := y3) hI (show (0 : Int) ≤ Int32.toInt y3 by omega) (show Int32.toInt y3 ≤ 12 by omega)) sz) (cwV 1 hts gX3_takeOperand_X3_putCode rfl rfl rfl (by decide +kernel) ⟨Nat.le_of_ble_eq_true rfl, Nat.le_of_ble_eq_true rfl⟩) rfl 16 xc_16 rfl (Nat.le_of_ble_eq_true rfl) ⟨Nat.zero_le _, Nat.zero_le _⟩ dX3_takeOperand_23 (fun G6 hw5 => ?_)
    have hI7 : xI G6 := hw5.1
    have hU8 : gu_un xcd [1602, 3500] (gu_up G 16 5 y3) G6 := hw5.2
    refine g_aload_n F 0 dX3_takeOperand_26 rfl rfl ?_
    refine u_callVv (k := 0) (n := 0) (b := a 16) (As := []) (st := []) F (fun sz => S_X3_closeMinuses_16 l D K a G6  (by obtain ⟨⟨t8, h1, -⟩, -⟩ := (show xFi 16 37 G6 from (xFi.un fi (show gu_un xcd [1602, 1606, 3500] G G6 from (gu_un.tr (gu_un.up (j := 16) (k := 5) (v := y3) gu_un.rf (show (1606 : Nat) ∈ ([1602, 1606, 3500] : List Nat) by decide)) (gu_un.su hU8 rfl))) rfl (fun _ => rfl))); exact ⟨t8, h1⟩) hI7 sz) (cwV 0 hts gX3_takeOperand_X3_closeMinuses rfl rfl rfl (by decide +kernel) ⟨Nat.le_of_ble_eq_true rfl, Nat.le_of_ble_eq_true rfl⟩) rfl 16 xc_16 rfl (Nat.le_of_ble_eq_true rfl) ⟨Nat.zero_le _, Nat.zero_le _⟩ dX3_takeOperand_27 (fun G12 hw11 => ?_)
    have hI13 : xI G12 := hw11.1
    have hU14 : gu_un xcd [1602, 1605, 1607, 3500] G6 G12 := hw11.2.1
    have hp15 := hw11.2.2
    have b16 : (0 : Int) ≤ (G12 16 4).toInt ∧ (G12 16 4).toInt ≤ 16 := hI13 16 4
    have q17 : (∃ t, xQ (G 37) (G12 16 4).toInt (G12 16 6).toInt (G 16 7).toInt t ∧ 0 ≤ t) := by have h9 := hp15.1; (try simp only [(show G6 16 7 = (G 16 7) from hU8 16 7 (by decide)), (show G6 37 = (G 37) from (show G6 37 = (gu_up G 16 5 y3) 37 from funext fun k_ => hU8 37 k_ (show (3700 : Nat) ∉ ([1602, 3500] : List Nat) by decide)))] at h9); first | exact h9 | omega
    have q18 : ((G12 16 6).toInt ≤ (G 16 6).toInt) := by have h9 := hp15.2; (try simp only [(show G6 16 6 = (G 16 6) from hU8 16 6 (by decide))] at h9); first | exact h9 | omega
    refine g_aload_n F 0 dX3_takeOperand_30 rfl rfl ?_
    refine g_iconst F 0 dX3_takeOperand_31 (by decide) ?_
    refine xp_16_8 F i_X3 w_1 dX3_takeOperand_32 (by decide) ?_
    refine g_iconst F 0 dX3_takeOperand_35 (by decide) ?_
    exact u_iret F hA hQ hr (gu_up G12 16 8 0) (⟨(gu_I.up (j := 16) (k := 8) (v := 0) hI13 (show (0 : Int) ≤ (0 : Int32).toInt by decide) (show (0 : Int32).toInt ≤ 1 by decide)), (gu_un.up (j := 16) (k := 8) (v := 0) (gu_un.tr (gu_un.tr (gu_un.up (j := 16) (k := 5) (v := y3) gu_un.rf (show (1606 : Nat) ∈ ([1602, 1605, 1606, 1607, 1609, 3500] : List Nat) by decide)) (gu_un.su hU8 rfl)) (gu_un.su hU14 rfl)) (show (1609 : Nat) ∈ ([1602, 1605, 1606, 1607, 1609, 3500] : List Nat) by decide)), (by decide), (xFi.mk (w := 0) (by obtain ⟨t8, h1, h2⟩ := q17; exact ⟨t8, h1, fun _ => h2⟩) (by omega) (show (gu_up G12 16 8 0) 37 = _ from (show G12 37 = G6 37 from funext fun k_ => hU14 37 k_ (show (3700 : Nat) ∉ ([1602, 1605, 1607, 3500] : List Nat) by decide)).trans ((show G6 37 = (gu_up G 16 5 y3) 37 from funext fun k_ => hU8 37 k_ (show (3700 : Nat) ∉ ([1602, 3500] : List Nat) by decide)))) (show ((gu_up G12 16 8 0) 16 4).toInt = _ by rw [show (gu_up G12 16 8 0) 16 4 = (G12 16 4) from rfl]) (show ((gu_up G12 16 8 0) 16 6).toInt = _ by rw [show (gu_up G12 16 8 0) 16 6 = (G12 16 6) from rfl]) (show ((gu_up G12 16 8 0) 16 7).toInt = _ by rw [show (gu_up G12 16 8 0) 16 7 = (G 16 7) from (hU14 16 7 (by decide)).trans (hU8 16 7 (by decide))]) (show ((gu_up G12 16 8 0) 16 8).toInt = _ by rw [show (gu_up G12 16 8 0) 16 8 = 0 from rfl] <;> (first | rfl | omega)))⟩) rfl rfl dX3_takeOperand_36
  · refine g_iconst F 4 dX3_takeOperand_9 (by decide) ?_
    exact u_iret F hA hQ hr G (⟨hI, gu_un.rf, (by decide), (fi)⟩) rfl rfl dX3_takeOperand_10


set_option maxHeartbeats 4000000 in
set_option maxRecDepth 100000 in
theorem S_X3_takeOpening_16_v40 (l : Launch) (D : va_G) (K : Nat → ClassId) (a : Nat → Nat) (G : gS) (fi : xFi 16 37 G) (wo : ((G 16 8).toInt ≠ 0)) (hI : xI G) (sz : Nat) : Ki l yX3_takeOpening wsX3_takeOpening 2 61 0 0 D [.ref (a 16), .int 40] (xW K a G) (tK K) sz (fun (r : Int32) (G' : gS) => (xI G') ∧ (gu_un xcd [1605, 1607, 1608, 3700] G G') ∧ (0 ≤ r.toInt ∧ r.toInt ≤ 4) ∧ (xFi 16 37 G')) (fun (G' : gS) => (xW K a G')) (fun _ => (tK K)) := by
  unfold Ki
  refine g_ofW (cc := cX3_takeOpening) (lv := [(0, .ref (a 16)), (1, .int 40)]) (by decide) rfl (Nat.le_of_ble_eq_true rfl) rfl ?_
  intro p e s m args below meth c A Q hA hQ F hr hnm
  have hts := F.2.2.2.2.1
  have w_0 : (Cond.fieldLink RX3 41 "QuietCut$Formula" "open" "I").before args s = true := hts _ (List.mem_of_getElem? (i := 1) rfl)
  have i_X3 : ∀ w ∈ u_ws RX3 TX3 9, w ∈ wsX3_takeOpening := fun _ h => List.mem_cons_of_mem _ (List.mem_append_right _ h)
  have w_1 : (Cond.fieldLink RX3 44 "QuietCut$Formula" "parentheses" "I").before args s = true := hts _ (List.mem_of_getElem? (i := 2) rfl)
  obtain ⟨⟨t9, f1, f2⟩, f3⟩ := id fi
  have f4 := f1.le
  refine g_aload_n F 0 dX3_takeOpening_0 rfl rfl ?_
  refine xg_16_6 F i_X3 w_0 dX3_takeOpening_1 (G 16 6) (rfl) ?_
  refine g_iconst F 4 dX3_takeOpening_4 (by decide) ?_
  refine v_icmp_lt F 10 dX3_takeOpening_5 (by decide) (G 16 6).toInt 4 rfl rfl (fun c1 => ?_) (fun c1 => ?_)
  · refine g_aload_n F 0 dX3_takeOpening_10 rfl rfl ?_
    refine g_dup F dX3_takeOpening_11 rfl ?_
    refine xg_16_6 F i_X3 w_0 dX3_takeOpening_12 (G 16 6) (rfl) ?_
    refine g_iconst F 1 dX3_takeOpening_15 (by decide) ?_
    have b3 := ti_rng (G 16 6)
    refine u_iadd F dX3_takeOpening_16 (G 16 6).toInt 1 rfl rfl (by omega) (by omega) (fun y2 ey2 => ?_)
    refine xp_16_6 F i_X3 w_0 dX3_takeOpening_17 ?_
    refine g_iload_n F 1 dX3_takeOpening_20 rfl rfl ?_
    refine g_bipush F 40 dX3_takeOpening_21 (by decide) ?_
    refine v_icmp_ne F 36 dX3_takeOpening_23 (by decide) 40 40 rfl rfl (fun c4 => absurd c4 (by decide)) (fun c4 => ?_)
    refine g_aload_n F 0 dX3_takeOpening_26 rfl rfl ?_
    refine g_dup F dX3_takeOpening_27 rfl ?_
    refine xg_16_7 F i_X3 w_1 dX3_takeOpening_28 (G 16 7) (rfl) ?_
    refine g_iconst F 1 dX3_takeOpening_31 (by decide) ?_
    refine u_iaddc F dX3_takeOpening_32 (G 16 7).toInt 1 rfl rfl (fun y5 ey5 => ?_)
    refine xp_16_7 F i_X3 w_1 dX3_takeOpening_33 ?_
    refine g_aload_n F 0 dX3_takeOpening_36 rfl rfl ?_
    refine g_iload_n F 1 dX3_takeOpening_37 rfl rfl ?_
    refine u_callVv (k := 0) (n := 0) (b := a 16) (As := [.int 40]) (st := []) F (fun sz => S_X3_putWaiting_16 l D K a (gu_up (gu_up G 16 6 y2) 16 7 y5) 40 40 rfl (gu_I.up (j := 16) (k := 7) (v := y5) (gu_I.up (j := 16) (k := 6) (v := y2) hI (ti_rng _).1 (ti_rng _).2) (ti_rng _).1 (ti_rng _).2) sz) (cwV 1 hts gX3_takeOpening_X3_putWaiting rfl rfl rfl (by decide +kernel) ⟨Nat.le_of_ble_eq_true rfl, Nat.le_of_ble_eq_true rfl⟩) rfl 16 xc_16 rfl (Nat.le_of_ble_eq_true rfl) ⟨Nat.zero_le _, Nat.zero_le _⟩ dX3_takeOpening_38 (fun G8 hw7 => ?_)
    have hI9 : xI G8 := hw7.1
    have hU10 : gu_un xcd [1605, 3700] (gu_up (gu_up G 16 6 y2) 16 7 y5) G8 := hw7.2.1
    have hp11 := hw7.2.2
    have b12 : (0 : Int) ≤ (G 16 4).toInt ∧ (G 16 4).toInt ≤ 16 := hI 16 4
    have b13 : (0 : Int) ≤ (G8 16 4).toInt ∧ (G8 16 4).toInt ≤ 16 := hI9 16 4
    have q14 : ((G 16 4).toInt ≤ 15 → (G8 37 = upd (G 37) ((G 16 4).toInt).toNat 40 ∧ (G8 16 4).toInt = (G 16 4).toInt + 1)) := hp11
    refine g_iconst F 0 dX3_takeOpening_41 (by decide) ?_
    exact u_iret F hA hQ hr G8 (⟨hI9, (gu_un.tr (gu_un.up (j := 16) (k := 7) (v := y5) (gu_un.up (j := 16) (k := 6) (v := y2) gu_un.rf (show (1607 : Nat) ∈ ([1605, 1607, 1608, 3700] : List Nat) by decide)) (show (1608 : Nat) ∈ ([1605, 1607, 1608, 3700] : List Nat) by decide)) (gu_un.su hU10 rfl)), (by decide), (xFi.mk (w := (G 16 8).toInt) (by exact ⟨0, f1.push.1 rfl, fun _ => by omega⟩) (by omega) (show G8 37 = _ from (q14 (by omega)).1) (show (G8 16 4).toInt = _ by rw [show G8 16 4 = (G8 16 4) from rfl] <;> (exact (q14 (by omega)).2)) (show (G8 16 6).toInt = _ by rw [show G8 16 6 = y2 from hU10 16 6 (by decide)] <;> (omega)) (show (G8 16 7).toInt = _ by rw [show G8 16 7 = y5 from hU10 16 7 (by decide)] <;> (first | rfl | omega)) (show (G8 16 8).toInt = _ by rw [show G8 16 8 = (G 16 8) from hU10 16 8 (by decide)]))⟩) rfl rfl dX3_takeOpening_42
  · refine g_iconst F 4 dX3_takeOpening_8 (by decide) ?_
    exact u_iret F hA hQ hr G (⟨hI, gu_un.rf, (by decide), (fi)⟩) rfl rfl dX3_takeOpening_9


set_option maxHeartbeats 4000000 in
set_option maxRecDepth 100000 in
theorem S_X3_takeOpening_16_m3 (l : Launch) (D : va_G) (K : Nat → ClassId) (a : Nat → Nat) (G : gS) (fi : xFi 16 37 G) (wo : ((G 16 8).toInt ≠ 0)) (hI : xI G) (sz : Nat) : Ki l yX3_takeOpening wsX3_takeOpening 2 61 0 0 D [.ref (a 16), .int (-3)] (xW K a G) (tK K) sz (fun (r : Int32) (G' : gS) => (xI G') ∧ (gu_un xcd [1605, 1607, 3700] G G') ∧ (0 ≤ r.toInt ∧ r.toInt ≤ 4) ∧ (xFi 16 37 G')) (fun (G' : gS) => (xW K a G')) (fun _ => (tK K)) := by
  unfold Ki
  refine g_ofW (cc := cX3_takeOpening) (lv := [(0, .ref (a 16)), (1, .int (-3))]) (by decide) rfl (Nat.le_of_ble_eq_true rfl) rfl ?_
  intro p e s m args below meth c A Q hA hQ F hr hnm
  have hts := F.2.2.2.2.1
  have w_0 : (Cond.fieldLink RX3 41 "QuietCut$Formula" "open" "I").before args s = true := hts _ (List.mem_of_getElem? (i := 1) rfl)
  have i_X3 : ∀ w ∈ u_ws RX3 TX3 9, w ∈ wsX3_takeOpening := fun _ h => List.mem_cons_of_mem _ (List.mem_append_right _ h)
  obtain ⟨⟨t9, f1, f2⟩, f3⟩ := id fi
  have f4 := f1.le
  refine g_aload_n F 0 dX3_takeOpening_0 rfl rfl ?_
  refine xg_16_6 F i_X3 w_0 dX3_takeOpening_1 (G 16 6) (rfl) ?_
  refine g_iconst F 4 dX3_takeOpening_4 (by decide) ?_
  refine v_icmp_lt F 10 dX3_takeOpening_5 (by decide) (G 16 6).toInt 4 rfl rfl (fun c1 => ?_) (fun c1 => ?_)
  · refine g_aload_n F 0 dX3_takeOpening_10 rfl rfl ?_
    refine g_dup F dX3_takeOpening_11 rfl ?_
    refine xg_16_6 F i_X3 w_0 dX3_takeOpening_12 (G 16 6) (rfl) ?_
    refine g_iconst F 1 dX3_takeOpening_15 (by decide) ?_
    have b3 := ti_rng (G 16 6)
    refine u_iadd F dX3_takeOpening_16 (G 16 6).toInt 1 rfl rfl (by omega) (by omega) (fun y2 ey2 => ?_)
    refine xp_16_6 F i_X3 w_0 dX3_takeOpening_17 ?_
    refine g_iload_n F 1 dX3_takeOpening_20 rfl rfl ?_
    refine g_bipush F 40 dX3_takeOpening_21 (by decide) ?_
    refine v_icmp_ne F 36 dX3_takeOpening_23 (by decide) (-3) 40 rfl rfl (fun c4 => ?_) (fun c4 => absurd c4 (by decide))
    refine g_aload_n F 0 dX3_takeOpening_36 rfl rfl ?_
    refine g_iload_n F 1 dX3_takeOpening_37 rfl rfl ?_
    refine u_callVv (k := 0) (n := 0) (b := a 16) (As := [.int (-3)]) (st := []) F (fun sz => S_X3_putWaiting_16 l D K a (gu_up G 16 6 y2) (-3) (-3) rfl (gu_I.up (j := 16) (k := 6) (v := y2) hI (ti_rng _).1 (ti_rng _).2) sz) (cwV 1 hts gX3_takeOpening_X3_putWaiting rfl rfl rfl (by decide +kernel) ⟨Nat.le_of_ble_eq_true rfl, Nat.le_of_ble_eq_true rfl⟩) rfl 16 xc_16 rfl (Nat.le_of_ble_eq_true rfl) ⟨Nat.zero_le _, Nat.zero_le _⟩ dX3_takeOpening_38 (fun G7 hw6 => ?_)
    have hI8 : xI G7 := hw6.1
    have hU9 : gu_un xcd [1605, 3700] (gu_up G 16 6 y2) G7 := hw6.2.1
    have hp10 := hw6.2.2
    have b11 : (0 : Int) ≤ (G 16 4).toInt ∧ (G 16 4).toInt ≤ 16 := hI 16 4
    have b12 : (0 : Int) ≤ (G7 16 4).toInt ∧ (G7 16 4).toInt ≤ 16 := hI8 16 4
    have q13 : ((G 16 4).toInt ≤ 15 → (G7 37 = upd (G 37) ((G 16 4).toInt).toNat (-3) ∧ (G7 16 4).toInt = (G 16 4).toInt + 1)) := hp10
    refine g_iconst F 0 dX3_takeOpening_41 (by decide) ?_
    exact u_iret F hA hQ hr G7 (⟨hI8, (gu_un.tr (gu_un.up (j := 16) (k := 6) (v := y2) gu_un.rf (show (1607 : Nat) ∈ ([1605, 1607, 3700] : List Nat) by decide)) (gu_un.su hU9 rfl)), (by decide), (xFi.mk (w := (G 16 8).toInt) (by exact ⟨-1, f1.push.2.1 rfl, fun h => absurd h wo⟩) (by omega) (show G7 37 = _ from (q13 (by omega)).1) (show (G7 16 4).toInt = _ by rw [show G7 16 4 = (G7 16 4) from rfl] <;> (exact (q13 (by omega)).2)) (show (G7 16 6).toInt = _ by rw [show G7 16 6 = y2 from hU9 16 6 (by decide)] <;> (omega)) (show (G7 16 7).toInt = _ by rw [show G7 16 7 = (G 16 7) from hU9 16 7 (by decide)] <;> (first | rfl | omega)) (show (G7 16 8).toInt = _ by rw [show G7 16 8 = (G 16 8) from hU9 16 8 (by decide)]))⟩) rfl rfl dX3_takeOpening_42
  · refine g_iconst F 4 dX3_takeOpening_8 (by decide) ?_
    exact u_iret F hA hQ hr G (⟨hI, gu_un.rf, (by decide), (fi)⟩) rfl rfl dX3_takeOpening_9


set_option maxHeartbeats 4000000 in
set_option maxRecDepth 100000 in
theorem S_X3_takeBehindOperand_16_1 (l : Launch) (D : va_G) (K : Nat → ClassId) (a : Nat → Nat) (G : gS) (fi : xFi 16 37 G) (wo : ((G 16 8).toInt = 0)) (hI : xI G) (sz : Nat) : Ki l yX3_takeBehindOperand wsX3_takeBehindOperand 3 82 0 0 D [.ref (a 16), .ref (a 1)] (xW K a G) (tK K) sz (fun (r : Int32) (G' : gS) => (xI G') ∧ (gu_un xcd [1602, 1605, 1607, 1608, 1609, 3500, 3700] G G') ∧ (0 ≤ r.toInt ∧ r.toInt ≤ 1) ∧ (xFi 16 37 G')) (fun (G' : gS) => (xW K a G')) (fun _ => (tK K)) := by
  unfold Ki
  refine g_ofW (cc := cX3_takeBehindOperand) (lv := [(0, .ref (a 16)), (1, .ref (a 1))]) (by decide) rfl (Nat.le_of_ble_eq_true rfl) rfl ?_
  intro p e s m args below meth c A Q hA hQ F hr hnm
  have hts := F.2.2.2.2.1
  have w_0 : (Cond.fieldLink RX3 68 "QuietCut$Tape" "kind" "I").before args s = true := hts _ (List.mem_of_getElem? (i := 4) rfl)
  have i_X10 : ∀ w ∈ u_ws RX10 TX10 6, w ∈ wsX3_takeBehindOperand := fun _ h => List.mem_cons_of_mem _ (List.mem_append_right _ h)
  have w_1 : (Cond.fieldLink RX3 71 "QuietCut$Tape" "value" "I").before args s = true := hts _ (List.mem_of_getElem? (i := 5) rfl)
  have w_2 : (Cond.fieldLink RX3 47 "QuietCut$Formula" "wantsOperand" "Z").before args s = true := hts _ (List.mem_of_getElem? (i := 6) rfl)
  have i_X3 : ∀ w ∈ u_ws RX3 TX3 9, w ∈ wsX3_takeBehindOperand := fun _ h => List.mem_cons_of_mem _ (List.mem_append_left _ (List.mem_append_right _ h))
  have w_3 : (Cond.fieldLink RX3 44 "QuietCut$Formula" "parentheses" "I").before args s = true := hts _ (List.mem_of_getElem? (i := 1) rfl)
  have w_4 : (Cond.fieldLink RX3 35 "QuietCut$Formula" "waits" "I").before args s = true := hts _ (List.mem_of_getElem? (i := 2) rfl)
  have w_5 : (Cond.fieldLink RX3 41 "QuietCut$Formula" "open" "I").before args s = true := hts _ (List.mem_of_getElem? (i := 3) rfl)
  obtain ⟨⟨t9, f1, f2⟩, f3⟩ := id fi
  have f4 := f1.le
  refine g_aload_n F 1 dX3_takeBehindOperand_0 rfl rfl ?_
  refine g_bipush F 41 dX3_takeBehindOperand_1 (by decide) ?_
  refine u_callVi (k := 0) (n := 0) (b := a 1) (As := [.int 41]) (st := []) F (fun sz => S_X10_isSign l D K a G 41 41 rfl hI sz) (cwV 1 hts gX3_takeBehindOperand_X10_isSign rfl rfl rfl (by decide +kernel) ⟨Nat.le_of_ble_eq_true rfl, Nat.le_of_ble_eq_true rfl⟩) rfl 1 xc_1 rfl (Nat.le_of_ble_eq_true rfl) ⟨Nat.zero_le _, Nat.zero_le _⟩ dX3_takeBehindOperand_3 (fun r1 _ hw2 => ?_)
  refine v_if_eq F 57 dX3_takeBehindOperand_6 (by decide) r1.toInt rfl (fun c4 => ?_) (fun c4 => ?_)
  · refine g_aload_n F 1 dX3_takeBehindOperand_57 rfl rfl ?_
    refine xg_1_3 F i_X10 w_0 dX3_takeBehindOperand_58 (G 1 3) (rfl) ?_
    refine g_iconst F 3 dX3_takeBehindOperand_61 (by decide) ?_
    have b5 : (0 : Int) ≤ (G 1 3).toInt ∧ (G 1 3).toInt ≤ 4 := hI 1 3
    refine v_icmp_ne F 75 dX3_takeBehindOperand_62 (by decide) (G 1 3).toInt 3 rfl rfl (fun c6 => ?_) (fun c6 => ?_)
    · refine g_iconst F 0 dX3_takeBehindOperand_75 (by decide) ?_
      refine g_istore_n F [(2, .int 0), (0, .ref (a 16)), (1, .ref (a 1))] dX3_takeBehindOperand_76 rfl (by decide) rfl ?_
      refine g_iload_n F 0 dX3_takeBehindOperand_77 rfl rfl ?_
      refine v_if_ne F 83 dX3_takeBehindOperand_78 (by decide) 0 rfl (fun c7 => absurd c7 (by decide)) (fun c7 => ?_)
      refine g_iconst F 1 dX3_takeBehindOperand_81 (by decide) ?_
      exact u_iret F hA hQ hr G (⟨hI, gu_un.rf, (by decide), (fi)⟩) rfl rfl dX3_takeBehindOperand_82
    · refine g_aload_n F 1 dX3_takeBehindOperand_65 rfl rfl ?_
      refine xg_1_5 F i_X10 w_1 dX3_takeBehindOperand_66 (G 1 5) (rfl) ?_
      refine u_call0 (k := 0) (n := 0) (As := [.int (G 1 5)]) (st := []) F (fun sz => S_X3_strengthOf l D (G 1 5) (G 1 5).toInt rfl sz) (va_cwS 1 hts gX3_takeBehindOperand_X3_strengthOf rfl rfl rfl (by decide +kernel) ⟨Nat.le_of_ble_eq_true rfl, Nat.le_of_ble_eq_true rfl⟩) rfl (Nat.le_of_ble_eq_true rfl) ⟨Nat.zero_le _, Nat.zero_le _⟩ dX3_takeBehindOperand_69 (fun r8 _ hw9 => ?_)
      have q11 : (r8.toInt = xsg (G 1 5).toInt) := hw9.2
      refine g_goto F 76 dX3_takeBehindOperand_72 (by decide) ?_
      refine g_istore_n F [(2, .int r8), (0, .ref (a 16)), (1, .ref (a 1))] dX3_takeBehindOperand_76 rfl (by decide) rfl ?_
      refine g_iload_n F 0 dX3_takeBehindOperand_77 rfl rfl ?_
      refine v_if_ne F 83 dX3_takeBehindOperand_78 (by decide) r8.toInt rfl (fun c12 => ?_) (fun c12 => ?_)
      · refine g_aload_n F 1 dX3_takeBehindOperand_83 rfl rfl ?_
        refine g_iload_n F 0 dX3_takeBehindOperand_84 rfl rfl ?_
        refine u_callVv (k := 0) (n := 0) (b := a 16) (As := [.int r8]) (st := []) F (fun sz => S_X3_joinDownTo_16 l D K a G r8 r8.toInt rfl (by omega) (by exact ⟨t9, f1.cast rfl (congrArg Int32.toInt (show G 16 4 = (G 16 4) from rfl)) (congrArg Int32.toInt (show G 16 6 = (G 16 6) from rfl)) (congrArg Int32.toInt (show G 16 7 = (G 16 7) from rfl)), f2 wo⟩) hI sz) (cwV 1 hts gX3_takeBehindOperand_X3_joinDownTo rfl rfl rfl (by decide +kernel) ⟨Nat.le_of_ble_eq_true rfl, Nat.le_of_ble_eq_true rfl⟩) rfl 16 xc_16 rfl (Nat.le_of_ble_eq_true rfl) ⟨Nat.zero_le _, Nat.zero_le _⟩ dX3_takeBehindOperand_85 (fun G15 hw14 => ?_)
        have hI16 : xI G15 := hw14.1
        have hU17 : gu_un xcd [1602, 1605, 3500] G G15 := hw14.2.1
        have hp18 := hw14.2.2
        have b19 : (0 : Int) ≤ (G15 16 4).toInt ∧ (G15 16 4).toInt ≤ 16 := hI16 16 4
        have q20 : (∃ t, xQ (G 37) (G15 16 4).toInt (G 16 6).toInt (G 16 7).toInt t ∧ 0 ≤ t ∧ t < r8.toInt) := hp18
        obtain ⟨t8, j1, j2, j3⟩ := q20
        have j6 := j1.le
        refine g_aload_n F 1 dX3_takeBehindOperand_88 rfl rfl ?_
        refine g_aload_n F 2 dX3_takeBehindOperand_89 rfl rfl ?_
        refine xg_1_5 F i_X10 w_1 dX3_takeBehindOperand_90 (G 1 5) (hU17 1 5 (by decide)) ?_
        refine u_callVv (k := 0) (n := 0) (b := a 16) (As := [.int (G 1 5)]) (st := []) F (fun sz => S_X3_putWaiting_16 l D K a G15 (G 1 5) (G 1 5).toInt rfl hI16 sz) (cwV 1 hts gX3_takeBehindOperand_X3_putWaiting rfl rfl rfl (by decide +kernel) ⟨Nat.le_of_ble_eq_true rfl, Nat.le_of_ble_eq_true rfl⟩) rfl 16 xc_16 rfl (Nat.le_of_ble_eq_true rfl) ⟨Nat.zero_le _, Nat.zero_le _⟩ dX3_takeBehindOperand_93 (fun G23 hw22 => ?_)
        have hI24 : xI G23 := hw22.1
        have hU25 : gu_un xcd [1605, 3700] G15 G23 := hw22.2.1
        have hp26 := hw22.2.2
        have b27 : (0 : Int) ≤ (G23 16 4).toInt ∧ (G23 16 4).toInt ≤ 16 := hI24 16 4
        have q28 : ((G15 16 4).toInt ≤ 15 → (G23 37 = upd (G 37) ((G15 16 4).toInt).toNat (G 1 5) ∧ (G23 16 4).toInt = (G15 16 4).toInt + 1)) := by have h9 := hp26; (try simp only [(show G15 37 = (G 37) from (show G15 37 = G 37 from funext fun k_ => hU17 37 k_ (show (3700 : Nat) ∉ ([1602, 1605, 3500] : List Nat) by decide)))] at h9); first | exact h9 | omega
        refine g_aload_n F 1 dX3_takeBehindOperand_96 rfl rfl ?_
        refine g_iconst F 1 dX3_takeBehindOperand_97 (by decide) ?_
        refine xp_16_8 F i_X3 w_2 dX3_takeBehindOperand_98 (by decide) ?_
        refine g_iconst F 0 dX3_takeBehindOperand_101 (by decide) ?_
        exact u_iret F hA hQ hr (gu_up G23 16 8 1) (⟨(gu_I.up (j := 16) (k := 8) (v := 1) hI24 (show (0 : Int) ≤ (1 : Int32).toInt by decide) (show (1 : Int32).toInt ≤ 1 by decide)), (gu_un.up (j := 16) (k := 8) (v := 1) (gu_un.tr (gu_un.tr gu_un.rf (gu_un.su hU17 rfl)) (gu_un.su hU25 rfl)) (show (1609 : Nat) ∈ ([1602, 1605, 1607, 1608, 1609, 3500, 3700] : List Nat) by decide)), (by decide), (xFi.mk (w := 1) (by exact ⟨_, j1.push.2.2 j2 (by omega), fun h => absurd h (by decide)⟩) (by omega) (show (gu_up G23 16 8 1) 37 = _ from (q28 (by omega)).1) (show ((gu_up G23 16 8 1) 16 4).toInt = _ by rw [show (gu_up G23 16 8 1) 16 4 = (G23 16 4) from rfl] <;> (exact (q28 (by omega)).2)) (show ((gu_up G23 16 8 1) 16 6).toInt = _ by rw [show (gu_up G23 16 8 1) 16 6 = (G 16 6) from (hU25 16 6 (by decide)).trans (hU17 16 6 (by decide))]) (show ((gu_up G23 16 8 1) 16 7).toInt = _ by rw [show (gu_up G23 16 8 1) 16 7 = (G 16 7) from (hU25 16 7 (by decide)).trans (hU17 16 7 (by decide))]) (show ((gu_up G23 16 8 1) 16 8).toInt = _ by rw [show (gu_up G23 16 8 1) 16 8 = 1 from rfl] <;> (rfl)))⟩) rfl rfl dX3_takeBehindOperand_102
      · refine g_iconst F 1 dX3_takeBehindOperand_81 (by decide) ?_
        exact u_iret F hA hQ hr G (⟨hI, gu_un.rf, (by decide), (fi)⟩) rfl rfl dX3_takeBehindOperand_82
  · refine g_aload_n F 0 dX3_takeBehindOperand_9 rfl rfl ?_
    refine xg_16_7 F i_X3 w_3 dX3_takeBehindOperand_10 (G 16 7) (rfl) ?_
    refine v_if_le F 57 dX3_takeBehindOperand_13 (by decide) (G 16 7).toInt rfl (fun c29 => ?_) (fun c29 => ?_)
    · refine g_aload_n F 1 dX3_takeBehindOperand_57 rfl rfl ?_
      refine xg_1_3 F i_X10 w_0 dX3_takeBehindOperand_58 (G 1 3) (rfl) ?_
      refine g_iconst F 3 dX3_takeBehindOperand_61 (by decide) ?_
      have b30 : (0 : Int) ≤ (G 1 3).toInt ∧ (G 1 3).toInt ≤ 4 := hI 1 3
      refine v_icmp_ne F 75 dX3_takeBehindOperand_62 (by decide) (G 1 3).toInt 3 rfl rfl (fun c31 => ?_) (fun c31 => ?_)
      · refine g_iconst F 0 dX3_takeBehindOperand_75 (by decide) ?_
        refine g_istore_n F [(2, .int 0), (0, .ref (a 16)), (1, .ref (a 1))] dX3_takeBehindOperand_76 rfl (by decide) rfl ?_
        refine g_iload_n F 0 dX3_takeBehindOperand_77 rfl rfl ?_
        refine v_if_ne F 83 dX3_takeBehindOperand_78 (by decide) 0 rfl (fun c32 => absurd c32 (by decide)) (fun c32 => ?_)
        refine g_iconst F 1 dX3_takeBehindOperand_81 (by decide) ?_
        exact u_iret F hA hQ hr G (⟨hI, gu_un.rf, (by decide), (fi)⟩) rfl rfl dX3_takeBehindOperand_82
      · refine g_aload_n F 1 dX3_takeBehindOperand_65 rfl rfl ?_
        refine xg_1_5 F i_X10 w_1 dX3_takeBehindOperand_66 (G 1 5) (rfl) ?_
        refine u_call0 (k := 0) (n := 0) (As := [.int (G 1 5)]) (st := []) F (fun sz => S_X3_strengthOf l D (G 1 5) (G 1 5).toInt rfl sz) (va_cwS 1 hts gX3_takeBehindOperand_X3_strengthOf rfl rfl rfl (by decide +kernel) ⟨Nat.le_of_ble_eq_true rfl, Nat.le_of_ble_eq_true rfl⟩) rfl (Nat.le_of_ble_eq_true rfl) ⟨Nat.zero_le _, Nat.zero_le _⟩ dX3_takeBehindOperand_69 (fun r33 _ hw34 => ?_)
        have q36 : (r33.toInt = xsg (G 1 5).toInt) := hw34.2
        refine g_goto F 76 dX3_takeBehindOperand_72 (by decide) ?_
        refine g_istore_n F [(2, .int r33), (0, .ref (a 16)), (1, .ref (a 1))] dX3_takeBehindOperand_76 rfl (by decide) rfl ?_
        refine g_iload_n F 0 dX3_takeBehindOperand_77 rfl rfl ?_
        refine v_if_ne F 83 dX3_takeBehindOperand_78 (by decide) r33.toInt rfl (fun c37 => ?_) (fun c37 => ?_)
        · refine g_aload_n F 1 dX3_takeBehindOperand_83 rfl rfl ?_
          refine g_iload_n F 0 dX3_takeBehindOperand_84 rfl rfl ?_
          refine u_callVv (k := 0) (n := 0) (b := a 16) (As := [.int r33]) (st := []) F (fun sz => S_X3_joinDownTo_16 l D K a G r33 r33.toInt rfl (by omega) (by exact ⟨t9, f1.cast rfl (congrArg Int32.toInt (show G 16 4 = (G 16 4) from rfl)) (congrArg Int32.toInt (show G 16 6 = (G 16 6) from rfl)) (congrArg Int32.toInt (show G 16 7 = (G 16 7) from rfl)), f2 wo⟩) hI sz) (cwV 1 hts gX3_takeBehindOperand_X3_joinDownTo rfl rfl rfl (by decide +kernel) ⟨Nat.le_of_ble_eq_true rfl, Nat.le_of_ble_eq_true rfl⟩) rfl 16 xc_16 rfl (Nat.le_of_ble_eq_true rfl) ⟨Nat.zero_le _, Nat.zero_le _⟩ dX3_takeBehindOperand_85 (fun G40 hw39 => ?_)
          have hI41 : xI G40 := hw39.1
          have hU42 : gu_un xcd [1602, 1605, 3500] G G40 := hw39.2.1
          have hp43 := hw39.2.2
          have b44 : (0 : Int) ≤ (G40 16 4).toInt ∧ (G40 16 4).toInt ≤ 16 := hI41 16 4
          have q45 : (∃ t, xQ (G 37) (G40 16 4).toInt (G 16 6).toInt (G 16 7).toInt t ∧ 0 ≤ t ∧ t < r33.toInt) := hp43
          obtain ⟨t8, j1, j2, j3⟩ := q45
          have j6 := j1.le
          refine g_aload_n F 1 dX3_takeBehindOperand_88 rfl rfl ?_
          refine g_aload_n F 2 dX3_takeBehindOperand_89 rfl rfl ?_
          refine xg_1_5 F i_X10 w_1 dX3_takeBehindOperand_90 (G 1 5) (hU42 1 5 (by decide)) ?_
          refine u_callVv (k := 0) (n := 0) (b := a 16) (As := [.int (G 1 5)]) (st := []) F (fun sz => S_X3_putWaiting_16 l D K a G40 (G 1 5) (G 1 5).toInt rfl hI41 sz) (cwV 1 hts gX3_takeBehindOperand_X3_putWaiting rfl rfl rfl (by decide +kernel) ⟨Nat.le_of_ble_eq_true rfl, Nat.le_of_ble_eq_true rfl⟩) rfl 16 xc_16 rfl (Nat.le_of_ble_eq_true rfl) ⟨Nat.zero_le _, Nat.zero_le _⟩ dX3_takeBehindOperand_93 (fun G48 hw47 => ?_)
          have hI49 : xI G48 := hw47.1
          have hU50 : gu_un xcd [1605, 3700] G40 G48 := hw47.2.1
          have hp51 := hw47.2.2
          have b52 : (0 : Int) ≤ (G48 16 4).toInt ∧ (G48 16 4).toInt ≤ 16 := hI49 16 4
          have q53 : ((G40 16 4).toInt ≤ 15 → (G48 37 = upd (G 37) ((G40 16 4).toInt).toNat (G 1 5) ∧ (G48 16 4).toInt = (G40 16 4).toInt + 1)) := by have h9 := hp51; (try simp only [(show G40 37 = (G 37) from (show G40 37 = G 37 from funext fun k_ => hU42 37 k_ (show (3700 : Nat) ∉ ([1602, 1605, 3500] : List Nat) by decide)))] at h9); first | exact h9 | omega
          refine g_aload_n F 1 dX3_takeBehindOperand_96 rfl rfl ?_
          refine g_iconst F 1 dX3_takeBehindOperand_97 (by decide) ?_
          refine xp_16_8 F i_X3 w_2 dX3_takeBehindOperand_98 (by decide) ?_
          refine g_iconst F 0 dX3_takeBehindOperand_101 (by decide) ?_
          exact u_iret F hA hQ hr (gu_up G48 16 8 1) (⟨(gu_I.up (j := 16) (k := 8) (v := 1) hI49 (show (0 : Int) ≤ (1 : Int32).toInt by decide) (show (1 : Int32).toInt ≤ 1 by decide)), (gu_un.up (j := 16) (k := 8) (v := 1) (gu_un.tr (gu_un.tr gu_un.rf (gu_un.su hU42 rfl)) (gu_un.su hU50 rfl)) (show (1609 : Nat) ∈ ([1602, 1605, 1607, 1608, 1609, 3500, 3700] : List Nat) by decide)), (by decide), (xFi.mk (w := 1) (by exact ⟨_, j1.push.2.2 j2 (by omega), fun h => absurd h (by decide)⟩) (by omega) (show (gu_up G48 16 8 1) 37 = _ from (q53 (by omega)).1) (show ((gu_up G48 16 8 1) 16 4).toInt = _ by rw [show (gu_up G48 16 8 1) 16 4 = (G48 16 4) from rfl] <;> (exact (q53 (by omega)).2)) (show ((gu_up G48 16 8 1) 16 6).toInt = _ by rw [show (gu_up G48 16 8 1) 16 6 = (G 16 6) from (hU50 16 6 (by decide)).trans (hU42 16 6 (by decide))]) (show ((gu_up G48 16 8 1) 16 7).toInt = _ by rw [show (gu_up G48 16 8 1) 16 7 = (G 16 7) from (hU50 16 7 (by decide)).trans (hU42 16 7 (by decide))]) (show ((gu_up G48 16 8 1) 16 8).toInt = _ by rw [show (gu_up G48 16 8 1) 16 8 = 1 from rfl] <;> (rfl)))⟩) rfl rfl dX3_takeBehindOperand_102
        · refine g_iconst F 1 dX3_takeBehindOperand_81 (by decide) ?_
          exact u_iret F hA hQ hr G (⟨hI, gu_un.rf, (by decide), (fi)⟩) rfl rfl dX3_takeBehindOperand_82
    · refine g_aload_n F 0 dX3_takeBehindOperand_16 rfl rfl ?_
      refine g_iconst F 1 dX3_takeBehindOperand_17 (by decide) ?_
      refine u_callVv (k := 0) (n := 0) (b := a 16) (As := [.int 1]) (st := []) F (fun sz => S_X3_joinDownTo_16 l D K a G 1 1 rfl (by decide) (by exact ⟨t9, f1.cast rfl (congrArg Int32.toInt (show G 16 4 = (G 16 4) from rfl)) (congrArg Int32.toInt (show G 16 6 = (G 16 6) from rfl)) (congrArg Int32.toInt (show G 16 7 = (G 16 7) from rfl)), f2 wo⟩) hI sz) (cwV 1 hts gX3_takeBehindOperand_X3_joinDownTo rfl rfl rfl (by decide +kernel) ⟨Nat.le_of_ble_eq_true rfl, Nat.le_of_ble_eq_true rfl⟩) rfl 16 xc_16 rfl (Nat.le_of_ble_eq_true rfl) ⟨Nat.zero_le _, Nat.zero_le _⟩ dX3_takeBehindOperand_18 (fun G56 hw55 => ?_)
      have hI57 : xI G56 := hw55.1
      have hU58 : gu_un xcd [1602, 1605, 3500] G G56 := hw55.2.1
      have hp59 := hw55.2.2
      have b60 : (0 : Int) ≤ (G56 16 4).toInt ∧ (G56 16 4).toInt ≤ 16 := hI57 16 4
      have q61 : (∃ t, xQ (G 37) (G56 16 4).toInt (G 16 6).toInt (G 16 7).toInt t ∧ 0 ≤ t ∧ t < (1 : Int)) := hp59
      obtain ⟨t8, j1, j2, j3⟩ := q61
      obtain ⟨j4, j5⟩ := j1.popP (by omega) (by omega)
      have j6 := j1.le
      refine g_aload_n F 0 dX3_takeBehindOperand_21 rfl rfl ?_
      refine g_dup F dX3_takeBehindOperand_22 rfl ?_
      refine xg_16_4 F i_X3 w_4 dX3_takeBehindOperand_23 (G56 16 4) (rfl) ?_
      refine g_iconst F 1 dX3_takeBehindOperand_26 (by decide) ?_
      refine u_isub F dX3_takeBehindOperand_27 (G56 16 4).toInt 1 rfl rfl (by omega) (by omega) (fun y62 ey62 => ?_)
      refine xp_16_4 F i_X3 w_4 dX3_takeBehindOperand_28 ?_
      refine g_aload_n F 0 dX3_takeBehindOperand_31 rfl rfl ?_
      refine g_dup F dX3_takeBehindOperand_32 rfl ?_
      refine xg_16_7 F i_X3 w_3 dX3_takeBehindOperand_33 (G 16 7) (hU58 16 7 (by decide)) ?_
      refine g_iconst F 1 dX3_takeBehindOperand_36 (by decide) ?_
      have b64 := ti_rng (G 16 7)
      refine u_isub F dX3_takeBehindOperand_37 (G 16 7).toInt 1 rfl rfl (by omega) (by omega) (fun y63 ey63 => ?_)
      refine xp_16_7 F i_X3 w_3 dX3_takeBehindOperand_38 ?_
      refine g_aload_n F 0 dX3_takeBehindOperand_41 rfl rfl ?_
      refine g_dup F dX3_takeBehindOperand_42 rfl ?_
      refine xg_16_6 F i_X3 w_5 dX3_takeBehindOperand_43 (G 16 6) (hU58 16 6 (by decide)) ?_
      refine g_iconst F 1 dX3_takeBehindOperand_46 (by decide) ?_
      refine u_isubc F dX3_takeBehindOperand_47 (G 16 6).toInt 1 rfl rfl (fun y65 ey65 => ?_)
      refine xp_16_6 F i_X3 w_5 dX3_takeBehindOperand_48 ?_
      refine g_aload_n F 0 dX3_takeBehindOperand_51 rfl rfl ?_
      refine u_callVv (k := 0) (n := 0) (b := a 16) (As := []) (st := []) F (fun sz => S_X3_closeMinuses_16 l D K a (gu_up (gu_up (gu_up G56 16 4 y62) 16 7 y63) 16 6 y65)  (by obtain ⟨t7, h7⟩ := j5; exact ⟨t7, h7.cast (show (gu_up (gu_up (gu_up G56 16 4 y62) 16 7 y63) 16 6 y65) 37 = _ from (show G56 37 = G 37 from funext fun k_ => hU58 37 k_ (show (3700 : Nat) ∉ ([1602, 1605, 3500] : List Nat) by decide))) (show ((gu_up (gu_up (gu_up G56 16 4 y62) 16 7 y63) 16 6 y65) 16 4).toInt = _ by rw [show (gu_up (gu_up (gu_up G56 16 4 y62) 16 7 y63) 16 6 y65) 16 4 = y62 from rfl]; omega) (show ((gu_up (gu_up (gu_up G56 16 4 y62) 16 7 y63) 16 6 y65) 16 6).toInt = _ by rw [show (gu_up (gu_up (gu_up G56 16 4 y62) 16 7 y63) 16 6 y65) 16 6 = y65 from rfl]; omega) (show ((gu_up (gu_up (gu_up G56 16 4 y62) 16 7 y63) 16 6 y65) 16 7).toInt = _ by rw [show (gu_up (gu_up (gu_up G56 16 4 y62) 16 7 y63) 16 6 y65) 16 7 = y63 from rfl]; omega)⟩) (gu_I.up (j := 16) (k := 6) (v := y65) (gu_I.up (j := 16) (k := 7) (v := y63) (gu_I.up (j := 16) (k := 4) (v := y62) hI57 (show (0 : Int) ≤ Int32.toInt y62 by omega) (show Int32.toInt y62 ≤ 16 by omega)) (ti_rng _).1 (ti_rng _).2) (ti_rng _).1 (ti_rng _).2) sz) (cwV 0 hts gX3_takeBehindOperand_X3_closeMinuses rfl rfl rfl (by decide +kernel) ⟨Nat.le_of_ble_eq_true rfl, Nat.le_of_ble_eq_true rfl⟩) rfl 16 xc_16 rfl (Nat.le_of_ble_eq_true rfl) ⟨Nat.zero_le _, Nat.zero_le _⟩ dX3_takeBehindOperand_52 (fun G68 hw67 => ?_)
      have hI69 : xI G68 := hw67.1
      have hU70 : gu_un xcd [1602, 1605, 1607, 3500] (gu_up (gu_up (gu_up G56 16 4 y62) 16 7 y63) 16 6 y65) G68 := hw67.2.1
      have hp71 := hw67.2.2
      have b72 : (0 : Int) ≤ (G68 16 4).toInt ∧ (G68 16 4).toInt ≤ 16 := hI69 16 4
      have q73 : (∃ t, xQ (G 37) (G68 16 4).toInt (G68 16 6).toInt y63.toInt t ∧ 0 ≤ t) := by have h9 := hp71.1; (try simp only [(show (gu_up (gu_up (gu_up G56 16 4 y62) 16 7 y63) 16 6 y65) 37 = (G 37) from (show G56 37 = G 37 from funext fun k_ => hU58 37 k_ (show (3700 : Nat) ∉ ([1602, 1605, 3500] : List Nat) by decide)))] at h9); first | exact h9 | omega
      have q74 : ((G68 16 6).toInt ≤ y65.toInt) := hp71.2
      refine g_iconst F 0 dX3_takeBehindOperand_55 (by decide) ?_
      exact u_iret F hA hQ hr G68 (⟨hI69, (gu_un.tr (gu_un.up (j := 16) (k := 6) (v := y65) (gu_un.up (j := 16) (k := 7) (v := y63) (gu_un.up (j := 16) (k := 4) (v := y62) (gu_un.tr gu_un.rf (gu_un.su hU58 rfl)) (show (1605 : Nat) ∈ ([1602, 1605, 1607, 1608, 1609, 3500, 3700] : List Nat) by decide)) (show (1608 : Nat) ∈ ([1602, 1605, 1607, 1608, 1609, 3500, 3700] : List Nat) by decide)) (show (1607 : Nat) ∈ ([1602, 1605, 1607, 1608, 1609, 3500, 3700] : List Nat) by decide)) (gu_un.su hU70 rfl)), (by decide), (xFi.mk (w := 0) (by obtain ⟨t8, h1, h2⟩ := q73; exact ⟨t8, h1, fun _ => h2⟩) (by omega) (show G68 37 = _ from (show G68 37 = (gu_up (gu_up (gu_up G56 16 4 y62) 16 7 y63) 16 6 y65) 37 from funext fun k_ => hU70 37 k_ (show (3700 : Nat) ∉ ([1602, 1605, 1607, 3500] : List Nat) by decide)).trans ((show G56 37 = G 37 from funext fun k_ => hU58 37 k_ (show (3700 : Nat) ∉ ([1602, 1605, 3500] : List Nat) by decide)))) (show (G68 16 4).toInt = _ by rw [show G68 16 4 = (G68 16 4) from rfl]) (show (G68 16 6).toInt = _ by rw [show G68 16 6 = (G68 16 6) from rfl]) (show (G68 16 7).toInt = _ by rw [show G68 16 7 = y63 from hU70 16 7 (by decide)]) (show (G68 16 8).toInt = _ by rw [show G68 16 8 = (G 16 8) from (hU70 16 8 (by decide)).trans (hU58 16 8 (by decide))] <;> (first | rfl | omega)))⟩) rfl rfl dX3_takeBehindOperand_56


set_option maxHeartbeats 4000000 in
set_option maxRecDepth 100000 in
theorem S_X3_begin_16 (l : Launch) (D : va_G) (K : Nat → ClassId) (a : Nat → Nat) (G : gS) (hI : xI G) (sz : Nat) : Kv l yX3_begin wsX3_begin 1 40 0 0 D [.ref (a 16)] (xW K a G) (tK K) sz (fun (G' : gS) => (xI G') ∧ (gu_un xcd [1602, 1605, 1606, 1607, 1608, 1609] G G') ∧ (xFi 16 37 G')) (fun (G' : gS) => (xW K a G')) (fun _ => (tK K)) := by
  unfold Kv
  refine g_ofW (cc := cX3_begin) (lv := [(0, .ref (a 16))]) (by decide) rfl (Nat.le_of_ble_eq_true rfl) rfl ?_
  intro p e s m args below meth c A Q hA hQ F hr hnm
  have hts := F.2.2.2.2.1
  have w_0 : (Cond.fieldLink RX3 21 "QuietCut$Formula" "length" "I").before args s = true := hts _ (List.mem_of_getElem? (i := 1) rfl)
  have i_X3 : ∀ w ∈ u_ws RX3 TX3 9, w ∈ wsX3_begin := fun _ h => List.mem_cons_of_mem _ (List.mem_append_right _ h)
  have w_1 : (Cond.fieldLink RX3 35 "QuietCut$Formula" "waits" "I").before args s = true := hts _ (List.mem_of_getElem? (i := 2) rfl)
  have w_2 : (Cond.fieldLink RX3 38 "QuietCut$Formula" "operands" "I").before args s = true := hts _ (List.mem_of_getElem? (i := 3) rfl)
  have w_3 : (Cond.fieldLink RX3 41 "QuietCut$Formula" "open" "I").before args s = true := hts _ (List.mem_of_getElem? (i := 4) rfl)
  have w_4 : (Cond.fieldLink RX3 44 "QuietCut$Formula" "parentheses" "I").before args s = true := hts _ (List.mem_of_getElem? (i := 5) rfl)
  have w_5 : (Cond.fieldLink RX3 47 "QuietCut$Formula" "wantsOperand" "Z").before args s = true := hts _ (List.mem_of_getElem? (i := 6) rfl)
  refine g_aload_n F 0 dX3_begin_0 rfl rfl ?_
  refine g_iconst F 0 dX3_begin_1 (by decide) ?_
  refine xp_16_1 F i_X3 w_0 dX3_begin_2 ?_
  refine g_aload_n F 0 dX3_begin_5 rfl rfl ?_
  refine g_iconst F 0 dX3_begin_6 (by decide) ?_
  refine xp_16_4 F i_X3 w_1 dX3_begin_7 ?_
  refine g_aload_n F 0 dX3_begin_10 rfl rfl ?_
  refine g_iconst F 0 dX3_begin_11 (by decide) ?_
  refine xp_16_5 F i_X3 w_2 dX3_begin_12 ?_
  refine g_aload_n F 0 dX3_begin_15 rfl rfl ?_
  refine g_iconst F 0 dX3_begin_16 (by decide) ?_
  refine xp_16_6 F i_X3 w_3 dX3_begin_17 ?_
  refine g_aload_n F 0 dX3_begin_20 rfl rfl ?_
  refine g_iconst F 0 dX3_begin_21 (by decide) ?_
  refine xp_16_7 F i_X3 w_4 dX3_begin_22 ?_
  refine g_aload_n F 0 dX3_begin_25 rfl rfl ?_
  refine g_iconst F 1 dX3_begin_26 (by decide) ?_
  refine xp_16_8 F i_X3 w_5 dX3_begin_27 (by decide) ?_
  exact u_vret F hA hQ hr (gu_up (gu_up (gu_up (gu_up (gu_up (gu_up G 16 1 0) 16 4 0) 16 5 0) 16 6 0) 16 7 0) 16 8 1) (⟨(gu_I.up (j := 16) (k := 8) (v := 1) (gu_I.up (j := 16) (k := 7) (v := 0) (gu_I.up (j := 16) (k := 6) (v := 0) (gu_I.up (j := 16) (k := 5) (v := 0) (gu_I.up (j := 16) (k := 4) (v := 0) (gu_I.up (j := 16) (k := 1) (v := 0) hI (show (0 : Int) ≤ (0 : Int32).toInt by decide) (show (0 : Int32).toInt ≤ 80 by decide)) (show (0 : Int) ≤ (0 : Int32).toInt by decide) (show (0 : Int32).toInt ≤ 16 by decide)) (show (0 : Int) ≤ (0 : Int32).toInt by decide) (show (0 : Int32).toInt ≤ 12 by decide)) (ti_rng _).1 (ti_rng _).2) (ti_rng _).1 (ti_rng _).2) (show (0 : Int) ≤ (1 : Int32).toInt by decide) (show (1 : Int32).toInt ≤ 1 by decide)), (gu_un.up (j := 16) (k := 8) (v := 1) (gu_un.up (j := 16) (k := 7) (v := 0) (gu_un.up (j := 16) (k := 6) (v := 0) (gu_un.up (j := 16) (k := 5) (v := 0) (gu_un.up (j := 16) (k := 4) (v := 0) (gu_un.up (j := 16) (k := 1) (v := 0) gu_un.rf (show (1602 : Nat) ∈ ([1602, 1605, 1606, 1607, 1608, 1609] : List Nat) by decide)) (show (1605 : Nat) ∈ ([1602, 1605, 1606, 1607, 1608, 1609] : List Nat) by decide)) (show (1606 : Nat) ∈ ([1602, 1605, 1606, 1607, 1608, 1609] : List Nat) by decide)) (show (1607 : Nat) ∈ ([1602, 1605, 1606, 1607, 1608, 1609] : List Nat) by decide)) (show (1608 : Nat) ∈ ([1602, 1605, 1606, 1607, 1608, 1609] : List Nat) by decide)) (show (1609 : Nat) ∈ ([1602, 1605, 1606, 1607, 1608, 1609] : List Nat) by decide)), (xFi.mk (f := G 37) (n := 0) (o := 0) (p := 0) (w := 1) ⟨0, xQ.at0, fun _ => by omega⟩ (by decide) rfl rfl rfl rfl rfl)⟩) rfl rfl dX3_begin_30
