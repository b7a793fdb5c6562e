
set_option maxHeartbeats 4000000 in
set_option maxRecDepth 100000 in
theorem S_X3_putWaiting_15 (l : Launch) (D : va_G) (K : Nat → ClassId) (a : Nat → Nat) (G : gS) (p0 : Int32) (s0 : Int) (e0 : p0.toInt = s0) (hI : xI G) (sz : Nat) : Kv l yX3_putWaiting wsX3_putWaiting 1 40 0 0 D [.ref (a 15), .int p0] (xW K a G) (tK K) sz (fun (G' : gS) => (xI G') ∧ (gu_un xcd [1505, 3400] G G') ∧ (((G 15 4).toInt ≤ 15 → (G' 34 = upd (G 34) ((G 15 4).toInt).toNat p0 ∧ (G' 15 4).toInt = (G 15 4).toInt + 1)))) (fun (G' : gS) => (xW K a G')) (fun _ => (tK K)) := by
  unfold Kv
  refine g_ofW (cc := cX3_putWaiting) (lv := [(0, .ref (a 15)), (1, .int p0)]) (by decide) rfl (Nat.le_of_ble_eq_true rfl) rfl ?_
  intro p e s m args below meth c A Q hA hQ F hr hnm
  have hts := F.2.2.2.2.1
  have w_0 : (Cond.fieldLink RX3 35 "QuietCut$Formula" "waits" "I").before args s = true := hts _ (List.mem_of_getElem? (i := 1) rfl)
  have i_X3 : ∀ w ∈ u_ws RX3 TX3 9, w ∈ wsX3_putWaiting := fun _ h => List.mem_cons_of_mem _ (List.mem_append_right _ h)
  have w_1 : (Cond.fieldLink RX3 18 "QuietCut$Formula" "waiting" "[I").before args s = true := hts _ (List.mem_of_getElem? (i := 2) rfl)
  have rg0 : -2147483648 ≤ s0 ∧ s0 ≤ 2147483647 := e0 ▸ ti_rng p0
  refine g_aload_n F 0 dX3_putWaiting_0 rfl rfl ?_
  refine xg_15_4 F i_X3 w_0 dX3_putWaiting_1 (G 15 4) (rfl) ?_
  refine g_bipush F 16 dX3_putWaiting_4 (by decide) ?_
  have b1 : (0 : Int) ≤ (G 15 4).toInt ∧ (G 15 4).toInt ≤ 16 := hI 15 4
  refine v_icmp_ge F 29 dX3_putWaiting_6 (by decide) (G 15 4).toInt 16 rfl rfl (fun c2 => ?_) (fun c2 => ?_)
  · exact u_vret F hA hQ hr G (⟨hI, gu_un.rf, (fun h => absurd h (by omega))⟩) rfl rfl dX3_putWaiting_29
  · refine g_aload_n F 0 dX3_putWaiting_9 rfl rfl ?_
    refine xg_15_3 F i_X3 w_1 dX3_putWaiting_10 ?_
    refine g_aload_n F 0 dX3_putWaiting_13 rfl rfl ?_
    refine xg_15_4 F i_X3 w_0 dX3_putWaiting_14 (G 15 4) (rfl) ?_
    refine g_iload_n F 1 dX3_putWaiting_17 rfl rfl ?_
    refine u_iast F 34 0 xc_34 rfl (G 15 4).toInt rfl (by omega) (by omega) (xW K a (gu_up G 34 ((G 15 4).toInt).toNat p0)) (xs_34 _) dX3_putWaiting_18 ?_
    refine g_aload_n F 0 dX3_putWaiting_19 rfl rfl ?_
    refine g_dup F dX3_putWaiting_20 rfl ?_
    refine xg_15_4 F i_X3 w_0 dX3_putWaiting_21 (G 15 4) (rfl) ?_
    refine g_iconst F 1 dX3_putWaiting_24 (by decide) ?_
    refine u_iadd F dX3_putWaiting_25 (G 15 4).toInt 1 rfl rfl (by omega) (by omega) (fun y3 ey3 => ?_)
    refine xp_15_4 F i_X3 w_0 dX3_putWaiting_26 ?_
    exact u_vret F hA hQ hr (gu_up (gu_up G 34 ((G 15 4).toInt).toNat p0) 15 4 y3) (⟨(gu_I.up (j := 15) (k := 4) (v := y3) (gu_I.up (j := 34) (k := ((G 15 4).toInt).toNat) (v := p0) hI (ti_rng _).1 (ti_rng _).2) (show (0 : Int) ≤ Int32.toInt y3 by omega) (show Int32.toInt y3 ≤ 16 by omega)), (gu_un.up (j := 15) (k := 4) (v := y3) (gu_un.up (j := 34) (k := ((G 15 4).toInt).toNat) (v := p0) gu_un.rf (show (3400 : Nat) ∈ ([1505, 3400] : List Nat) by decide)) (show (1505 : Nat) ∈ ([1505, 3400] : List Nat) by decide)), (fun _ => ⟨rfl, show (y3 : Int32).toInt = _ by omega⟩)⟩) rfl rfl dX3_putWaiting_29


set_option maxHeartbeats 4000000 in
set_option maxRecDepth 100000 in
theorem S_X3_putCode_15 (l : Launch) (D : va_G) (K : Nat → ClassId) (a : Nat → Nat) (G : gS) (p0 : Int32) (s0 : Int) (e0 : p0.toInt = s0) (hI : xI G) (sz : Nat) : Kv l yX3_putCode wsX3_putCode 1 40 0 0 D [.ref (a 15), .int p0] (xW K a G) (tK K) sz (fun (G' : gS) => (xI G') ∧ (gu_un xcd [1502, 3200] G G') ∧ (((G 15 1).toInt ≤ 79 → (G' 32 = upd (G 32) ((G 15 1).toInt).toNat p0 ∧ (G' 15 1).toInt = (G 15 1).toInt + 1)))) (fun (G' : gS) => (xW K a G')) (fun _ => (tK K)) := by
  unfold Kv
  refine g_ofW (cc := cX3_putCode) (lv := [(0, .ref (a 15)), (1, .int p0)]) (by decide) rfl (Nat.le_of_ble_eq_true rfl) rfl ?_
  intro p e s m args below meth c A Q hA hQ F hr hnm
  have hts := F.2.2.2.2.1
  have w_0 : (Cond.fieldLink RX3 21 "QuietCut$Formula" "length" "I").before args s = true := hts _ (List.mem_of_getElem? (i := 1) rfl)
  have i_X3 : ∀ w ∈ u_ws RX3 TX3 9, w ∈ wsX3_putCode := fun _ h => List.mem_cons_of_mem _ (List.mem_append_right _ h)
  have w_1 : (Cond.fieldLink RX3 11 "QuietCut$Formula" "codes" "[I").before args s = true := hts _ (List.mem_of_getElem? (i := 2) rfl)
  have rg0 : -2147483648 ≤ s0 ∧ s0 ≤ 2147483647 := e0 ▸ ti_rng p0
  refine g_aload_n F 0 dX3_putCode_0 rfl rfl ?_
  refine xg_15_1 F i_X3 w_0 dX3_putCode_1 (G 15 1) (rfl) ?_
  refine g_bipush F 80 dX3_putCode_4 (by decide) ?_
  have b1 : (0 : Int) ≤ (G 15 1).toInt ∧ (G 15 1).toInt ≤ 80 := hI 15 1
  refine v_icmp_ge F 29 dX3_putCode_6 (by decide) (G 15 1).toInt 80 rfl rfl (fun c2 => ?_) (fun c2 => ?_)
  · exact u_vret F hA hQ hr G (⟨hI, gu_un.rf, (fun h => absurd h (by omega))⟩) rfl rfl dX3_putCode_29
  · refine g_aload_n F 0 dX3_putCode_9 rfl rfl ?_
    refine xg_15_0 F i_X3 w_1 dX3_putCode_10 ?_
    refine g_aload_n F 0 dX3_putCode_13 rfl rfl ?_
    refine xg_15_1 F i_X3 w_0 dX3_putCode_14 (G 15 1) (rfl) ?_
    refine g_iload_n F 1 dX3_putCode_17 rfl rfl ?_
    refine u_iast F 32 0 xc_32 rfl (G 15 1).toInt rfl (by omega) (by omega) (xW K a (gu_up G 32 ((G 15 1).toInt).toNat p0)) (xs_32 _) dX3_putCode_18 ?_
    refine g_aload_n F 0 dX3_putCode_19 rfl rfl ?_
    refine g_dup F dX3_putCode_20 rfl ?_
    refine xg_15_1 F i_X3 w_0 dX3_putCode_21 (G 15 1) (rfl) ?_
    refine g_iconst F 1 dX3_putCode_24 (by decide) ?_
    refine u_iadd F dX3_putCode_25 (G 15 1).toInt 1 rfl rfl (by omega) (by omega) (fun y3 ey3 => ?_)
    refine xp_15_1 F i_X3 w_0 dX3_putCode_26 ?_
    exact u_vret F hA hQ hr (gu_up (gu_up G 32 ((G 15 1).toInt).toNat p0) 15 1 y3) (⟨(gu_I.up (j := 15) (k := 1) (v := y3) (gu_I.up (j := 32) (k := ((G 15 1).toInt).toNat) (v := p0) hI (ti_rng _).1 (ti_rng _).2) (show (0 : Int) ≤ Int32.toInt y3 by omega) (show Int32.toInt y3 ≤ 80 by omega)), (gu_un.up (j := 15) (k := 1) (v := y3) (gu_un.up (j := 32) (k := ((G 15 1).toInt).toNat) (v := p0) gu_un.rf (show (3200 : Nat) ∈ ([1502, 3200] : List Nat) by decide)) (show (1502 : Nat) ∈ ([1502, 3200] : List Nat) by decide)), (fun _ => ⟨rfl, show (y3 : Int32).toInt = _ by omega⟩)⟩) rfl rfl dX3_putCode_29


set_option maxHeartbeats 4000000 in
set_option maxRecDepth 100000 in
theorem S_X3_joinDownTo_15 (l : Launch) (D : va_G) (K : Nat → ClassId) (a : Nat → Nat) (G : gS) (p0 : Int32) (s0 : Int) (e0 : p0.toInt = s0) (h0 : 1 ≤ s0 ∧ s0 ≤ 2) (jq : (∃ t, xQ (G 34) (G 15 4).toInt (G 15 6).toInt (G 15 7).toInt t ∧ 0 ≤ t)) (jl : ((G 15 1).toInt + (G 15 4).toInt ≤ 79)) (hI : xI G) (sz : Nat) : Kv l yX3_joinDownTo wsX3_joinDownTo 2 61 0 0 D [.ref (a 15), .int p0] (xW K a G) (tK K) sz (fun (G' : gS) => (xI G') ∧ (gu_un xcd [1502, 1505, 3200] G G') ∧ ((∃ t, xQ (G 34) (G' 15 4).toInt (G 15 6).toInt (G 15 7).toInt t ∧ 0 ≤ t ∧ t < s0)) ∧ ((sJ s0 (tkr (G 34) ((G 15 4).toInt).toNat) (tkr (G 32) ((G 15 1).toInt).toNat) = (tkr (G 34) ((G' 15 4).toInt).toNat, tkr (G' 32) ((G' 15 1).toInt).toNat))) ∧ (((G' 15 1).toInt + (G' 15 4).toInt = (G 15 1).toInt + (G 15 4).toInt))) (fun (G' : gS) => (xW K a G')) (fun _ => (tK K)) := by
  unfold Kv
  refine g_ofW (cc := cX3_joinDownTo) (lv := [(0, .ref (a 15)), (1, .int p0)]) (by decide) rfl (Nat.le_of_ble_eq_true rfl) rfl ?_
  intro p e s m args below meth c A Q hA hQ F hr hnm
  have hts := F.2.2.2.2.1
  have w_0 : (Cond.fieldLink RX3 35 "QuietCut$Formula" "waits" "I").before args s = true := hts _ (List.mem_of_getElem? (i := 1) rfl)
  have i_X3 : ∀ w ∈ u_ws RX3 TX3 9, w ∈ wsX3_joinDownTo := fun _ h => List.mem_cons_of_mem _ (List.mem_append_right _ h)
  have w_1 : (Cond.fieldLink RX3 18 "QuietCut$Formula" "waiting" "[I").before args s = true := hts _ (List.mem_of_getElem? (i := 2) rfl)
  have b1 : (0 : Int) ≤ (G 15 1).toInt ∧ (G 15 1).toInt ≤ 80 := hI 15 1
  have b2 : (0 : Int) ≤ (G 15 4).toInt ∧ (G 15 4).toInt ≤ 16 := hI 15 4
  have J_0 : ∀ (fuel : Nat) (Gj0 : gS), ((Gj0 15 4).toInt).toNat < fuel → (xI Gj0) → (gu_un xcd [1502, 1505, 3200] G Gj0) → ((∃ t, xQ (G 34) (Gj0 15 4).toInt (G 15 6).toInt (G 15 7).toInt t ∧ 0 ≤ t)) → (((Gj0 15 1).toInt + (Gj0 15 4).toInt = (G 15 1).toInt + (G 15 4).toInt)) → (sJ s0 (tkr (G 34) ((Gj0 15 4).toInt).toNat) (tkr (Gj0 32) ((Gj0 15 1).toInt).toNat) = sJ s0 (tkr (G 34) ((G 15 4).toInt).toNat) (tkr (G 32) ((G 15 1).toInt).toNat)) → gG p l e (gR 2 0 0 61) s m args below meth c D A 2 Q 0 0 (xW K a Gj0) (tK K) [(0, .ref (a 15)), (1, .int p0)] 0 [] := by
    intro fuel
    induction fuel with
    | zero => intro Gj0 hm; exact absurd hm (Nat.not_lt_zero _)
    | succ fuel_0 ih_0 =>
      intro Gj0 hm_0 jI0 jU0 jq0 jn jd0
      refine g_aload_n F 0 dX3_joinDownTo_0 rfl rfl ?_
      refine xg_15_4 F i_X3 w_0 dX3_joinDownTo_1 (Gj0 15 4) (rfl) ?_
      have b3 : (0 : Int) ≤ (Gj0 15 4).toInt ∧ (Gj0 15 4).toInt ≤ 16 := jI0 15 4
      refine v_if_le F 54 dX3_joinDownTo_4 (by decide) (Gj0 15 4).toInt rfl (fun c4 => ?_) (fun c4 => ?_)
      · have b5 : (0 : Int) ≤ (Gj0 15 1).toInt ∧ (Gj0 15 1).toInt ≤ 80 := jI0 15 1
        exact u_vret F hA hQ hr Gj0 (⟨jI0, (gu_un.tr gu_un.rf (gu_un.su jU0 rfl)), (by obtain ⟨t9, h1, h2⟩ := jq0; exact ⟨t9, h1, h2, h1.topS h2 (by omega) (fun h3 => by omega)⟩), (jd_end jd0 (fun h9 => by omega)), (by show ((Gj0 15 1).toInt + (Gj0 15 4).toInt = (G 15 1).toInt + (G 15 4).toInt); (first | omega | (simp only [Int32.reduceToInt, true_and, and_true, ne_eq, not_true_eq_false, false_and, or_false, false_or, true_or, or_true, false_implies] <;> omega)))⟩) rfl rfl dX3_joinDownTo_54
      · refine g_aload_n F 0 dX3_joinDownTo_7 rfl rfl ?_
        refine xg_15_3 F i_X3 w_1 dX3_joinDownTo_8 ?_
        refine g_aload_n F 0 dX3_joinDownTo_11 rfl rfl ?_
        refine xg_15_4 F i_X3 w_0 dX3_joinDownTo_12 (Gj0 15 4) (rfl) ?_
        refine g_iconst F 1 dX3_joinDownTo_15 (by decide) ?_
        refine u_isub F dX3_joinDownTo_16 (Gj0 15 4).toInt 1 rfl rfl (by omega) (by omega) (fun y6 ey6 => ?_)
        refine u1_iald F 34 0 xc_34 rfl y6.toInt rfl (by omega) (by omega) dX3_joinDownTo_17 ((G 34) (((Gj0 15 4).toInt - 1)).toNat) (by rw [show y6.toInt = ((Gj0 15 4).toInt - 1) by omega]; exact congrFun ((show Gj0 34 = G 34 from funext fun k_ => jU0 34 k_ (show (3400 : Nat) ∉ ([1502, 1505, 3200] : List Nat) by decide))) _) ?_
        refine u_call0 (k := 0) (n := 0) (As := [.int ((G 34) (((Gj0 15 4).toInt - 1)).toNat)]) (st := []) F (fun sz => S_X3_strengthOf l D ((G 34) (((Gj0 15 4).toInt - 1)).toNat) ((G 34) (((Gj0 15 4).toInt - 1)).toNat).toInt rfl sz) (va_cwS 1 hts gX3_joinDownTo_X3_strengthOf rfl rfl rfl (by decide +kernel) ⟨Nat.le_of_ble_eq_true rfl, Nat.le_of_ble_eq_true rfl⟩) rfl (Nat.le_of_ble_eq_true rfl) ⟨Nat.zero_le _, Nat.zero_le _⟩ dX3_joinDownTo_18 (fun r7 _ hw8 => ?_)
        have q10 : (r7.toInt = xsg ((G 34) (((Gj0 15 4).toInt - 1)).toNat).toInt) := hw8.2
        have rg11 := hw8.1
        clear hw8
        refine g_iload_n F 1 dX3_joinDownTo_21 rfl rfl ?_
        refine v_icmp_lt F 54 dX3_joinDownTo_22 (by decide) r7.toInt s0 rfl e0 (fun c12 => ?_) (fun c12 => ?_)
        · have b13 : (0 : Int) ≤ (Gj0 15 1).toInt ∧ (Gj0 15 1).toInt ≤ 80 := jI0 15 1
          exact u_vret F hA hQ hr Gj0 (⟨jI0, (gu_un.tr gu_un.rf (gu_un.su jU0 rfl)), (by obtain ⟨t9, h1, h2⟩ := jq0; exact ⟨t9, h1, h2, h1.topS h2 (by omega) (fun h3 => by omega)⟩), (jd_end jd0 (fun h9 => by omega)), (by show ((Gj0 15 1).toInt + (Gj0 15 4).toInt = (G 15 1).toInt + (G 15 4).toInt); (first | omega | (simp only [Int32.reduceToInt, true_and, and_true, ne_eq, not_true_eq_false, false_and, or_false, false_or, true_or, or_true, false_implies] <;> omega)))⟩) rfl rfl dX3_joinDownTo_54
        · refine g_aload_n F 0 dX3_joinDownTo_25 rfl rfl ?_
          refine g_dup F dX3_joinDownTo_26 rfl ?_
          refine xg_15_4 F i_X3 w_0 dX3_joinDownTo_27 (Gj0 15 4) (rfl) ?_
          refine g_iconst F 1 dX3_joinDownTo_30 (by decide) ?_
          refine u_isub F dX3_joinDownTo_31 (Gj0 15 4).toInt 1 rfl rfl (by omega) (by omega) (fun y14 ey14 => ?_)
          refine xp_15_4 F i_X3 w_0 dX3_joinDownTo_32 ?_
          refine g_aload_n F 0 dX3_joinDownTo_35 rfl rfl ?_
          refine g_aload_n F 0 dX3_joinDownTo_36 rfl rfl ?_
          refine xg_15_3 F i_X3 w_1 dX3_joinDownTo_37 ?_
          refine g_aload_n F 0 dX3_joinDownTo_40 rfl rfl ?_
          refine xg_15_4 F i_X3 w_0 dX3_joinDownTo_41 y14 (rfl) ?_
          refine u1_iald F 34 0 xc_34 rfl y14.toInt rfl (by omega) (by omega) dX3_joinDownTo_44 ((G 34) (((Gj0 15 4).toInt - 1)).toNat) (by rw [show y14.toInt = ((Gj0 15 4).toInt - 1) by omega]; exact congrFun ((show Gj0 34 = G 34 from funext fun k_ => jU0 34 k_ (show (3400 : Nat) ∉ ([1502, 1505, 3200] : List Nat) by decide))) _) ?_
          refine u_call0 (k := 0) (n := 0) (As := [.int ((G 34) (((Gj0 15 4).toInt - 1)).toNat)]) (st := [.ref (a 15)]) F (fun sz => S_X3_joinCode l D ((G 34) (((Gj0 15 4).toInt - 1)).toNat) ((G 34) (((Gj0 15 4).toInt - 1)).toNat).toInt rfl sz) (va_cwS 1 hts gX3_joinDownTo_X3_joinCode rfl rfl rfl (by decide +kernel) ⟨Nat.le_of_ble_eq_true rfl, Nat.le_of_ble_eq_true rfl⟩) rfl (Nat.le_of_ble_eq_true rfl) ⟨Nat.zero_le _, Nat.zero_le _⟩ dX3_joinDownTo_45 (fun r15 _ hw16 => ?_)
          have q18 : (37 ≤ ((G 34) (((Gj0 15 4).toInt - 1)).toNat).toInt ∧ ((G 34) (((Gj0 15 4).toInt - 1)).toNat).toInt ≤ 47 → r15.toInt = -3 - ((G 34) (((Gj0 15 4).toInt - 1)).toNat).toInt) := hw16
          clear hw16
          refine u_callVv (k := 0) (n := 0) (b := a 15) (As := [.int r15]) (st := []) F (fun sz => S_X3_putCode_15 l D K a (gu_up Gj0 15 4 y14) r15 r15.toInt rfl (gu_I.up (j := 15) (k := 4) (v := y14) jI0 (show (0 : Int) ≤ Int32.toInt y14 by omega) (show Int32.toInt y14 ≤ 16 by omega)) sz) (cwV 1 hts gX3_joinDownTo_X3_putCode rfl rfl rfl (by decide +kernel) ⟨Nat.le_of_ble_eq_true rfl, Nat.le_of_ble_eq_true rfl⟩) rfl 15 xc_15 rfl (Nat.le_of_ble_eq_true rfl) ⟨Nat.zero_le _, Nat.zero_le _⟩ dX3_joinDownTo_48 (fun G21 hw20 => ?_)
          have hI22 : xI G21 := hw20.1
          have hU23 : gu_un xcd [1502, 3200] (gu_up Gj0 15 4 y14) G21 := hw20.2.1
          have hp24 := hw20.2.2
          have b25 : (0 : Int) ≤ (Gj0 15 1).toInt ∧ (Gj0 15 1).toInt ≤ 80 := jI0 15 1
          have b26 : (0 : Int) ≤ (G21 15 1).toInt ∧ (G21 15 1).toInt ≤ 80 := hI22 15 1
          have q27 : ((Gj0 15 1).toInt ≤ 79 → (G21 32 = upd (Gj0 32) ((Gj0 15 1).toInt).toNat r15 ∧ (G21 15 1).toInt = (Gj0 15 1).toInt + 1)) := hp24
          clear hp24 hw20
          refine g_goto F 0 dX3_joinDownTo_51 (by decide) ?_
          exact ih_0 G21 (by have e9_15_4 : G21 15 4 = y14 := hU23 15 4 (by decide); (try simp only [e9_15_4, true_and, and_true]) <;> omega) hI22 (gu_un.tr (gu_un.up (j := 15) (k := 4) (v := y14) (gu_un.tr gu_un.rf (gu_un.su jU0 rfl)) (show (1505 : Nat) ∈ ([1502, 1505, 3200] : List Nat) by decide)) (gu_un.su hU23 rfl)) (by obtain ⟨t9, h1, h2⟩ := jq0; rw [show G21 15 4 = y14 from hU23 15 4 (by decide), show y14.toInt = (Gj0 15 4).toInt - 1 by omega]; exact h1.popS (by omega) (by omega)) (by have e9_15_4 : G21 15 4 = y14 := hU23 15 4 (by decide); (try simp only [e9_15_4, true_and, and_true]) <;> omega) (by have e4 : (G21 15 4).toInt = (Gj0 15 4).toInt - 1 := (by rw [show G21 15 4 = y14 from hU23 15 4 (by decide)]; omega); exact jd_step (w := (Gj0 15 4).toInt) (l := (Gj0 15 1).toInt) jd0 (by omega) e4 (by rw [e4]; omega) (by omega) (q27 (by omega)).1 (q27 (by omega)).2 (by rw [e4]; have h8 := xsg_rng (a := (G 34 ((Gj0 15 4).toInt - 1).toNat).toInt) (by omega); omega))
  exact J_0 _ G (Nat.lt_succ_self _) hI gu_un.rf (jq) (by omega) (rfl)


set_option maxHeartbeats 4000000 in
set_option maxRecDepth 100000 in
theorem S_X3_closeMinuses_15 (l : Launch) (D : va_G) (K : Nat → ClassId) (a : Nat → Nat) (G : gS) (cq : (∃ t, xQ (G 34) (G 15 4).toInt (G 15 6).toInt (G 15 7).toInt t)) (cl : ((G 15 1).toInt + (G 15 4).toInt ≤ 79)) (hI : xI G) (sz : Nat) : Kv l yX3_closeMinuses wsX3_closeMinuses 2 61 0 0 D [.ref (a 15)] (xW K a G) (tK K) sz (fun (G' : gS) => (xI G') ∧ (gu_un xcd [1502, 1505, 1507, 3200] G G') ∧ ((∃ t, xQ (G 34) (G' 15 4).toInt (G' 15 6).toInt (G 15 7).toInt t ∧ 0 ≤ t)) ∧ (((G' 15 6).toInt ≤ (G 15 6).toInt)) ∧ ((sM (tkr (G 34) ((G 15 4).toInt).toNat) (G 15 6).toInt (tkr (G 32) ((G 15 1).toInt).toNat) = (tkr (G 34) ((G' 15 4).toInt).toNat, (G' 15 6).toInt, tkr (G' 32) ((G' 15 1).toInt).toNat))) ∧ (((G' 15 1).toInt + (G' 15 4).toInt = (G 15 1).toInt + (G 15 4).toInt))) (fun (G' : gS) => (xW K a G')) (fun _ => (tK K)) := by
  unfold Kv
  refine g_ofW (cc := cX3_closeMinuses) (lv := [(0, .ref (a 15))]) (by decide) rfl (Nat.le_of_ble_eq_true rfl) rfl ?_
  intro p e s m args below meth c A Q hA hQ F hr hnm
  have hts := F.2.2.2.2.1
  have w_0 : (Cond.fieldLink RX3 35 "QuietCut$Formula" "waits" "I").before args s = true := hts _ (List.mem_of_getElem? (i := 1) rfl)
  have i_X3 : ∀ w ∈ u_ws RX3 TX3 9, w ∈ wsX3_closeMinuses := fun _ h => List.mem_cons_of_mem _ (List.mem_append_right _ h)
  have w_1 : (Cond.fieldLink RX3 18 "QuietCut$Formula" "waiting" "[I").before args s = true := hts _ (List.mem_of_getElem? (i := 2) rfl)
  have w_2 : (Cond.fieldLink RX3 41 "QuietCut$Formula" "open" "I").before args s = true := hts _ (List.mem_of_getElem? (i := 3) rfl)
  have b1 : (0 : Int) ≤ (G 15 1).toInt ∧ (G 15 1).toInt ≤ 80 := hI 15 1
  have b2 : (0 : Int) ≤ (G 15 4).toInt ∧ (G 15 4).toInt ≤ 16 := hI 15 4
  have J_0 : ∀ (fuel : Nat) (Gj0 : gS), ((Gj0 15 4).toInt).toNat < fuel → (xI Gj0) → (gu_un xcd [1502, 1505, 1507, 3200] G Gj0) → (sM (tkr (G 34) ((Gj0 15 4).toInt).toNat) (Gj0 15 6).toInt (tkr (Gj0 32) ((Gj0 15 1).toInt).toNat) = sM (tkr (G 34) ((G 15 4).toInt).toNat) (G 15 6).toInt (tkr (G 32) ((G 15 1).toInt).toNat)) → (((Gj0 15 1).toInt + (Gj0 15 4).toInt = (G 15 1).toInt + (G 15 4).toInt)) → ((∃ t, xQ (G 34) (Gj0 15 4).toInt (Gj0 15 6).toInt (G 15 7).toInt t)) → (((Gj0 15 6).toInt ≤ (G 15 6).toInt)) → gG p l e (gR 2 0 0 61) s m args below meth c D A 1 Q 0 0 (xW K a Gj0) (tK K) [(0, .ref (a 15))] 0 [] := by
    intro fuel
    induction fuel with
    | zero => intro Gj0 hm; exact absurd hm (Nat.not_lt_zero _)
    | succ fuel_0 ih_0 =>
      intro Gj0 hm_0 jI0 jU0 cm0 cn cq0 co0
      refine g_aload_n F 0 dX3_closeMinuses_0 rfl rfl ?_
      refine xg_15_4 F i_X3 w_0 dX3_closeMinuses_1 (Gj0 15 4) (rfl) ?_
      have b3 : (0 : Int) ≤ (Gj0 15 4).toInt ∧ (Gj0 15 4).toInt ≤ 16 := jI0 15 4
      refine v_if_le F 52 dX3_closeMinuses_4 (by decide) (Gj0 15 4).toInt rfl (fun c4 => ?_) (fun c4 => ?_)
      · have b5 : (0 : Int) ≤ (Gj0 15 1).toInt ∧ (Gj0 15 1).toInt ≤ 80 := jI0 15 1
        exact u_vret F hA hQ hr Gj0 (⟨jI0, (gu_un.tr gu_un.rf (gu_un.su jU0 rfl)), (by obtain ⟨t9, h1⟩ := cq0; exact ⟨t9, h1, h1.topM (fun h3 => by omega)⟩), (by show ((Gj0 15 6).toInt ≤ (G 15 6).toInt); (first | omega | (simp only [Int32.reduceToInt, true_and, and_true, ne_eq, not_true_eq_false, false_and, or_false, false_or, true_or, or_true, false_implies] <;> omega))), (sM_end cm0 (fun h9 => by omega)), (by show ((Gj0 15 1).toInt + (Gj0 15 4).toInt = (G 15 1).toInt + (G 15 4).toInt); (first | omega | (simp only [Int32.reduceToInt, true_and, and_true, ne_eq, not_true_eq_false, false_and, or_false, false_or, true_or, or_true, false_implies] <;> omega)))⟩) rfl rfl dX3_closeMinuses_52
      · refine g_aload_n F 0 dX3_closeMinuses_7 rfl rfl ?_
        refine xg_15_3 F i_X3 w_1 dX3_closeMinuses_8 ?_
        refine g_aload_n F 0 dX3_closeMinuses_11 rfl rfl ?_
        refine xg_15_4 F i_X3 w_0 dX3_closeMinuses_12 (Gj0 15 4) (rfl) ?_
        refine g_iconst F 1 dX3_closeMinuses_15 (by decide) ?_
        refine u_isub F dX3_closeMinuses_16 (Gj0 15 4).toInt 1 rfl rfl (by omega) (by omega) (fun y6 ey6 => ?_)
        refine u1_iald F 34 0 xc_34 rfl y6.toInt rfl (by omega) (by omega) dX3_closeMinuses_17 ((G 34) (((Gj0 15 4).toInt - 1)).toNat) (by rw [show y6.toInt = ((Gj0 15 4).toInt - 1) by omega]; exact congrFun ((show Gj0 34 = G 34 from funext fun k_ => jU0 34 k_ (show (3400 : Nat) ∉ ([1502, 1505, 1507, 3200] : List Nat) by decide))) _) ?_
        refine g_bipush F (-3) dX3_closeMinuses_18 (by decide) ?_
        refine v_icmp_ne F 52 dX3_closeMinuses_20 (by decide) ((G 34) (((Gj0 15 4).toInt - 1)).toNat).toInt (-3) rfl rfl (fun c7 => ?_) (fun c7 => ?_)
        · have b8 : (0 : Int) ≤ (Gj0 15 1).toInt ∧ (Gj0 15 1).toInt ≤ 80 := jI0 15 1
          exact u_vret F hA hQ hr Gj0 (⟨jI0, (gu_un.tr gu_un.rf (gu_un.su jU0 rfl)), (by obtain ⟨t9, h1⟩ := cq0; exact ⟨t9, h1, h1.topM (fun h3 => by omega)⟩), (by show ((Gj0 15 6).toInt ≤ (G 15 6).toInt); (first | omega | (simp only [Int32.reduceToInt, true_and, and_true, ne_eq, not_true_eq_false, false_and, or_false, false_or, true_or, or_true, false_implies] <;> omega))), (sM_end cm0 (fun h9 => by omega)), (by show ((Gj0 15 1).toInt + (Gj0 15 4).toInt = (G 15 1).toInt + (G 15 4).toInt); (first | omega | (simp only [Int32.reduceToInt, true_and, and_true, ne_eq, not_true_eq_false, false_and, or_false, false_or, true_or, or_true, false_implies] <;> omega)))⟩) rfl rfl dX3_closeMinuses_52
        · have pm : ∃ t, xQ (G 34) ((Gj0 15 4).toInt - 1) ((Gj0 15 6).toInt - 1) (G 15 7).toInt t := by obtain ⟨t9, h1⟩ := cq0; exact h1.popM (by omega) (by omega)
          have pr9 := ti_rng (Gj0 15 6)
          have pl : 1 ≤ (Gj0 15 6).toInt := by obtain ⟨t9, h1⟩ := pm; have h2 := h1.le; omega
          refine g_aload_n F 0 dX3_closeMinuses_23 rfl rfl ?_
          refine g_dup F dX3_closeMinuses_24 rfl ?_
          refine xg_15_4 F i_X3 w_0 dX3_closeMinuses_25 (Gj0 15 4) (rfl) ?_
          refine g_iconst F 1 dX3_closeMinuses_28 (by decide) ?_
          refine u_isub F dX3_closeMinuses_29 (Gj0 15 4).toInt 1 rfl rfl (by omega) (by omega) (fun y9 ey9 => ?_)
          refine xp_15_4 F i_X3 w_0 dX3_closeMinuses_30 ?_
          refine g_aload_n F 0 dX3_closeMinuses_33 rfl rfl ?_
          refine g_dup F dX3_closeMinuses_34 rfl ?_
          refine xg_15_6 F i_X3 w_2 dX3_closeMinuses_35 (Gj0 15 6) (rfl) ?_
          refine g_iconst F 1 dX3_closeMinuses_38 (by decide) ?_
          refine u_isubc F dX3_closeMinuses_39 (Gj0 15 6).toInt 1 rfl rfl (fun y10 ey10 => ?_)
          refine xp_15_6 F i_X3 w_2 dX3_closeMinuses_40 ?_
          refine g_aload_n F 0 dX3_closeMinuses_43 rfl rfl ?_
          refine g_bipush F (-3) dX3_closeMinuses_44 (by decide) ?_
          refine u_callVv (k := 0) (n := 0) (b := a 15) (As := [.int (-3)]) (st := []) F (fun sz => S_X3_putCode_15 l D K a (gu_up (gu_up Gj0 15 4 y9) 15 6 y10) (-3) (-3) rfl (gu_I.up (j := 15) (k := 6) (v := y10) (gu_I.up (j := 15) (k := 4) (v := y9) jI0 (show (0 : Int) ≤ Int32.toInt y9 by omega) (show Int32.toInt y9 ≤ 16 by omega)) (ti_rng _).1 (ti_rng _).2) sz) (cwV 1 hts gX3_closeMinuses_X3_putCode rfl rfl rfl (by decide +kernel) ⟨Nat.le_of_ble_eq_true rfl, Nat.le_of_ble_eq_true rfl⟩) rfl 15 xc_15 rfl (Nat.le_of_ble_eq_true rfl) ⟨Nat.zero_le _, Nat.zero_le _⟩ dX3_closeMinuses_46 (fun G13 hw12 => ?_)
          have hI14 : xI G13 := hw12.1
          have hU15 : gu_un xcd [1502, 3200] (gu_up (gu_up Gj0 15 4 y9) 15 6 y10) G13 := hw12.2.1
          have hp16 := hw12.2.2
          have b17 : (0 : Int) ≤ (Gj0 15 1).toInt ∧ (Gj0 15 1).toInt ≤ 80 := jI0 15 1
          have b18 : (0 : Int) ≤ (G13 15 1).toInt ∧ (G13 15 1).toInt ≤ 80 := hI14 15 1
          have q19 : ((Gj0 15 1).toInt ≤ 79 → (G13 32 = upd (Gj0 32) ((Gj0 15 1).toInt).toNat (-3) ∧ (G13 15 1).toInt = (Gj0 15 1).toInt + 1)) := hp16
          clear hp16 hw12
          refine g_goto F 0 dX3_closeMinuses_49 (by decide) ?_
          exact ih_0 G13 (by have e9_15_4 : G13 15 4 = y9 := hU15 15 4 (by decide); (try simp only [e9_15_4, true_and, and_true]) <;> omega) hI14 (gu_un.tr (gu_un.up (j := 15) (k := 6) (v := y10) (gu_un.up (j := 15) (k := 4) (v := y9) (gu_un.tr gu_un.rf (gu_un.su jU0 rfl)) (show (1505 : Nat) ∈ ([1502, 1505, 1507, 3200] : List Nat) by decide)) (show (1507 : Nat) ∈ ([1502, 1505, 1507, 3200] : List Nat) by decide)) (gu_un.su hU15 rfl)) (by have e4 : (G13 15 4).toInt = (Gj0 15 4).toInt - 1 := (by rw [show G13 15 4 = y9 from hU15 15 4 (by decide)]; omega); have e6 : (G13 15 6).toInt = (Gj0 15 6).toInt - 1 := (by rw [show G13 15 6 = y10 from hU15 15 6 (by decide)]; omega); exact sM_step (w := (Gj0 15 4).toInt) (o := (Gj0 15 6).toInt) (l := (Gj0 15 1).toInt) cm0 (by omega) e4 (by rw [e4]; omega) e6 (by omega) (q19 (by omega)).1 (q19 (by omega)).2 rfl) (by have e9_15_4 : G13 15 4 = y9 := hU15 15 4 (by decide); (try simp only [e9_15_4, true_and, and_true]) <;> omega) (by obtain ⟨t9, h1⟩ := pm; exact ⟨t9, h1.cast rfl (show (G13 15 4).toInt = _ by rw [show G13 15 4 = y9 from hU15 15 4 (by decide)]; omega) (show (G13 15 6).toInt = _ by rw [show G13 15 6 = y10 from hU15 15 6 (by decide)]; omega) rfl⟩) (by have e9_15_6 : G13 15 6 = y10 := hU15 15 6 (by decide); (try simp only [e9_15_6, true_and, and_true]) <;> (first | omega | (simp only [Int32.reduceToInt, true_and, and_true, ne_eq, not_true_eq_false, false_and, or_false, false_or, true_or, or_true, false_implies] <;> omega)))
  exact J_0 _ G (Nat.lt_succ_self _) hI gu_un.rf (rfl) (by omega) (cq) (by (first | omega | (simp only [Int32.reduceToInt, true_and, and_true, ne_eq, not_true_eq_false, false_and, or_false, false_or, true_or, or_true, false_implies] <;> omega)))


set_option maxHeartbeats 4000000 in
set_option maxRecDepth 100000 in
theorem S_X3_takeOperand_15 (l : Launch) (D : va_G) (K : Nat → ClassId) (a : Nat → Nat) (G : gS) (p0 : Int32) (s0 : Int) (e0 : p0.toInt = s0) (fi : xFi 15 34 G) (wo : ((G 15 8).toInt ≠ 0)) (nl : (((G 15 8).toInt = 0 ∧ (G 15 1).toInt + (G 15 4).toInt ≤ 6 * (G 15 5).toInt) ∨ ((G 15 8).toInt ≠ 0 ∧ (G 15 1).toInt + (G 15 4).toInt ≤ 6 * (G 15 5).toInt + 1 + (G 15 6).toInt))) (hI : xI G) (sz : Nat) : Ki l yX3_takeOperand wsX3_takeOperand 3 81 0 0 D [.ref (a 15), .int p0] (xW K a G) (tK K) sz (fun (r : Int32) (G' : gS) => (xI G') ∧ (gu_un xcd [1502, 1505, 1506, 1507, 1509, 3200] G G') ∧ (0 ≤ r.toInt ∧ r.toInt ≤ 4) ∧ (xFi 15 34 G') ∧ ((sR (sOp s0 (tkr (G 34) ((G 15 4).toInt).toNat) (G 15 6).toInt (G 15 7).toInt (G 15 5).toInt (tkr (G 32) ((G 15 1).toInt).toNat)) r.toInt (xS 15 32 34 G'))) ∧ ((((G' 15 8).toInt = 0 ∧ (G' 15 1).toInt + (G' 15 4).toInt ≤ 6 * (G' 15 5).toInt) ∨ ((G' 15 8).toInt ≠ 0 ∧ (G' 15 1).toInt + (G' 15 4).toInt ≤ 6 * (G' 15 5).toInt + 1 + (G' 15 6).toInt)))) (fun (G' : gS) => (xW K a G')) (fun _ => (tK K)) := by
  unfold Ki
  refine g_ofW (cc := cX3_takeOperand) (lv := [(0, .ref (a 15)), (1, .int p0)]) (by decide) rfl (Nat.le_of_ble_eq_true rfl) rfl ?_
  intro p e s m args below meth c A Q hA hQ F hr hnm
  have hts := F.2.2.2.2.1
  have w_0 : (Cond.fieldLink RX3 38 "QuietCut$Formula" "operands" "I").before args s = true := hts _ (List.mem_of_getElem? (i := 1) rfl)
  have i_X3 : ∀ w ∈ u_ws RX3 TX3 9, w ∈ wsX3_takeOperand := fun _ h => List.mem_cons_of_mem _ (List.mem_append_right _ h)
  have w_1 : (Cond.fieldLink RX3 47 "QuietCut$Formula" "wantsOperand" "Z").before args s = true := hts _ (List.mem_of_getElem? (i := 2) rfl)
  have rg0 : -2147483648 ≤ s0 ∧ s0 ≤ 2147483647 := e0 ▸ ti_rng p0
  have b1 : (0 : Int) ≤ (G 15 1).toInt ∧ (G 15 1).toInt ≤ 80 := hI 15 1
  have b2 : (0 : Int) ≤ (G 15 4).toInt ∧ (G 15 4).toInt ≤ 16 := hI 15 4
  have b3 : (0 : Int) ≤ (G 15 5).toInt ∧ (G 15 5).toInt ≤ 12 := hI 15 5
  have b4 : (0 : Int) ≤ (G 15 8).toInt ∧ (G 15 8).toInt ≤ 1 := hI 15 8
  obtain ⟨⟨t9, f1, f2⟩, f3⟩ := id fi
  have f4 := f1.le
  refine g_aload_n F 0 dX3_takeOperand_0 rfl rfl ?_
  refine xg_15_5 F i_X3 w_0 dX3_takeOperand_1 (G 15 5) (rfl) ?_
  refine g_bipush F 12 dX3_takeOperand_4 (by decide) ?_
  refine v_icmp_lt F 11 dX3_takeOperand_6 (by decide) (G 15 5).toInt 12 rfl rfl (fun c5 => ?_) (fun c5 => ?_)
  · refine g_aload_n F 0 dX3_takeOperand_11 rfl rfl ?_
    refine g_dup F dX3_takeOperand_12 rfl ?_
    refine xg_15_5 F i_X3 w_0 dX3_takeOperand_13 (G 15 5) (rfl) ?_
    refine g_iconst F 1 dX3_takeOperand_16 (by decide) ?_
    refine u_iadd F dX3_takeOperand_17 (G 15 5).toInt 1 rfl rfl (by omega) (by omega) (fun y6 ey6 => ?_)
    refine xp_15_5 F i_X3 w_0 dX3_takeOperand_18 ?_
    refine g_aload_n F 0 dX3_takeOperand_21 rfl rfl ?_
    refine g_iload_n F 1 dX3_takeOperand_22 rfl rfl ?_
    refine u_callVv (k := 0) (n := 0) (b := a 15) (As := [.int p0]) (st := []) F (fun sz => S_X3_putCode_15 l D K a (gu_up G 15 5 y6) p0 s0 e0 (gu_I.up (j := 15) (k := 5) (v := y6) hI (show (0 : Int) ≤ Int32.toInt y6 by omega) (show Int32.toInt y6 ≤ 12 by omega)) sz) (cwV 1 hts gX3_takeOperand_X3_putCode rfl rfl rfl (by decide +kernel) ⟨Nat.le_of_ble_eq_true rfl, Nat.le_of_ble_eq_true rfl⟩) rfl 15 xc_15 rfl (Nat.le_of_ble_eq_true rfl) ⟨Nat.zero_le _, Nat.zero_le _⟩ dX3_takeOperand_23 (fun G9 hw8 => ?_)
    have hI10 : xI G9 := hw8.1
    have hU11 : gu_un xcd [1502, 3200] (gu_up G 15 5 y6) G9 := hw8.2.1
    have hp12 := hw8.2.2
    have b13 : (0 : Int) ≤ (G9 15 1).toInt ∧ (G9 15 1).toInt ≤ 80 := hI10 15 1
    have q14 : ((G 15 1).toInt ≤ 79 → (G9 32 = upd (G 32) ((G 15 1).toInt).toNat p0 ∧ (G9 15 1).toInt = (G 15 1).toInt + 1)) := hp12
    clear hp12 hw8
    refine g_aload_n F 0 dX3_takeOperand_26 rfl rfl ?_
    refine u_callVv (k := 0) (n := 0) (b := a 15) (As := []) (st := []) F (fun sz => S_X3_closeMinuses_15 l D K a G9  (by obtain ⟨⟨t8, h1, -⟩, -⟩ := (show xFi 15 34 G9 from (xFi.un fi (show gu_un xcd [1502, 1506, 3200] G G9 from (gu_un.tr (gu_un.up (j := 15) (k := 5) (v := y6) gu_un.rf (show (1506 : Nat) ∈ ([1502, 1506, 3200] : List Nat) by decide)) (gu_un.su hU11 rfl))) rfl (fun _ => rfl))); exact ⟨t8, h1⟩) (by have e9_15_4 : G9 15 4 = (G 15 4) := hU11 15 4 (by decide); (try simp only [e9_15_4, true_and, and_true]) <;> (first | omega | (simp only [Int32.reduceToInt, true_and, and_true, ne_eq, not_true_eq_false, false_and, or_false, false_or, true_or, or_true, false_implies] <;> omega))) hI10 sz) (cwV 0 hts gX3_takeOperand_X3_closeMinuses rfl rfl rfl (by decide +kernel) ⟨Nat.le_of_ble_eq_true rfl, Nat.le_of_ble_eq_true rfl⟩) rfl 15 xc_15 rfl (Nat.le_of_ble_eq_true rfl) ⟨Nat.zero_le _, Nat.zero_le _⟩ dX3_takeOperand_27 (fun G17 hw16 => ?_)
    have hI18 : xI G17 := hw16.1
    have hU19 : gu_un xcd [1502, 1505, 1507, 3200] G9 G17 := hw16.2.1
    have hp20 := hw16.2.2
    have b21 : (0 : Int) ≤ (G17 15 4).toInt ∧ (G17 15 4).toInt ≤ 16 := hI18 15 4
    have q22 : (∃ t, xQ (G 34) (G17 15 4).toInt (G17 15 6).toInt (G 15 7).toInt t ∧ 0 ≤ t) := by have h9 := hp20.1; (try simp only [(show G9 15 7 = (G 15 7) from hU11 15 7 (by decide)), (show G9 34 = (G 34) from (show G9 34 = (gu_up G 15 5 y6) 34 from funext fun k_ => hU11 34 k_ (show (3400 : Nat) ∉ ([1502, 3200] : List Nat) by decide)))] at h9); first | exact h9 | omega
    have q23 : ((G17 15 6).toInt ≤ (G 15 6).toInt) := by have h9 := hp20.2.1; (try simp only [(show G9 15 6 = (G 15 6) from hU11 15 6 (by decide))] at h9); first | exact h9 | omega
    have b24 : (0 : Int) ≤ (G17 15 1).toInt ∧ (G17 15 1).toInt ≤ 80 := hI18 15 1
    have q25 : (sM (tkr (G 34) ((G 15 4).toInt).toNat) (G 15 6).toInt (tkr (G9 32) ((G9 15 1).toInt).toNat) = (tkr (G 34) ((G17 15 4).toInt).toNat, (G17 15 6).toInt, tkr (G17 32) ((G17 15 1).toInt).toNat)) := by have h9 := hp20.2.2.1; (try simp only [(show G9 15 4 = (G 15 4) from hU11 15 4 (by decide)), (show G9 15 6 = (G 15 6) from hU11 15 6 (by decide)), (show G9 34 = (G 34) from (show G9 34 = (gu_up G 15 5 y6) 34 from funext fun k_ => hU11 34 k_ (show (3400 : Nat) ∉ ([1502, 3200] : List Nat) by decide))), (show G9 34 = (G 34) from (show G9 34 = (gu_up G 15 5 y6) 34 from funext fun k_ => hU11 34 k_ (show (3400 : Nat) ∉ ([1502, 3200] : List Nat) by decide)))] at h9); first | exact h9 | omega
    have q26 : ((G17 15 1).toInt + (G17 15 4).toInt = (G9 15 1).toInt + (G 15 4).toInt) := by have h9 := hp20.2.2.2; (try simp only [(show G9 15 4 = (G 15 4) from hU11 15 4 (by decide))] at h9); first | exact h9 | omega
    clear hp20 hw16
    refine g_aload_n F 0 dX3_takeOperand_30 rfl rfl ?_
    refine g_iconst F 0 dX3_takeOperand_31 (by decide) ?_
    refine xp_15_8 F i_X3 w_1 dX3_takeOperand_32 (by decide) ?_
    refine g_iconst F 0 dX3_takeOperand_35 (by decide) ?_
    exact u_iret F hA hQ hr (gu_up G17 15 8 0) (⟨(gu_I.up (j := 15) (k := 8) (v := 0) hI18 (show (0 : Int) ≤ (0 : Int32).toInt by decide) (show (0 : Int32).toInt ≤ 1 by decide)), (gu_un.up (j := 15) (k := 8) (v := 0) (gu_un.tr (gu_un.tr (gu_un.up (j := 15) (k := 5) (v := y6) gu_un.rf (show (1506 : Nat) ∈ ([1502, 1505, 1506, 1507, 1509, 3200] : List Nat) by decide)) (gu_un.su hU11 rfl)) (gu_un.su hU19 rfl)) (show (1509 : Nat) ∈ ([1502, 1505, 1506, 1507, 1509, 3200] : List Nat) by decide)), (by decide), (xFi.mk (w := 0) (by obtain ⟨t8, h1, h2⟩ := q22; exact ⟨t8, h1, fun _ => h2⟩) (by omega) (show (gu_up G17 15 8 0) 34 = _ from (show G17 34 = G9 34 from funext fun k_ => hU19 34 k_ (show (3400 : Nat) ∉ ([1502, 1505, 1507, 3200] : List Nat) by decide)).trans ((show G9 34 = (gu_up G 15 5 y6) 34 from funext fun k_ => hU11 34 k_ (show (3400 : Nat) ∉ ([1502, 3200] : List Nat) by decide)))) (show ((gu_up G17 15 8 0) 15 4).toInt = _ by rw [show (gu_up G17 15 8 0) 15 4 = (G17 15 4) from rfl]) (show ((gu_up G17 15 8 0) 15 6).toInt = _ by rw [show (gu_up G17 15 8 0) 15 6 = (G17 15 6) from rfl]) (show ((gu_up G17 15 8 0) 15 7).toInt = _ by rw [show (gu_up G17 15 8 0) 15 7 = (G 15 7) from (hU19 15 7 (by decide)).trans (hU11 15 7 (by decide))]) (show ((gu_up G17 15 8 0) 15 8).toInt = _ by rw [show (gu_up G17 15 8 0) 15 8 = 0 from rfl] <;> (first | rfl | omega))), (by rw [xS_of (rc := 32) (show ((gu_up G17 15 8 0) 15 8).toInt = 0 by rw [show (gu_up G17 15 8 0) 15 8 = 0 from rfl]; rfl) (show (gu_up G17 15 8 0) 34 = (G 34) from (show G17 34 = G9 34 from funext fun k_ => hU19 34 k_ (show (3400 : Nat) ∉ ([1502, 1505, 1507, 3200] : List Nat) by decide)).trans ((show G9 34 = (gu_up G 15 5 y6) 34 from funext fun k_ => hU11 34 k_ (show (3400 : Nat) ∉ ([1502, 3200] : List Nat) by decide)))) (show ((gu_up G17 15 8 0) 15 4).toInt = (G17 15 4).toInt from congrArg Int32.toInt (show (gu_up G17 15 8 0) 15 4 = (G17 15 4) from rfl)) (show ((gu_up G17 15 8 0) 15 6).toInt = (G17 15 6).toInt from congrArg Int32.toInt (show (gu_up G17 15 8 0) 15 6 = (G17 15 6) from rfl)) (show ((gu_up G17 15 8 0) 15 7).toInt = (G 15 7).toInt from congrArg Int32.toInt (show (gu_up G17 15 8 0) 15 7 = (G 15 7) from (hU19 15 7 (by decide)).trans (hU11 15 7 (by decide)))) (show ((gu_up G17 15 8 0) 15 5).toInt = y6.toInt from congrArg Int32.toInt (show (gu_up G17 15 8 0) 15 5 = y6 from (hU19 15 5 (by decide)).trans (hU11 15 5 (by decide)))) (show (gu_up G17 15 8 0) 32 = (G17 32) from rfl) (show ((gu_up G17 15 8 0) 15 1).toInt = (G17 15 1).toInt from congrArg Int32.toInt (show (gu_up G17 15 8 0) 15 1 = (G17 15 1) from rfl))]; exact (sOp_ok (by omega) (by omega) (by have h9 := q25; rw [(q14 (by omega)).1, tkr_push (by omega) (q14 (by omega)).2, e0] at h9; exact h9)).cast (by decide)), (by show ((((gu_up G17 15 8 0) 15 8).toInt = 0 ∧ ((gu_up G17 15 8 0) 15 1).toInt + ((gu_up G17 15 8 0) 15 4).toInt ≤ 6 * ((gu_up G17 15 8 0) 15 5).toInt) ∨ (((gu_up G17 15 8 0) 15 8).toInt ≠ 0 ∧ ((gu_up G17 15 8 0) 15 1).toInt + ((gu_up G17 15 8 0) 15 4).toInt ≤ 6 * ((gu_up G17 15 8 0) 15 5).toInt + 1 + ((gu_up G17 15 8 0) 15 6).toInt)); have e9_15_1 : (gu_up G17 15 8 0) 15 1 = (G17 15 1) := rfl; have e9_15_4 : (gu_up G17 15 8 0) 15 4 = (G17 15 4) := rfl; have e9_15_5 : (gu_up G17 15 8 0) 15 5 = y6 := (hU19 15 5 (by decide)).trans (hU11 15 5 (by decide)); have e9_15_6 : (gu_up G17 15 8 0) 15 6 = (G17 15 6) := rfl; have e9_15_8 : (gu_up G17 15 8 0) 15 8 = 0 := rfl; (try simp only [e9_15_1, e9_15_4, e9_15_5, e9_15_6, e9_15_8, true_and, and_true]) <;> (first | omega | (simp only [Int32.reduceToInt, true_and, and_true, ne_eq, not_true_eq_false, false_and, or_false, false_or, true_or, or_true, false_implies] <;> omega)))⟩) rfl rfl dX3_takeOperand_36
  · refine g_iconst F 4 dX3_takeOperand_9 (by decide) ?_
    exact u_iret F hA hQ hr G (⟨hI, gu_un.rf, (by decide), (fi), ((sOp_no (by omega)).cast (by decide)), (by show (((G 15 8).toInt = 0 ∧ (G 15 1).toInt + (G 15 4).toInt ≤ 6 * (G 15 5).toInt) ∨ ((G 15 8).toInt ≠ 0 ∧ (G 15 1).toInt + (G 15 4).toInt ≤ 6 * (G 15 5).toInt + 1 + (G 15 6).toInt)); (first | omega | (simp only [Int32.reduceToInt, true_and, and_true, ne_eq, not_true_eq_false, false_and, or_false, false_or, true_or, or_true, false_implies] <;> omega)))⟩) rfl rfl dX3_takeOperand_10


set_option maxHeartbeats 4000000 in
set_option maxRecDepth 100000 in
theorem S_X3_takeOpening_15_v40 (l : Launch) (D : va_G) (K : Nat → ClassId) (a : Nat → Nat) (G : gS) (fi : xFi 15 34 G) (wo : ((G 15 8).toInt ≠ 0)) (nl : (((G 15 8).toInt = 0 ∧ (G 15 1).toInt + (G 15 4).toInt ≤ 6 * (G 15 5).toInt) ∨ ((G 15 8).toInt ≠ 0 ∧ (G 15 1).toInt + (G 15 4).toInt ≤ 6 * (G 15 5).toInt + 1 + (G 15 6).toInt))) (hI : xI G) (sz : Nat) : Ki l yX3_takeOpening wsX3_takeOpening 2 61 0 0 D [.ref (a 15), .int 40] (xW K a G) (tK K) sz (fun (r : Int32) (G' : gS) => (xI G') ∧ (gu_un xcd [1505, 1507, 1508, 3400] G G') ∧ (0 ≤ r.toInt ∧ r.toInt ≤ 4) ∧ (xFi 15 34 G') ∧ ((∀ ls : Int, sR (sT ls 3 40 (G 15 8).toInt (tkr (G 34) ((G 15 4).toInt).toNat) (G 15 6).toInt (G 15 7).toInt (G 15 5).toInt (tkr (G 32) ((G 15 1).toInt).toNat)) r.toInt (xS 15 32 34 G'))) ∧ ((((G' 15 8).toInt = 0 ∧ (G' 15 1).toInt + (G' 15 4).toInt ≤ 6 * (G' 15 5).toInt) ∨ ((G' 15 8).toInt ≠ 0 ∧ (G' 15 1).toInt + (G' 15 4).toInt ≤ 6 * (G' 15 5).toInt + 1 + (G' 15 6).toInt)))) (fun (G' : gS) => (xW K a G')) (fun _ => (tK K)) := by
  unfold Ki
  refine g_ofW (cc := cX3_takeOpening) (lv := [(0, .ref (a 15)), (1, .int 40)]) (by decide) rfl (Nat.le_of_ble_eq_true rfl) rfl ?_
  intro p e s m args below meth c A Q hA hQ F hr hnm
  have hts := F.2.2.2.2.1
  have w_0 : (Cond.fieldLink RX3 41 "QuietCut$Formula" "open" "I").before args s = true := hts _ (List.mem_of_getElem? (i := 1) rfl)
  have i_X3 : ∀ w ∈ u_ws RX3 TX3 9, w ∈ wsX3_takeOpening := fun _ h => List.mem_cons_of_mem _ (List.mem_append_right _ h)
  have w_1 : (Cond.fieldLink RX3 44 "QuietCut$Formula" "parentheses" "I").before args s = true := hts _ (List.mem_of_getElem? (i := 2) rfl)
  have b1 : (0 : Int) ≤ (G 15 1).toInt ∧ (G 15 1).toInt ≤ 80 := hI 15 1
  have b2 : (0 : Int) ≤ (G 15 4).toInt ∧ (G 15 4).toInt ≤ 16 := hI 15 4
  have b3 : (0 : Int) ≤ (G 15 5).toInt ∧ (G 15 5).toInt ≤ 12 := hI 15 5
  have b4 : (0 : Int) ≤ (G 15 8).toInt ∧ (G 15 8).toInt ≤ 1 := hI 15 8
  obtain ⟨⟨t9, f1, f2⟩, f3⟩ := id fi
  have f4 := f1.le
  refine g_aload_n F 0 dX3_takeOpening_0 rfl rfl ?_
  refine xg_15_6 F i_X3 w_0 dX3_takeOpening_1 (G 15 6) (rfl) ?_
  refine g_iconst F 4 dX3_takeOpening_4 (by decide) ?_
  refine v_icmp_lt F 10 dX3_takeOpening_5 (by decide) (G 15 6).toInt 4 rfl rfl (fun c5 => ?_) (fun c5 => ?_)
  · refine g_aload_n F 0 dX3_takeOpening_10 rfl rfl ?_
    refine g_dup F dX3_takeOpening_11 rfl ?_
    refine xg_15_6 F i_X3 w_0 dX3_takeOpening_12 (G 15 6) (rfl) ?_
    refine g_iconst F 1 dX3_takeOpening_15 (by decide) ?_
    have b7 := ti_rng (G 15 6)
    refine u_iadd F dX3_takeOpening_16 (G 15 6).toInt 1 rfl rfl (by omega) (by omega) (fun y6 ey6 => ?_)
    refine xp_15_6 F i_X3 w_0 dX3_takeOpening_17 ?_
    refine g_iload_n F 1 dX3_takeOpening_20 rfl rfl ?_
    refine g_bipush F 40 dX3_takeOpening_21 (by decide) ?_
    refine v_icmp_ne F 36 dX3_takeOpening_23 (by decide) 40 40 rfl rfl (fun c8 => absurd c8 (by decide)) (fun c8 => ?_)
    refine g_aload_n F 0 dX3_takeOpening_26 rfl rfl ?_
    refine g_dup F dX3_takeOpening_27 rfl ?_
    refine xg_15_7 F i_X3 w_1 dX3_takeOpening_28 (G 15 7) (rfl) ?_
    refine g_iconst F 1 dX3_takeOpening_31 (by decide) ?_
    refine u_iaddc F dX3_takeOpening_32 (G 15 7).toInt 1 rfl rfl (fun y9 ey9 => ?_)
    refine xp_15_7 F i_X3 w_1 dX3_takeOpening_33 ?_
    refine g_aload_n F 0 dX3_takeOpening_36 rfl rfl ?_
    refine g_iload_n F 1 dX3_takeOpening_37 rfl rfl ?_
    refine u_callVv (k := 0) (n := 0) (b := a 15) (As := [.int 40]) (st := []) F (fun sz => S_X3_putWaiting_15 l D K a (gu_up (gu_up G 15 6 y6) 15 7 y9) 40 40 rfl (gu_I.up (j := 15) (k := 7) (v := y9) (gu_I.up (j := 15) (k := 6) (v := y6) hI (ti_rng _).1 (ti_rng _).2) (ti_rng _).1 (ti_rng _).2) sz) (cwV 1 hts gX3_takeOpening_X3_putWaiting rfl rfl rfl (by decide +kernel) ⟨Nat.le_of_ble_eq_true rfl, Nat.le_of_ble_eq_true rfl⟩) rfl 15 xc_15 rfl (Nat.le_of_ble_eq_true rfl) ⟨Nat.zero_le _, Nat.zero_le _⟩ dX3_takeOpening_38 (fun G12 hw11 => ?_)
    have hI13 : xI G12 := hw11.1
    have hU14 : gu_un xcd [1505, 3400] (gu_up (gu_up G 15 6 y6) 15 7 y9) G12 := hw11.2.1
    have hp15 := hw11.2.2
    have b16 : (0 : Int) ≤ (G12 15 4).toInt ∧ (G12 15 4).toInt ≤ 16 := hI13 15 4
    have q17 : ((G 15 4).toInt ≤ 15 → (G12 34 = upd (G 34) ((G 15 4).toInt).toNat 40 ∧ (G12 15 4).toInt = (G 15 4).toInt + 1)) := hp15
    clear hp15 hw11
    refine g_iconst F 0 dX3_takeOpening_41 (by decide) ?_
    exact u_iret F hA hQ hr G12 (⟨hI13, (gu_un.tr (gu_un.up (j := 15) (k := 7) (v := y9) (gu_un.up (j := 15) (k := 6) (v := y6) gu_un.rf (show (1507 : Nat) ∈ ([1505, 1507, 1508, 3400] : List Nat) by decide)) (show (1508 : Nat) ∈ ([1505, 1507, 1508, 3400] : List Nat) by decide)) (gu_un.su hU14 rfl)), (by decide), (xFi.mk (w := (G 15 8).toInt) (by exact ⟨0, f1.push.1 rfl, fun _ => by omega⟩) (by omega) (show G12 34 = _ from (q17 (by omega)).1) (show (G12 15 4).toInt = _ by rw [show G12 15 4 = (G12 15 4) from rfl] <;> (exact (q17 (by omega)).2)) (show (G12 15 6).toInt = _ by rw [show G12 15 6 = y6 from hU14 15 6 (by decide)] <;> (omega)) (show (G12 15 7).toInt = _ by rw [show G12 15 7 = y9 from hU14 15 7 (by decide)] <;> (first | rfl | omega)) (show (G12 15 8).toInt = _ by rw [show G12 15 8 = (G 15 8) from hU14 15 8 (by decide)])), (fun ls => by rw [xS_of (rc := 32) (show (G12 15 8).toInt = 1 by rw [show G12 15 8 = (G 15 8) from hU14 15 8 (by decide)]; omega) (show G12 34 = (G12 34) from rfl) (show (G12 15 4).toInt = (G12 15 4).toInt from congrArg Int32.toInt (show G12 15 4 = (G12 15 4) from rfl)) (show (G12 15 6).toInt = y6.toInt from congrArg Int32.toInt (show G12 15 6 = y6 from hU14 15 6 (by decide))) (show (G12 15 7).toInt = y9.toInt from congrArg Int32.toInt (show G12 15 7 = y9 from hU14 15 7 (by decide))) (show (G12 15 5).toInt = (G 15 5).toInt from congrArg Int32.toInt (show G12 15 5 = (G 15 5) from hU14 15 5 (by decide))) (show G12 32 = (G 32) from (show G12 32 = (gu_up (gu_up G 15 6 y6) 15 7 y9) 32 from funext fun k_ => hU14 32 k_ (show (3200 : Nat) ∉ ([1505, 3400] : List Nat) by decide))) (show (G12 15 1).toInt = (G 15 1).toInt from congrArg Int32.toInt (show G12 15 1 = (G 15 1) from hU14 15 1 (by decide)))]; exact (sT_op1 (by omega) (by omega) (by omega) (by omega) (by rw [(q17 (by omega)).1, tkr_push (by omega) (q17 (by omega)).2] <;> rfl)).cast (by decide)), (by show (((G12 15 8).toInt = 0 ∧ (G12 15 1).toInt + (G12 15 4).toInt ≤ 6 * (G12 15 5).toInt) ∨ ((G12 15 8).toInt ≠ 0 ∧ (G12 15 1).toInt + (G12 15 4).toInt ≤ 6 * (G12 15 5).toInt + 1 + (G12 15 6).toInt)); have e9_15_1 : G12 15 1 = (G 15 1) := hU14 15 1 (by decide); have e9_15_5 : G12 15 5 = (G 15 5) := hU14 15 5 (by decide); have e9_15_6 : G12 15 6 = y6 := hU14 15 6 (by decide); have e9_15_8 : G12 15 8 = (G 15 8) := hU14 15 8 (by decide); (try simp only [e9_15_1, e9_15_5, e9_15_6, e9_15_8, true_and, and_true]) <;> (first | omega | (simp only [Int32.reduceToInt, true_and, and_true, ne_eq, not_true_eq_false, false_and, or_false, false_or, true_or, or_true, false_implies] <;> omega)))⟩) rfl rfl dX3_takeOpening_42
  · refine g_iconst F 4 dX3_takeOpening_8 (by decide) ?_
    exact u_iret F hA hQ hr G (⟨hI, gu_un.rf, (by decide), (fi), (fun ls => (sT_op4 (by omega) (by decide) (by omega)).cast (by decide)), (by show (((G 15 8).toInt = 0 ∧ (G 15 1).toInt + (G 15 4).toInt ≤ 6 * (G 15 5).toInt) ∨ ((G 15 8).toInt ≠ 0 ∧ (G 15 1).toInt + (G 15 4).toInt ≤ 6 * (G 15 5).toInt + 1 + (G 15 6).toInt)); (first | omega | (simp only [Int32.reduceToInt, true_and, and_true, ne_eq, not_true_eq_false, false_and, or_false, false_or, true_or, or_true, false_implies] <;> omega)))⟩) rfl rfl dX3_takeOpening_9


set_option maxHeartbeats 4000000 in
set_option maxRecDepth 100000 in
theorem S_X3_takeOpening_15_m3 (l : Launch) (D : va_G) (K : Nat → ClassId) (a : Nat → Nat) (G : gS) (fi : xFi 15 34 G) (wo : ((G 15 8).toInt ≠ 0)) (nl : (((G 15 8).toInt = 0 ∧ (G 15 1).toInt + (G 15 4).toInt ≤ 6 * (G 15 5).toInt) ∨ ((G 15 8).toInt ≠ 0 ∧ (G 15 1).toInt + (G 15 4).toInt ≤ 6 * (G 15 5).toInt + 1 + (G 15 6).toInt))) (hI : xI G) (sz : Nat) : Ki l yX3_takeOpening wsX3_takeOpening 2 61 0 0 D [.ref (a 15), .int (-3)] (xW K a G) (tK K) sz (fun (r : Int32) (G' : gS) => (xI G') ∧ (gu_un xcd [1505, 1507, 3400] G G') ∧ (0 ≤ r.toInt ∧ r.toInt ≤ 4) ∧ (xFi 15 34 G') ∧ ((∀ ls : Int, sR (sT ls 3 45 (G 15 8).toInt (tkr (G 34) ((G 15 4).toInt).toNat) (G 15 6).toInt (G 15 7).toInt (G 15 5).toInt (tkr (G 32) ((G 15 1).toInt).toNat)) r.toInt (xS 15 32 34 G'))) ∧ ((((G' 15 8).toInt = 0 ∧ (G' 15 1).toInt + (G' 15 4).toInt ≤ 6 * (G' 15 5).toInt) ∨ ((G' 15 8).toInt ≠ 0 ∧ (G' 15 1).toInt + (G' 15 4).toInt ≤ 6 * (G' 15 5).toInt + 1 + (G' 15 6).toInt)))) (fun (G' : gS) => (xW K a G')) (fun _ => (tK K)) := by
  unfold Ki
  refine g_ofW (cc := cX3_takeOpening) (lv := [(0, .ref (a 15)), (1, .int (-3))]) (by decide) rfl (Nat.le_of_ble_eq_true rfl) rfl ?_
  intro p e s m args below meth c A Q hA hQ F hr hnm
  have hts := F.2.2.2.2.1
  have w_0 : (Cond.fieldLink RX3 41 "QuietCut$Formula" "open" "I").before args s = true := hts _ (List.mem_of_getElem? (i := 1) rfl)
  have i_X3 : ∀ w ∈ u_ws RX3 TX3 9, w ∈ wsX3_takeOpening := fun _ h => List.mem_cons_of_mem _ (List.mem_append_right _ h)
  have b1 : (0 : Int) ≤ (G 15 1).toInt ∧ (G 15 1).toInt ≤ 80 := hI 15 1
  have b2 : (0 : Int) ≤ (G 15 4).toInt ∧ (G 15 4).toInt ≤ 16 := hI 15 4
  have b3 : (0 : Int) ≤ (G 15 5).toInt ∧ (G 15 5).toInt ≤ 12 := hI 15 5
  have b4 : (0 : Int) ≤ (G 15 8).toInt ∧ (G 15 8).toInt ≤ 1 := hI 15 8
  obtain ⟨⟨t9, f1, f2⟩, f3⟩ := id fi
  have f4 := f1.le
  refine g_aload_n F 0 dX3_takeOpening_0 rfl rfl ?_
  refine xg_15_6 F i_X3 w_0 dX3_takeOpening_1 (G 15 6) (rfl) ?_
  refine g_iconst F 4 dX3_takeOpening_4 (by decide) ?_
  refine v_icmp_lt F 10 dX3_takeOpening_5 (by decide) (G 15 6).toInt 4 rfl rfl (fun c5 => ?_) (fun c5 => ?_)
  · refine g_aload_n F 0 dX3_takeOpening_10 rfl rfl ?_
    refine g_dup F dX3_takeOpening_11 rfl ?_
    refine xg_15_6 F i_X3 w_0 dX3_takeOpening_12 (G 15 6) (rfl) ?_
    refine g_iconst F 1 dX3_takeOpening_15 (by decide) ?_
    have b7 := ti_rng (G 15 6)
    refine u_iadd F dX3_takeOpening_16 (G 15 6).toInt 1 rfl rfl (by omega) (by omega) (fun y6 ey6 => ?_)
    refine xp_15_6 F i_X3 w_0 dX3_takeOpening_17 ?_
    refine g_iload_n F 1 dX3_takeOpening_20 rfl rfl ?_
    refine g_bipush F 40 dX3_takeOpening_21 (by decide) ?_
    refine v_icmp_ne F 36 dX3_takeOpening_23 (by decide) (-3) 40 rfl rfl (fun c8 => ?_) (fun c8 => absurd c8 (by decide))
    refine g_aload_n F 0 dX3_takeOpening_36 rfl rfl ?_
    refine g_iload_n F 1 dX3_takeOpening_37 rfl rfl ?_
    refine u_callVv (k := 0) (n := 0) (b := a 15) (As := [.int (-3)]) (st := []) F (fun sz => S_X3_putWaiting_15 l D K a (gu_up G 15 6 y6) (-3) (-3) rfl (gu_I.up (j := 15) (k := 6) (v := y6) hI (ti_rng _).1 (ti_rng _).2) sz) (cwV 1 hts gX3_takeOpening_X3_putWaiting rfl rfl rfl (by decide +kernel) ⟨Nat.le_of_ble_eq_true rfl, Nat.le_of_ble_eq_true rfl⟩) rfl 15 xc_15 rfl (Nat.le_of_ble_eq_true rfl) ⟨Nat.zero_le _, Nat.zero_le _⟩ dX3_takeOpening_38 (fun G11 hw10 => ?_)
    have hI12 : xI G11 := hw10.1
    have hU13 : gu_un xcd [1505, 3400] (gu_up G 15 6 y6) G11 := hw10.2.1
    have hp14 := hw10.2.2
    have b15 : (0 : Int) ≤ (G11 15 4).toInt ∧ (G11 15 4).toInt ≤ 16 := hI12 15 4
    have q16 : ((G 15 4).toInt ≤ 15 → (G11 34 = upd (G 34) ((G 15 4).toInt).toNat (-3) ∧ (G11 15 4).toInt = (G 15 4).toInt + 1)) := hp14
    clear hp14 hw10
    refine g_iconst F 0 dX3_takeOpening_41 (by decide) ?_
    exact u_iret F hA hQ hr G11 (⟨hI12, (gu_un.tr (gu_un.up (j := 15) (k := 6) (v := y6) gu_un.rf (show (1507 : Nat) ∈ ([1505, 1507, 3400] : List Nat) by decide)) (gu_un.su hU13 rfl)), (by decide), (xFi.mk (w := (G 15 8).toInt) (by exact ⟨-1, f1.push.2.1 rfl, fun h => absurd h wo⟩) (by omega) (show G11 34 = _ from (q16 (by omega)).1) (show (G11 15 4).toInt = _ by rw [show G11 15 4 = (G11 15 4) from rfl] <;> (exact (q16 (by omega)).2)) (show (G11 15 6).toInt = _ by rw [show G11 15 6 = y6 from hU13 15 6 (by decide)] <;> (omega)) (show (G11 15 7).toInt = _ by rw [show G11 15 7 = (G 15 7) from hU13 15 7 (by decide)] <;> (first | rfl | omega)) (show (G11 15 8).toInt = _ by rw [show G11 15 8 = (G 15 8) from hU13 15 8 (by decide)])), (fun ls => by rw [xS_of (rc := 32) (show (G11 15 8).toInt = 1 by rw [show G11 15 8 = (G 15 8) from hU13 15 8 (by decide)]; omega) (show G11 34 = (G11 34) from rfl) (show (G11 15 4).toInt = (G11 15 4).toInt from congrArg Int32.toInt (show G11 15 4 = (G11 15 4) from rfl)) (show (G11 15 6).toInt = y6.toInt from congrArg Int32.toInt (show G11 15 6 = y6 from hU13 15 6 (by decide))) (show (G11 15 7).toInt = (G 15 7).toInt from congrArg Int32.toInt (show G11 15 7 = (G 15 7) from hU13 15 7 (by decide))) (show (G11 15 5).toInt = (G 15 5).toInt from congrArg Int32.toInt (show G11 15 5 = (G 15 5) from hU13 15 5 (by decide))) (show G11 32 = (G 32) from (show G11 32 = (gu_up G 15 6 y6) 32 from funext fun k_ => hU13 32 k_ (show (3200 : Nat) ∉ ([1505, 3400] : List Nat) by decide))) (show (G11 15 1).toInt = (G 15 1).toInt from congrArg Int32.toInt (show G11 15 1 = (G 15 1) from hU13 15 1 (by decide)))]; exact (sT_op2 (by omega) (by omega) (by omega) (by rw [(q16 (by omega)).1, tkr_push (by omega) (q16 (by omega)).2] <;> rfl)).cast (by decide)), (by show (((G11 15 8).toInt = 0 ∧ (G11 15 1).toInt + (G11 15 4).toInt ≤ 6 * (G11 15 5).toInt) ∨ ((G11 15 8).toInt ≠ 0 ∧ (G11 15 1).toInt + (G11 15 4).toInt ≤ 6 * (G11 15 5).toInt + 1 + (G11 15 6).toInt)); have e9_15_1 : G11 15 1 = (G 15 1) := hU13 15 1 (by decide); have e9_15_5 : G11 15 5 = (G 15 5) := hU13 15 5 (by decide); have e9_15_6 : G11 15 6 = y6 := hU13 15 6 (by decide); have e9_15_8 : G11 15 8 = (G 15 8) := hU13 15 8 (by decide); (try simp only [e9_15_1, e9_15_5, e9_15_6, e9_15_8, true_and, and_true]) <;> (first | omega | (simp only [Int32.reduceToInt, true_and, and_true, ne_eq, not_true_eq_false, false_and, or_false, false_or, true_or, or_true, false_implies] <;> omega)))⟩) rfl rfl dX3_takeOpening_42
  · refine g_iconst F 4 dX3_takeOpening_8 (by decide) ?_
    exact u_iret F hA hQ hr G (⟨hI, gu_un.rf, (by decide), (fi), (fun ls => (sT_op4 (by omega) (by decide) (by omega)).cast (by decide)), (by show (((G 15 8).toInt = 0 ∧ (G 15 1).toInt + (G 15 4).toInt ≤ 6 * (G 15 5).toInt) ∨ ((G 15 8).toInt ≠ 0 ∧ (G 15 1).toInt + (G 15 4).toInt ≤ 6 * (G 15 5).toInt + 1 + (G 15 6).toInt)); (first | omega | (simp only [Int32.reduceToInt, true_and, and_true, ne_eq, not_true_eq_false, false_and, or_false, false_or, true_or, or_true, false_implies] <;> omega)))⟩) rfl rfl dX3_takeOpening_9


set_option maxHeartbeats 4000000 in
set_option maxRecDepth 100000 in
theorem S_X3_takeBehindOperand_15_1 (l : Launch) (D : va_G) (K : Nat → ClassId) (a : Nat → Nat) (G : gS) (fi : xFi 15 34 G) (wo : ((G 15 8).toInt = 0)) (nl : (((G 15 8).toInt = 0 ∧ (G 15 1).toInt + (G 15 4).toInt ≤ 6 * (G 15 5).toInt) ∨ ((G 15 8).toInt ≠ 0 ∧ (G 15 1).toInt + (G 15 4).toInt ≤ 6 * (G 15 5).toInt + 1 + (G 15 6).toInt))) (hI : xI G) (sz : Nat) : Ki l yX3_takeBehindOperand wsX3_takeBehindOperand 3 82 0 0 D [.ref (a 15), .ref (a 1)] (xW K a G) (tK K) sz (fun (r : Int32) (G' : gS) => (xI G') ∧ (gu_un xcd [1502, 1505, 1507, 1508, 1509, 3200, 3400] G G') ∧ (0 ≤ r.toInt ∧ r.toInt ≤ 1) ∧ (xFi 15 34 G') ∧ ((∀ ls : Int, sR (sT ls (G 1 3).toInt (G 1 5).toInt (G 15 8).toInt (tkr (G 34) ((G 15 4).toInt).toNat) (G 15 6).toInt (G 15 7).toInt (G 15 5).toInt (tkr (G 32) ((G 15 1).toInt).toNat)) r.toInt (xS 15 32 34 G'))) ∧ ((((G' 15 8).toInt = 0 ∧ (G' 15 1).toInt + (G' 15 4).toInt ≤ 6 * (G' 15 5).toInt) ∨ ((G' 15 8).toInt ≠ 0 ∧ (G' 15 1).toInt + (G' 15 4).toInt ≤ 6 * (G' 15 5).toInt + 1 + (G' 15 6).toInt))) ∧ ((r.toInt ≠ 0 ∨ (G 1 3).toInt ≠ 0))) (fun (G' : gS) => (xW K a G')) (fun _ => (tK K)) := by
  unfold Ki
  refine g_ofW (cc := cX3_takeBehindOperand) (lv := [(0, .ref (a 15)), (1, .ref (a 1))]) (by decide) rfl (Nat.le_of_ble_eq_true rfl) rfl ?_
  intro p e s m args below meth c A Q hA hQ F hr hnm
  have hts := F.2.2.2.2.1
  have w_0 : (Cond.fieldLink RX3 44 "QuietCut$Formula" "parentheses" "I").before args s = true := hts _ (List.mem_of_getElem? (i := 1) rfl)
  have i_X3 : ∀ w ∈ u_ws RX3 TX3 9, w ∈ wsX3_takeBehindOperand := fun _ h => List.mem_cons_of_mem _ (List.mem_append_left _ (List.mem_append_right _ h))
  have w_1 : (Cond.fieldLink RX3 68 "QuietCut$Tape" "kind" "I").before args s = true := hts _ (List.mem_of_getElem? (i := 4) rfl)
  have i_X10 : ∀ w ∈ u_ws RX10 TX10 6, w ∈ wsX3_takeBehindOperand := fun _ h => List.mem_cons_of_mem _ (List.mem_append_right _ h)
  have w_2 : (Cond.fieldLink RX3 71 "QuietCut$Tape" "value" "I").before args s = true := hts _ (List.mem_of_getElem? (i := 5) rfl)
  have w_3 : (Cond.fieldLink RX3 47 "QuietCut$Formula" "wantsOperand" "Z").before args s = true := hts _ (List.mem_of_getElem? (i := 6) rfl)
  have w_4 : (Cond.fieldLink RX3 35 "QuietCut$Formula" "waits" "I").before args s = true := hts _ (List.mem_of_getElem? (i := 2) rfl)
  have w_5 : (Cond.fieldLink RX3 41 "QuietCut$Formula" "open" "I").before args s = true := hts _ (List.mem_of_getElem? (i := 3) rfl)
  have b1 : (0 : Int) ≤ (G 15 1).toInt ∧ (G 15 1).toInt ≤ 80 := hI 15 1
  have b2 : (0 : Int) ≤ (G 15 4).toInt ∧ (G 15 4).toInt ≤ 16 := hI 15 4
  have b3 : (0 : Int) ≤ (G 15 5).toInt ∧ (G 15 5).toInt ≤ 12 := hI 15 5
  have b4 : (0 : Int) ≤ (G 15 8).toInt ∧ (G 15 8).toInt ≤ 1 := hI 15 8
  obtain ⟨⟨t9, f1, f2⟩, f3⟩ := id fi
  have f4 := f1.le
  refine g_aload_n F 1 dX3_takeBehindOperand_0 rfl rfl ?_
  refine g_bipush F 41 dX3_takeBehindOperand_1 (by decide) ?_
  refine u_callVi (k := 0) (n := 0) (b := a 1) (As := [.int 41]) (st := []) F (fun sz => S_X10_isSign l D K a G 41 41 rfl hI sz) (cwV 1 hts gX3_takeBehindOperand_X10_isSign rfl rfl rfl (by decide +kernel) ⟨Nat.le_of_ble_eq_true rfl, Nat.le_of_ble_eq_true rfl⟩) rfl 1 xc_1 rfl (Nat.le_of_ble_eq_true rfl) ⟨Nat.zero_le _, Nat.zero_le _⟩ dX3_takeBehindOperand_3 (fun r5 _ hw6 => ?_)
  rcases hw6 with ⟨rfl, q8⟩ | ⟨rfl, q9⟩
  · have b10 : (0 : Int) ≤ (G 1 3).toInt ∧ (G 1 3).toInt ≤ 4 := hI 1 3
    have q8 : ((G 1 3).toInt = 3 ∧ (G 1 5).toInt = (41 : Int)) := q8
    refine v_if_eq F 57 dX3_takeBehindOperand_6 (by decide) 1 rfl (fun c11 => absurd c11 (by decide)) (fun c11 => ?_)
    refine g_aload_n F 0 dX3_takeBehindOperand_9 rfl rfl ?_
    refine xg_15_7 F i_X3 w_0 dX3_takeBehindOperand_10 (G 15 7) (rfl) ?_
    refine v_if_le F 57 dX3_takeBehindOperand_13 (by decide) (G 15 7).toInt rfl (fun c12 => ?_) (fun c12 => ?_)
    · refine g_aload_n F 1 dX3_takeBehindOperand_57 rfl rfl ?_
      refine xg_1_3 F i_X10 w_1 dX3_takeBehindOperand_58 (G 1 3) (rfl) ?_
      refine g_iconst F 3 dX3_takeBehindOperand_61 (by decide) ?_
      refine v_icmp_ne F 75 dX3_takeBehindOperand_62 (by decide) (G 1 3).toInt 3 rfl rfl (fun c13 => ?_) (fun c13 => ?_)
      · refine g_iconst F 0 dX3_takeBehindOperand_75 (by decide) ?_
        refine g_istore_n F [(2, .int 0), (0, .ref (a 15)), (1, .ref (a 1))] dX3_takeBehindOperand_76 rfl (by decide) rfl ?_
        refine g_iload_n F 0 dX3_takeBehindOperand_77 rfl rfl ?_
        refine v_if_ne F 83 dX3_takeBehindOperand_78 (by decide) 0 rfl (fun c14 => absurd c14 (by decide)) (fun c14 => ?_)
        refine g_iconst F 1 dX3_takeBehindOperand_81 (by decide) ?_
        exact u_iret F hA hQ hr G (⟨hI, gu_un.rf, (by decide), (fi), (fun ls => (sT_off (by omega) (by omega) (fun h9 => by omega)).cast (by decide)), (by show (((G 15 8).toInt = 0 ∧ (G 15 1).toInt + (G 15 4).toInt ≤ 6 * (G 15 5).toInt) ∨ ((G 15 8).toInt ≠ 0 ∧ (G 15 1).toInt + (G 15 4).toInt ≤ 6 * (G 15 5).toInt + 1 + (G 15 6).toInt)); (first | omega | (simp only [Int32.reduceToInt, true_and, and_true, ne_eq, not_true_eq_false, false_and, or_false, false_or, true_or, or_true, false_implies] <;> omega))), (by show (1 ≠ 0 ∨ (G 1 3).toInt ≠ 0); (first | omega | (simp only [Int32.reduceToInt, true_and, and_true, ne_eq, not_true_eq_false, false_and, or_false, false_or, true_or, or_true, false_implies] <;> omega)))⟩) rfl rfl dX3_takeBehindOperand_82
      · refine g_aload_n F 1 dX3_takeBehindOperand_65 rfl rfl ?_
        refine xg_1_5 F i_X10 w_2 dX3_takeBehindOperand_66 (G 1 5) (rfl) ?_
        refine u_call0 (k := 0) (n := 0) (As := [.int (G 1 5)]) (st := []) F (fun sz => S_X3_strengthOf l D (G 1 5) (G 1 5).toInt rfl sz) (va_cwS 1 hts gX3_takeBehindOperand_X3_strengthOf rfl rfl rfl (by decide +kernel) ⟨Nat.le_of_ble_eq_true rfl, Nat.le_of_ble_eq_true rfl⟩) rfl (Nat.le_of_ble_eq_true rfl) ⟨Nat.zero_le _, Nat.zero_le _⟩ dX3_takeBehindOperand_69 (fun r15 _ hw16 => ?_)
        have q18 : (r15.toInt = xsg (G 1 5).toInt) := hw16.2
        have rg19 := hw16.1
        clear hw16
        refine g_goto F 76 dX3_takeBehindOperand_72 (by decide) ?_
        refine g_istore_n F [(2, .int r15), (0, .ref (a 15)), (1, .ref (a 1))] dX3_takeBehindOperand_76 rfl (by decide) rfl ?_
        refine g_iload_n F 0 dX3_takeBehindOperand_77 rfl rfl ?_
        refine v_if_ne F 83 dX3_takeBehindOperand_78 (by decide) r15.toInt rfl (fun c20 => ?_) (fun c20 => ?_)
        · refine g_aload_n F 1 dX3_takeBehindOperand_83 rfl rfl ?_
          refine g_iload_n F 0 dX3_takeBehindOperand_84 rfl rfl ?_
          refine u_callVv (k := 0) (n := 0) (b := a 15) (As := [.int r15]) (st := []) F (fun sz => S_X3_joinDownTo_15 l D K a G r15 r15.toInt rfl (by omega) (by exact ⟨t9, f1.cast rfl (congrArg Int32.toInt (show G 15 4 = (G 15 4) from rfl)) (congrArg Int32.toInt (show G 15 6 = (G 15 6) from rfl)) (congrArg Int32.toInt (show G 15 7 = (G 15 7) from rfl)), f2 wo⟩) (by (first | omega | (simp only [Int32.reduceToInt, true_and, and_true, ne_eq, not_true_eq_false, false_and, or_false, false_or, true_or, or_true, false_implies] <;> omega))) hI sz) (cwV 1 hts gX3_takeBehindOperand_X3_joinDownTo rfl rfl rfl (by decide +kernel) ⟨Nat.le_of_ble_eq_true rfl, Nat.le_of_ble_eq_true rfl⟩) rfl 15 xc_15 rfl (Nat.le_of_ble_eq_true rfl) ⟨Nat.zero_le _, Nat.zero_le _⟩ dX3_takeBehindOperand_85 (fun G23 hw22 => ?_)
          have hI24 : xI G23 := hw22.1
          have hU25 : gu_un xcd [1502, 1505, 3200] G G23 := hw22.2.1
          have hp26 := hw22.2.2
          have b27 : (0 : Int) ≤ (G23 15 4).toInt ∧ (G23 15 4).toInt ≤ 16 := hI24 15 4
          have q28 : (∃ t, xQ (G 34) (G23 15 4).toInt (G 15 6).toInt (G 15 7).toInt t ∧ 0 ≤ t ∧ t < r15.toInt) := hp26.1
          have b29 : (0 : Int) ≤ (G23 15 1).toInt ∧ (G23 15 1).toInt ≤ 80 := hI24 15 1
          have q30 : (sJ r15.toInt (tkr (G 34) ((G 15 4).toInt).toNat) (tkr (G 32) ((G 15 1).toInt).toNat) = (tkr (G 34) ((G23 15 4).toInt).toNat, tkr (G23 32) ((G23 15 1).toInt).toNat)) := hp26.2.1
          have q31 : ((G23 15 1).toInt + (G23 15 4).toInt = (G 15 1).toInt + (G 15 4).toInt) := hp26.2.2
          clear hp26 hw22
          obtain ⟨t8, j1, j2, j3⟩ := q28
          have j6 := j1.le
          refine g_aload_n F 1 dX3_takeBehindOperand_88 rfl rfl ?_
          refine g_aload_n F 2 dX3_takeBehindOperand_89 rfl rfl ?_
          refine xg_1_5 F i_X10 w_2 dX3_takeBehindOperand_90 (G 1 5) (hU25 1 5 (by decide)) ?_
          refine u_callVv (k := 0) (n := 0) (b := a 15) (As := [.int (G 1 5)]) (st := []) F (fun sz => S_X3_putWaiting_15 l D K a G23 (G 1 5) (G 1 5).toInt rfl hI24 sz) (cwV 1 hts gX3_takeBehindOperand_X3_putWaiting rfl rfl rfl (by decide +kernel) ⟨Nat.le_of_ble_eq_true rfl, Nat.le_of_ble_eq_true rfl⟩) rfl 15 xc_15 rfl (Nat.le_of_ble_eq_true rfl) ⟨Nat.zero_le _, Nat.zero_le _⟩ dX3_takeBehindOperand_93 (fun G34 hw33 => ?_)
          have hI35 : xI G34 := hw33.1
          have hU36 : gu_un xcd [1505, 3400] G23 G34 := hw33.2.1
          have hp37 := hw33.2.2
          have b38 : (0 : Int) ≤ (G34 15 4).toInt ∧ (G34 15 4).toInt ≤ 16 := hI35 15 4
          have q39 : ((G23 15 4).toInt ≤ 15 → (G34 34 = upd (G 34) ((G23 15 4).toInt).toNat (G 1 5) ∧ (G34 15 4).toInt = (G23 15 4).toInt + 1)) := by have h9 := hp37; (try simp only [(show G23 34 = (G 34) from (show G23 34 = G 34 from funext fun k_ => hU25 34 k_ (show (3400 : Nat) ∉ ([1502, 1505, 3200] : List Nat) by decide)))] at h9); first | exact h9 | omega
          clear hp37 hw33
          refine g_aload_n F 1 dX3_takeBehindOperand_96 rfl rfl ?_
          refine g_iconst F 1 dX3_takeBehindOperand_97 (by decide) ?_
          refine xp_15_8 F i_X3 w_3 dX3_takeBehindOperand_98 (by decide) ?_
          refine g_iconst F 0 dX3_takeBehindOperand_101 (by decide) ?_
          exact u_iret F hA hQ hr (gu_up G34 15 8 1) (⟨(gu_I.up (j := 15) (k := 8) (v := 1) hI35 (show (0 : Int) ≤ (1 : Int32).toInt by decide) (show (1 : Int32).toInt ≤ 1 by decide)), (gu_un.up (j := 15) (k := 8) (v := 1) (gu_un.tr (gu_un.tr gu_un.rf (gu_un.su hU25 rfl)) (gu_un.su hU36 rfl)) (show (1509 : Nat) ∈ ([1502, 1505, 1507, 1508, 1509, 3200, 3400] : List Nat) by decide)), (by decide), (xFi.mk (w := 1) (by exact ⟨_, j1.push.2.2 j2 (by omega), fun h => absurd h (by decide)⟩) (by omega) (show (gu_up G34 15 8 1) 34 = _ from (q39 (by omega)).1) (show ((gu_up G34 15 8 1) 15 4).toInt = _ by rw [show (gu_up G34 15 8 1) 15 4 = (G34 15 4) from rfl] <;> (exact (q39 (by omega)).2)) (show ((gu_up G34 15 8 1) 15 6).toInt = _ by rw [show (gu_up G34 15 8 1) 15 6 = (G 15 6) from (hU36 15 6 (by decide)).trans (hU25 15 6 (by decide))]) (show ((gu_up G34 15 8 1) 15 7).toInt = _ by rw [show (gu_up G34 15 8 1) 15 7 = (G 15 7) from (hU36 15 7 (by decide)).trans (hU25 15 7 (by decide))]) (show ((gu_up G34 15 8 1) 15 8).toInt = _ by rw [show (gu_up G34 15 8 1) 15 8 = 1 from rfl] <;> (rfl))), (fun ls => by rw [xS_of (rc := 32) (show ((gu_up G34 15 8 1) 15 8).toInt = 1 by rw [show (gu_up G34 15 8 1) 15 8 = 1 from rfl]; rfl) (show (gu_up G34 15 8 1) 34 = (G34 34) from rfl) (show ((gu_up G34 15 8 1) 15 4).toInt = (G34 15 4).toInt from congrArg Int32.toInt (show (gu_up G34 15 8 1) 15 4 = (G34 15 4) from rfl)) (show ((gu_up G34 15 8 1) 15 6).toInt = (G 15 6).toInt from congrArg Int32.toInt (show (gu_up G34 15 8 1) 15 6 = (G 15 6) from (hU36 15 6 (by decide)).trans (hU25 15 6 (by decide)))) (show ((gu_up G34 15 8 1) 15 7).toInt = (G 15 7).toInt from congrArg Int32.toInt (show (gu_up G34 15 8 1) 15 7 = (G 15 7) from (hU36 15 7 (by decide)).trans (hU25 15 7 (by decide)))) (show ((gu_up G34 15 8 1) 15 5).toInt = (G 15 5).toInt from congrArg Int32.toInt (show (gu_up G34 15 8 1) 15 5 = (G 15 5) from (hU36 15 5 (by decide)).trans (hU25 15 5 (by decide)))) (show (gu_up G34 15 8 1) 32 = (G23 32) from (show G34 32 = G23 32 from funext fun k_ => hU36 32 k_ (show (3200 : Nat) ∉ ([1505, 3400] : List Nat) by decide))) (show ((gu_up G34 15 8 1) 15 1).toInt = (G23 15 1).toInt from congrArg Int32.toInt (show (gu_up G34 15 8 1) 15 1 = (G23 15 1) from hU36 15 1 (by decide)))]; exact (sT_sign (by omega) (by omega) rfl (by omega) (by have h9 := q30; rw [show r15.toInt = xsg (G 1 5).toInt by omega] at h9; exact h9) (by rw [(q39 (by omega)).1, tkr_push (by omega) (q39 (by omega)).2])).cast (by decide)), (by show ((((gu_up G34 15 8 1) 15 8).toInt = 0 ∧ ((gu_up G34 15 8 1) 15 1).toInt + ((gu_up G34 15 8 1) 15 4).toInt ≤ 6 * ((gu_up G34 15 8 1) 15 5).toInt) ∨ (((gu_up G34 15 8 1) 15 8).toInt ≠ 0 ∧ ((gu_up G34 15 8 1) 15 1).toInt + ((gu_up G34 15 8 1) 15 4).toInt ≤ 6 * ((gu_up G34 15 8 1) 15 5).toInt + 1 + ((gu_up G34 15 8 1) 15 6).toInt)); have e9_15_1 : (gu_up G34 15 8 1) 15 1 = (G23 15 1) := hU36 15 1 (by decide); have e9_15_4 : (gu_up G34 15 8 1) 15 4 = (G34 15 4) := rfl; have e9_15_5 : (gu_up G34 15 8 1) 15 5 = (G 15 5) := (hU36 15 5 (by decide)).trans (hU25 15 5 (by decide)); have e9_15_6 : (gu_up G34 15 8 1) 15 6 = (G 15 6) := (hU36 15 6 (by decide)).trans (hU25 15 6 (by decide)); have e9_15_8 : (gu_up G34 15 8 1) 15 8 = 1 := rfl; (try simp only [e9_15_1, e9_15_4, e9_15_5, e9_15_6, e9_15_8, true_and, and_true]) <;> (first | omega | (simp only [Int32.reduceToInt, true_and, and_true, ne_eq, not_true_eq_false, false_and, or_false, false_or, true_or, or_true, false_implies] <;> omega))), (by show (0 ≠ 0 ∨ (G 1 3).toInt ≠ 0); (first | omega | (simp only [Int32.reduceToInt, true_and, and_true, ne_eq, not_true_eq_false, false_and, or_false, false_or, true_or, or_true, false_implies] <;> omega)))⟩) rfl rfl dX3_takeBehindOperand_102
        · refine g_iconst F 1 dX3_takeBehindOperand_81 (by decide) ?_
          exact u_iret F hA hQ hr G (⟨hI, gu_un.rf, (by decide), (fi), (fun ls => (sT_off (by omega) (by omega) (fun h9 => by omega)).cast (by decide)), (by show (((G 15 8).toInt = 0 ∧ (G 15 1).toInt + (G 15 4).toInt ≤ 6 * (G 15 5).toInt) ∨ ((G 15 8).toInt ≠ 0 ∧ (G 15 1).toInt + (G 15 4).toInt ≤ 6 * (G 15 5).toInt + 1 + (G 15 6).toInt)); (first | omega | (simp only [Int32.reduceToInt, true_and, and_true, ne_eq, not_true_eq_false, false_and, or_false, false_or, true_or, or_true, false_implies] <;> omega))), (by show (1 ≠ 0 ∨ (G 1 3).toInt ≠ 0); (first | omega | (simp only [Int32.reduceToInt, true_and, and_true, ne_eq, not_true_eq_false, false_and, or_false, false_or, true_or, or_true, false_implies] <;> omega)))⟩) rfl rfl dX3_takeBehindOperand_82
    · refine g_aload_n F 0 dX3_takeBehindOperand_16 rfl rfl ?_
      refine g_iconst F 1 dX3_takeBehindOperand_17 (by decide) ?_
      refine u_callVv (k := 0) (n := 0) (b := a 15) (As := [.int 1]) (st := []) F (fun sz => S_X3_joinDownTo_15 l D K a G 1 1 rfl (by decide) (by exact ⟨t9, f1.cast rfl (congrArg Int32.toInt (show G 15 4 = (G 15 4) from rfl)) (congrArg Int32.toInt (show G 15 6 = (G 15 6) from rfl)) (congrArg Int32.toInt (show G 15 7 = (G 15 7) from rfl)), f2 wo⟩) (by (first | omega | (simp only [Int32.reduceToInt, true_and, and_true, ne_eq, not_true_eq_false, false_and, or_false, false_or, true_or, or_true, false_implies] <;> omega))) hI sz) (cwV 1 hts gX3_takeBehindOperand_X3_joinDownTo rfl rfl rfl (by decide +kernel) ⟨Nat.le_of_ble_eq_true rfl, Nat.le_of_ble_eq_true rfl⟩) rfl 15 xc_15 rfl (Nat.le_of_ble_eq_true rfl) ⟨Nat.zero_le _, Nat.zero_le _⟩ dX3_takeBehindOperand_18 (fun G42 hw41 => ?_)
      have hI43 : xI G42 := hw41.1
      have hU44 : gu_un xcd [1502, 1505, 3200] G G42 := hw41.2.1
      have hp45 := hw41.2.2
      have b46 : (0 : Int) ≤ (G42 15 4).toInt ∧ (G42 15 4).toInt ≤ 16 := hI43 15 4
      have q47 : (∃ t, xQ (G 34) (G42 15 4).toInt (G 15 6).toInt (G 15 7).toInt t ∧ 0 ≤ t ∧ t < (1 : Int)) := hp45.1
      have b48 : (0 : Int) ≤ (G42 15 1).toInt ∧ (G42 15 1).toInt ≤ 80 := hI43 15 1
      have q49 : (sJ (1 : Int) (tkr (G 34) ((G 15 4).toInt).toNat) (tkr (G 32) ((G 15 1).toInt).toNat) = (tkr (G 34) ((G42 15 4).toInt).toNat, tkr (G42 32) ((G42 15 1).toInt).toNat)) := hp45.2.1
      have q50 : ((G42 15 1).toInt + (G42 15 4).toInt = (G 15 1).toInt + (G 15 4).toInt) := hp45.2.2
      clear hp45 hw41
      obtain ⟨t8, j1, j2, j3⟩ := q47
      obtain ⟨j4, j5⟩ := j1.popP (by omega) (by omega)
      have j6 := j1.le
      refine g_aload_n F 0 dX3_takeBehindOperand_21 rfl rfl ?_
      refine g_dup F dX3_takeBehindOperand_22 rfl ?_
      refine xg_15_4 F i_X3 w_4 dX3_takeBehindOperand_23 (G42 15 4) (rfl) ?_
      refine g_iconst F 1 dX3_takeBehindOperand_26 (by decide) ?_
      refine u_isub F dX3_takeBehindOperand_27 (G42 15 4).toInt 1 rfl rfl (by omega) (by omega) (fun y51 ey51 => ?_)
      refine xp_15_4 F i_X3 w_4 dX3_takeBehindOperand_28 ?_
      refine g_aload_n F 0 dX3_takeBehindOperand_31 rfl rfl ?_
      refine g_dup F dX3_takeBehindOperand_32 rfl ?_
      refine xg_15_7 F i_X3 w_0 dX3_takeBehindOperand_33 (G 15 7) (hU44 15 7 (by decide)) ?_
      refine g_iconst F 1 dX3_takeBehindOperand_36 (by decide) ?_
      have b53 := ti_rng (G 15 7)
      refine u_isub F dX3_takeBehindOperand_37 (G 15 7).toInt 1 rfl rfl (by omega) (by omega) (fun y52 ey52 => ?_)
      refine xp_15_7 F i_X3 w_0 dX3_takeBehindOperand_38 ?_
      refine g_aload_n F 0 dX3_takeBehindOperand_41 rfl rfl ?_
      refine g_dup F dX3_takeBehindOperand_42 rfl ?_
      refine xg_15_6 F i_X3 w_5 dX3_takeBehindOperand_43 (G 15 6) (hU44 15 6 (by decide)) ?_
      refine g_iconst F 1 dX3_takeBehindOperand_46 (by decide) ?_
      refine u_isubc F dX3_takeBehindOperand_47 (G 15 6).toInt 1 rfl rfl (fun y54 ey54 => ?_)
      refine xp_15_6 F i_X3 w_5 dX3_takeBehindOperand_48 ?_
      refine g_aload_n F 0 dX3_takeBehindOperand_51 rfl rfl ?_
      refine u_callVv (k := 0) (n := 0) (b := a 15) (As := []) (st := []) F (fun sz => S_X3_closeMinuses_15 l D K a (gu_up (gu_up (gu_up G42 15 4 y51) 15 7 y52) 15 6 y54)  (by obtain ⟨t7, h7⟩ := j5; exact ⟨t7, h7.cast (show (gu_up (gu_up (gu_up G42 15 4 y51) 15 7 y52) 15 6 y54) 34 = _ from (show G42 34 = G 34 from funext fun k_ => hU44 34 k_ (show (3400 : Nat) ∉ ([1502, 1505, 3200] : List Nat) by decide))) (show ((gu_up (gu_up (gu_up G42 15 4 y51) 15 7 y52) 15 6 y54) 15 4).toInt = _ by rw [show (gu_up (gu_up (gu_up G42 15 4 y51) 15 7 y52) 15 6 y54) 15 4 = y51 from rfl]; omega) (show ((gu_up (gu_up (gu_up G42 15 4 y51) 15 7 y52) 15 6 y54) 15 6).toInt = _ by rw [show (gu_up (gu_up (gu_up G42 15 4 y51) 15 7 y52) 15 6 y54) 15 6 = y54 from rfl]; omega) (show ((gu_up (gu_up (gu_up G42 15 4 y51) 15 7 y52) 15 6 y54) 15 7).toInt = _ by rw [show (gu_up (gu_up (gu_up G42 15 4 y51) 15 7 y52) 15 6 y54) 15 7 = y52 from rfl]; omega)⟩) (by have e9_15_1 : (gu_up (gu_up (gu_up G42 15 4 y51) 15 7 y52) 15 6 y54) 15 1 = (G42 15 1) := rfl; have e9_15_4 : (gu_up (gu_up (gu_up G42 15 4 y51) 15 7 y52) 15 6 y54) 15 4 = y51 := rfl; (try simp only [e9_15_1, e9_15_4, true_and, and_true]) <;> (first | omega | (simp only [Int32.reduceToInt, true_and, and_true, ne_eq, not_true_eq_false, false_and, or_false, false_or, true_or, or_true, false_implies] <;> omega))) (gu_I.up (j := 15) (k := 6) (v := y54) (gu_I.up (j := 15) (k := 7) (v := y52) (gu_I.up (j := 15) (k := 4) (v := y51) hI43 (show (0 : Int) ≤ Int32.toInt y51 by omega) (show Int32.toInt y51 ≤ 16 by omega)) (ti_rng _).1 (ti_rng _).2) (ti_rng _).1 (ti_rng _).2) sz) (cwV 0 hts gX3_takeBehindOperand_X3_closeMinuses rfl rfl rfl (by decide +kernel) ⟨Nat.le_of_ble_eq_true rfl, Nat.le_of_ble_eq_true rfl⟩) rfl 15 xc_15 rfl (Nat.le_of_ble_eq_true rfl) ⟨Nat.zero_le _, Nat.zero_le _⟩ dX3_takeBehindOperand_52 (fun G57 hw56 => ?_)
      have hI58 : xI G57 := hw56.1
      have hU59 : gu_un xcd [1502, 1505, 1507, 3200] (gu_up (gu_up (gu_up G42 15 4 y51) 15 7 y52) 15 6 y54) G57 := hw56.2.1
      have hp60 := hw56.2.2
      have b61 : (0 : Int) ≤ (G57 15 4).toInt ∧ (G57 15 4).toInt ≤ 16 := hI58 15 4
      have q62 : (∃ t, xQ (G 34) (G57 15 4).toInt (G57 15 6).toInt y52.toInt t ∧ 0 ≤ t) := by have h9 := hp60.1; (try simp only [(show (gu_up (gu_up (gu_up G42 15 4 y51) 15 7 y52) 15 6 y54) 34 = (G 34) from (show G42 34 = G 34 from funext fun k_ => hU44 34 k_ (show (3400 : Nat) ∉ ([1502, 1505, 3200] : List Nat) by decide)))] at h9); first | exact h9 | omega
      have q63 : ((G57 15 6).toInt ≤ y54.toInt) := hp60.2.1
      have b64 : (0 : Int) ≤ (G57 15 1).toInt ∧ (G57 15 1).toInt ≤ 80 := hI58 15 1
      have q65 : (sM (tkr (G 34) (y51.toInt).toNat) y54.toInt (tkr (G42 32) ((G42 15 1).toInt).toNat) = (tkr (G 34) ((G57 15 4).toInt).toNat, (G57 15 6).toInt, tkr (G57 32) ((G57 15 1).toInt).toNat)) := by have h9 := hp60.2.2.1; (try simp only [(show (gu_up (gu_up (gu_up G42 15 4 y51) 15 7 y52) 15 6 y54) 34 = (G 34) from (show G42 34 = G 34 from funext fun k_ => hU44 34 k_ (show (3400 : Nat) ∉ ([1502, 1505, 3200] : List Nat) by decide))), (show (gu_up (gu_up (gu_up G42 15 4 y51) 15 7 y52) 15 6 y54) 34 = (G 34) from (show G42 34 = G 34 from funext fun k_ => hU44 34 k_ (show (3400 : Nat) ∉ ([1502, 1505, 3200] : List Nat) by decide)))] at h9); first | exact h9 | omega
      have q66 : ((G57 15 1).toInt + (G57 15 4).toInt = (G42 15 1).toInt + y51.toInt) := hp60.2.2.2
      clear hp60 hw56
      refine g_iconst F 0 dX3_takeBehindOperand_55 (by decide) ?_
      exact u_iret F hA hQ hr G57 (⟨hI58, (gu_un.tr (gu_un.up (j := 15) (k := 6) (v := y54) (gu_un.up (j := 15) (k := 7) (v := y52) (gu_un.up (j := 15) (k := 4) (v := y51) (gu_un.tr gu_un.rf (gu_un.su hU44 rfl)) (show (1505 : Nat) ∈ ([1502, 1505, 1507, 1508, 1509, 3200, 3400] : List Nat) by decide)) (show (1508 : Nat) ∈ ([1502, 1505, 1507, 1508, 1509, 3200, 3400] : List Nat) by decide)) (show (1507 : Nat) ∈ ([1502, 1505, 1507, 1508, 1509, 3200, 3400] : List Nat) by decide)) (gu_un.su hU59 rfl)), (by decide), (xFi.mk (w := 0) (by obtain ⟨t8, h1, h2⟩ := q62; exact ⟨t8, h1, fun _ => h2⟩) (by omega) (show G57 34 = _ from (show G57 34 = (gu_up (gu_up (gu_up G42 15 4 y51) 15 7 y52) 15 6 y54) 34 from funext fun k_ => hU59 34 k_ (show (3400 : Nat) ∉ ([1502, 1505, 1507, 3200] : List Nat) by decide)).trans ((show G42 34 = G 34 from funext fun k_ => hU44 34 k_ (show (3400 : Nat) ∉ ([1502, 1505, 3200] : List Nat) by decide)))) (show (G57 15 4).toInt = _ by rw [show G57 15 4 = (G57 15 4) from rfl]) (show (G57 15 6).toInt = _ by rw [show G57 15 6 = (G57 15 6) from rfl]) (show (G57 15 7).toInt = _ by rw [show G57 15 7 = y52 from hU59 15 7 (by decide)]) (show (G57 15 8).toInt = _ by rw [show G57 15 8 = (G 15 8) from (hU59 15 8 (by decide)).trans (hU44 15 8 (by decide))] <;> (first | rfl | omega))), (fun ls => by rw [xS_of (rc := 32) (show (G57 15 8).toInt = 0 by rw [show G57 15 8 = (G 15 8) from (hU59 15 8 (by decide)).trans (hU44 15 8 (by decide))]; omega) (show G57 34 = (G 34) from (show G57 34 = (gu_up (gu_up (gu_up G42 15 4 y51) 15 7 y52) 15 6 y54) 34 from funext fun k_ => hU59 34 k_ (show (3400 : Nat) ∉ ([1502, 1505, 1507, 3200] : List Nat) by decide)).trans ((show G42 34 = G 34 from funext fun k_ => hU44 34 k_ (show (3400 : Nat) ∉ ([1502, 1505, 3200] : List Nat) by decide)))) (show (G57 15 4).toInt = (G57 15 4).toInt from congrArg Int32.toInt (show G57 15 4 = (G57 15 4) from rfl)) (show (G57 15 6).toInt = (G57 15 6).toInt from congrArg Int32.toInt (show G57 15 6 = (G57 15 6) from rfl)) (show (G57 15 7).toInt = y52.toInt from congrArg Int32.toInt (show G57 15 7 = y52 from hU59 15 7 (by decide))) (show (G57 15 5).toInt = (G 15 5).toInt from congrArg Int32.toInt (show G57 15 5 = (G 15 5) from (hU59 15 5 (by decide)).trans (hU44 15 5 (by decide)))) (show G57 32 = (G57 32) from rfl) (show (G57 15 1).toInt = (G57 15 1).toInt from congrArg Int32.toInt (show G57 15 1 = (G57 15 1) from rfl))]; exact (sT_close (by omega) (by omega) (by omega) (by omega) q49 (tkr_tail (by omega) (show y51.toInt = _ by omega)) (by omega) q65 (by omega)).cast (by decide)), (by show (((G57 15 8).toInt = 0 ∧ (G57 15 1).toInt + (G57 15 4).toInt ≤ 6 * (G57 15 5).toInt) ∨ ((G57 15 8).toInt ≠ 0 ∧ (G57 15 1).toInt + (G57 15 4).toInt ≤ 6 * (G57 15 5).toInt + 1 + (G57 15 6).toInt)); have e9_15_5 : G57 15 5 = (G 15 5) := (hU59 15 5 (by decide)).trans (hU44 15 5 (by decide)); have e9_15_8 : G57 15 8 = (G 15 8) := (hU59 15 8 (by decide)).trans (hU44 15 8 (by decide)); (try simp only [e9_15_5, e9_15_8, true_and, and_true]) <;> (first | omega | (simp only [Int32.reduceToInt, true_and, and_true, ne_eq, not_true_eq_false, false_and, or_false, false_or, true_or, or_true, false_implies] <;> omega))), (by show (0 ≠ 0 ∨ (G 1 3).toInt ≠ 0); (first | omega | (simp only [Int32.reduceToInt, true_and, and_true, ne_eq, not_true_eq_false, false_and, or_false, false_or, true_or, or_true, false_implies] <;> omega)))⟩) rfl rfl dX3_takeBehindOperand_56
  · have b67 : (0 : Int) ≤ (G 1 3).toInt ∧ (G 1 3).toInt ≤ 4 := hI 1 3
    have q9 : ((G 1 3).toInt ≠ 3 ∨ (G 1 5).toInt ≠ (41 : Int)) := q9
    refine v_if_eq F 57 dX3_takeBehindOperand_6 (by decide) 0 rfl (fun c68 => ?_) (fun c68 => absurd c68 (by decide))
    refine g_aload_n F 1 dX3_takeBehindOperand_57 rfl rfl ?_
    refine xg_1_3 F i_X10 w_1 dX3_takeBehindOperand_58 (G 1 3) (rfl) ?_
    refine g_iconst F 3 dX3_takeBehindOperand_61 (by decide) ?_
    refine v_icmp_ne F 75 dX3_takeBehindOperand_62 (by decide) (G 1 3).toInt 3 rfl rfl (fun c69 => ?_) (fun c69 => ?_)
    · refine g_iconst F 0 dX3_takeBehindOperand_75 (by decide) ?_
      refine g_istore_n F [(2, .int 0), (0, .ref (a 15)), (1, .ref (a 1))] dX3_takeBehindOperand_76 rfl (by decide) rfl ?_
      refine g_iload_n F 0 dX3_takeBehindOperand_77 rfl rfl ?_
      refine v_if_ne F 83 dX3_takeBehindOperand_78 (by decide) 0 rfl (fun c70 => absurd c70 (by decide)) (fun c70 => ?_)
      refine g_iconst F 1 dX3_takeBehindOperand_81 (by decide) ?_
      exact u_iret F hA hQ hr G (⟨hI, gu_un.rf, (by decide), (fi), (fun ls => (sT_off (by omega) (by omega) (fun h9 => by omega)).cast (by decide)), (by show (((G 15 8).toInt = 0 ∧ (G 15 1).toInt + (G 15 4).toInt ≤ 6 * (G 15 5).toInt) ∨ ((G 15 8).toInt ≠ 0 ∧ (G 15 1).toInt + (G 15 4).toInt ≤ 6 * (G 15 5).toInt + 1 + (G 15 6).toInt)); (first | omega | (simp only [Int32.reduceToInt, true_and, and_true, ne_eq, not_true_eq_false, false_and, or_false, false_or, true_or, or_true, false_implies] <;> omega))), (by show (1 ≠ 0 ∨ (G 1 3).toInt ≠ 0); (first | omega | (simp only [Int32.reduceToInt, true_and, and_true, ne_eq, not_true_eq_false, false_and, or_false, false_or, true_or, or_true, false_implies] <;> omega)))⟩) rfl rfl dX3_takeBehindOperand_82
    · refine g_aload_n F 1 dX3_takeBehindOperand_65 rfl rfl ?_
      refine xg_1_5 F i_X10 w_2 dX3_takeBehindOperand_66 (G 1 5) (rfl) ?_
      refine u_call0 (k := 0) (n := 0) (As := [.int (G 1 5)]) (st := []) F (fun sz => S_X3_strengthOf l D (G 1 5) (G 1 5).toInt rfl sz) (va_cwS 1 hts gX3_takeBehindOperand_X3_strengthOf rfl rfl rfl (by decide +kernel) ⟨Nat.le_of_ble_eq_true rfl, Nat.le_of_ble_eq_true rfl⟩) rfl (Nat.le_of_ble_eq_true rfl) ⟨Nat.zero_le _, Nat.zero_le _⟩ dX3_takeBehindOperand_69 (fun r71 _ hw72 => ?_)
      have q74 : (r71.toInt = xsg (G 1 5).toInt) := hw72.2
      have rg75 := hw72.1
      clear hw72
      refine g_goto F 76 dX3_takeBehindOperand_72 (by decide) ?_
      refine g_istore_n F [(2, .int r71), (0, .ref (a 15)), (1, .ref (a 1))] dX3_takeBehindOperand_76 rfl (by decide) rfl ?_
      refine g_iload_n F 0 dX3_takeBehindOperand_77 rfl rfl ?_
      refine v_if_ne F 83 dX3_takeBehindOperand_78 (by decide) r71.toInt rfl (fun c76 => ?_) (fun c76 => ?_)
      · refine g_aload_n F 1 dX3_takeBehindOperand_83 rfl rfl ?_
        refine g_iload_n F 0 dX3_takeBehindOperand_84 rfl rfl ?_
        refine u_callVv (k := 0) (n := 0) (b := a 15) (As := [.int r71]) (st := []) F (fun sz => S_X3_joinDownTo_15 l D K a G r71 r71.toInt rfl (by omega) (by exact ⟨t9, f1.cast rfl (congrArg Int32.toInt (show G 15 4 = (G 15 4) from rfl)) (congrArg Int32.toInt (show G 15 6 = (G 15 6) from rfl)) (congrArg Int32.toInt (show G 15 7 = (G 15 7) from rfl)), f2 wo⟩) (by (first | omega | (simp only [Int32.reduceToInt, true_and, and_true, ne_eq, not_true_eq_false, false_and, or_false, false_or, true_or, or_true, false_implies] <;> omega))) hI sz) (cwV 1 hts gX3_takeBehindOperand_X3_joinDownTo rfl rfl rfl (by decide +kernel) ⟨Nat.le_of_ble_eq_true rfl, Nat.le_of_ble_eq_true rfl⟩) rfl 15 xc_15 rfl (Nat.le_of_ble_eq_true rfl) ⟨Nat.zero_le _, Nat.zero_le _⟩ dX3_takeBehindOperand_85 (fun G79 hw78 => ?_)
        have hI80 : xI G79 := hw78.1
        have hU81 : gu_un xcd [1502, 1505, 3200] G G79 := hw78.2.1
        have hp82 := hw78.2.2
        have b83 : (0 : Int) ≤ (G79 15 4).toInt ∧ (G79 15 4).toInt ≤ 16 := hI80 15 4
        have q84 : (∃ t, xQ (G 34) (G79 15 4).toInt (G 15 6).toInt (G 15 7).toInt t ∧ 0 ≤ t ∧ t < r71.toInt) := hp82.1
        have b85 : (0 : Int) ≤ (G79 15 1).toInt ∧ (G79 15 1).toInt ≤ 80 := hI80 15 1
        have q86 : (sJ r71.toInt (tkr (G 34) ((G 15 4).toInt).toNat) (tkr (G 32) ((G 15 1).toInt).toNat) = (tkr (G 34) ((G79 15 4).toInt).toNat, tkr (G79 32) ((G79 15 1).toInt).toNat)) := hp82.2.1
        have q87 : ((G79 15 1).toInt + (G79 15 4).toInt = (G 15 1).toInt + (G 15 4).toInt) := hp82.2.2
        clear hp82 hw78
        obtain ⟨t8, j1, j2, j3⟩ := q84
        have j6 := j1.le
        refine g_aload_n F 1 dX3_takeBehindOperand_88 rfl rfl ?_
        refine g_aload_n F 2 dX3_takeBehindOperand_89 rfl rfl ?_
        refine xg_1_5 F i_X10 w_2 dX3_takeBehindOperand_90 (G 1 5) (hU81 1 5 (by decide)) ?_
        refine u_callVv (k := 0) (n := 0) (b := a 15) (As := [.int (G 1 5)]) (st := []) F (fun sz => S_X3_putWaiting_15 l D K a G79 (G 1 5) (G 1 5).toInt rfl hI80 sz) (cwV 1 hts gX3_takeBehindOperand_X3_putWaiting rfl rfl rfl (by decide +kernel) ⟨Nat.le_of_ble_eq_true rfl, Nat.le_of_ble_eq_true rfl⟩) rfl 15 xc_15 rfl (Nat.le_of_ble_eq_true rfl) ⟨Nat.zero_le _, Nat.zero_le _⟩ dX3_takeBehindOperand_93 (fun G90 hw89 => ?_)
        have hI91 : xI G90 := hw89.1
        have hU92 : gu_un xcd [1505, 3400] G79 G90 := hw89.2.1
        have hp93 := hw89.2.2
        have b94 : (0 : Int) ≤ (G90 15 4).toInt ∧ (G90 15 4).toInt ≤ 16 := hI91 15 4
        have q95 : ((G79 15 4).toInt ≤ 15 → (G90 34 = upd (G 34) ((G79 15 4).toInt).toNat (G 1 5) ∧ (G90 15 4).toInt = (G79 15 4).toInt + 1)) := by have h9 := hp93; (try simp only [(show G79 34 = (G 34) from (show G79 34 = G 34 from funext fun k_ => hU81 34 k_ (show (3400 : Nat) ∉ ([1502, 1505, 3200] : List Nat) by decide)))] at h9); first | exact h9 | omega
        clear hp93 hw89
        refine g_aload_n F 1 dX3_takeBehindOperand_96 rfl rfl ?_
        refine g_iconst F 1 dX3_takeBehindOperand_97 (by decide) ?_
        refine xp_15_8 F i_X3 w_3 dX3_takeBehindOperand_98 (by decide) ?_
        refine g_iconst F 0 dX3_takeBehindOperand_101 (by decide) ?_
        exact u_iret F hA hQ hr (gu_up G90 15 8 1) (⟨(gu_I.up (j := 15) (k := 8) (v := 1) hI91 (show (0 : Int) ≤ (1 : Int32).toInt by decide) (show (1 : Int32).toInt ≤ 1 by decide)), (gu_un.up (j := 15) (k := 8) (v := 1) (gu_un.tr (gu_un.tr gu_un.rf (gu_un.su hU81 rfl)) (gu_un.su hU92 rfl)) (show (1509 : Nat) ∈ ([1502, 1505, 1507, 1508, 1509, 3200, 3400] : List Nat) by decide)), (by decide), (xFi.mk (w := 1) (by exact ⟨_, j1.push.2.2 j2 (by omega), fun h => absurd h (by decide)⟩) (by omega) (show (gu_up G90 15 8 1) 34 = _ from (q95 (by omega)).1) (show ((gu_up G90 15 8 1) 15 4).toInt = _ by rw [show (gu_up G90 15 8 1) 15 4 = (G90 15 4) from rfl] <;> (exact (q95 (by omega)).2)) (show ((gu_up G90 15 8 1) 15 6).toInt = _ by rw [show (gu_up G90 15 8 1) 15 6 = (G 15 6) from (hU92 15 6 (by decide)).trans (hU81 15 6 (by decide))]) (show ((gu_up G90 15 8 1) 15 7).toInt = _ by rw [show (gu_up G90 15 8 1) 15 7 = (G 15 7) from (hU92 15 7 (by decide)).trans (hU81 15 7 (by decide))]) (show ((gu_up G90 15 8 1) 15 8).toInt = _ by rw [show (gu_up G90 15 8 1) 15 8 = 1 from rfl] <;> (rfl))), (fun ls => by rw [xS_of (rc := 32) (show ((gu_up G90 15 8 1) 15 8).toInt = 1 by rw [show (gu_up G90 15 8 1) 15 8 = 1 from rfl]; rfl) (show (gu_up G90 15 8 1) 34 = (G90 34) from rfl) (show ((gu_up G90 15 8 1) 15 4).toInt = (G90 15 4).toInt from congrArg Int32.toInt (show (gu_up G90 15 8 1) 15 4 = (G90 15 4) from rfl)) (show ((gu_up G90 15 8 1) 15 6).toInt = (G 15 6).toInt from congrArg Int32.toInt (show (gu_up G90 15 8 1) 15 6 = (G 15 6) from (hU92 15 6 (by decide)).trans (hU81 15 6 (by decide)))) (show ((gu_up G90 15 8 1) 15 7).toInt = (G 15 7).toInt from congrArg Int32.toInt (show (gu_up G90 15 8 1) 15 7 = (G 15 7) from (hU92 15 7 (by decide)).trans (hU81 15 7 (by decide)))) (show ((gu_up G90 15 8 1) 15 5).toInt = (G 15 5).toInt from congrArg Int32.toInt (show (gu_up G90 15 8 1) 15 5 = (G 15 5) from (hU92 15 5 (by decide)).trans (hU81 15 5 (by decide)))) (show (gu_up G90 15 8 1) 32 = (G79 32) from (show G90 32 = G79 32 from funext fun k_ => hU92 32 k_ (show (3200 : Nat) ∉ ([1505, 3400] : List Nat) by decide))) (show ((gu_up G90 15 8 1) 15 1).toInt = (G79 15 1).toInt from congrArg Int32.toInt (show (gu_up G90 15 8 1) 15 1 = (G79 15 1) from hU92 15 1 (by decide)))]; exact (sT_sign (by omega) (by omega) rfl (by omega) (by have h9 := q86; rw [show r71.toInt = xsg (G 1 5).toInt by omega] at h9; exact h9) (by rw [(q95 (by omega)).1, tkr_push (by omega) (q95 (by omega)).2])).cast (by decide)), (by show ((((gu_up G90 15 8 1) 15 8).toInt = 0 ∧ ((gu_up G90 15 8 1) 15 1).toInt + ((gu_up G90 15 8 1) 15 4).toInt ≤ 6 * ((gu_up G90 15 8 1) 15 5).toInt) ∨ (((gu_up G90 15 8 1) 15 8).toInt ≠ 0 ∧ ((gu_up G90 15 8 1) 15 1).toInt + ((gu_up G90 15 8 1) 15 4).toInt ≤ 6 * ((gu_up G90 15 8 1) 15 5).toInt + 1 + ((gu_up G90 15 8 1) 15 6).toInt)); have e9_15_1 : (gu_up G90 15 8 1) 15 1 = (G79 15 1) := hU92 15 1 (by decide); have e9_15_4 : (gu_up G90 15 8 1) 15 4 = (G90 15 4) := rfl; have e9_15_5 : (gu_up G90 15 8 1) 15 5 = (G 15 5) := (hU92 15 5 (by decide)).trans (hU81 15 5 (by decide)); have e9_15_6 : (gu_up G90 15 8 1) 15 6 = (G 15 6) := (hU92 15 6 (by decide)).trans (hU81 15 6 (by decide)); have e9_15_8 : (gu_up G90 15 8 1) 15 8 = 1 := rfl; (try simp only [e9_15_1, e9_15_4, e9_15_5, e9_15_6, e9_15_8, true_and, and_true]) <;> (first | omega | (simp only [Int32.reduceToInt, true_and, and_true, ne_eq, not_true_eq_false, false_and, or_false, false_or, true_or, or_true, false_implies] <;> omega))), (by show (0 ≠ 0 ∨ (G 1 3).toInt ≠ 0); (first | omega | (simp only [Int32.reduceToInt, true_and, and_true, ne_eq, not_true_eq_false, false_and, or_false, false_or, true_or, or_true, false_implies] <;> omega)))⟩) rfl rfl dX3_takeBehindOperand_102
      · refine g_iconst F 1 dX3_takeBehindOperand_81 (by decide) ?_
        exact u_iret F hA hQ hr G (⟨hI, gu_un.rf, (by decide), (fi), (fun ls => (sT_off (by omega) (by omega) (fun h9 => by omega)).cast (by decide)), (by show (((G 15 8).toInt = 0 ∧ (G 15 1).toInt + (G 15 4).toInt ≤ 6 * (G 15 5).toInt) ∨ ((G 15 8).toInt ≠ 0 ∧ (G 15 1).toInt + (G 15 4).toInt ≤ 6 * (G 15 5).toInt + 1 + (G 15 6).toInt)); (first | omega | (simp only [Int32.reduceToInt, true_and, and_true, ne_eq, not_true_eq_false, false_and, or_false, false_or, true_or, or_true, false_implies] <;> omega))), (by show (1 ≠ 0 ∨ (G 1 3).toInt ≠ 0); (first | omega | (simp only [Int32.reduceToInt, true_and, and_true, ne_eq, not_true_eq_false, false_and, or_false, false_or, true_or, or_true, false_implies] <;> omega)))⟩) rfl rfl dX3_takeBehindOperand_82


set_option maxHeartbeats 4000000 in
set_option maxRecDepth 100000 in
theorem S_X3_begin_15 (l : Launch) (D : va_G) (K : Nat → ClassId) (a : Nat → Nat) (G : gS) (hI : xI G) (sz : Nat) : Kv l yX3_begin wsX3_begin 1 40 0 0 D [.ref (a 15)] (xW K a G) (tK K) sz (fun (G' : gS) => (xI G') ∧ (gu_un xcd [1502, 1505, 1506, 1507, 1508, 1509] G G') ∧ (xFi 15 34 G') ∧ ((xS 15 32 34 G' = (1, [], 0, 0, 0, []))) ∧ ((((G' 15 8).toInt = 0 ∧ (G' 15 1).toInt + (G' 15 4).toInt ≤ 6 * (G' 15 5).toInt) ∨ ((G' 15 8).toInt ≠ 0 ∧ (G' 15 1).toInt + (G' 15 4).toInt ≤ 6 * (G' 15 5).toInt + 1 + (G' 15 6).toInt)))) (fun (G' : gS) => (xW K a G')) (fun _ => (tK K)) := by
  unfold Kv
  refine g_ofW (cc := cX3_begin) (lv := [(0, .ref (a 15))]) (by decide) rfl (Nat.le_of_ble_eq_true rfl) rfl ?_
  intro p e s m args below meth c A Q hA hQ F hr hnm
  have hts := F.2.2.2.2.1
  have w_0 : (Cond.fieldLink RX3 21 "QuietCut$Formula" "length" "I").before args s = true := hts _ (List.mem_of_getElem? (i := 1) rfl)
  have i_X3 : ∀ w ∈ u_ws RX3 TX3 9, w ∈ wsX3_begin := fun _ h => List.mem_cons_of_mem _ (List.mem_append_right _ h)
  have w_1 : (Cond.fieldLink RX3 35 "QuietCut$Formula" "waits" "I").before args s = true := hts _ (List.mem_of_getElem? (i := 2) rfl)
  have w_2 : (Cond.fieldLink RX3 38 "QuietCut$Formula" "operands" "I").before args s = true := hts _ (List.mem_of_getElem? (i := 3) rfl)
  have w_3 : (Cond.fieldLink RX3 41 "QuietCut$Formula" "open" "I").before args s = true := hts _ (List.mem_of_getElem? (i := 4) rfl)
  have w_4 : (Cond.fieldLink RX3 44 "QuietCut$Formula" "parentheses" "I").before args s = true := hts _ (List.mem_of_getElem? (i := 5) rfl)
  have w_5 : (Cond.fieldLink RX3 47 "QuietCut$Formula" "wantsOperand" "Z").before args s = true := hts _ (List.mem_of_getElem? (i := 6) rfl)
  refine g_aload_n F 0 dX3_begin_0 rfl rfl ?_
  refine g_iconst F 0 dX3_begin_1 (by decide) ?_
  refine xp_15_1 F i_X3 w_0 dX3_begin_2 ?_
  refine g_aload_n F 0 dX3_begin_5 rfl rfl ?_
  refine g_iconst F 0 dX3_begin_6 (by decide) ?_
  refine xp_15_4 F i_X3 w_1 dX3_begin_7 ?_
  refine g_aload_n F 0 dX3_begin_10 rfl rfl ?_
  refine g_iconst F 0 dX3_begin_11 (by decide) ?_
  refine xp_15_5 F i_X3 w_2 dX3_begin_12 ?_
  refine g_aload_n F 0 dX3_begin_15 rfl rfl ?_
  refine g_iconst F 0 dX3_begin_16 (by decide) ?_
  refine xp_15_6 F i_X3 w_3 dX3_begin_17 ?_
  refine g_aload_n F 0 dX3_begin_20 rfl rfl ?_
  refine g_iconst F 0 dX3_begin_21 (by decide) ?_
  refine xp_15_7 F i_X3 w_4 dX3_begin_22 ?_
  refine g_aload_n F 0 dX3_begin_25 rfl rfl ?_
  refine g_iconst F 1 dX3_begin_26 (by decide) ?_
  refine xp_15_8 F i_X3 w_5 dX3_begin_27 (by decide) ?_
  exact u_vret F hA hQ hr (gu_up (gu_up (gu_up (gu_up (gu_up (gu_up G 15 1 0) 15 4 0) 15 5 0) 15 6 0) 15 7 0) 15 8 1) (⟨(gu_I.up (j := 15) (k := 8) (v := 1) (gu_I.up (j := 15) (k := 7) (v := 0) (gu_I.up (j := 15) (k := 6) (v := 0) (gu_I.up (j := 15) (k := 5) (v := 0) (gu_I.up (j := 15) (k := 4) (v := 0) (gu_I.up (j := 15) (k := 1) (v := 0) hI (show (0 : Int) ≤ (0 : Int32).toInt by decide) (show (0 : Int32).toInt ≤ 80 by decide)) (show (0 : Int) ≤ (0 : Int32).toInt by decide) (show (0 : Int32).toInt ≤ 16 by decide)) (show (0 : Int) ≤ (0 : Int32).toInt by decide) (show (0 : Int32).toInt ≤ 12 by decide)) (ti_rng _).1 (ti_rng _).2) (ti_rng _).1 (ti_rng _).2) (show (0 : Int) ≤ (1 : Int32).toInt by decide) (show (1 : Int32).toInt ≤ 1 by decide)), (gu_un.up (j := 15) (k := 8) (v := 1) (gu_un.up (j := 15) (k := 7) (v := 0) (gu_un.up (j := 15) (k := 6) (v := 0) (gu_un.up (j := 15) (k := 5) (v := 0) (gu_un.up (j := 15) (k := 4) (v := 0) (gu_un.up (j := 15) (k := 1) (v := 0) gu_un.rf (show (1502 : Nat) ∈ ([1502, 1505, 1506, 1507, 1508, 1509] : List Nat) by decide)) (show (1505 : Nat) ∈ ([1502, 1505, 1506, 1507, 1508, 1509] : List Nat) by decide)) (show (1506 : Nat) ∈ ([1502, 1505, 1506, 1507, 1508, 1509] : List Nat) by decide)) (show (1507 : Nat) ∈ ([1502, 1505, 1506, 1507, 1508, 1509] : List Nat) by decide)) (show (1508 : Nat) ∈ ([1502, 1505, 1506, 1507, 1508, 1509] : List Nat) by decide)) (show (1509 : Nat) ∈ ([1502, 1505, 1506, 1507, 1508, 1509] : List Nat) by decide)), (xFi.mk (f := G 34) (n := 0) (o := 0) (p := 0) (w := 1) ⟨0, xQ.at0, fun _ => by omega⟩ (by decide) rfl rfl rfl rfl rfl), (rfl), (by show ((((gu_up (gu_up (gu_up (gu_up (gu_up (gu_up G 15 1 0) 15 4 0) 15 5 0) 15 6 0) 15 7 0) 15 8 1) 15 8).toInt = 0 ∧ ((gu_up (gu_up (gu_up (gu_up (gu_up (gu_up G 15 1 0) 15 4 0) 15 5 0) 15 6 0) 15 7 0) 15 8 1) 15 1).toInt + ((gu_up (gu_up (gu_up (gu_up (gu_up (gu_up G 15 1 0) 15 4 0) 15 5 0) 15 6 0) 15 7 0) 15 8 1) 15 4).toInt ≤ 6 * ((gu_up (gu_up (gu_up (gu_up (gu_up (gu_up G 15 1 0) 15 4 0) 15 5 0) 15 6 0) 15 7 0) 15 8 1) 15 5).toInt) ∨ (((gu_up (gu_up (gu_up (gu_up (gu_up (gu_up G 15 1 0) 15 4 0) 15 5 0) 15 6 0) 15 7 0) 15 8 1) 15 8).toInt ≠ 0 ∧ ((gu_up (gu_up (gu_up (gu_up (gu_up (gu_up G 15 1 0) 15 4 0) 15 5 0) 15 6 0) 15 7 0) 15 8 1) 15 1).toInt + ((gu_up (gu_up (gu_up (gu_up (gu_up (gu_up G 15 1 0) 15 4 0) 15 5 0) 15 6 0) 15 7 0) 15 8 1) 15 4).toInt ≤ 6 * ((gu_up (gu_up (gu_up (gu_up (gu_up (gu_up G 15 1 0) 15 4 0) 15 5 0) 15 6 0) 15 7 0) 15 8 1) 15 5).toInt + 1 + ((gu_up (gu_up (gu_up (gu_up (gu_up (gu_up G 15 1 0) 15 4 0) 15 5 0) 15 6 0) 15 7 0) 15 8 1) 15 6).toInt)); have e9_15_1 : (gu_up (gu_up (gu_up (gu_up (gu_up (gu_up G 15 1 0) 15 4 0) 15 5 0) 15 6 0) 15 7 0) 15 8 1) 15 1 = 0 := rfl; have e9_15_4 : (gu_up (gu_up (gu_up (gu_up (gu_up (gu_up G 15 1 0) 15 4 0) 15 5 0) 15 6 0) 15 7 0) 15 8 1) 15 4 = 0 := rfl; have e9_15_5 : (gu_up (gu_up (gu_up (gu_up (gu_up (gu_up G 15 1 0) 15 4 0) 15 5 0) 15 6 0) 15 7 0) 15 8 1) 15 5 = 0 := rfl; have e9_15_6 : (gu_up (gu_up (gu_up (gu_up (gu_up (gu_up G 15 1 0) 15 4 0) 15 5 0) 15 6 0) 15 7 0) 15 8 1) 15 6 = 0 := rfl; have e9_15_8 : (gu_up (gu_up (gu_up (gu_up (gu_up (gu_up G 15 1 0) 15 4 0) 15 5 0) 15 6 0) 15 7 0) 15 8 1) 15 8 = 1 := rfl; (try simp only [e9_15_1, e9_15_4, e9_15_5, e9_15_6, e9_15_8, true_and, and_true]) <;> (first | omega | (simp only [Int32.reduceToInt, true_and, and_true, ne_eq, not_true_eq_false, false_and, or_false, false_or, true_or, or_true, false_implies] <;> omega)))⟩) rfl rfl dX3_begin_30


set_option maxHeartbeats 4000000 in
set_option maxRecDepth 100000 in
theorem S_X3_putWaiting_16 (l : Launch) (D : va_G) (K : Nat → ClassId) (a : Nat → Nat) (G : gS) (p0 : Int32) (s0 : Int) (e0 : p0.toInt = s0) (hI : xI G) (sz : Nat) : Kv l yX3_putWaiting wsX3_putWaiting 1 40 0 0 D [.ref (a 16), .int p0] (xW K a G) (tK K) sz (fun (G' : gS) => (xI G') ∧ (gu_un xcd [1605, 3700] G G') ∧ (((G 16 4).toInt ≤ 15 → (G' 37 = upd (G 37) ((G 16 4).toInt).toNat p0 ∧ (G' 16 4).toInt = (G 16 4).toInt + 1)))) (fun (G' : gS) => (xW K a G')) (fun _ => (tK K)) := by
  unfold Kv
  refine g_ofW (cc := cX3_putWaiting) (lv := [(0, .ref (a 16)), (1, .int p0)]) (by decide) rfl (Nat.le_of_ble_eq_true rfl) rfl ?_
  intro p e s m args below meth c A Q hA hQ F hr hnm
  have hts := F.2.2.2.2.1
  have w_0 : (Cond.fieldLink RX3 35 "QuietCut$Formula" "waits" "I").before args s = true := hts _ (List.mem_of_getElem? (i := 1) rfl)
  have i_X3 : ∀ w ∈ u_ws RX3 TX3 9, w ∈ wsX3_putWaiting := fun _ h => List.mem_cons_of_mem _ (List.mem_append_right _ h)
  have w_1 : (Cond.fieldLink RX3 18 "QuietCut$Formula" "waiting" "[I").before args s = true := hts _ (List.mem_of_getElem? (i := 2) rfl)
  have rg0 : -2147483648 ≤ s0 ∧ s0 ≤ 2147483647 := e0 ▸ ti_rng p0
  refine g_aload_n F 0 dX3_putWaiting_0 rfl rfl ?_
  refine xg_16_4 F i_X3 w_0 dX3_putWaiting_1 (G 16 4) (rfl) ?_
  refine g_bipush F 16 dX3_putWaiting_4 (by decide) ?_
  have b1 : (0 : Int) ≤ (G 16 4).toInt ∧ (G 16 4).toInt ≤ 16 := hI 16 4
  refine v_icmp_ge F 29 dX3_putWaiting_6 (by decide) (G 16 4).toInt 16 rfl rfl (fun c2 => ?_) (fun c2 => ?_)
  · exact u_vret F hA hQ hr G (⟨hI, gu_un.rf, (fun h => absurd h (by omega))⟩) rfl rfl dX3_putWaiting_29
  · refine g_aload_n F 0 dX3_putWaiting_9 rfl rfl ?_
    refine xg_16_3 F i_X3 w_1 dX3_putWaiting_10 ?_
    refine g_aload_n F 0 dX3_putWaiting_13 rfl rfl ?_
    refine xg_16_4 F i_X3 w_0 dX3_putWaiting_14 (G 16 4) (rfl) ?_
    refine g_iload_n F 1 dX3_putWaiting_17 rfl rfl ?_
    refine u_iast F 37 0 xc_37 rfl (G 16 4).toInt rfl (by omega) (by omega) (xW K a (gu_up G 37 ((G 16 4).toInt).toNat p0)) (xs_37 _) dX3_putWaiting_18 ?_
    refine g_aload_n F 0 dX3_putWaiting_19 rfl rfl ?_
    refine g_dup F dX3_putWaiting_20 rfl ?_
    refine xg_16_4 F i_X3 w_0 dX3_putWaiting_21 (G 16 4) (rfl) ?_
    refine g_iconst F 1 dX3_putWaiting_24 (by decide) ?_
    refine u_iadd F dX3_putWaiting_25 (G 16 4).toInt 1 rfl rfl (by omega) (by omega) (fun y3 ey3 => ?_)
    refine xp_16_4 F i_X3 w_0 dX3_putWaiting_26 ?_
    exact u_vret F hA hQ hr (gu_up (gu_up G 37 ((G 16 4).toInt).toNat p0) 16 4 y3) (⟨(gu_I.up (j := 16) (k := 4) (v := y3) (gu_I.up (j := 37) (k := ((G 16 4).toInt).toNat) (v := p0) hI (ti_rng _).1 (ti_rng _).2) (show (0 : Int) ≤ Int32.toInt y3 by omega) (show Int32.toInt y3 ≤ 16 by omega)), (gu_un.up (j := 16) (k := 4) (v := y3) (gu_un.up (j := 37) (k := ((G 16 4).toInt).toNat) (v := p0) gu_un.rf (show (3700 : Nat) ∈ ([1605, 3700] : List Nat) by decide)) (show (1605 : Nat) ∈ ([1605, 3700] : List Nat) by decide)), (fun _ => ⟨rfl, show (y3 : Int32).toInt = _ by omega⟩)⟩) rfl rfl dX3_putWaiting_29


set_option maxHeartbeats 4000000 in
set_option maxRecDepth 100000 in
theorem S_X3_putCode_16 (l : Launch) (D : va_G) (K : Nat → ClassId) (a : Nat → Nat) (G : gS) (p0 : Int32) (s0 : Int) (e0 : p0.toInt = s0) (hI : xI G) (sz : Nat) : Kv l yX3_putCode wsX3_putCode 1 40 0 0 D [.ref (a 16), .int p0] (xW K a G) (tK K) sz (fun (G' : gS) => (xI G') ∧ (gu_un xcd [1602, 3500] G G') ∧ (((G 16 1).toInt ≤ 79 → (G' 35 = upd (G 35) ((G 16 1).toInt).toNat p0 ∧ (G' 16 1).toInt = (G 16 1).toInt + 1)))) (fun (G' : gS) => (xW K a G')) (fun _ => (tK K)) := by
  unfold Kv
  refine g_ofW (cc := cX3_putCode) (lv := [(0, .ref (a 16)), (1, .int p0)]) (by decide) rfl (Nat.le_of_ble_eq_true rfl) rfl ?_
  intro p e s m args below meth c A Q hA hQ F hr hnm
  have hts := F.2.2.2.2.1
  have w_0 : (Cond.fieldLink RX3 21 "QuietCut$Formula" "length" "I").before args s = true := hts _ (List.mem_of_getElem? (i := 1) rfl)
  have i_X3 : ∀ w ∈ u_ws RX3 TX3 9, w ∈ wsX3_putCode := fun _ h => List.mem_cons_of_mem _ (List.mem_append_right _ h)
  have w_1 : (Cond.fieldLink RX3 11 "QuietCut$Formula" "codes" "[I").before args s = true := hts _ (List.mem_of_getElem? (i := 2) rfl)
  have rg0 : -2147483648 ≤ s0 ∧ s0 ≤ 2147483647 := e0 ▸ ti_rng p0
  refine g_aload_n F 0 dX3_putCode_0 rfl rfl ?_
  refine xg_16_1 F i_X3 w_0 dX3_putCode_1 (G 16 1) (rfl) ?_
  refine g_bipush F 80 dX3_putCode_4 (by decide) ?_
  have b1 : (0 : Int) ≤ (G 16 1).toInt ∧ (G 16 1).toInt ≤ 80 := hI 16 1
  refine v_icmp_ge F 29 dX3_putCode_6 (by decide) (G 16 1).toInt 80 rfl rfl (fun c2 => ?_) (fun c2 => ?_)
  · exact u_vret F hA hQ hr G (⟨hI, gu_un.rf, (fun h => absurd h (by omega))⟩) rfl rfl dX3_putCode_29
  · refine g_aload_n F 0 dX3_putCode_9 rfl rfl ?_
    refine xg_16_0 F i_X3 w_1 dX3_putCode_10 ?_
    refine g_aload_n F 0 dX3_putCode_13 rfl rfl ?_
    refine xg_16_1 F i_X3 w_0 dX3_putCode_14 (G 16 1) (rfl) ?_
    refine g_iload_n F 1 dX3_putCode_17 rfl rfl ?_
    refine u_iast F 35 0 xc_35 rfl (G 16 1).toInt rfl (by omega) (by omega) (xW K a (gu_up G 35 ((G 16 1).toInt).toNat p0)) (xs_35 _) dX3_putCode_18 ?_
    refine g_aload_n F 0 dX3_putCode_19 rfl rfl ?_
    refine g_dup F dX3_putCode_20 rfl ?_
    refine xg_16_1 F i_X3 w_0 dX3_putCode_21 (G 16 1) (rfl) ?_
    refine g_iconst F 1 dX3_putCode_24 (by decide) ?_
    refine u_iadd F dX3_putCode_25 (G 16 1).toInt 1 rfl rfl (by omega) (by omega) (fun y3 ey3 => ?_)
    refine xp_16_1 F i_X3 w_0 dX3_putCode_26 ?_
    exact u_vret F hA hQ hr (gu_up (gu_up G 35 ((G 16 1).toInt).toNat p0) 16 1 y3) (⟨(gu_I.up (j := 16) (k := 1) (v := y3) (gu_I.up (j := 35) (k := ((G 16 1).toInt).toNat) (v := p0) hI (ti_rng _).1 (ti_rng _).2) (show (0 : Int) ≤ Int32.toInt y3 by omega) (show Int32.toInt y3 ≤ 80 by omega)), (gu_un.up (j := 16) (k := 1) (v := y3) (gu_un.up (j := 35) (k := ((G 16 1).toInt).toNat) (v := p0) gu_un.rf (show (3500 : Nat) ∈ ([1602, 3500] : List Nat) by decide)) (show (1602 : Nat) ∈ ([1602, 3500] : List Nat) by decide)), (fun _ => ⟨rfl, show (y3 : Int32).toInt = _ by omega⟩)⟩) rfl rfl dX3_putCode_29


set_option maxHeartbeats 4000000 in
set_option maxRecDepth 100000 in
theorem S_X3_joinDownTo_16 (l : Launch) (D : va_G) (K : Nat → ClassId) (a : Nat → Nat) (G : gS) (p0 : Int32) (s0 : Int) (e0 : p0.toInt = s0) (h0 : 1 ≤ s0 ∧ s0 ≤ 2) (jq : (∃ t, xQ (G 37) (G 16 4).toInt (G 16 6).toInt (G 16 7).toInt t ∧ 0 ≤ t)) (jl : ((G 16 1).toInt + (G 16 4).toInt ≤ 79)) (hI : xI G) (sz : Nat) : Kv l yX3_joinDownTo wsX3_joinDownTo 2 61 0 0 D [.ref (a 16), .int p0] (xW K a G) (tK K) sz (fun (G' : gS) => (xI G') ∧ (gu_un xcd [1602, 1605, 3500] G G') ∧ ((∃ t, xQ (G 37) (G' 16 4).toInt (G 16 6).toInt (G 16 7).toInt t ∧ 0 ≤ t ∧ t < s0)) ∧ ((sJ s0 (tkr (G 37) ((G 16 4).toInt).toNat) (tkr (G 35) ((G 16 1).toInt).toNat) = (tkr (G 37) ((G' 16 4).toInt).toNat, tkr (G' 35) ((G' 16 1).toInt).toNat))) ∧ (((G' 16 1).toInt + (G' 16 4).toInt = (G 16 1).toInt + (G 16 4).toInt))) (fun (G' : gS) => (xW K a G')) (fun _ => (tK K)) := by
  unfold Kv
  refine g_ofW (cc := cX3_joinDownTo) (lv := [(0, .ref (a 16)), (1, .int p0)]) (by decide) rfl (Nat.le_of_ble_eq_true rfl) rfl ?_
  intro p e s m args below meth c A Q hA hQ F hr hnm
  have hts := F.2.2.2.2.1
  have w_0 : (Cond.fieldLink RX3 35 "QuietCut$Formula" "waits" "I").before args s = true := hts _ (List.mem_of_getElem? (i := 1) rfl)
  have i_X3 : ∀ w ∈ u_ws RX3 TX3 9, w ∈ wsX3_joinDownTo := fun _ h => List.mem_cons_of_mem _ (List.mem_append_right _ h)
  have w_1 : (Cond.fieldLink RX3 18 "QuietCut$Formula" "waiting" "[I").before args s = true := hts _ (List.mem_of_getElem? (i := 2) rfl)
  have b1 : (0 : Int) ≤ (G 16 1).toInt ∧ (G 16 1).toInt ≤ 80 := hI 16 1
  have b2 : (0 : Int) ≤ (G 16 4).toInt ∧ (G 16 4).toInt ≤ 16 := hI 16 4
  have J_0 : ∀ (fuel : Nat) (Gj0 : gS), ((Gj0 16 4).toInt).toNat < fuel → (xI Gj0) → (gu_un xcd [1602, 1605, 3500] G Gj0) → ((∃ t, xQ (G 37) (Gj0 16 4).toInt (G 16 6).toInt (G 16 7).toInt t ∧ 0 ≤ t)) → (((Gj0 16 1).toInt + (Gj0 16 4).toInt = (G 16 1).toInt + (G 16 4).toInt)) → (sJ s0 (tkr (G 37) ((Gj0 16 4).toInt).toNat) (tkr (Gj0 35) ((Gj0 16 1).toInt).toNat) = sJ s0 (tkr (G 37) ((G 16 4).toInt).toNat) (tkr (G 35) ((G 16 1).toInt).toNat)) → gG p l e (gR 2 0 0 61) s m args below meth c D A 2 Q 0 0 (xW K a Gj0) (tK K) [(0, .ref (a 16)), (1, .int p0)] 0 [] := by
    intro fuel
    induction fuel with
    | zero => intro Gj0 hm; exact absurd hm (Nat.not_lt_zero _)
    | succ fuel_0 ih_0 =>
      intro Gj0 hm_0 jI0 jU0 jq0 jn jd0
      refine g_aload_n F 0 dX3_joinDownTo_0 rfl rfl ?_
      refine xg_16_4 F i_X3 w_0 dX3_joinDownTo_1 (Gj0 16 4) (rfl) ?_
      have b3 : (0 : Int) ≤ (Gj0 16 4).toInt ∧ (Gj0 16 4).toInt ≤ 16 := jI0 16 4
      refine v_if_le F 54 dX3_joinDownTo_4 (by decide) (Gj0 16 4).toInt rfl (fun c4 => ?_) (fun c4 => ?_)
      · have b5 : (0 : Int) ≤ (Gj0 16 1).toInt ∧ (Gj0 16 1).toInt ≤ 80 := jI0 16 1
        exact u_vret F hA hQ hr Gj0 (⟨jI0, (gu_un.tr gu_un.rf (gu_un.su jU0 rfl)), (by obtain ⟨t9, h1, h2⟩ := jq0; exact ⟨t9, h1, h2, h1.topS h2 (by omega) (fun h3 => by omega)⟩), (jd_end jd0 (fun h9 => by omega)), (by show ((Gj0 16 1).toInt + (Gj0 16 4).toInt = (G 16 1).toInt + (G 16 4).toInt); (first | omega | (simp only [Int32.reduceToInt, true_and, and_true, ne_eq, not_true_eq_false, false_and, or_false, false_or, true_or, or_true, false_implies] <;> omega)))⟩) rfl rfl dX3_joinDownTo_54
      · refine g_aload_n F 0 dX3_joinDownTo_7 rfl rfl ?_
        refine xg_16_3 F i_X3 w_1 dX3_joinDownTo_8 ?_
        refine g_aload_n F 0 dX3_joinDownTo_11 rfl rfl ?_
        refine xg_16_4 F i_X3 w_0 dX3_joinDownTo_12 (Gj0 16 4) (rfl) ?_
        refine g_iconst F 1 dX3_joinDownTo_15 (by decide) ?_
        refine u_isub F dX3_joinDownTo_16 (Gj0 16 4).toInt 1 rfl rfl (by omega) (by omega) (fun y6 ey6 => ?_)
        refine u1_iald F 37 0 xc_37 rfl y6.toInt rfl (by omega) (by omega) dX3_joinDownTo_17 ((G 37) (((Gj0 16 4).toInt - 1)).toNat) (by rw [show y6.toInt = ((Gj0 16 4).toInt - 1) by omega]; exact congrFun ((show Gj0 37 = G 37 from funext fun k_ => jU0 37 k_ (show (3700 : Nat) ∉ ([1602, 1605, 3500] : List Nat) by decide))) _) ?_
        refine u_call0 (k := 0) (n := 0) (As := [.int ((G 37) (((Gj0 16 4).toInt - 1)).toNat)]) (st := []) F (fun sz => S_X3_strengthOf l D ((G 37) (((Gj0 16 4).toInt - 1)).toNat) ((G 37) (((Gj0 16 4).toInt - 1)).toNat).toInt rfl sz) (va_cwS 1 hts gX3_joinDownTo_X3_strengthOf rfl rfl rfl (by decide +kernel) ⟨Nat.le_of_ble_eq_true rfl, Nat.le_of_ble_eq_true rfl⟩) rfl (Nat.le_of_ble_eq_true rfl) ⟨Nat.zero_le _, Nat.zero_le _⟩ dX3_joinDownTo_18 (fun r7 _ hw8 => ?_)
        have q10 : (r7.toInt = xsg ((G 37) (((Gj0 16 4).toInt - 1)).toNat).toInt) := hw8.2
        have rg11 := hw8.1
        clear hw8
        refine g_iload_n F 1 dX3_joinDownTo_21 rfl rfl ?_
        refine v_icmp_lt F 54 dX3_joinDownTo_22 (by decide) r7.toInt s0 rfl e0 (fun c12 => ?_) (fun c12 => ?_)
        · have b13 : (0 : Int) ≤ (Gj0 16 1).toInt ∧ (Gj0 16 1).toInt ≤ 80 := jI0 16 1
          exact u_vret F hA hQ hr Gj0 (⟨jI0, (gu_un.tr gu_un.rf (gu_un.su jU0 rfl)), (by obtain ⟨t9, h1, h2⟩ := jq0; exact ⟨t9, h1, h2, h1.topS h2 (by omega) (fun h3 => by omega)⟩), (jd_end jd0 (fun h9 => by omega)), (by show ((Gj0 16 1).toInt + (Gj0 16 4).toInt = (G 16 1).toInt + (G 16 4).toInt); (first | omega | (simp only [Int32.reduceToInt, true_and, and_true, ne_eq, not_true_eq_false, false_and, or_false, false_or, true_or, or_true, false_implies] <;> omega)))⟩) rfl rfl dX3_joinDownTo_54
        · refine g_aload_n F 0 dX3_joinDownTo_25 rfl rfl ?_
          refine g_dup F dX3_joinDownTo_26 rfl ?_
          refine xg_16_4 F i_X3 w_0 dX3_joinDownTo_27 (Gj0 16 4) (rfl) ?_
          refine g_iconst F 1 dX3_joinDownTo_30 (by decide) ?_
          refine u_isub F dX3_joinDownTo_31 (Gj0 16 4).toInt 1 rfl rfl (by omega) (by omega) (fun y14 ey14 => ?_)
          refine xp_16_4 F i_X3 w_0 dX3_joinDownTo_32 ?_
          refine g_aload_n F 0 dX3_joinDownTo_35 rfl rfl ?_
          refine g_aload_n F 0 dX3_joinDownTo_36 rfl rfl ?_
          refine xg_16_3 F i_X3 w_1 dX3_joinDownTo_37 ?_
          refine g_aload_n F 0 dX3_joinDownTo_40 rfl rfl ?_
          refine xg_16_4 F i_X3 w_0 dX3_joinDownTo_41 y14 (rfl) ?_
          refine u1_iald F 37 0 xc_37 rfl y14.toInt rfl (by omega) (by omega) dX3_joinDownTo_44 ((G 37) (((Gj0 16 4).toInt - 1)).toNat) (by rw [show y14.toInt = ((Gj0 16 4).toInt - 1) by omega]; exact congrFun ((show Gj0 37 = G 37 from funext fun k_ => jU0 37 k_ (show (3700 : Nat) ∉ ([1602, 1605, 3500] : List Nat) by decide))) _) ?_
          refine u_call0 (k := 0) (n := 0) (As := [.int ((G 37) (((Gj0 16 4).toInt - 1)).toNat)]) (st := [.ref (a 16)]) F (fun sz => S_X3_joinCode l D ((G 37) (((Gj0 16 4).toInt - 1)).toNat) ((G 37) (((Gj0 16 4).toInt - 1)).toNat).toInt rfl sz) (va_cwS 1 hts gX3_joinDownTo_X3_joinCode rfl rfl rfl (by decide +kernel) ⟨Nat.le_of_ble_eq_true rfl, Nat.le_of_ble_eq_true rfl⟩) rfl (Nat.le_of_ble_eq_true rfl) ⟨Nat.zero_le _, Nat.zero_le _⟩ dX3_joinDownTo_45 (fun r15 _ hw16 => ?_)
          have q18 : (37 ≤ ((G 37) (((Gj0 16 4).toInt - 1)).toNat).toInt ∧ ((G 37) (((Gj0 16 4).toInt - 1)).toNat).toInt ≤ 47 → r15.toInt = -3 - ((G 37) (((Gj0 16 4).toInt - 1)).toNat).toInt) := hw16
          clear hw16
          refine u_callVv (k := 0) (n := 0) (b := a 16) (As := [.int r15]) (st := []) F (fun sz => S_X3_putCode_16 l D K a (gu_up Gj0 16 4 y14) r15 r15.toInt rfl (gu_I.up (j := 16) (k := 4) (v := y14) jI0 (show (0 : Int) ≤ Int32.toInt y14 by omega) (show Int32.toInt y14 ≤ 16 by omega)) sz) (cwV 1 hts gX3_joinDownTo_X3_putCode rfl rfl rfl (by decide +kernel) ⟨Nat.le_of_ble_eq_true rfl, Nat.le_of_ble_eq_true rfl⟩) rfl 16 xc_16 rfl (Nat.le_of_ble_eq_true rfl) ⟨Nat.zero_le _, Nat.zero_le _⟩ dX3_joinDownTo_48 (fun G21 hw20 => ?_)
          have hI22 : xI G21 := hw20.1
          have hU23 : gu_un xcd [1602, 3500] (gu_up Gj0 16 4 y14) G21 := hw20.2.1
          have hp24 := hw20.2.2
          have b25 : (0 : Int) ≤ (Gj0 16 1).toInt ∧ (Gj0 16 1).toInt ≤ 80 := jI0 16 1
          have b26 : (0 : Int) ≤ (G21 16 1).toInt ∧ (G21 16 1).toInt ≤ 80 := hI22 16 1
          have q27 : ((Gj0 16 1).toInt ≤ 79 → (G21 35 = upd (Gj0 35) ((Gj0 16 1).toInt).toNat r15 ∧ (G21 16 1).toInt = (Gj0 16 1).toInt + 1)) := hp24
          clear hp24 hw20
          refine g_goto F 0 dX3_joinDownTo_51 (by decide) ?_
          exact ih_0 G21 (by have e9_16_4 : G21 16 4 = y14 := hU23 16 4 (by decide); (try simp only [e9_16_4, true_and, and_true]) <;> omega) hI22 (gu_un.tr (gu_un.up (j := 16) (k := 4) (v := y14) (gu_un.tr gu_un.rf (gu_un.su jU0 rfl)) (show (1605 : Nat) ∈ ([1602, 1605, 3500] : List Nat) by decide)) (gu_un.su hU23 rfl)) (by obtain ⟨t9, h1, h2⟩ := jq0; rw [show G21 16 4 = y14 from hU23 16 4 (by decide), show y14.toInt = (Gj0 16 4).toInt - 1 by omega]; exact h1.popS (by omega) (by omega)) (by have e9_16_4 : G21 16 4 = y14 := hU23 16 4 (by decide); (try simp only [e9_16_4, true_and, and_true]) <;> omega) (by have e4 : (G21 16 4).toInt = (Gj0 16 4).toInt - 1 := (by rw [show G21 16 4 = y14 from hU23 16 4 (by decide)]; omega); exact jd_step (w := (Gj0 16 4).toInt) (l := (Gj0 16 1).toInt) jd0 (by omega) e4 (by rw [e4]; omega) (by omega) (q27 (by omega)).1 (q27 (by omega)).2 (by rw [e4]; have h8 := xsg_rng (a := (G 37 ((Gj0 16 4).toInt - 1).toNat).toInt) (by omega); omega))
  exact J_0 _ G (Nat.lt_succ_self _) hI gu_un.rf (jq) (by omega) (rfl)


set_option maxHeartbeats 4000000 in
set_option maxRecDepth 100000 in
theorem S_X3_closeMinuses_16 (l : Launch) (D : va_G) (K : Nat → ClassId) (a : Nat → Nat) (G : gS) (cq : (∃ t, xQ (G 37) (G 16 4).toInt (G 16 6).toInt (G 16 7).toInt t)) (cl : ((G 16 1).toInt + (G 16 4).toInt ≤ 79)) (hI : xI G) (sz : Nat) : Kv l yX3_closeMinuses wsX3_closeMinuses 2 61 0 0 D [.ref (a 16)] (xW K a G) (tK K) sz (fun (G' : gS) => (xI G') ∧ (gu_un xcd [1602, 1605, 1607, 3500] G G') ∧ ((∃ t, xQ (G 37) (G' 16 4).toInt (G' 16 6).toInt (G 16 7).toInt t ∧ 0 ≤ t)) ∧ (((G' 16 6).toInt ≤ (G 16 6).toInt)) ∧ ((sM (tkr (G 37) ((G 16 4).toInt).toNat) (G 16 6).toInt (tkr (G 35) ((G 16 1).toInt).toNat) = (tkr (G 37) ((G' 16 4).toInt).toNat, (G' 16 6).toInt, tkr (G' 35) ((G' 16 1).toInt).toNat))) ∧ (((G' 16 1).toInt + (G' 16 4).toInt = (G 16 1).toInt + (G 16 4).toInt))) (fun (G' : gS) => (xW K a G')) (fun _ => (tK K)) := by
  unfold Kv
  refine g_ofW (cc := cX3_closeMinuses) (lv := [(0, .ref (a 16))]) (by decide) rfl (Nat.le_of_ble_eq_true rfl) rfl ?_
  intro p e s m args below meth c A Q hA hQ F hr hnm
  have hts := F.2.2.2.2.1
  have w_0 : (Cond.fieldLink RX3 35 "QuietCut$Formula" "waits" "I").before args s = true := hts _ (List.mem_of_getElem? (i := 1) rfl)
  have i_X3 : ∀ w ∈ u_ws RX3 TX3 9, w ∈ wsX3_closeMinuses := fun _ h => List.mem_cons_of_mem _ (List.mem_append_right _ h)
  have w_1 : (Cond.fieldLink RX3 18 "QuietCut$Formula" "waiting" "[I").before args s = true := hts _ (List.mem_of_getElem? (i := 2) rfl)
  have w_2 : (Cond.fieldLink RX3 41 "QuietCut$Formula" "open" "I").before args s = true := hts _ (List.mem_of_getElem? (i := 3) rfl)
  have b1 : (0 : Int) ≤ (G 16 1).toInt ∧ (G 16 1).toInt ≤ 80 := hI 16 1
  have b2 : (0 : Int) ≤ (G 16 4).toInt ∧ (G 16 4).toInt ≤ 16 := hI 16 4
  have J_0 : ∀ (fuel : Nat) (Gj0 : gS), ((Gj0 16 4).toInt).toNat < fuel → (xI Gj0) → (gu_un xcd [1602, 1605, 1607, 3500] G Gj0) → (sM (tkr (G 37) ((Gj0 16 4).toInt).toNat) (Gj0 16 6).toInt (tkr (Gj0 35) ((Gj0 16 1).toInt).toNat) = sM (tkr (G 37) ((G 16 4).toInt).toNat) (G 16 6).toInt (tkr (G 35) ((G 16 1).toInt).toNat)) → (((Gj0 16 1).toInt + (Gj0 16 4).toInt = (G 16 1).toInt + (G 16 4).toInt)) → ((∃ t, xQ (G 37) (Gj0 16 4).toInt (Gj0 16 6).toInt (G 16 7).toInt t)) → (((Gj0 16 6).toInt ≤ (G 16 6).toInt)) → gG p l e (gR 2 0 0 61) s m args below meth c D A 1 Q 0 0 (xW K a Gj0) (tK K) [(0, .ref (a 16))] 0 [] := by
    intro fuel
    induction fuel with
    | zero => intro Gj0 hm; exact absurd hm (Nat.not_lt_zero _)
    | succ fuel_0 ih_0 =>
      intro Gj0 hm_0 jI0 jU0 cm0 cn cq0 co0
      refine g_aload_n F 0 dX3_closeMinuses_0 rfl rfl ?_
      refine xg_16_4 F i_X3 w_0 dX3_closeMinuses_1 (Gj0 16 4) (rfl) ?_
      have b3 : (0 : Int) ≤ (Gj0 16 4).toInt ∧ (Gj0 16 4).toInt ≤ 16 := jI0 16 4
      refine v_if_le F 52 dX3_closeMinuses_4 (by decide) (Gj0 16 4).toInt rfl (fun c4 => ?_) (fun c4 => ?_)
      · have b5 : (0 : Int) ≤ (Gj0 16 1).toInt ∧ (Gj0 16 1).toInt ≤ 80 := jI0 16 1
        exact u_vret F hA hQ hr Gj0 (⟨jI0, (gu_un.tr gu_un.rf (gu_un.su jU0 rfl)), (by obtain ⟨t9, h1⟩ := cq0; exact ⟨t9, h1, h1.topM (fun h3 => by omega)⟩), (by show ((Gj0 16 6).toInt ≤ (G 16 6).toInt); (first | omega | (simp only [Int32.reduceToInt, true_and, and_true, ne_eq, not_true_eq_false, false_and, or_false, false_or, true_or, or_true, false_implies] <;> omega))), (sM_end cm0 (fun h9 => by omega)), (by show ((Gj0 16 1).toInt + (Gj0 16 4).toInt = (G 16 1).toInt + (G 16 4).toInt); (first | omega | (simp only [Int32.reduceToInt, true_and, and_true, ne_eq, not_true_eq_false, false_and, or_false, false_or, true_or, or_true, false_implies] <;> omega)))⟩) rfl rfl dX3_closeMinuses_52
      · refine g_aload_n F 0 dX3_closeMinuses_7 rfl rfl ?_
        refine xg_16_3 F i_X3 w_1 dX3_closeMinuses_8 ?_
        refine g_aload_n F 0 dX3_closeMinuses_11 rfl rfl ?_
        refine xg_16_4 F i_X3 w_0 dX3_closeMinuses_12 (Gj0 16 4) (rfl) ?_
        refine g_iconst F 1 dX3_closeMinuses_15 (by decide) ?_
        refine u_isub F dX3_closeMinuses_16 (Gj0 16 4).toInt 1 rfl rfl (by omega) (by omega) (fun y6 ey6 => ?_)
        refine u1_iald F 37 0 xc_37 rfl y6.toInt rfl (by omega) (by omega) dX3_closeMinuses_17 ((G 37) (((Gj0 16 4).toInt - 1)).toNat) (by rw [show y6.toInt = ((Gj0 16 4).toInt - 1) by omega]; exact congrFun ((show Gj0 37 = G 37 from funext fun k_ => jU0 37 k_ (show (3700 : Nat) ∉ ([1602, 1605, 1607, 3500] : List Nat) by decide))) _) ?_
        refine g_bipush F (-3) dX3_closeMinuses_18 (by decide) ?_
        refine v_icmp_ne F 52 dX3_closeMinuses_20 (by decide) ((G 37) (((Gj0 16 4).toInt - 1)).toNat).toInt (-3) rfl rfl (fun c7 => ?_) (fun c7 => ?_)
        · have b8 : (0 : Int) ≤ (Gj0 16 1).toInt ∧ (Gj0 16 1).toInt ≤ 80 := jI0 16 1
          exact u_vret F hA hQ hr Gj0 (⟨jI0, (gu_un.tr gu_un.rf (gu_un.su jU0 rfl)), (by obtain ⟨t9, h1⟩ := cq0; exact ⟨t9, h1, h1.topM (fun h3 => by omega)⟩), (by show ((Gj0 16 6).toInt ≤ (G 16 6).toInt); (first | omega | (simp only [Int32.reduceToInt, true_and, and_true, ne_eq, not_true_eq_false, false_and, or_false, false_or, true_or, or_true, false_implies] <;> omega))), (sM_end cm0 (fun h9 => by omega)), (by show ((Gj0 16 1).toInt + (Gj0 16 4).toInt = (G 16 1).toInt + (G 16 4).toInt); (first | omega | (simp only [Int32.reduceToInt, true_and, and_true, ne_eq, not_true_eq_false, false_and, or_false, false_or, true_or, or_true, false_implies] <;> omega)))⟩) rfl rfl dX3_closeMinuses_52
        · have pm : ∃ t, xQ (G 37) ((Gj0 16 4).toInt - 1) ((Gj0 16 6).toInt - 1) (G 16 7).toInt t := by obtain ⟨t9, h1⟩ := cq0; exact h1.popM (by omega) (by omega)
          have pr9 := ti_rng (Gj0 16 6)
          have pl : 1 ≤ (Gj0 16 6).toInt := by obtain ⟨t9, h1⟩ := pm; have h2 := h1.le; omega
          refine g_aload_n F 0 dX3_closeMinuses_23 rfl rfl ?_
          refine g_dup F dX3_closeMinuses_24 rfl ?_
          refine xg_16_4 F i_X3 w_0 dX3_closeMinuses_25 (Gj0 16 4) (rfl) ?_
          refine g_iconst F 1 dX3_closeMinuses_28 (by decide) ?_
          refine u_isub F dX3_closeMinuses_29 (Gj0 16 4).toInt 1 rfl rfl (by omega) (by omega) (fun y9 ey9 => ?_)
          refine xp_16_4 F i_X3 w_0 dX3_closeMinuses_30 ?_
          refine g_aload_n F 0 dX3_closeMinuses_33 rfl rfl ?_
          refine g_dup F dX3_closeMinuses_34 rfl ?_
          refine xg_16_6 F i_X3 w_2 dX3_closeMinuses_35 (Gj0 16 6) (rfl) ?_
          refine g_iconst F 1 dX3_closeMinuses_38 (by decide) ?_
          refine u_isubc F dX3_closeMinuses_39 (Gj0 16 6).toInt 1 rfl rfl (fun y10 ey10 => ?_)
          refine xp_16_6 F i_X3 w_2 dX3_closeMinuses_40 ?_
          refine g_aload_n F 0 dX3_closeMinuses_43 rfl rfl ?_
          refine g_bipush F (-3) dX3_closeMinuses_44 (by decide) ?_
          refine u_callVv (k := 0) (n := 0) (b := a 16) (As := [.int (-3)]) (st := []) F (fun sz => S_X3_putCode_16 l D K a (gu_up (gu_up Gj0 16 4 y9) 16 6 y10) (-3) (-3) rfl (gu_I.up (j := 16) (k := 6) (v := y10) (gu_I.up (j := 16) (k := 4) (v := y9) jI0 (show (0 : Int) ≤ Int32.toInt y9 by omega) (show Int32.toInt y9 ≤ 16 by omega)) (ti_rng _).1 (ti_rng _).2) sz) (cwV 1 hts gX3_closeMinuses_X3_putCode rfl rfl rfl (by decide +kernel) ⟨Nat.le_of_ble_eq_true rfl, Nat.le_of_ble_eq_true rfl⟩) rfl 16 xc_16 rfl (Nat.le_of_ble_eq_true rfl) ⟨Nat.zero_le _, Nat.zero_le _⟩ dX3_closeMinuses_46 (fun G13 hw12 => ?_)
          have hI14 : xI G13 := hw12.1
          have hU15 : gu_un xcd [1602, 3500] (gu_up (gu_up Gj0 16 4 y9) 16 6 y10) G13 := hw12.2.1
          have hp16 := hw12.2.2
          have b17 : (0 : Int) ≤ (Gj0 16 1).toInt ∧ (Gj0 16 1).toInt ≤ 80 := jI0 16 1
          have b18 : (0 : Int) ≤ (G13 16 1).toInt ∧ (G13 16 1).toInt ≤ 80 := hI14 16 1
          have q19 : ((Gj0 16 1).toInt ≤ 79 → (G13 35 = upd (Gj0 35) ((Gj0 16 1).toInt).toNat (-3) ∧ (G13 16 1).toInt = (Gj0 16 1).toInt + 1)) := hp16
          clear hp16 hw12
          refine g_goto F 0 dX3_closeMinuses_49 (by decide) ?_
          exact ih_0 G13 (by have e9_16_4 : G13 16 4 = y9 := hU15 16 4 (by decide); (try simp only [e9_16_4, true_and, and_true]) <;> omega) hI14 (gu_un.tr (gu_un.up (j := 16) (k := 6) (v := y10) (gu_un.up (j := 16) (k := 4) (v := y9) (gu_un.tr gu_un.rf (gu_un.su jU0 rfl)) (show (1605 : Nat) ∈ ([1602, 1605, 1607, 3500] : List Nat) by decide)) (show (1607 : Nat) ∈ ([1602, 1605, 1607, 3500] : List Nat) by decide)) (gu_un.su hU15 rfl)) (by have e4 : (G13 16 4).toInt = (Gj0 16 4).toInt - 1 := (by rw [show G13 16 4 = y9 from hU15 16 4 (by decide)]; omega); have e6 : (G13 16 6).toInt = (Gj0 16 6).toInt - 1 := (by rw [show G13 16 6 = y10 from hU15 16 6 (by decide)]; omega); exact sM_step (w := (Gj0 16 4).toInt) (o := (Gj0 16 6).toInt) (l := (Gj0 16 1).toInt) cm0 (by omega) e4 (by rw [e4]; omega) e6 (by omega) (q19 (by omega)).1 (q19 (by omega)).2 rfl) (by have e9_16_4 : G13 16 4 = y9 := hU15 16 4 (by decide); (try simp only [e9_16_4, true_and, and_true]) <;> omega) (by obtain ⟨t9, h1⟩ := pm; exact ⟨t9, h1.cast rfl (show (G13 16 4).toInt = _ by rw [show G13 16 4 = y9 from hU15 16 4 (by decide)]; omega) (show (G13 16 6).toInt = _ by rw [show G13 16 6 = y10 from hU15 16 6 (by decide)]; omega) rfl⟩) (by have e9_16_6 : G13 16 6 = y10 := hU15 16 6 (by decide); (try simp only [e9_16_6, true_and, and_true]) <;> (first | omega | (simp only [Int32.reduceToInt, true_and, and_true, ne_eq, not_true_eq_false, false_and, or_false, false_or, true_or, or_true, false_implies] <;> omega)))
  exact J_0 _ G (Nat.lt_succ_self _) hI gu_un.rf (rfl) (by omega) (cq) (by (first | omega | (simp only [Int32.reduceToInt, true_and, and_true, ne_eq, not_true_eq_false, false_and, or_false, false_or, true_or, or_true, false_implies] <;> omega)))


set_option maxHeartbeats 4000000 in
set_option maxRecDepth 100000 in
theorem S_X3_takeOperand_16 (l : Launch) (D : va_G) (K : Nat → ClassId) (a : Nat → Nat) (G : gS) (p0 : Int32) (s0 : Int) (e0 : p0.toInt = s0) (fi : xFi 16 37 G) (wo : ((G 16 8).toInt ≠ 0)) (nl : (((G 16 8).toInt = 0 ∧ (G 16 1).toInt + (G 16 4).toInt ≤ 6 * (G 16 5).toInt) ∨ ((G 16 8).toInt ≠ 0 ∧ (G 16 1).toInt + (G 16 4).toInt ≤ 6 * (G 16 5).toInt + 1 + (G 16 6).toInt))) (hI : xI G) (sz : Nat) : Ki l yX3_takeOperand wsX3_takeOperand 3 81 0 0 D [.ref (a 16), .int p0] (xW K a G) (tK K) sz (fun (r : Int32) (G' : gS) => (xI G') ∧ (gu_un xcd [1602, 1605, 1606, 1607, 1609, 3500] G G') ∧ (0 ≤ r.toInt ∧ r.toInt ≤ 4) ∧ (xFi 16 37 G') ∧ ((sR (sOp s0 (tkr (G 37) ((G 16 4).toInt).toNat) (G 16 6).toInt (G 16 7).toInt (G 16 5).toInt (tkr (G 35) ((G 16 1).toInt).toNat)) r.toInt (xS 16 35 37 G'))) ∧ ((((G' 16 8).toInt = 0 ∧ (G' 16 1).toInt + (G' 16 4).toInt ≤ 6 * (G' 16 5).toInt) ∨ ((G' 16 8).toInt ≠ 0 ∧ (G' 16 1).toInt + (G' 16 4).toInt ≤ 6 * (G' 16 5).toInt + 1 + (G' 16 6).toInt)))) (fun (G' : gS) => (xW K a G')) (fun _ => (tK K)) := by
  unfold Ki
  refine g_ofW (cc := cX3_takeOperand) (lv := [(0, .ref (a 16)), (1, .int p0)]) (by decide) rfl (Nat.le_of_ble_eq_true rfl) rfl ?_
  intro p e s m args below meth c A Q hA hQ F hr hnm
  have hts := F.2.2.2.2.1
  have w_0 : (Cond.fieldLink RX3 38 "QuietCut$Formula" "operands" "I").before args s = true := hts _ (List.mem_of_getElem? (i := 1) rfl)
  have i_X3 : ∀ w ∈ u_ws RX3 TX3 9, w ∈ wsX3_takeOperand := fun _ h => List.mem_cons_of_mem _ (List.mem_append_right _ h)
  have w_1 : (Cond.fieldLink RX3 47 "QuietCut$Formula" "wantsOperand" "Z").before args s = true := hts _ (List.mem_of_getElem? (i := 2) rfl)
  have rg0 : -2147483648 ≤ s0 ∧ s0 ≤ 2147483647 := e0 ▸ ti_rng p0
  have b1 : (0 : Int) ≤ (G 16 1).toInt ∧ (G 16 1).toInt ≤ 80 := hI 16 1
  have b2 : (0 : Int) ≤ (G 16 4).toInt ∧ (G 16 4).toInt ≤ 16 := hI 16 4
  have b3 : (0 : Int) ≤ (G 16 5).toInt ∧ (G 16 5).toInt ≤ 12 := hI 16 5
  have b4 : (0 : Int) ≤ (G 16 8).toInt ∧ (G 16 8).toInt ≤ 1 := hI 16 8
  obtain ⟨⟨t9, f1, f2⟩, f3⟩ := id fi
  have f4 := f1.le
  refine g_aload_n F 0 dX3_takeOperand_0 rfl rfl ?_
  refine xg_16_5 F i_X3 w_0 dX3_takeOperand_1 (G 16 5) (rfl) ?_
  refine g_bipush F 12 dX3_takeOperand_4 (by decide) ?_
  refine v_icmp_lt F 11 dX3_takeOperand_6 (by decide) (G 16 5).toInt 12 rfl rfl (fun c5 => ?_) (fun c5 => ?_)
  · refine g_aload_n F 0 dX3_takeOperand_11 rfl rfl ?_
    refine g_dup F dX3_takeOperand_12 rfl ?_
    refine xg_16_5 F i_X3 w_0 dX3_takeOperand_13 (G 16 5) (rfl) ?_
    refine g_iconst F 1 dX3_takeOperand_16 (by decide) ?_
    refine u_iadd F dX3_takeOperand_17 (G 16 5).toInt 1 rfl rfl (by omega) (by omega) (fun y6 ey6 => ?_)
    refine xp_16_5 F i_X3 w_0 dX3_takeOperand_18 ?_
    refine g_aload_n F 0 dX3_takeOperand_21 rfl rfl ?_
    refine g_iload_n F 1 dX3_takeOperand_22 rfl rfl ?_
    refine u_callVv (k := 0) (n := 0) (b := a 16) (As := [.int p0]) (st := []) F (fun sz => S_X3_putCode_16 l D K a (gu_up G 16 5 y6) p0 s0 e0 (gu_I.up (j := 16) (k := 5) (v := y6) hI (show (0 : Int) ≤ Int32.toInt y6 by omega) (show Int32.toInt y6 ≤ 12 by omega)) sz) (cwV 1 hts gX3_takeOperand_X3_putCode rfl rfl rfl (by decide +kernel) ⟨Nat.le_of_ble_eq_true rfl, Nat.le_of_ble_eq_true rfl⟩) rfl 16 xc_16 rfl (Nat.le_of_ble_eq_true rfl) ⟨Nat.zero_le _, Nat.zero_le _⟩ dX3_takeOperand_23 (fun G9 hw8 => ?_)
    have hI10 : xI G9 := hw8.1
    have hU11 : gu_un xcd [1602, 3500] (gu_up G 16 5 y6) G9 := hw8.2.1
    have hp12 := hw8.2.2
    have b13 : (0 : Int) ≤ (G9 16 1).toInt ∧ (G9 16 1).toInt ≤ 80 := hI10 16 1
    have q14 : ((G 16 1).toInt ≤ 79 → (G9 35 = upd (G 35) ((G 16 1).toInt).toNat p0 ∧ (G9 16 1).toInt = (G 16 1).toInt + 1)) := hp12
    clear hp12 hw8
    refine g_aload_n F 0 dX3_takeOperand_26 rfl rfl ?_
    refine u_callVv (k := 0) (n := 0) (b := a 16) (As := []) (st := []) F (fun sz => S_X3_closeMinuses_16 l D K a G9  (by obtain ⟨⟨t8, h1, -⟩, -⟩ := (show xFi 16 37 G9 from (xFi.un fi (show gu_un xcd [1602, 1606, 3500] G G9 from (gu_un.tr (gu_un.up (j := 16) (k := 5) (v := y6) gu_un.rf (show (1606 : Nat) ∈ ([1602, 1606, 3500] : List Nat) by decide)) (gu_un.su hU11 rfl))) rfl (fun _ => rfl))); exact ⟨t8, h1⟩) (by have e9_16_4 : G9 16 4 = (G 16 4) := hU11 16 4 (by decide); (try simp only [e9_16_4, true_and, and_true]) <;> (first | omega | (simp only [Int32.reduceToInt, true_and, and_true, ne_eq, not_true_eq_false, false_and, or_false, false_or, true_or, or_true, false_implies] <;> omega))) hI10 sz) (cwV 0 hts gX3_takeOperand_X3_closeMinuses rfl rfl rfl (by decide +kernel) ⟨Nat.le_of_ble_eq_true rfl, Nat.le_of_ble_eq_true rfl⟩) rfl 16 xc_16 rfl (Nat.le_of_ble_eq_true rfl) ⟨Nat.zero_le _, Nat.zero_le _⟩ dX3_takeOperand_27 (fun G17 hw16 => ?_)
    have hI18 : xI G17 := hw16.1
    have hU19 : gu_un xcd [1602, 1605, 1607, 3500] G9 G17 := hw16.2.1
    have hp20 := hw16.2.2
    have b21 : (0 : Int) ≤ (G17 16 4).toInt ∧ (G17 16 4).toInt ≤ 16 := hI18 16 4
    have q22 : (∃ t, xQ (G 37) (G17 16 4).toInt (G17 16 6).toInt (G 16 7).toInt t ∧ 0 ≤ t) := by have h9 := hp20.1; (try simp only [(show G9 16 7 = (G 16 7) from hU11 16 7 (by decide)), (show G9 37 = (G 37) from (show G9 37 = (gu_up G 16 5 y6) 37 from funext fun k_ => hU11 37 k_ (show (3700 : Nat) ∉ ([1602, 3500] : List Nat) by decide)))] at h9); first | exact h9 | omega
    have q23 : ((G17 16 6).toInt ≤ (G 16 6).toInt) := by have h9 := hp20.2.1; (try simp only [(show G9 16 6 = (G 16 6) from hU11 16 6 (by decide))] at h9); first | exact h9 | omega
    have b24 : (0 : Int) ≤ (G17 16 1).toInt ∧ (G17 16 1).toInt ≤ 80 := hI18 16 1
    have q25 : (sM (tkr (G 37) ((G 16 4).toInt).toNat) (G 16 6).toInt (tkr (G9 35) ((G9 16 1).toInt).toNat) = (tkr (G 37) ((G17 16 4).toInt).toNat, (G17 16 6).toInt, tkr (G17 35) ((G17 16 1).toInt).toNat)) := by have h9 := hp20.2.2.1; (try simp only [(show G9 16 4 = (G 16 4) from hU11 16 4 (by decide)), (show G9 16 6 = (G 16 6) from hU11 16 6 (by decide)), (show G9 37 = (G 37) from (show G9 37 = (gu_up G 16 5 y6) 37 from funext fun k_ => hU11 37 k_ (show (3700 : Nat) ∉ ([1602, 3500] : List Nat) by decide))), (show G9 37 = (G 37) from (show G9 37 = (gu_up G 16 5 y6) 37 from funext fun k_ => hU11 37 k_ (show (3700 : Nat) ∉ ([1602, 3500] : List Nat) by decide)))] at h9); first | exact h9 | omega
    have q26 : ((G17 16 1).toInt + (G17 16 4).toInt = (G9 16 1).toInt + (G 16 4).toInt) := by have h9 := hp20.2.2.2; (try simp only [(show G9 16 4 = (G 16 4) from hU11 16 4 (by decide))] at h9); first | exact h9 | omega
    clear hp20 hw16
    refine g_aload_n F 0 dX3_takeOperand_30 rfl rfl ?_
    refine g_iconst F 0 dX3_takeOperand_31 (by decide) ?_
    refine xp_16_8 F i_X3 w_1 dX3_takeOperand_32 (by decide) ?_
    refine g_iconst F 0 dX3_takeOperand_35 (by decide) ?_
    exact u_iret F hA hQ hr (gu_up G17 16 8 0) (⟨(gu_I.up (j := 16) (k := 8) (v := 0) hI18 (show (0 : Int) ≤ (0 : Int32).toInt by decide) (show (0 : Int32).toInt ≤ 1 by decide)), (gu_un.up (j := 16) (k := 8) (v := 0) (gu_un.tr (gu_un.tr (gu_un.up (j := 16) (k := 5) (v := y6) gu_un.rf (show (1606 : Nat) ∈ ([1602, 1605, 1606, 1607, 1609, 3500] : List Nat) by decide)) (gu_un.su hU11 rfl)) (gu_un.su hU19 rfl)) (show (1609 : Nat) ∈ ([1602, 1605, 1606, 1607, 1609, 3500] : List Nat) by decide)), (by decide), (xFi.mk (w := 0) (by obtain ⟨t8, h1, h2⟩ := q22; exact ⟨t8, h1, fun _ => h2⟩) (by omega) (show (gu_up G17 16 8 0) 37 = _ from (show G17 37 = G9 37 from funext fun k_ => hU19 37 k_ (show (3700 : Nat) ∉ ([1602, 1605, 1607, 3500] : List Nat) by decide)).trans ((show G9 37 = (gu_up G 16 5 y6) 37 from funext fun k_ => hU11 37 k_ (show (3700 : Nat) ∉ ([1602, 3500] : List Nat) by decide)))) (show ((gu_up G17 16 8 0) 16 4).toInt = _ by rw [show (gu_up G17 16 8 0) 16 4 = (G17 16 4) from rfl]) (show ((gu_up G17 16 8 0) 16 6).toInt = _ by rw [show (gu_up G17 16 8 0) 16 6 = (G17 16 6) from rfl]) (show ((gu_up G17 16 8 0) 16 7).toInt = _ by rw [show (gu_up G17 16 8 0) 16 7 = (G 16 7) from (hU19 16 7 (by decide)).trans (hU11 16 7 (by decide))]) (show ((gu_up G17 16 8 0) 16 8).toInt = _ by rw [show (gu_up G17 16 8 0) 16 8 = 0 from rfl] <;> (first | rfl | omega))), (by rw [xS_of (rc := 35) (show ((gu_up G17 16 8 0) 16 8).toInt = 0 by rw [show (gu_up G17 16 8 0) 16 8 = 0 from rfl]; rfl) (show (gu_up G17 16 8 0) 37 = (G 37) from (show G17 37 = G9 37 from funext fun k_ => hU19 37 k_ (show (3700 : Nat) ∉ ([1602, 1605, 1607, 3500] : List Nat) by decide)).trans ((show G9 37 = (gu_up G 16 5 y6) 37 from funext fun k_ => hU11 37 k_ (show (3700 : Nat) ∉ ([1602, 3500] : List Nat) by decide)))) (show ((gu_up G17 16 8 0) 16 4).toInt = (G17 16 4).toInt from congrArg Int32.toInt (show (gu_up G17 16 8 0) 16 4 = (G17 16 4) from rfl)) (show ((gu_up G17 16 8 0) 16 6).toInt = (G17 16 6).toInt from congrArg Int32.toInt (show (gu_up G17 16 8 0) 16 6 = (G17 16 6) from rfl)) (show ((gu_up G17 16 8 0) 16 7).toInt = (G 16 7).toInt from congrArg Int32.toInt (show (gu_up G17 16 8 0) 16 7 = (G 16 7) from (hU19 16 7 (by decide)).trans (hU11 16 7 (by decide)))) (show ((gu_up G17 16 8 0) 16 5).toInt = y6.toInt from congrArg Int32.toInt (show (gu_up G17 16 8 0) 16 5 = y6 from (hU19 16 5 (by decide)).trans (hU11 16 5 (by decide)))) (show (gu_up G17 16 8 0) 35 = (G17 35) from rfl) (show ((gu_up G17 16 8 0) 16 1).toInt = (G17 16 1).toInt from congrArg Int32.toInt (show (gu_up G17 16 8 0) 16 1 = (G17 16 1) from rfl))]; exact (sOp_ok (by omega) (by omega) (by have h9 := q25; rw [(q14 (by omega)).1, tkr_push (by omega) (q14 (by omega)).2, e0] at h9; exact h9)).cast (by decide)), (by show ((((gu_up G17 16 8 0) 16 8).toInt = 0 ∧ ((gu_up G17 16 8 0) 16 1).toInt + ((gu_up G17 16 8 0) 16 4).toInt ≤ 6 * ((gu_up G17 16 8 0) 16 5).toInt) ∨ (((gu_up G17 16 8 0) 16 8).toInt ≠ 0 ∧ ((gu_up G17 16 8 0) 16 1).toInt + ((gu_up G17 16 8 0) 16 4).toInt ≤ 6 * ((gu_up G17 16 8 0) 16 5).toInt + 1 + ((gu_up G17 16 8 0) 16 6).toInt)); have e9_16_1 : (gu_up G17 16 8 0) 16 1 = (G17 16 1) := rfl; have e9_16_4 : (gu_up G17 16 8 0) 16 4 = (G17 16 4) := rfl; have e9_16_5 : (gu_up G17 16 8 0) 16 5 = y6 := (hU19 16 5 (by decide)).trans (hU11 16 5 (by decide)); have e9_16_6 : (gu_up G17 16 8 0) 16 6 = (G17 16 6) := rfl; have e9_16_8 : (gu_up G17 16 8 0) 16 8 = 0 := rfl; (try simp only [e9_16_1, e9_16_4, e9_16_5, e9_16_6, e9_16_8, true_and, and_true]) <;> (first | omega | (simp only [Int32.reduceToInt, true_and, and_true, ne_eq, not_true_eq_false, false_and, or_false, false_or, true_or, or_true, false_implies] <;> omega)))⟩) rfl rfl dX3_takeOperand_36
  · refine g_iconst F 4 dX3_takeOperand_9 (by decide) ?_
    exact u_iret F hA hQ hr G (⟨hI, gu_un.rf, (by decide), (fi), ((sOp_no (by omega)).cast (by decide)), (by show (((G 16 8).toInt = 0 ∧ (G 16 1).toInt + (G 16 4).toInt ≤ 6 * (G 16 5).toInt) ∨ ((G 16 8).toInt ≠ 0 ∧ (G 16 1).toInt + (G 16 4).toInt ≤ 6 * (G 16 5).toInt + 1 + (G 16 6).toInt)); (first | omega | (simp only [Int32.reduceToInt, true_and, and_true, ne_eq, not_true_eq_false, false_and, or_false, false_or, true_or, or_true, false_implies] <;> omega)))⟩) rfl rfl dX3_takeOperand_10


set_option maxHeartbeats 4000000 in
set_option maxRecDepth 100000 in
theorem S_X3_takeOpening_16_v40 (l : Launch) (D : va_G) (K : Nat → ClassId) (a : Nat → Nat) (G : gS) (fi : xFi 16 37 G) (wo : ((G 16 8).toInt ≠ 0)) (nl : (((G 16 8).toInt = 0 ∧ (G 16 1).toInt + (G 16 4).toInt ≤ 6 * (G 16 5).toInt) ∨ ((G 16 8).toInt ≠ 0 ∧ (G 16 1).toInt + (G 16 4).toInt ≤ 6 * (G 16 5).toInt + 1 + (G 16 6).toInt))) (hI : xI G) (sz : Nat) : Ki l yX3_takeOpening wsX3_takeOpening 2 61 0 0 D [.ref (a 16), .int 40] (xW K a G) (tK K) sz (fun (r : Int32) (G' : gS) => (xI G') ∧ (gu_un xcd [1605, 1607, 1608, 3700] G G') ∧ (0 ≤ r.toInt ∧ r.toInt ≤ 4) ∧ (xFi 16 37 G') ∧ ((∀ ls : Int, sR (sT ls 3 40 (G 16 8).toInt (tkr (G 37) ((G 16 4).toInt).toNat) (G 16 6).toInt (G 16 7).toInt (G 16 5).toInt (tkr (G 35) ((G 16 1).toInt).toNat)) r.toInt (xS 16 35 37 G'))) ∧ ((((G' 16 8).toInt = 0 ∧ (G' 16 1).toInt + (G' 16 4).toInt ≤ 6 * (G' 16 5).toInt) ∨ ((G' 16 8).toInt ≠ 0 ∧ (G' 16 1).toInt + (G' 16 4).toInt ≤ 6 * (G' 16 5).toInt + 1 + (G' 16 6).toInt)))) (fun (G' : gS) => (xW K a G')) (fun _ => (tK K)) := by
  unfold Ki
  refine g_ofW (cc := cX3_takeOpening) (lv := [(0, .ref (a 16)), (1, .int 40)]) (by decide) rfl (Nat.le_of_ble_eq_true rfl) rfl ?_
  intro p e s m args below meth c A Q hA hQ F hr hnm
  have hts := F.2.2.2.2.1
  have w_0 : (Cond.fieldLink RX3 41 "QuietCut$Formula" "open" "I").before args s = true := hts _ (List.mem_of_getElem? (i := 1) rfl)
  have i_X3 : ∀ w ∈ u_ws RX3 TX3 9, w ∈ wsX3_takeOpening := fun _ h => List.mem_cons_of_mem _ (List.mem_append_right _ h)
  have w_1 : (Cond.fieldLink RX3 44 "QuietCut$Formula" "parentheses" "I").before args s = true := hts _ (List.mem_of_getElem? (i := 2) rfl)
  have b1 : (0 : Int) ≤ (G 16 1).toInt ∧ (G 16 1).toInt ≤ 80 := hI 16 1
  have b2 : (0 : Int) ≤ (G 16 4).toInt ∧ (G 16 4).toInt ≤ 16 := hI 16 4
  have b3 : (0 : Int) ≤ (G 16 5).toInt ∧ (G 16 5).toInt ≤ 12 := hI 16 5
  have b4 : (0 : Int) ≤ (G 16 8).toInt ∧ (G 16 8).toInt ≤ 1 := hI 16 8
  obtain ⟨⟨t9, f1, f2⟩, f3⟩ := id fi
  have f4 := f1.le
  refine g_aload_n F 0 dX3_takeOpening_0 rfl rfl ?_
  refine xg_16_6 F i_X3 w_0 dX3_takeOpening_1 (G 16 6) (rfl) ?_
  refine g_iconst F 4 dX3_takeOpening_4 (by decide) ?_
  refine v_icmp_lt F 10 dX3_takeOpening_5 (by decide) (G 16 6).toInt 4 rfl rfl (fun c5 => ?_) (fun c5 => ?_)
  · refine g_aload_n F 0 dX3_takeOpening_10 rfl rfl ?_
    refine g_dup F dX3_takeOpening_11 rfl ?_
    refine xg_16_6 F i_X3 w_0 dX3_takeOpening_12 (G 16 6) (rfl) ?_
    refine g_iconst F 1 dX3_takeOpening_15 (by decide) ?_
    have b7 := ti_rng (G 16 6)
    refine u_iadd F dX3_takeOpening_16 (G 16 6).toInt 1 rfl rfl (by omega) (by omega) (fun y6 ey6 => ?_)
    refine xp_16_6 F i_X3 w_0 dX3_takeOpening_17 ?_
    refine g_iload_n F 1 dX3_takeOpening_20 rfl rfl ?_
    refine g_bipush F 40 dX3_takeOpening_21 (by decide) ?_
    refine v_icmp_ne F 36 dX3_takeOpening_23 (by decide) 40 40 rfl rfl (fun c8 => absurd c8 (by decide)) (fun c8 => ?_)
    refine g_aload_n F 0 dX3_takeOpening_26 rfl rfl ?_
    refine g_dup F dX3_takeOpening_27 rfl ?_
    refine xg_16_7 F i_X3 w_1 dX3_takeOpening_28 (G 16 7) (rfl) ?_
    refine g_iconst F 1 dX3_takeOpening_31 (by decide) ?_
    refine u_iaddc F dX3_takeOpening_32 (G 16 7).toInt 1 rfl rfl (fun y9 ey9 => ?_)
    refine xp_16_7 F i_X3 w_1 dX3_takeOpening_33 ?_
    refine g_aload_n F 0 dX3_takeOpening_36 rfl rfl ?_
    refine g_iload_n F 1 dX3_takeOpening_37 rfl rfl ?_
    refine u_callVv (k := 0) (n := 0) (b := a 16) (As := [.int 40]) (st := []) F (fun sz => S_X3_putWaiting_16 l D K a (gu_up (gu_up G 16 6 y6) 16 7 y9) 40 40 rfl (gu_I.up (j := 16) (k := 7) (v := y9) (gu_I.up (j := 16) (k := 6) (v := y6) hI (ti_rng _).1 (ti_rng _).2) (ti_rng _).1 (ti_rng _).2) sz) (cwV 1 hts gX3_takeOpening_X3_putWaiting rfl rfl rfl (by decide +kernel) ⟨Nat.le_of_ble_eq_true rfl, Nat.le_of_ble_eq_true rfl⟩) rfl 16 xc_16 rfl (Nat.le_of_ble_eq_true rfl) ⟨Nat.zero_le _, Nat.zero_le _⟩ dX3_takeOpening_38 (fun G12 hw11 => ?_)
    have hI13 : xI G12 := hw11.1
    have hU14 : gu_un xcd [1605, 3700] (gu_up (gu_up G 16 6 y6) 16 7 y9) G12 := hw11.2.1
    have hp15 := hw11.2.2
    have b16 : (0 : Int) ≤ (G12 16 4).toInt ∧ (G12 16 4).toInt ≤ 16 := hI13 16 4
    have q17 : ((G 16 4).toInt ≤ 15 → (G12 37 = upd (G 37) ((G 16 4).toInt).toNat 40 ∧ (G12 16 4).toInt = (G 16 4).toInt + 1)) := hp15
    clear hp15 hw11
    refine g_iconst F 0 dX3_takeOpening_41 (by decide) ?_
    exact u_iret F hA hQ hr G12 (⟨hI13, (gu_un.tr (gu_un.up (j := 16) (k := 7) (v := y9) (gu_un.up (j := 16) (k := 6) (v := y6) gu_un.rf (show (1607 : Nat) ∈ ([1605, 1607, 1608, 3700] : List Nat) by decide)) (show (1608 : Nat) ∈ ([1605, 1607, 1608, 3700] : List Nat) by decide)) (gu_un.su hU14 rfl)), (by decide), (xFi.mk (w := (G 16 8).toInt) (by exact ⟨0, f1.push.1 rfl, fun _ => by omega⟩) (by omega) (show G12 37 = _ from (q17 (by omega)).1) (show (G12 16 4).toInt = _ by rw [show G12 16 4 = (G12 16 4) from rfl] <;> (exact (q17 (by omega)).2)) (show (G12 16 6).toInt = _ by rw [show G12 16 6 = y6 from hU14 16 6 (by decide)] <;> (omega)) (show (G12 16 7).toInt = _ by rw [show G12 16 7 = y9 from hU14 16 7 (by decide)] <;> (first | rfl | omega)) (show (G12 16 8).toInt = _ by rw [show G12 16 8 = (G 16 8) from hU14 16 8 (by decide)])), (fun ls => by rw [xS_of (rc := 35) (show (G12 16 8).toInt = 1 by rw [show G12 16 8 = (G 16 8) from hU14 16 8 (by decide)]; omega) (show G12 37 = (G12 37) from rfl) (show (G12 16 4).toInt = (G12 16 4).toInt from congrArg Int32.toInt (show G12 16 4 = (G12 16 4) from rfl)) (show (G12 16 6).toInt = y6.toInt from congrArg Int32.toInt (show G12 16 6 = y6 from hU14 16 6 (by decide))) (show (G12 16 7).toInt = y9.toInt from congrArg Int32.toInt (show G12 16 7 = y9 from hU14 16 7 (by decide))) (show (G12 16 5).toInt = (G 16 5).toInt from congrArg Int32.toInt (show G12 16 5 = (G 16 5) from hU14 16 5 (by decide))) (show G12 35 = (G 35) from (show G12 35 = (gu_up (gu_up G 16 6 y6) 16 7 y9) 35 from funext fun k_ => hU14 35 k_ (show (3500 : Nat) ∉ ([1605, 3700] : List Nat) by decide))) (show (G12 16 1).toInt = (G 16 1).toInt from congrArg Int32.toInt (show G12 16 1 = (G 16 1) from hU14 16 1 (by decide)))]; exact (sT_op1 (by omega) (by omega) (by omega) (by omega) (by rw [(q17 (by omega)).1, tkr_push (by omega) (q17 (by omega)).2] <;> rfl)).cast (by decide)), (by show (((G12 16 8).toInt = 0 ∧ (G12 16 1).toInt + (G12 16 4).toInt ≤ 6 * (G12 16 5).toInt) ∨ ((G12 16 8).toInt ≠ 0 ∧ (G12 16 1).toInt + (G12 16 4).toInt ≤ 6 * (G12 16 5).toInt + 1 + (G12 16 6).toInt)); have e9_16_1 : G12 16 1 = (G 16 1) := hU14 16 1 (by decide); have e9_16_5 : G12 16 5 = (G 16 5) := hU14 16 5 (by decide); have e9_16_6 : G12 16 6 = y6 := hU14 16 6 (by decide); have e9_16_8 : G12 16 8 = (G 16 8) := hU14 16 8 (by decide); (try simp only [e9_16_1, e9_16_5, e9_16_6, e9_16_8, true_and, and_true]) <;> (first | omega | (simp only [Int32.reduceToInt, true_and, and_true, ne_eq, not_true_eq_false, false_and, or_false, false_or, true_or, or_true, false_implies] <;> omega)))⟩) rfl rfl dX3_takeOpening_42
  · refine g_iconst F 4 dX3_takeOpening_8 (by decide) ?_
    exact u_iret F hA hQ hr G (⟨hI, gu_un.rf, (by decide), (fi), (fun ls => (sT_op4 (by omega) (by decide) (by omega)).cast (by decide)), (by show (((G 16 8).toInt = 0 ∧ (G 16 1).toInt + (G 16 4).toInt ≤ 6 * (G 16 5).toInt) ∨ ((G 16 8).toInt ≠ 0 ∧ (G 16 1).toInt + (G 16 4).toInt ≤ 6 * (G 16 5).toInt + 1 + (G 16 6).toInt)); (first | omega | (simp only [Int32.reduceToInt, true_and, and_true, ne_eq, not_true_eq_false, false_and, or_false, false_or, true_or, or_true, false_implies] <;> omega)))⟩) rfl rfl dX3_takeOpening_9


set_option maxHeartbeats 4000000 in
set_option maxRecDepth 100000 in
theorem S_X3_takeOpening_16_m3 (l : Launch) (D : va_G) (K : Nat → ClassId) (a : Nat → Nat) (G : gS) (fi : xFi 16 37 G) (wo : ((G 16 8).toInt ≠ 0)) (nl : (((G 16 8).toInt = 0 ∧ (G 16 1).toInt + (G 16 4).toInt ≤ 6 * (G 16 5).toInt) ∨ ((G 16 8).toInt ≠ 0 ∧ (G 16 1).toInt + (G 16 4).toInt ≤ 6 * (G 16 5).toInt + 1 + (G 16 6).toInt))) (hI : xI G) (sz : Nat) : Ki l yX3_takeOpening wsX3_takeOpening 2 61 0 0 D [.ref (a 16), .int (-3)] (xW K a G) (tK K) sz (fun (r : Int32) (G' : gS) => (xI G') ∧ (gu_un xcd [1605, 1607, 3700] G G') ∧ (0 ≤ r.toInt ∧ r.toInt ≤ 4) ∧ (xFi 16 37 G') ∧ ((∀ ls : Int, sR (sT ls 3 45 (G 16 8).toInt (tkr (G 37) ((G 16 4).toInt).toNat) (G 16 6).toInt (G 16 7).toInt (G 16 5).toInt (tkr (G 35) ((G 16 1).toInt).toNat)) r.toInt (xS 16 35 37 G'))) ∧ ((((G' 16 8).toInt = 0 ∧ (G' 16 1).toInt + (G' 16 4).toInt ≤ 6 * (G' 16 5).toInt) ∨ ((G' 16 8).toInt ≠ 0 ∧ (G' 16 1).toInt + (G' 16 4).toInt ≤ 6 * (G' 16 5).toInt + 1 + (G' 16 6).toInt)))) (fun (G' : gS) => (xW K a G')) (fun _ => (tK K)) := by
  unfold Ki
  refine g_ofW (cc := cX3_takeOpening) (lv := [(0, .ref (a 16)), (1, .int (-3))]) (by decide) rfl (Nat.le_of_ble_eq_true rfl) rfl ?_
  intro p e s m args below meth c A Q hA hQ F hr hnm
  have hts := F.2.2.2.2.1
  have w_0 : (Cond.fieldLink RX3 41 "QuietCut$Formula" "open" "I").before args s = true := hts _ (List.mem_of_getElem? (i := 1) rfl)
  have i_X3 : ∀ w ∈ u_ws RX3 TX3 9, w ∈ wsX3_takeOpening := fun _ h => List.mem_cons_of_mem _ (List.mem_append_right _ h)
  have b1 : (0 : Int) ≤ (G 16 1).toInt ∧ (G 16 1).toInt ≤ 80 := hI 16 1
  have b2 : (0 : Int) ≤ (G 16 4).toInt ∧ (G 16 4).toInt ≤ 16 := hI 16 4
  have b3 : (0 : Int) ≤ (G 16 5).toInt ∧ (G 16 5).toInt ≤ 12 := hI 16 5
  have b4 : (0 : Int) ≤ (G 16 8).toInt ∧ (G 16 8).toInt ≤ 1 := hI 16 8
  obtain ⟨⟨t9, f1, f2⟩, f3⟩ := id fi
  have f4 := f1.le
  refine g_aload_n F 0 dX3_takeOpening_0 rfl rfl ?_
  refine xg_16_6 F i_X3 w_0 dX3_takeOpening_1 (G 16 6) (rfl) ?_
  refine g_iconst F 4 dX3_takeOpening_4 (by decide) ?_
  refine v_icmp_lt F 10 dX3_takeOpening_5 (by decide) (G 16 6).toInt 4 rfl rfl (fun c5 => ?_) (fun c5 => ?_)
  · refine g_aload_n F 0 dX3_takeOpening_10 rfl rfl ?_
    refine g_dup F dX3_takeOpening_11 rfl ?_
    refine xg_16_6 F i_X3 w_0 dX3_takeOpening_12 (G 16 6) (rfl) ?_
    refine g_iconst F 1 dX3_takeOpening_15 (by decide) ?_
    have b7 := ti_rng (G 16 6)
    refine u_iadd F dX3_takeOpening_16 (G 16 6).toInt 1 rfl rfl (by omega) (by omega) (fun y6 ey6 => ?_)
    refine xp_16_6 F i_X3 w_0 dX3_takeOpening_17 ?_
    refine g_iload_n F 1 dX3_takeOpening_20 rfl rfl ?_
    refine g_bipush F 40 dX3_takeOpening_21 (by decide) ?_
    refine v_icmp_ne F 36 dX3_takeOpening_23 (by decide) (-3) 40 rfl rfl (fun c8 => ?_) (fun c8 => absurd c8 (by decide))
    refine g_aload_n F 0 dX3_takeOpening_36 rfl rfl ?_
    refine g_iload_n F 1 dX3_takeOpening_37 rfl rfl ?_
    refine u_callVv (k := 0) (n := 0) (b := a 16) (As := [.int (-3)]) (st := []) F (fun sz => S_X3_putWaiting_16 l D K a (gu_up G 16 6 y6) (-3) (-3) rfl (gu_I.up (j := 16) (k := 6) (v := y6) hI (ti_rng _).1 (ti_rng _).2) sz) (cwV 1 hts gX3_takeOpening_X3_putWaiting rfl rfl rfl (by decide +kernel) ⟨Nat.le_of_ble_eq_true rfl, Nat.le_of_ble_eq_true rfl⟩) rfl 16 xc_16 rfl (Nat.le_of_ble_eq_true rfl) ⟨Nat.zero_le _, Nat.zero_le _⟩ dX3_takeOpening_38 (fun G11 hw10 => ?_)
    have hI12 : xI G11 := hw10.1
    have hU13 : gu_un xcd [1605, 3700] (gu_up G 16 6 y6) G11 := hw10.2.1
    have hp14 := hw10.2.2
    have b15 : (0 : Int) ≤ (G11 16 4).toInt ∧ (G11 16 4).toInt ≤ 16 := hI12 16 4
    have q16 : ((G 16 4).toInt ≤ 15 → (G11 37 = upd (G 37) ((G 16 4).toInt).toNat (-3) ∧ (G11 16 4).toInt = (G 16 4).toInt + 1)) := hp14
    clear hp14 hw10
    refine g_iconst F 0 dX3_takeOpening_41 (by decide) ?_
    exact u_iret F hA hQ hr G11 (⟨hI12, (gu_un.tr (gu_un.up (j := 16) (k := 6) (v := y6) gu_un.rf (show (1607 : Nat) ∈ ([1605, 1607, 3700] : List Nat) by decide)) (gu_un.su hU13 rfl)), (by decide), (xFi.mk (w := (G 16 8).toInt) (by exact ⟨-1, f1.push.2.1 rfl, fun h => absurd h wo⟩) (by omega) (show G11 37 = _ from (q16 (by omega)).1) (show (G11 16 4).toInt = _ by rw [show G11 16 4 = (G11 16 4) from rfl] <;> (exact (q16 (by omega)).2)) (show (G11 16 6).toInt = _ by rw [show G11 16 6 = y6 from hU13 16 6 (by decide)] <;> (omega)) (show (G11 16 7).toInt = _ by rw [show G11 16 7 = (G 16 7) from hU13 16 7 (by decide)] <;> (first | rfl | omega)) (show (G11 16 8).toInt = _ by rw [show G11 16 8 = (G 16 8) from hU13 16 8 (by decide)])), (fun ls => by rw [xS_of (rc := 35) (show (G11 16 8).toInt = 1 by rw [show G11 16 8 = (G 16 8) from hU13 16 8 (by decide)]; omega) (show G11 37 = (G11 37) from rfl) (show (G11 16 4).toInt = (G11 16 4).toInt from congrArg Int32.toInt (show G11 16 4 = (G11 16 4) from rfl)) (show (G11 16 6).toInt = y6.toInt from congrArg Int32.toInt (show G11 16 6 = y6 from hU13 16 6 (by decide))) (show (G11 16 7).toInt = (G 16 7).toInt from congrArg Int32.toInt (show G11 16 7 = (G 16 7) from hU13 16 7 (by decide))) (show (G11 16 5).toInt = (G 16 5).toInt from congrArg Int32.toInt (show G11 16 5 = (G 16 5) from hU13 16 5 (by decide))) (show G11 35 = (G 35) from (show G11 35 = (gu_up G 16 6 y6) 35 from funext fun k_ => hU13 35 k_ (show (3500 : Nat) ∉ ([1605, 3700] : List Nat) by decide))) (show (G11 16 1).toInt = (G 16 1).toInt from congrArg Int32.toInt (show G11 16 1 = (G 16 1) from hU13 16 1 (by decide)))]; exact (sT_op2 (by omega) (by omega) (by omega) (by rw [(q16 (by omega)).1, tkr_push (by omega) (q16 (by omega)).2] <;> rfl)).cast (by decide)), (by show (((G11 16 8).toInt = 0 ∧ (G11 16 1).toInt + (G11 16 4).toInt ≤ 6 * (G11 16 5).toInt) ∨ ((G11 16 8).toInt ≠ 0 ∧ (G11 16 1).toInt + (G11 16 4).toInt ≤ 6 * (G11 16 5).toInt + 1 + (G11 16 6).toInt)); have e9_16_1 : G11 16 1 = (G 16 1) := hU13 16 1 (by decide); have e9_16_5 : G11 16 5 = (G 16 5) := hU13 16 5 (by decide); have e9_16_6 : G11 16 6 = y6 := hU13 16 6 (by decide); have e9_16_8 : G11 16 8 = (G 16 8) := hU13 16 8 (by decide); (try simp only [e9_16_1, e9_16_5, e9_16_6, e9_16_8, true_and, and_true]) <;> (first | omega | (simp only [Int32.reduceToInt, true_and, and_true, ne_eq, not_true_eq_false, false_and, or_false, false_or, true_or, or_true, false_implies] <;> omega)))⟩) rfl rfl dX3_takeOpening_42
  · refine g_iconst F 4 dX3_takeOpening_8 (by decide) ?_
    exact u_iret F hA hQ hr G (⟨hI, gu_un.rf, (by decide), (fi), (fun ls => (sT_op4 (by omega) (by decide) (by omega)).cast (by decide)), (by show (((G 16 8).toInt = 0 ∧ (G 16 1).toInt + (G 16 4).toInt ≤ 6 * (G 16 5).toInt) ∨ ((G 16 8).toInt ≠ 0 ∧ (G 16 1).toInt + (G 16 4).toInt ≤ 6 * (G 16 5).toInt + 1 + (G 16 6).toInt)); (first | omega | (simp only [Int32.reduceToInt, true_and, and_true, ne_eq, not_true_eq_false, false_and, or_false, false_or, true_or, or_true, false_implies] <;> omega)))⟩) rfl rfl dX3_takeOpening_9


set_option maxHeartbeats 4000000 in
set_option maxRecDepth 100000 in
theorem S_X3_takeBehindOperand_16_1 (l : Launch) (D : va_G) (K : Nat → ClassId) (a : Nat → Nat) (G : gS) (fi : xFi 16 37 G) (wo : ((G 16 8).toInt = 0)) (nl : (((G 16 8).toInt = 0 ∧ (G 16 1).toInt + (G 16 4).toInt ≤ 6 * (G 16 5).toInt) ∨ ((G 16 8).toInt ≠ 0 ∧ (G 16 1).toInt + (G 16 4).toInt ≤ 6 * (G 16 5).toInt + 1 + (G 16 6).toInt))) (hI : xI G) (sz : Nat) : Ki l yX3_takeBehindOperand wsX3_takeBehindOperand 3 82 0 0 D [.ref (a 16), .ref (a 1)] (xW K a G) (tK K) sz (fun (r : Int32) (G' : gS) => (xI G') ∧ (gu_un xcd [1602, 1605, 1607, 1608, 1609, 3500, 3700] G G') ∧ (0 ≤ r.toInt ∧ r.toInt ≤ 1) ∧ (xFi 16 37 G') ∧ ((∀ ls : Int, sR (sT ls (G 1 3).toInt (G 1 5).toInt (G 16 8).toInt (tkr (G 37) ((G 16 4).toInt).toNat) (G 16 6).toInt (G 16 7).toInt (G 16 5).toInt (tkr (G 35) ((G 16 1).toInt).toNat)) r.toInt (xS 16 35 37 G'))) ∧ ((((G' 16 8).toInt = 0 ∧ (G' 16 1).toInt + (G' 16 4).toInt ≤ 6 * (G' 16 5).toInt) ∨ ((G' 16 8).toInt ≠ 0 ∧ (G' 16 1).toInt + (G' 16 4).toInt ≤ 6 * (G' 16 5).toInt + 1 + (G' 16 6).toInt))) ∧ ((r.toInt ≠ 0 ∨ (G 1 3).toInt ≠ 0))) (fun (G' : gS) => (xW K a G')) (fun _ => (tK K)) := by
  unfold Ki
  refine g_ofW (cc := cX3_takeBehindOperand) (lv := [(0, .ref (a 16)), (1, .ref (a 1))]) (by decide) rfl (Nat.le_of_ble_eq_true rfl) rfl ?_
  intro p e s m args below meth c A Q hA hQ F hr hnm
  have hts := F.2.2.2.2.1
  have w_0 : (Cond.fieldLink RX3 44 "QuietCut$Formula" "parentheses" "I").before args s = true := hts _ (List.mem_of_getElem? (i := 1) rfl)
  have i_X3 : ∀ w ∈ u_ws RX3 TX3 9, w ∈ wsX3_takeBehindOperand := fun _ h => List.mem_cons_of_mem _ (List.mem_append_left _ (List.mem_append_right _ h))
  have w_1 : (Cond.fieldLink RX3 68 "QuietCut$Tape" "kind" "I").before args s = true := hts _ (List.mem_of_getElem? (i := 4) rfl)
  have i_X10 : ∀ w ∈ u_ws RX10 TX10 6, w ∈ wsX3_takeBehindOperand := fun _ h => List.mem_cons_of_mem _ (List.mem_append_right _ h)
  have w_2 : (Cond.fieldLink RX3 71 "QuietCut$Tape" "value" "I").before args s = true := hts _ (List.mem_of_getElem? (i := 5) rfl)
  have w_3 : (Cond.fieldLink RX3 47 "QuietCut$Formula" "wantsOperand" "Z").before args s = true := hts _ (List.mem_of_getElem? (i := 6) rfl)
  have w_4 : (Cond.fieldLink RX3 35 "QuietCut$Formula" "waits" "I").before args s = true := hts _ (List.mem_of_getElem? (i := 2) rfl)
  have w_5 : (Cond.fieldLink RX3 41 "QuietCut$Formula" "open" "I").before args s = true := hts _ (List.mem_of_getElem? (i := 3) rfl)
  have b1 : (0 : Int) ≤ (G 16 1).toInt ∧ (G 16 1).toInt ≤ 80 := hI 16 1
  have b2 : (0 : Int) ≤ (G 16 4).toInt ∧ (G 16 4).toInt ≤ 16 := hI 16 4
  have b3 : (0 : Int) ≤ (G 16 5).toInt ∧ (G 16 5).toInt ≤ 12 := hI 16 5
  have b4 : (0 : Int) ≤ (G 16 8).toInt ∧ (G 16 8).toInt ≤ 1 := hI 16 8
  obtain ⟨⟨t9, f1, f2⟩, f3⟩ := id fi
  have f4 := f1.le
  refine g_aload_n F 1 dX3_takeBehindOperand_0 rfl rfl ?_
  refine g_bipush F 41 dX3_takeBehindOperand_1 (by decide) ?_
  refine u_callVi (k := 0) (n := 0) (b := a 1) (As := [.int 41]) (st := []) F (fun sz => S_X10_isSign l D K a G 41 41 rfl hI sz) (cwV 1 hts gX3_takeBehindOperand_X10_isSign rfl rfl rfl (by decide +kernel) ⟨Nat.le_of_ble_eq_true rfl, Nat.le_of_ble_eq_true rfl⟩) rfl 1 xc_1 rfl (Nat.le_of_ble_eq_true rfl) ⟨Nat.zero_le _, Nat.zero_le _⟩ dX3_takeBehindOperand_3 (fun r5 _ hw6 => ?_)
  rcases hw6 with ⟨rfl, q8⟩ | ⟨rfl, q9⟩
  · have b10 : (0 : Int) ≤ (G 1 3).toInt ∧ (G 1 3).toInt ≤ 4 := hI 1 3
    have q8 : ((G 1 3).toInt = 3 ∧ (G 1 5).toInt = (41 : Int)) := q8
    refine v_if_eq F 57 dX3_takeBehindOperand_6 (by decide) 1 rfl (fun c11 => absurd c11 (by decide)) (fun c11 => ?_)
    refine g_aload_n F 0 dX3_takeBehindOperand_9 rfl rfl ?_
    refine xg_16_7 F i_X3 w_0 dX3_takeBehindOperand_10 (G 16 7) (rfl) ?_
    refine v_if_le F 57 dX3_takeBehindOperand_13 (by decide) (G 16 7).toInt rfl (fun c12 => ?_) (fun c12 => ?_)
    · refine g_aload_n F 1 dX3_takeBehindOperand_57 rfl rfl ?_
      refine xg_1_3 F i_X10 w_1 dX3_takeBehindOperand_58 (G 1 3) (rfl) ?_
      refine g_iconst F 3 dX3_takeBehindOperand_61 (by decide) ?_
      refine v_icmp_ne F 75 dX3_takeBehindOperand_62 (by decide) (G 1 3).toInt 3 rfl rfl (fun c13 => ?_) (fun c13 => ?_)
      · refine g_iconst F 0 dX3_takeBehindOperand_75 (by decide) ?_
        refine g_istore_n F [(2, .int 0), (0, .ref (a 16)), (1, .ref (a 1))] dX3_takeBehindOperand_76 rfl (by decide) rfl ?_
        refine g_iload_n F 0 dX3_takeBehindOperand_77 rfl rfl ?_
        refine v_if_ne F 83 dX3_takeBehindOperand_78 (by decide) 0 rfl (fun c14 => absurd c14 (by decide)) (fun c14 => ?_)
        refine g_iconst F 1 dX3_takeBehindOperand_81 (by decide) ?_
        exact u_iret F hA hQ hr G (⟨hI, gu_un.rf, (by decide), (fi), (fun ls => (sT_off (by omega) (by omega) (fun h9 => by omega)).cast (by decide)), (by show (((G 16 8).toInt = 0 ∧ (G 16 1).toInt + (G 16 4).toInt ≤ 6 * (G 16 5).toInt) ∨ ((G 16 8).toInt ≠ 0 ∧ (G 16 1).toInt + (G 16 4).toInt ≤ 6 * (G 16 5).toInt + 1 + (G 16 6).toInt)); (first | omega | (simp only [Int32.reduceToInt, true_and, and_true, ne_eq, not_true_eq_false, false_and, or_false, false_or, true_or, or_true, false_implies] <;> omega))), (by show (1 ≠ 0 ∨ (G 1 3).toInt ≠ 0); (first | omega | (simp only [Int32.reduceToInt, true_and, and_true, ne_eq, not_true_eq_false, false_and, or_false, false_or, true_or, or_true, false_implies] <;> omega)))⟩) rfl rfl dX3_takeBehindOperand_82
      · refine g_aload_n F 1 dX3_takeBehindOperand_65 rfl rfl ?_
        refine xg_1_5 F i_X10 w_2 dX3_takeBehindOperand_66 (G 1 5) (rfl) ?_
        refine u_call0 (k := 0) (n := 0) (As := [.int (G 1 5)]) (st := []) F (fun sz => S_X3_strengthOf l D (G 1 5) (G 1 5).toInt rfl sz) (va_cwS 1 hts gX3_takeBehindOperand_X3_strengthOf rfl rfl rfl (by decide +kernel) ⟨Nat.le_of_ble_eq_true rfl, Nat.le_of_ble_eq_true rfl⟩) rfl (Nat.le_of_ble_eq_true rfl) ⟨Nat.zero_le _, Nat.zero_le _⟩ dX3_takeBehindOperand_69 (fun r15 _ hw16 => ?_)
        have q18 : (r15.toInt = xsg (G 1 5).toInt) := hw16.2
        have rg19 := hw16.1
        clear hw16
        refine g_goto F 76 dX3_takeBehindOperand_72 (by decide) ?_
        refine g_istore_n F [(2, .int r15), (0, .ref (a 16)), (1, .ref (a 1))] dX3_takeBehindOperand_76 rfl (by decide) rfl ?_
        refine g_iload_n F 0 dX3_takeBehindOperand_77 rfl rfl ?_
        refine v_if_ne F 83 dX3_takeBehindOperand_78 (by decide) r15.toInt rfl (fun c20 => ?_) (fun c20 => ?_)
        · refine g_aload_n F 1 dX3_takeBehindOperand_83 rfl rfl ?_
          refine g_iload_n F 0 dX3_takeBehindOperand_84 rfl rfl ?_
          refine u_callVv (k := 0) (n := 0) (b := a 16) (As := [.int r15]) (st := []) F (fun sz => S_X3_joinDownTo_16 l D K a G r15 r15.toInt rfl (by omega) (by exact ⟨t9, f1.cast rfl (congrArg Int32.toInt (show G 16 4 = (G 16 4) from rfl)) (congrArg Int32.toInt (show G 16 6 = (G 16 6) from rfl)) (congrArg Int32.toInt (show G 16 7 = (G 16 7) from rfl)), f2 wo⟩) (by (first | omega | (simp only [Int32.reduceToInt, true_and, and_true, ne_eq, not_true_eq_false, false_and, or_false, false_or, true_or, or_true, false_implies] <;> omega))) hI sz) (cwV 1 hts gX3_takeBehindOperand_X3_joinDownTo rfl rfl rfl (by decide +kernel) ⟨Nat.le_of_ble_eq_true rfl, Nat.le_of_ble_eq_true rfl⟩) rfl 16 xc_16 rfl (Nat.le_of_ble_eq_true rfl) ⟨Nat.zero_le _, Nat.zero_le _⟩ dX3_takeBehindOperand_85 (fun G23 hw22 => ?_)
          have hI24 : xI G23 := hw22.1
          have hU25 : gu_un xcd [1602, 1605, 3500] G G23 := hw22.2.1
          have hp26 := hw22.2.2
          have b27 : (0 : Int) ≤ (G23 16 4).toInt ∧ (G23 16 4).toInt ≤ 16 := hI24 16 4
          have q28 : (∃ t, xQ (G 37) (G23 16 4).toInt (G 16 6).toInt (G 16 7).toInt t ∧ 0 ≤ t ∧ t < r15.toInt) := hp26.1
          have b29 : (0 : Int) ≤ (G23 16 1).toInt ∧ (G23 16 1).toInt ≤ 80 := hI24 16 1
          have q30 : (sJ r15.toInt (tkr (G 37) ((G 16 4).toInt).toNat) (tkr (G 35) ((G 16 1).toInt).toNat) = (tkr (G 37) ((G23 16 4).toInt).toNat, tkr (G23 35) ((G23 16 1).toInt).toNat)) := hp26.2.1
          have q31 : ((G23 16 1).toInt + (G23 16 4).toInt = (G 16 1).toInt + (G 16 4).toInt) := hp26.2.2
          clear hp26 hw22
          obtain ⟨t8, j1, j2, j3⟩ := q28
          have j6 := j1.le
          refine g_aload_n F 1 dX3_takeBehindOperand_88 rfl rfl ?_
          refine g_aload_n F 2 dX3_takeBehindOperand_89 rfl rfl ?_
          refine xg_1_5 F i_X10 w_2 dX3_takeBehindOperand_90 (G 1 5) (hU25 1 5 (by decide)) ?_
          refine u_callVv (k := 0) (n := 0) (b := a 16) (As := [.int (G 1 5)]) (st := []) F (fun sz => S_X3_putWaiting_16 l D K a G23 (G 1 5) (G 1 5).toInt rfl hI24 sz) (cwV 1 hts gX3_takeBehindOperand_X3_putWaiting rfl rfl rfl (by decide +kernel) ⟨Nat.le_of_ble_eq_true rfl, Nat.le_of_ble_eq_true rfl⟩) rfl 16 xc_16 rfl (Nat.le_of_ble_eq_true rfl) ⟨Nat.zero_le _, Nat.zero_le _⟩ dX3_takeBehindOperand_93 (fun G34 hw33 => ?_)
          have hI35 : xI G34 := hw33.1
          have hU36 : gu_un xcd [1605, 3700] G23 G34 := hw33.2.1
          have hp37 := hw33.2.2
          have b38 : (0 : Int) ≤ (G34 16 4).toInt ∧ (G34 16 4).toInt ≤ 16 := hI35 16 4
          have q39 : ((G23 16 4).toInt ≤ 15 → (G34 37 = upd (G 37) ((G23 16 4).toInt).toNat (G 1 5) ∧ (G34 16 4).toInt = (G23 16 4).toInt + 1)) := by have h9 := hp37; (try simp only [(show G23 37 = (G 37) from (show G23 37 = G 37 from funext fun k_ => hU25 37 k_ (show (3700 : Nat) ∉ ([1602, 1605, 3500] : List Nat) by decide)))] at h9); first | exact h9 | omega
          clear hp37 hw33
          refine g_aload_n F 1 dX3_takeBehindOperand_96 rfl rfl ?_
          refine g_iconst F 1 dX3_takeBehindOperand_97 (by decide) ?_
          refine xp_16_8 F i_X3 w_3 dX3_takeBehindOperand_98 (by decide) ?_
          refine g_iconst F 0 dX3_takeBehindOperand_101 (by decide) ?_
          exact u_iret F hA hQ hr (gu_up G34 16 8 1) (⟨(gu_I.up (j := 16) (k := 8) (v := 1) hI35 (show (0 : Int) ≤ (1 : Int32).toInt by decide) (show (1 : Int32).toInt ≤ 1 by decide)), (gu_un.up (j := 16) (k := 8) (v := 1) (gu_un.tr (gu_un.tr gu_un.rf (gu_un.su hU25 rfl)) (gu_un.su hU36 rfl)) (show (1609 : Nat) ∈ ([1602, 1605, 1607, 1608, 1609, 3500, 3700] : List Nat) by decide)), (by decide), (xFi.mk (w := 1) (by exact ⟨_, j1.push.2.2 j2 (by omega), fun h => absurd h (by decide)⟩) (by omega) (show (gu_up G34 16 8 1) 37 = _ from (q39 (by omega)).1) (show ((gu_up G34 16 8 1) 16 4).toInt = _ by rw [show (gu_up G34 16 8 1) 16 4 = (G34 16 4) from rfl] <;> (exact (q39 (by omega)).2)) (show ((gu_up G34 16 8 1) 16 6).toInt = _ by rw [show (gu_up G34 16 8 1) 16 6 = (G 16 6) from (hU36 16 6 (by decide)).trans (hU25 16 6 (by decide))]) (show ((gu_up G34 16 8 1) 16 7).toInt = _ by rw [show (gu_up G34 16 8 1) 16 7 = (G 16 7) from (hU36 16 7 (by decide)).trans (hU25 16 7 (by decide))]) (show ((gu_up G34 16 8 1) 16 8).toInt = _ by rw [show (gu_up G34 16 8 1) 16 8 = 1 from rfl] <;> (rfl))), (fun ls => by rw [xS_of (rc := 35) (show ((gu_up G34 16 8 1) 16 8).toInt = 1 by rw [show (gu_up G34 16 8 1) 16 8 = 1 from rfl]; rfl) (show (gu_up G34 16 8 1) 37 = (G34 37) from rfl) (show ((gu_up G34 16 8 1) 16 4).toInt = (G34 16 4).toInt from congrArg Int32.toInt (show (gu_up G34 16 8 1) 16 4 = (G34 16 4) from rfl)) (show ((gu_up G34 16 8 1) 16 6).toInt = (G 16 6).toInt from congrArg Int32.toInt (show (gu_up G34 16 8 1) 16 6 = (G 16 6) from (hU36 16 6 (by decide)).trans (hU25 16 6 (by decide)))) (show ((gu_up G34 16 8 1) 16 7).toInt = (G 16 7).toInt from congrArg Int32.toInt (show (gu_up G34 16 8 1) 16 7 = (G 16 7) from (hU36 16 7 (by decide)).trans (hU25 16 7 (by decide)))) (show ((gu_up G34 16 8 1) 16 5).toInt = (G 16 5).toInt from congrArg Int32.toInt (show (gu_up G34 16 8 1) 16 5 = (G 16 5) from (hU36 16 5 (by decide)).trans (hU25 16 5 (by decide)))) (show (gu_up G34 16 8 1) 35 = (G23 35) from (show G34 35 = G23 35 from funext fun k_ => hU36 35 k_ (show (3500 : Nat) ∉ ([1605, 3700] : List Nat) by decide))) (show ((gu_up G34 16 8 1) 16 1).toInt = (G23 16 1).toInt from congrArg Int32.toInt (show (gu_up G34 16 8 1) 16 1 = (G23 16 1) from hU36 16 1 (by decide)))]; exact (sT_sign (by omega) (by omega) rfl (by omega) (by have h9 := q30; rw [show r15.toInt = xsg (G 1 5).toInt by omega] at h9; exact h9) (by rw [(q39 (by omega)).1, tkr_push (by omega) (q39 (by omega)).2])).cast (by decide)), (by show ((((gu_up G34 16 8 1) 16 8).toInt = 0 ∧ ((gu_up G34 16 8 1) 16 1).toInt + ((gu_up G34 16 8 1) 16 4).toInt ≤ 6 * ((gu_up G34 16 8 1) 16 5).toInt) ∨ (((gu_up G34 16 8 1) 16 8).toInt ≠ 0 ∧ ((gu_up G34 16 8 1) 16 1).toInt + ((gu_up G34 16 8 1) 16 4).toInt ≤ 6 * ((gu_up G34 16 8 1) 16 5).toInt + 1 + ((gu_up G34 16 8 1) 16 6).toInt)); have e9_16_1 : (gu_up G34 16 8 1) 16 1 = (G23 16 1) := hU36 16 1 (by decide); have e9_16_4 : (gu_up G34 16 8 1) 16 4 = (G34 16 4) := rfl; have e9_16_5 : (gu_up G34 16 8 1) 16 5 = (G 16 5) := (hU36 16 5 (by decide)).trans (hU25 16 5 (by decide)); have e9_16_6 : (gu_up G34 16 8 1) 16 6 = (G 16 6) := (hU36 16 6 (by decide)).trans (hU25 16 6 (by decide)); have e9_16_8 : (gu_up G34 16 8 1) 16 8 = 1 := rfl; (try simp only [e9_16_1, e9_16_4, e9_16_5, e9_16_6, e9_16_8, true_and, and_true]) <;> (first | omega | (simp only [Int32.reduceToInt, true_and, and_true, ne_eq, not_true_eq_false, false_and, or_false, false_or, true_or, or_true, false_implies] <;> omega))), (by show (0 ≠ 0 ∨ (G 1 3).toInt ≠ 0); (first | omega | (simp only [Int32.reduceToInt, true_and, and_true, ne_eq, not_true_eq_false, false_and, or_false, false_or, true_or, or_true, false_implies] <;> omega)))⟩) rfl rfl dX3_takeBehindOperand_102
        · refine g_iconst F 1 dX3_takeBehindOperand_81 (by decide) ?_
          exact u_iret F hA hQ hr G (⟨hI, gu_un.rf, (by decide), (fi), (fun ls => (sT_off (by omega) (by omega) (fun h9 => by omega)).cast (by decide)), (by show (((G 16 8).toInt = 0 ∧ (G 16 1).toInt + (G 16 4).toInt ≤ 6 * (G 16 5).toInt) ∨ ((G 16 8).toInt ≠ 0 ∧ (G 16 1).toInt + (G 16 4).toInt ≤ 6 * (G 16 5).toInt + 1 + (G 16 6).toInt)); (first | omega | (simp only [Int32.reduceToInt, true_and, and_true, ne_eq, not_true_eq_false, false_and, or_false, false_or, true_or, or_true, false_implies] <;> omega))), (by show (1 ≠ 0 ∨ (G 1 3).toInt ≠ 0); (first | omega | (simp only [Int32.reduceToInt, true_and, and_true, ne_eq, not_true_eq_false, false_and, or_false, false_or, true_or, or_true, false_implies] <;> omega)))⟩) rfl rfl dX3_takeBehindOperand_82
    · refine g_aload_n F 0 dX3_takeBehindOperand_16 rfl rfl ?_
      refine g_iconst F 1 dX3_takeBehindOperand_17 (by decide) ?_
      refine u_callVv (k := 0) (n := 0) (b := a 16) (As := [.int 1]) (st := []) F (fun sz => S_X3_joinDownTo_16 l D K a G 1 1 rfl (by decide) (by exact ⟨t9, f1.cast rfl (congrArg Int32.toInt (show G 16 4 = (G 16 4) from rfl)) (congrArg Int32.toInt (show G 16 6 = (G 16 6) from rfl)) (congrArg Int32.toInt (show G 16 7 = (G 16 7) from rfl)), f2 wo⟩) (by (first | omega | (simp only [Int32.reduceToInt, true_and, and_true, ne_eq, not_true_eq_false, false_and, or_false, false_or, true_or, or_true, false_implies] <;> omega))) hI sz) (cwV 1 hts gX3_takeBehindOperand_X3_joinDownTo rfl rfl rfl (by decide +kernel) ⟨Nat.le_of_ble_eq_true rfl, Nat.le_of_ble_eq_true rfl⟩) rfl 16 xc_16 rfl (Nat.le_of_ble_eq_true rfl) ⟨Nat.zero_le _, Nat.zero_le _⟩ dX3_takeBehindOperand_18 (fun G42 hw41 => ?_)
      have hI43 : xI G42 := hw41.1
      have hU44 : gu_un xcd [1602, 1605, 3500] G G42 := hw41.2.1
      have hp45 := hw41.2.2
      have b46 : (0 : Int) ≤ (G42 16 4).toInt ∧ (G42 16 4).toInt ≤ 16 := hI43 16 4
      have q47 : (∃ t, xQ (G 37) (G42 16 4).toInt (G 16 6).toInt (G 16 7).toInt t ∧ 0 ≤ t ∧ t < (1 : Int)) := hp45.1
      have b48 : (0 : Int) ≤ (G42 16 1).toInt ∧ (G42 16 1).toInt ≤ 80 := hI43 16 1
      have q49 : (sJ (1 : Int) (tkr (G 37) ((G 16 4).toInt).toNat) (tkr (G 35) ((G 16 1).toInt).toNat) = (tkr (G 37) ((G42 16 4).toInt).toNat, tkr (G42 35) ((G42 16 1).toInt).toNat)) := hp45.2.1
      have q50 : ((G42 16 1).toInt + (G42 16 4).toInt = (G 16 1).toInt + (G 16 4).toInt) := hp45.2.2
      clear hp45 hw41
      obtain ⟨t8, j1, j2, j3⟩ := q47
      obtain ⟨j4, j5⟩ := j1.popP (by omega) (by omega)
      have j6 := j1.le
      refine g_aload_n F 0 dX3_takeBehindOperand_21 rfl rfl ?_
      refine g_dup F dX3_takeBehindOperand_22 rfl ?_
      refine xg_16_4 F i_X3 w_4 dX3_takeBehindOperand_23 (G42 16 4) (rfl) ?_
      refine g_iconst F 1 dX3_takeBehindOperand_26 (by decide) ?_
      refine u_isub F dX3_takeBehindOperand_27 (G42 16 4).toInt 1 rfl rfl (by omega) (by omega) (fun y51 ey51 => ?_)
      refine xp_16_4 F i_X3 w_4 dX3_takeBehindOperand_28 ?_
      refine g_aload_n F 0 dX3_takeBehindOperand_31 rfl rfl ?_
      refine g_dup F dX3_takeBehindOperand_32 rfl ?_
      refine xg_16_7 F i_X3 w_0 dX3_takeBehindOperand_33 (G 16 7) (hU44 16 7 (by decide)) ?_
      refine g_iconst F 1 dX3_takeBehindOperand_36 (by decide) ?_
      have b53 := ti_rng (G 16 7)
      refine u_isub F dX3_takeBehindOperand_37 (G 16 7).toInt 1 rfl rfl (by omega) (by omega) (fun y52 ey52 => ?_)
      refine xp_16_7 F i_X3 w_0 dX3_takeBehindOperand_38 ?_
      refine g_aload_n F 0 dX3_takeBehindOperand_41 rfl rfl ?_
      refine g_dup F dX3_takeBehindOperand_42 rfl ?_
      refine xg_16_6 F i_X3 w_5 dX3_takeBehindOperand_43 (G 16 6) (hU44 16 6 (by decide)) ?_
      refine g_iconst F 1 dX3_takeBehindOperand_46 (by decide) ?_
      refine u_isubc F dX3_takeBehindOperand_47 (G 16 6).toInt 1 rfl rfl (fun y54 ey54 => ?_)
      refine xp_16_6 F i_X3 w_5 dX3_takeBehindOperand_48 ?_
      refine g_aload_n F 0 dX3_takeBehindOperand_51 rfl rfl ?_
      refine u_callVv (k := 0) (n := 0) (b := a 16) (As := []) (st := []) F (fun sz => S_X3_closeMinuses_16 l D K a (gu_up (gu_up (gu_up G42 16 4 y51) 16 7 y52) 16 6 y54)  (by obtain ⟨t7, h7⟩ := j5; exact ⟨t7, h7.cast (show (gu_up (gu_up (gu_up G42 16 4 y51) 16 7 y52) 16 6 y54) 37 = _ from (show G42 37 = G 37 from funext fun k_ => hU44 37 k_ (show (3700 : Nat) ∉ ([1602, 1605, 3500] : List Nat) by decide))) (show ((gu_up (gu_up (gu_up G42 16 4 y51) 16 7 y52) 16 6 y54) 16 4).toInt = _ by rw [show (gu_up (gu_up (gu_up G42 16 4 y51) 16 7 y52) 16 6 y54) 16 4 = y51 from rfl]; omega) (show ((gu_up (gu_up (gu_up G42 16 4 y51) 16 7 y52) 16 6 y54) 16 6).toInt = _ by rw [show (gu_up (gu_up (gu_up G42 16 4 y51) 16 7 y52) 16 6 y54) 16 6 = y54 from rfl]; omega) (show ((gu_up (gu_up (gu_up G42 16 4 y51) 16 7 y52) 16 6 y54) 16 7).toInt = _ by rw [show (gu_up (gu_up (gu_up G42 16 4 y51) 16 7 y52) 16 6 y54) 16 7 = y52 from rfl]; omega)⟩) (by have e9_16_1 : (gu_up (gu_up (gu_up G42 16 4 y51) 16 7 y52) 16 6 y54) 16 1 = (G42 16 1) := rfl; have e9_16_4 : (gu_up (gu_up (gu_up G42 16 4 y51) 16 7 y52) 16 6 y54) 16 4 = y51 := rfl; (try simp only [e9_16_1, e9_16_4, true_and, and_true]) <;> (first | omega | (simp only [Int32.reduceToInt, true_and, and_true, ne_eq, not_true_eq_false, false_and, or_false, false_or, true_or, or_true, false_implies] <;> omega))) (gu_I.up (j := 16) (k := 6) (v := y54) (gu_I.up (j := 16) (k := 7) (v := y52) (gu_I.up (j := 16) (k := 4) (v := y51) hI43 (show (0 : Int) ≤ Int32.toInt y51 by omega) (show Int32.toInt y51 ≤ 16 by omega)) (ti_rng _).1 (ti_rng _).2) (ti_rng _).1 (ti_rng _).2) sz) (cwV 0 hts gX3_takeBehindOperand_X3_closeMinuses rfl rfl rfl (by decide +kernel) ⟨Nat.le_of_ble_eq_true rfl, Nat.le_of_ble_eq_true rfl⟩) rfl 16 xc_16 rfl (Nat.le_of_ble_eq_true rfl) ⟨Nat.zero_le _, Nat.zero_le _⟩ dX3_takeBehindOperand_52 (fun G57 hw56 => ?_)
      have hI58 : xI G57 := hw56.1
      have hU59 : gu_un xcd [1602, 1605, 1607, 3500] (gu_up (gu_up (gu_up G42 16 4 y51) 16 7 y52) 16 6 y54) G57 := hw56.2.1
      have hp60 := hw56.2.2
      have b61 : (0 : Int) ≤ (G57 16 4).toInt ∧ (G57 16 4).toInt ≤ 16 := hI58 16 4
      have q62 : (∃ t, xQ (G 37) (G57 16 4).toInt (G57 16 6).toInt y52.toInt t ∧ 0 ≤ t) := by have h9 := hp60.1; (try simp only [(show (gu_up (gu_up (gu_up G42 16 4 y51) 16 7 y52) 16 6 y54) 37 = (G 37) from (show G42 37 = G 37 from funext fun k_ => hU44 37 k_ (show (3700 : Nat) ∉ ([1602, 1605, 3500] : List Nat) by decide)))] at h9); first | exact h9 | omega
      have q63 : ((G57 16 6).toInt ≤ y54.toInt) := hp60.2.1
      have b64 : (0 : Int) ≤ (G57 16 1).toInt ∧ (G57 16 1).toInt ≤ 80 := hI58 16 1
      have q65 : (sM (tkr (G 37) (y51.toInt).toNat) y54.toInt (tkr (G42 35) ((G42 16 1).toInt).toNat) = (tkr (G 37) ((G57 16 4).toInt).toNat, (G57 16 6).toInt, tkr (G57 35) ((G57 16 1).toInt).toNat)) := by have h9 := hp60.2.2.1; (try simp only [(show (gu_up (gu_up (gu_up G42 16 4 y51) 16 7 y52) 16 6 y54) 37 = (G 37) from (show G42 37 = G 37 from funext fun k_ => hU44 37 k_ (show (3700 : Nat) ∉ ([1602, 1605, 3500] : List Nat) by decide))), (show (gu_up (gu_up (gu_up G42 16 4 y51) 16 7 y52) 16 6 y54) 37 = (G 37) from (show G42 37 = G 37 from funext fun k_ => hU44 37 k_ (show (3700 : Nat) ∉ ([1602, 1605, 3500] : List Nat) by decide)))] at h9); first | exact h9 | omega
      have q66 : ((G57 16 1).toInt + (G57 16 4).toInt = (G42 16 1).toInt + y51.toInt) := hp60.2.2.2
      clear hp60 hw56
      refine g_iconst F 0 dX3_takeBehindOperand_55 (by decide) ?_
      exact u_iret F hA hQ hr G57 (⟨hI58, (gu_un.tr (gu_un.up (j := 16) (k := 6) (v := y54) (gu_un.up (j := 16) (k := 7) (v := y52) (gu_un.up (j := 16) (k := 4) (v := y51) (gu_un.tr gu_un.rf (gu_un.su hU44 rfl)) (show (1605 : Nat) ∈ ([1602, 1605, 1607, 1608, 1609, 3500, 3700] : List Nat) by decide)) (show (1608 : Nat) ∈ ([1602, 1605, 1607, 1608, 1609, 3500, 3700] : List Nat) by decide)) (show (1607 : Nat) ∈ ([1602, 1605, 1607, 1608, 1609, 3500, 3700] : List Nat) by decide)) (gu_un.su hU59 rfl)), (by decide), (xFi.mk (w := 0) (by obtain ⟨t8, h1, h2⟩ := q62; exact ⟨t8, h1, fun _ => h2⟩) (by omega) (show G57 37 = _ from (show G57 37 = (gu_up (gu_up (gu_up G42 16 4 y51) 16 7 y52) 16 6 y54) 37 from funext fun k_ => hU59 37 k_ (show (3700 : Nat) ∉ ([1602, 1605, 1607, 3500] : List Nat) by decide)).trans ((show G42 37 = G 37 from funext fun k_ => hU44 37 k_ (show (3700 : Nat) ∉ ([1602, 1605, 3500] : List Nat) by decide)))) (show (G57 16 4).toInt = _ by rw [show G57 16 4 = (G57 16 4) from rfl]) (show (G57 16 6).toInt = _ by rw [show G57 16 6 = (G57 16 6) from rfl]) (show (G57 16 7).toInt = _ by rw [show G57 16 7 = y52 from hU59 16 7 (by decide)]) (show (G57 16 8).toInt = _ by rw [show G57 16 8 = (G 16 8) from (hU59 16 8 (by decide)).trans (hU44 16 8 (by decide))] <;> (first | rfl | omega))), (fun ls => by rw [xS_of (rc := 35) (show (G57 16 8).toInt = 0 by rw [show G57 16 8 = (G 16 8) from (hU59 16 8 (by decide)).trans (hU44 16 8 (by decide))]; omega) (show G57 37 = (G 37) from (show G57 37 = (gu_up (gu_up (gu_up G42 16 4 y51) 16 7 y52) 16 6 y54) 37 from funext fun k_ => hU59 37 k_ (show (3700 : Nat) ∉ ([1602, 1605, 1607, 3500] : List Nat) by decide)).trans ((show G42 37 = G 37 from funext fun k_ => hU44 37 k_ (show (3700 : Nat) ∉ ([1602, 1605, 3500] : List Nat) by decide)))) (show (G57 16 4).toInt = (G57 16 4).toInt from congrArg Int32.toInt (show G57 16 4 = (G57 16 4) from rfl)) (show (G57 16 6).toInt = (G57 16 6).toInt from congrArg Int32.toInt (show G57 16 6 = (G57 16 6) from rfl)) (show (G57 16 7).toInt = y52.toInt from congrArg Int32.toInt (show G57 16 7 = y52 from hU59 16 7 (by decide))) (show (G57 16 5).toInt = (G 16 5).toInt from congrArg Int32.toInt (show G57 16 5 = (G 16 5) from (hU59 16 5 (by decide)).trans (hU44 16 5 (by decide)))) (show G57 35 = (G57 35) from rfl) (show (G57 16 1).toInt = (G57 16 1).toInt from congrArg Int32.toInt (show G57 16 1 = (G57 16 1) from rfl))]; exact (sT_close (by omega) (by omega) (by omega) (by omega) q49 (tkr_tail (by omega) (show y51.toInt = _ by omega)) (by omega) q65 (by omega)).cast (by decide)), (by show (((G57 16 8).toInt = 0 ∧ (G57 16 1).toInt + (G57 16 4).toInt ≤ 6 * (G57 16 5).toInt) ∨ ((G57 16 8).toInt ≠ 0 ∧ (G57 16 1).toInt + (G57 16 4).toInt ≤ 6 * (G57 16 5).toInt + 1 + (G57 16 6).toInt)); have e9_16_5 : G57 16 5 = (G 16 5) := (hU59 16 5 (by decide)).trans (hU44 16 5 (by decide)); have e9_16_8 : G57 16 8 = (G 16 8) := (hU59 16 8 (by decide)).trans (hU44 16 8 (by decide)); (try simp only [e9_16_5, e9_16_8, true_and, and_true]) <;> (first | omega | (simp only [Int32.reduceToInt, true_and, and_true, ne_eq, not_true_eq_false, false_and, or_false, false_or, true_or, or_true, false_implies] <;> omega))), (by show (0 ≠ 0 ∨ (G 1 3).toInt ≠ 0); (first | omega | (simp only [Int32.reduceToInt, true_and, and_true, ne_eq, not_true_eq_false, false_and, or_false, false_or, true_or, or_true, false_implies] <;> omega)))⟩) rfl rfl dX3_takeBehindOperand_56
  · have b67 : (0 : Int) ≤ (G 1 3).toInt ∧ (G 1 3).toInt ≤ 4 := hI 1 3
    have q9 : ((G 1 3).toInt ≠ 3 ∨ (G 1 5).toInt ≠ (41 : Int)) := q9
    refine v_if_eq F 57 dX3_takeBehindOperand_6 (by decide) 0 rfl (fun c68 => ?_) (fun c68 => absurd c68 (by decide))
    refine g_aload_n F 1 dX3_takeBehindOperand_57 rfl rfl ?_
    refine xg_1_3 F i_X10 w_1 dX3_takeBehindOperand_58 (G 1 3) (rfl) ?_
    refine g_iconst F 3 dX3_takeBehindOperand_61 (by decide) ?_
    refine v_icmp_ne F 75 dX3_takeBehindOperand_62 (by decide) (G 1 3).toInt 3 rfl rfl (fun c69 => ?_) (fun c69 => ?_)
    · refine g_iconst F 0 dX3_takeBehindOperand_75 (by decide) ?_
      refine g_istore_n F [(2, .int 0), (0, .ref (a 16)), (1, .ref (a 1))] dX3_takeBehindOperand_76 rfl (by decide) rfl ?_
      refine g_iload_n F 0 dX3_takeBehindOperand_77 rfl rfl ?_
      refine v_if_ne F 83 dX3_takeBehindOperand_78 (by decide) 0 rfl (fun c70 => absurd c70 (by decide)) (fun c70 => ?_)
      refine g_iconst F 1 dX3_takeBehindOperand_81 (by decide) ?_
      exact u_iret F hA hQ hr G (⟨hI, gu_un.rf, (by decide), (fi), (fun ls => (sT_off (by omega) (by omega) (fun h9 => by omega)).cast (by decide)), (by show (((G 16 8).toInt = 0 ∧ (G 16 1).toInt + (G 16 4).toInt ≤ 6 * (G 16 5).toInt) ∨ ((G 16 8).toInt ≠ 0 ∧ (G 16 1).toInt + (G 16 4).toInt ≤ 6 * (G 16 5).toInt + 1 + (G 16 6).toInt)); (first | omega | (simp only [Int32.reduceToInt, true_and, and_true, ne_eq, not_true_eq_false, false_and, or_false, false_or, true_or, or_true, false_implies] <;> omega))), (by show (1 ≠ 0 ∨ (G 1 3).toInt ≠ 0); (first | omega | (simp only [Int32.reduceToInt, true_and, and_true, ne_eq, not_true_eq_false, false_and, or_false, false_or, true_or, or_true, false_implies] <;> omega)))⟩) rfl rfl dX3_takeBehindOperand_82
    · refine g_aload_n F 1 dX3_takeBehindOperand_65 rfl rfl ?_
      refine xg_1_5 F i_X10 w_2 dX3_takeBehindOperand_66 (G 1 5) (rfl) ?_
      refine u_call0 (k := 0) (n := 0) (As := [.int (G 1 5)]) (st := []) F (fun sz => S_X3_strengthOf l D (G 1 5) (G 1 5).toInt rfl sz) (va_cwS 1 hts gX3_takeBehindOperand_X3_strengthOf rfl rfl rfl (by decide +kernel) ⟨Nat.le_of_ble_eq_true rfl, Nat.le_of_ble_eq_true rfl⟩) rfl (Nat.le_of_ble_eq_true rfl) ⟨Nat.zero_le _, Nat.zero_le _⟩ dX3_takeBehindOperand_69 (fun r71 _ hw72 => ?_)
      have q74 : (r71.toInt = xsg (G 1 5).toInt) := hw72.2
      have rg75 := hw72.1
      clear hw72
      refine g_goto F 76 dX3_takeBehindOperand_72 (by decide) ?_
      refine g_istore_n F [(2, .int r71), (0, .ref (a 16)), (1, .ref (a 1))] dX3_takeBehindOperand_76 rfl (by decide) rfl ?_
      refine g_iload_n F 0 dX3_takeBehindOperand_77 rfl rfl ?_
      refine v_if_ne F 83 dX3_takeBehindOperand_78 (by decide) r71.toInt rfl (fun c76 => ?_) (fun c76 => ?_)
      · refine g_aload_n F 1 dX3_takeBehindOperand_83 rfl rfl ?_
        refine g_iload_n F 0 dX3_takeBehindOperand_84 rfl rfl ?_
        refine u_callVv (k := 0) (n := 0) (b := a 16) (As := [.int r71]) (st := []) F (fun sz => S_X3_joinDownTo_16 l D K a G r71 r71.toInt rfl (by omega) (by exact ⟨t9, f1.cast rfl (congrArg Int32.toInt (show G 16 4 = (G 16 4) from rfl)) (congrArg Int32.toInt (show G 16 6 = (G 16 6) from rfl)) (congrArg Int32.toInt (show G 16 7 = (G 16 7) from rfl)), f2 wo⟩) (by (first | omega | (simp only [Int32.reduceToInt, true_and, and_true, ne_eq, not_true_eq_false, false_and, or_false, false_or, true_or, or_true, false_implies] <;> omega))) hI sz) (cwV 1 hts gX3_takeBehindOperand_X3_joinDownTo rfl rfl rfl (by decide +kernel) ⟨Nat.le_of_ble_eq_true rfl, Nat.le_of_ble_eq_true rfl⟩) rfl 16 xc_16 rfl (Nat.le_of_ble_eq_true rfl) ⟨Nat.zero_le _, Nat.zero_le _⟩ dX3_takeBehindOperand_85 (fun G79 hw78 => ?_)
        have hI80 : xI G79 := hw78.1
        have hU81 : gu_un xcd [1602, 1605, 3500] G G79 := hw78.2.1
        have hp82 := hw78.2.2
        have b83 : (0 : Int) ≤ (G79 16 4).toInt ∧ (G79 16 4).toInt ≤ 16 := hI80 16 4
        have q84 : (∃ t, xQ (G 37) (G79 16 4).toInt (G 16 6).toInt (G 16 7).toInt t ∧ 0 ≤ t ∧ t < r71.toInt) := hp82.1
        have b85 : (0 : Int) ≤ (G79 16 1).toInt ∧ (G79 16 1).toInt ≤ 80 := hI80 16 1
        have q86 : (sJ r71.toInt (tkr (G 37) ((G 16 4).toInt).toNat) (tkr (G 35) ((G 16 1).toInt).toNat) = (tkr (G 37) ((G79 16 4).toInt).toNat, tkr (G79 35) ((G79 16 1).toInt).toNat)) := hp82.2.1
        have q87 : ((G79 16 1).toInt + (G79 16 4).toInt = (G 16 1).toInt + (G 16 4).toInt) := hp82.2.2
        clear hp82 hw78
        obtain ⟨t8, j1, j2, j3⟩ := q84
        have j6 := j1.le
        refine g_aload_n F 1 dX3_takeBehindOperand_88 rfl rfl ?_
        refine g_aload_n F 2 dX3_takeBehindOperand_89 rfl rfl ?_
        refine xg_1_5 F i_X10 w_2 dX3_takeBehindOperand_90 (G 1 5) (hU81 1 5 (by decide)) ?_
        refine u_callVv (k := 0) (n := 0) (b := a 16) (As := [.int (G 1 5)]) (st := []) F (fun sz => S_X3_putWaiting_16 l D K a G79 (G 1 5) (G 1 5).toInt rfl hI80 sz) (cwV 1 hts gX3_takeBehindOperand_X3_putWaiting rfl rfl rfl (by decide +kernel) ⟨Nat.le_of_ble_eq_true rfl, Nat.le_of_ble_eq_true rfl⟩) rfl 16 xc_16 rfl (Nat.le_of_ble_eq_true rfl) ⟨Nat.zero_le _, Nat.zero_le _⟩ dX3_takeBehindOperand_93 (fun G90 hw89 => ?_)
        have hI91 : xI G90 := hw89.1
        have hU92 : gu_un xcd [1605, 3700] G79 G90 := hw89.2.1
        have hp93 := hw89.2.2
        have b94 : (0 : Int) ≤ (G90 16 4).toInt ∧ (G90 16 4).toInt ≤ 16 := hI91 16 4
        have q95 : ((G79 16 4).toInt ≤ 15 → (G90 37 = upd (G 37) ((G79 16 4).toInt).toNat (G 1 5) ∧ (G90 16 4).toInt = (G79 16 4).toInt + 1)) := by have h9 := hp93; (try simp only [(show G79 37 = (G 37) from (show G79 37 = G 37 from funext fun k_ => hU81 37 k_ (show (3700 : Nat) ∉ ([1602, 1605, 3500] : List Nat) by decide)))] at h9); first | exact h9 | omega
        clear hp93 hw89
        refine g_aload_n F 1 dX3_takeBehindOperand_96 rfl rfl ?_
        refine g_iconst F 1 dX3_takeBehindOperand_97 (by decide) ?_
        refine xp_16_8 F i_X3 w_3 dX3_takeBehindOperand_98 (by decide) ?_
        refine g_iconst F 0 dX3_takeBehindOperand_101 (by decide) ?_
        exact u_iret F hA hQ hr (gu_up G90 16 8 1) (⟨(gu_I.up (j := 16) (k := 8) (v := 1) hI91 (show (0 : Int) ≤ (1 : Int32).toInt by decide) (show (1 : Int32).toInt ≤ 1 by decide)), (gu_un.up (j := 16) (k := 8) (v := 1) (gu_un.tr (gu_un.tr gu_un.rf (gu_un.su hU81 rfl)) (gu_un.su hU92 rfl)) (show (1609 : Nat) ∈ ([1602, 1605, 1607, 1608, 1609, 3500, 3700] : List Nat) by decide)), (by decide), (xFi.mk (w := 1) (by exact ⟨_, j1.push.2.2 j2 (by omega), fun h => absurd h (by decide)⟩) (by omega) (show (gu_up G90 16 8 1) 37 = _ from (q95 (by omega)).1) (show ((gu_up G90 16 8 1) 16 4).toInt = _ by rw [show (gu_up G90 16 8 1) 16 4 = (G90 16 4) from rfl] <;> (exact (q95 (by omega)).2)) (show ((gu_up G90 16 8 1) 16 6).toInt = _ by rw [show (gu_up G90 16 8 1) 16 6 = (G 16 6) from (hU92 16 6 (by decide)).trans (hU81 16 6 (by decide))]) (show ((gu_up G90 16 8 1) 16 7).toInt = _ by rw [show (gu_up G90 16 8 1) 16 7 = (G 16 7) from (hU92 16 7 (by decide)).trans (hU81 16 7 (by decide))]) (show ((gu_up G90 16 8 1) 16 8).toInt = _ by rw [show (gu_up G90 16 8 1) 16 8 = 1 from rfl] <;> (rfl))), (fun ls => by rw [xS_of (rc := 35) (show ((gu_up G90 16 8 1) 16 8).toInt = 1 by rw [show (gu_up G90 16 8 1) 16 8 = 1 from rfl]; rfl) (show (gu_up G90 16 8 1) 37 = (G90 37) from rfl) (show ((gu_up G90 16 8 1) 16 4).toInt = (G90 16 4).toInt from congrArg Int32.toInt (show (gu_up G90 16 8 1) 16 4 = (G90 16 4) from rfl)) (show ((gu_up G90 16 8 1) 16 6).toInt = (G 16 6).toInt from congrArg Int32.toInt (show (gu_up G90 16 8 1) 16 6 = (G 16 6) from (hU92 16 6 (by decide)).trans (hU81 16 6 (by decide)))) (show ((gu_up G90 16 8 1) 16 7).toInt = (G 16 7).toInt from congrArg Int32.toInt (show (gu_up G90 16 8 1) 16 7 = (G 16 7) from (hU92 16 7 (by decide)).trans (hU81 16 7 (by decide)))) (show ((gu_up G90 16 8 1) 16 5).toInt = (G 16 5).toInt from congrArg Int32.toInt (show (gu_up G90 16 8 1) 16 5 = (G 16 5) from (hU92 16 5 (by decide)).trans (hU81 16 5 (by decide)))) (show (gu_up G90 16 8 1) 35 = (G79 35) from (show G90 35 = G79 35 from funext fun k_ => hU92 35 k_ (show (3500 : Nat) ∉ ([1605, 3700] : List Nat) by decide))) (show ((gu_up G90 16 8 1) 16 1).toInt = (G79 16 1).toInt from congrArg Int32.toInt (show (gu_up G90 16 8 1) 16 1 = (G79 16 1) from hU92 16 1 (by decide)))]; exact (sT_sign (by omega) (by omega) rfl (by omega) (by have h9 := q86; rw [show r71.toInt = xsg (G 1 5).toInt by omega] at h9; exact h9) (by rw [(q95 (by omega)).1, tkr_push (by omega) (q95 (by omega)).2])).cast (by decide)), (by show ((((gu_up G90 16 8 1) 16 8).toInt = 0 ∧ ((gu_up G90 16 8 1) 16 1).toInt + ((gu_up G90 16 8 1) 16 4).toInt ≤ 6 * ((gu_up G90 16 8 1) 16 5).toInt) ∨ (((gu_up G90 16 8 1) 16 8).toInt ≠ 0 ∧ ((gu_up G90 16 8 1) 16 1).toInt + ((gu_up G90 16 8 1) 16 4).toInt ≤ 6 * ((gu_up G90 16 8 1) 16 5).toInt + 1 + ((gu_up G90 16 8 1) 16 6).toInt)); have e9_16_1 : (gu_up G90 16 8 1) 16 1 = (G79 16 1) := hU92 16 1 (by decide); have e9_16_4 : (gu_up G90 16 8 1) 16 4 = (G90 16 4) := rfl; have e9_16_5 : (gu_up G90 16 8 1) 16 5 = (G 16 5) := (hU92 16 5 (by decide)).trans (hU81 16 5 (by decide)); have e9_16_6 : (gu_up G90 16 8 1) 16 6 = (G 16 6) := (hU92 16 6 (by decide)).trans (hU81 16 6 (by decide)); have e9_16_8 : (gu_up G90 16 8 1) 16 8 = 1 := rfl; (try simp only [e9_16_1, e9_16_4, e9_16_5, e9_16_6, e9_16_8, true_and, and_true]) <;> (first | omega | (simp only [Int32.reduceToInt, true_and, and_true, ne_eq, not_true_eq_false, false_and, or_false, false_or, true_or, or_true, false_implies] <;> omega))), (by show (0 ≠ 0 ∨ (G 1 3).toInt ≠ 0); (first | omega | (simp only [Int32.reduceToInt, true_and, and_true, ne_eq, not_true_eq_false, false_and, or_false, false_or, true_or, or_true, false_implies] <;> omega)))⟩) rfl rfl dX3_takeBehindOperand_102
      · refine g_iconst F 1 dX3_takeBehindOperand_81 (by decide) ?_
        exact u_iret F hA hQ hr G (⟨hI, gu_un.rf, (by decide), (fi), (fun ls => (sT_off (by omega) (by omega) (fun h9 => by omega)).cast (by decide)), (by show (((G 16 8).toInt = 0 ∧ (G 16 1).toInt + (G 16 4).toInt ≤ 6 * (G 16 5).toInt) ∨ ((G 16 8).toInt ≠ 0 ∧ (G 16 1).toInt + (G 16 4).toInt ≤ 6 * (G 16 5).toInt + 1 + (G 16 6).toInt)); (first | omega | (simp only [Int32.reduceToInt, true_and, and_true, ne_eq, not_true_eq_false, false_and, or_false, false_or, true_or, or_true, false_implies] <;> omega))), (by show (1 ≠ 0 ∨ (G 1 3).toInt ≠ 0); (first | omega | (simp only [Int32.reduceToInt, true_and, and_true, ne_eq, not_true_eq_false, false_and, or_false, false_or, true_or, or_true, false_implies] <;> omega)))⟩) rfl rfl dX3_takeBehindOperand_82


set_option maxHeartbeats 4000000 in
set_option maxRecDepth 100000 in
theorem S_X3_begin_16 (l : Launch) (D : va_G) (K : Nat → ClassId) (a : Nat → Nat) (G : gS) (hI : xI G) (sz : Nat) : Kv l yX3_begin wsX3_begin 1 40 0 0 D [.ref (a 16)] (xW K a G) (tK K) sz (fun (G' : gS) => (xI G') ∧ (gu_un xcd [1602, 1605, 1606, 1607, 1608, 1609] G G') ∧ (xFi 16 37 G') ∧ ((xS 16 35 37 G' = (1, [], 0, 0, 0, []))) ∧ ((((G' 16 8).toInt = 0 ∧ (G' 16 1).toInt + (G' 16 4).toInt ≤ 6 * (G' 16 5).toInt) ∨ ((G' 16 8).toInt ≠ 0 ∧ (G' 16 1).toInt + (G' 16 4).toInt ≤ 6 * (G' 16 5).toInt + 1 + (G' 16 6).toInt)))) (fun (G' : gS) => (xW K a G')) (fun _ => (tK K)) := by
  unfold Kv
  refine g_ofW (cc := cX3_begin) (lv := [(0, .ref (a 16))]) (by decide) rfl (Nat.le_of_ble_eq_true rfl) rfl ?_
  intro p e s m args below meth c A Q hA hQ F hr hnm
  have hts := F.2.2.2.2.1
  have w_0 : (Cond.fieldLink RX3 21 "QuietCut$Formula" "length" "I").before args s = true := hts _ (List.mem_of_getElem? (i := 1) rfl)
  have i_X3 : ∀ w ∈ u_ws RX3 TX3 9, w ∈ wsX3_begin := fun _ h => List.mem_cons_of_mem _ (List.mem_append_right _ h)
  have w_1 : (Cond.fieldLink RX3 35 "QuietCut$Formula" "waits" "I").before args s = true := hts _ (List.mem_of_getElem? (i := 2) rfl)
  have w_2 : (Cond.fieldLink RX3 38 "QuietCut$Formula" "operands" "I").before args s = true := hts _ (List.mem_of_getElem? (i := 3) rfl)
  have w_3 : (Cond.fieldLink RX3 41 "QuietCut$Formula" "open" "I").before args s = true := hts _ (List.mem_of_getElem? (i := 4) rfl)
  have w_4 : (Cond.fieldLink RX3 44 "QuietCut$Formula" "parentheses" "I").before args s = true := hts _ (List.mem_of_getElem? (i := 5) rfl)
  have w_5 : (Cond.fieldLink RX3 47 "QuietCut$Formula" "wantsOperand" "Z").before args s = true := hts _ (List.mem_of_getElem? (i := 6) rfl)
  refine g_aload_n F 0 dX3_begin_0 rfl rfl ?_
  refine g_iconst F 0 dX3_begin_1 (by decide) ?_
  refine xp_16_1 F i_X3 w_0 dX3_begin_2 ?_
  refine g_aload_n F 0 dX3_begin_5 rfl rfl ?_
  refine g_iconst F 0 dX3_begin_6 (by decide) ?_
  refine xp_16_4 F i_X3 w_1 dX3_begin_7 ?_
  refine g_aload_n F 0 dX3_begin_10 rfl rfl ?_
  refine g_iconst F 0 dX3_begin_11 (by decide) ?_
  refine xp_16_5 F i_X3 w_2 dX3_begin_12 ?_
  refine g_aload_n F 0 dX3_begin_15 rfl rfl ?_
  refine g_iconst F 0 dX3_begin_16 (by decide) ?_
  refine xp_16_6 F i_X3 w_3 dX3_begin_17 ?_
  refine g_aload_n F 0 dX3_begin_20 rfl rfl ?_
  refine g_iconst F 0 dX3_begin_21 (by decide) ?_
  refine xp_16_7 F i_X3 w_4 dX3_begin_22 ?_
  refine g_aload_n F 0 dX3_begin_25 rfl rfl ?_
  refine g_iconst F 1 dX3_begin_26 (by decide) ?_
  refine xp_16_8 F i_X3 w_5 dX3_begin_27 (by decide) ?_
  exact u_vret F hA hQ hr (gu_up (gu_up (gu_up (gu_up (gu_up (gu_up G 16 1 0) 16 4 0) 16 5 0) 16 6 0) 16 7 0) 16 8 1) (⟨(gu_I.up (j := 16) (k := 8) (v := 1) (gu_I.up (j := 16) (k := 7) (v := 0) (gu_I.up (j := 16) (k := 6) (v := 0) (gu_I.up (j := 16) (k := 5) (v := 0) (gu_I.up (j := 16) (k := 4) (v := 0) (gu_I.up (j := 16) (k := 1) (v := 0) hI (show (0 : Int) ≤ (0 : Int32).toInt by decide) (show (0 : Int32).toInt ≤ 80 by decide)) (show (0 : Int) ≤ (0 : Int32).toInt by decide) (show (0 : Int32).toInt ≤ 16 by decide)) (show (0 : Int) ≤ (0 : Int32).toInt by decide) (show (0 : Int32).toInt ≤ 12 by decide)) (ti_rng _).1 (ti_rng _).2) (ti_rng _).1 (ti_rng _).2) (show (0 : Int) ≤ (1 : Int32).toInt by decide) (show (1 : Int32).toInt ≤ 1 by decide)), (gu_un.up (j := 16) (k := 8) (v := 1) (gu_un.up (j := 16) (k := 7) (v := 0) (gu_un.up (j := 16) (k := 6) (v := 0) (gu_un.up (j := 16) (k := 5) (v := 0) (gu_un.up (j := 16) (k := 4) (v := 0) (gu_un.up (j := 16) (k := 1) (v := 0) gu_un.rf (show (1602 : Nat) ∈ ([1602, 1605, 1606, 1607, 1608, 1609] : List Nat) by decide)) (show (1605 : Nat) ∈ ([1602, 1605, 1606, 1607, 1608, 1609] : List Nat) by decide)) (show (1606 : Nat) ∈ ([1602, 1605, 1606, 1607, 1608, 1609] : List Nat) by decide)) (show (1607 : Nat) ∈ ([1602, 1605, 1606, 1607, 1608, 1609] : List Nat) by decide)) (show (1608 : Nat) ∈ ([1602, 1605, 1606, 1607, 1608, 1609] : List Nat) by decide)) (show (1609 : Nat) ∈ ([1602, 1605, 1606, 1607, 1608, 1609] : List Nat) by decide)), (xFi.mk (f := G 37) (n := 0) (o := 0) (p := 0) (w := 1) ⟨0, xQ.at0, fun _ => by omega⟩ (by decide) rfl rfl rfl rfl rfl), (rfl), (by show ((((gu_up (gu_up (gu_up (gu_up (gu_up (gu_up G 16 1 0) 16 4 0) 16 5 0) 16 6 0) 16 7 0) 16 8 1) 16 8).toInt = 0 ∧ ((gu_up (gu_up (gu_up (gu_up (gu_up (gu_up G 16 1 0) 16 4 0) 16 5 0) 16 6 0) 16 7 0) 16 8 1) 16 1).toInt + ((gu_up (gu_up (gu_up (gu_up (gu_up (gu_up G 16 1 0) 16 4 0) 16 5 0) 16 6 0) 16 7 0) 16 8 1) 16 4).toInt ≤ 6 * ((gu_up (gu_up (gu_up (gu_up (gu_up (gu_up G 16 1 0) 16 4 0) 16 5 0) 16 6 0) 16 7 0) 16 8 1) 16 5).toInt) ∨ (((gu_up (gu_up (gu_up (gu_up (gu_up (gu_up G 16 1 0) 16 4 0) 16 5 0) 16 6 0) 16 7 0) 16 8 1) 16 8).toInt ≠ 0 ∧ ((gu_up (gu_up (gu_up (gu_up (gu_up (gu_up G 16 1 0) 16 4 0) 16 5 0) 16 6 0) 16 7 0) 16 8 1) 16 1).toInt + ((gu_up (gu_up (gu_up (gu_up (gu_up (gu_up G 16 1 0) 16 4 0) 16 5 0) 16 6 0) 16 7 0) 16 8 1) 16 4).toInt ≤ 6 * ((gu_up (gu_up (gu_up (gu_up (gu_up (gu_up G 16 1 0) 16 4 0) 16 5 0) 16 6 0) 16 7 0) 16 8 1) 16 5).toInt + 1 + ((gu_up (gu_up (gu_up (gu_up (gu_up (gu_up G 16 1 0) 16 4 0) 16 5 0) 16 6 0) 16 7 0) 16 8 1) 16 6).toInt)); have e9_16_1 : (gu_up (gu_up (gu_up (gu_up (gu_up (gu_up G 16 1 0) 16 4 0) 16 5 0) 16 6 0) 16 7 0) 16 8 1) 16 1 = 0 := rfl; have e9_16_4 : (gu_up (gu_up (gu_up (gu_up (gu_up (gu_up G 16 1 0) 16 4 0) 16 5 0) 16 6 0) 16 7 0) 16 8 1) 16 4 = 0 := rfl; have e9_16_5 : (gu_up (gu_up (gu_up (gu_up (gu_up (gu_up G 16 1 0) 16 4 0) 16 5 0) 16 6 0) 16 7 0) 16 8 1) 16 5 = 0 := rfl; have e9_16_6 : (gu_up (gu_up (gu_up (gu_up (gu_up (gu_up G 16 1 0) 16 4 0) 16 5 0) 16 6 0) 16 7 0) 16 8 1) 16 6 = 0 := rfl; have e9_16_8 : (gu_up (gu_up (gu_up (gu_up (gu_up (gu_up G 16 1 0) 16 4 0) 16 5 0) 16 6 0) 16 7 0) 16 8 1) 16 8 = 1 := rfl; (try simp only [e9_16_1, e9_16_4, e9_16_5, e9_16_6, e9_16_8, true_and, and_true]) <;> (first | omega | (simp only [Int32.reduceToInt, true_and, and_true, ne_eq, not_true_eq_false, false_and, or_false, false_or, true_or, or_true, false_implies] <;> omega)))⟩) rfl rfl dX3_begin_30
