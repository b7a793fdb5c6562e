
set_option maxHeartbeats 4000000 in
set_option maxRecDepth 100000 in
theorem S_J7_fill_53178_19 (l : Launch) (D : va_G) (K : Nat → ClassId) (a : Nat → Nat) (G : gS) (p1 : Int32) (s1 : Int) (e1 : p1.toInt = s1) (hI : xI G) (sz : Nat) : Kv l yJ7_fill_53178 wsJ7_fill_53178 1 40 0 0 D [.ref (a 19), .int p1] (xW K a G) (tK K) sz (fun (G' : gS) => (xI G') ∧ (gu_un xcd [1900] G G') ∧ ((∀ q : Nat, q < 36 → G' 19 q = p1))) (fun (G' : gS) => (xW K a G')) (fun _ => (tK K)) := by
  unfold Kv
  refine g_ofW (cc := cJ7_fill_53178) (lv := [(0, .ref (a 19)), (1, .int p1)]) (by decide +kernel) rfl (Nat.le_of_ble_eq_true rfl) rfl ?_
  intro p e s m args below meth c A Q hA hQ F hr hnm
  have hts := F.2.2.2.2.1
  have rg1 : -2147483648 ≤ s1 ∧ s1 ≤ 2147483647 := e1 ▸ ti_rng p1
  have J_5 : ∀ (fuel : Nat) (x5_2 : Int32) (Gj5 : gS), (2147483647 - x5_2.toInt).toNat < fuel → (0 ≤ x5_2.toInt ∧ x5_2.toInt ≤ 36) → (xI Gj5) → (gu_un xcd [1900] G Gj5) → (∀ q : Nat, (q : Int) < x5_2.toInt → Gj5 19 q = p1) → gG p l e (gR 1 0 0 40) s m args below meth c D A 4 Q 0 0 (xW K a Gj5) (tK K) [(0, .ref (a 19)), (1, .int p1), (2, .int x5_2), (3, .int 36)] 5 [] := by
    intro fuel
    induction fuel with
    | zero => intro x5_2 Gj5 hm; exact absurd hm (Nat.not_lt_zero _)
    | succ fuel_5 ih_5 =>
      intro x5_2 Gj5 hm_5 h5_2 jI5 jU5 fz
      refine g_iload_n F 2 dJ7_fill_53178_5 rfl rfl ?_
      refine g_iload_n F 3 dJ7_fill_53178_6 rfl rfl ?_
      refine v_icmp_ge F 20 dJ7_fill_53178_7 (by decide) x5_2.toInt 36 rfl rfl (fun c1 => ?_) (fun c1 => ?_)
      · exact u_vret F hA hQ hr Gj5 (⟨jI5, (gu_un.tr gu_un.rf (gu_un.su jU5 rfl)), (fun q hq => fz q (by omega))⟩) rfl rfl dJ7_fill_53178_20
      · refine g_aload_n F 0 dJ7_fill_53178_10 rfl rfl ?_
        refine g_iload_n F 2 dJ7_fill_53178_11 rfl rfl ?_
        refine g_iload_n F 1 dJ7_fill_53178_12 rfl rfl ?_
        refine u_iast F 19 0 xc_19 rfl x5_2.toInt rfl (by omega) (by omega) (xW K a (gu_up Gj5 19 (x5_2.toInt).toNat p1)) (xs_19 _) dJ7_fill_53178_13 ?_
        refine u_iinc F (fun v_ => [(2, .int v_), (0, .ref (a 19)), (1, .int p1), (3, .int 36)]) dJ7_fill_53178_14 (j := 2) rfl x5_2.toInt 1 rfl rfl (by omega) (by omega) (by decide) (fun _ => rfl) (fun y2 ey2 => ?_)
        refine g_goto F 5 dJ7_fill_53178_17 (by decide) ?_
        refine g_locals [(0, .ref (a 19)), (1, .int p1), (2, .int y2), (3, .int 36)] [1, 2, 0, 3] rfl ?_
        exact ih_5 y2 (gu_up Gj5 19 (x5_2.toInt).toNat p1) (by omega) (by have h9 := ti_rng y2; omega) (gu_I.up (j := 19) (k := (x5_2.toInt).toNat) (v := p1) jI5 (ti_rng _).1 (ti_rng _).2) (gu_un.up (j := 19) (k := (x5_2.toInt).toNat) (v := p1) (gu_un.tr gu_un.rf (gu_un.su jU5 rfl)) (show (1900 : Nat) ∈ ([1900] : List Nat) by decide)) (fill_1 (by omega) (by omega) fz)
  refine g_iconst F 0 dJ7_fill_53178_0 (by decide) ?_
  refine g_istore_n F [(2, .int 0), (0, .ref (a 19)), (1, .int p1)] dJ7_fill_53178_1 rfl (by decide) rfl ?_
  refine g_aload_n F 1 dJ7_fill_53178_2 rfl rfl ?_
  refine g_alen F 19 0 xc_19 rfl 36 rfl dJ7_fill_53178_3 ?_
  refine g_istore_n F [(3, .int 36), (2, .int 0), (0, .ref (a 19)), (1, .int p1)] dJ7_fill_53178_4 rfl (by decide) rfl ?_
  refine g_locals [(0, .ref (a 19)), (1, .int p1), (2, .int 0), (3, .int 36)] [2, 3, 1, 0] rfl ?_
  exact J_5 _ 0 G (Nat.lt_succ_self _) (by decide) hI gu_un.rf (fun q h1 => by have h2 : (q : Int) < 0 := h1; omega)

theorem dX3_beFirstLetter_0 : decode cX3_beFirstLetter 0 = .ok (.aload_n 0, 1) := by decide +kernel
theorem dX3_beFirstLetter_1 : decode cX3_beFirstLetter 1 = .ok (.iconst 0, 1) := by decide +kernel
theorem dX3_beFirstLetter_2 : decode cX3_beFirstLetter 2 = .ok (.putfield 21, 3) := by decide +kernel
theorem dX3_beFirstLetter_5 : decode cX3_beFirstLetter 5 = .ok (.aload_n 0, 1) := by decide +kernel
theorem dX3_beFirstLetter_6 : decode cX3_beFirstLetter 6 = .ok (.iconst (-1), 1) := by decide +kernel
theorem dX3_beFirstLetter_7 : decode cX3_beFirstLetter 7 = .ok (.invokevirtual 25, 3) := by decide +kernel
theorem dX3_beFirstLetter_10 : decode cX3_beFirstLetter 10 = .ok (.return_, 1) := by decide +kernel
set_option maxRecDepth 20000 in
theorem ggX3_beFirstLetter_X3_putCode : GoodIn wsX3_beFirstLetter wsX3_putCode := goodIn_r _ [6, 1, 7, 8, 9, 10, 11, 12, 13, 14, 15, 16] rfl (by decide +kernel)
set_option maxRecDepth 20000 in
theorem gX3_beFirstLetter_X3_putCode : GoodIn wsX3_beFirstLetter (wsV RX3 25 RX3 yX3_putCode wsX3_putCode) := goodIn_app (goodIn_of _ (by decide +kernel)) ggX3_beFirstLetter_X3_putCode
set_option maxHeartbeats 4000000 in
set_option maxRecDepth 100000 in
theorem S_X3_beFirstLetter_14 (l : Launch) (D : va_G) (K : Nat → ClassId) (a : Nat → Nat) (G : gS) (hI : xI G) (sz : Nat) : Kv l yX3_beFirstLetter wsX3_beFirstLetter 2 61 0 0 D [.ref (a 14)] (xW K a G) (tK K) sz (fun (G' : gS) => (xI G') ∧ (gu_un xcd [1402, 2900] G G') ∧ ((tkr (G' 29) ((G' 14 1).toInt).toNat = [-1]))) (fun (G' : gS) => (xW K a G')) (fun _ => (tK K)) := by
  unfold Kv
  refine g_ofW (cc := cX3_beFirstLetter) (lv := [(0, .ref (a 14))]) (by decide) rfl (Nat.le_of_ble_eq_true rfl) rfl ?_
  intro p e s m args below meth c A Q hA hQ F hr hnm
  have hts := F.2.2.2.2.1
  have w_0 : (Cond.fieldLink RX3 21 "QuietCut$Formula" "length" "I").before args s = true := hts _ (List.mem_of_getElem? (i := 1) rfl)
  have i_X3 : ∀ w ∈ u_ws RX3 TX3 9, w ∈ wsX3_beFirstLetter := fun _ h => List.mem_cons_of_mem _ (List.mem_append_right _ h)
  refine g_aload_n F 0 dX3_beFirstLetter_0 rfl rfl ?_
  refine g_iconst F 0 dX3_beFirstLetter_1 (by decide) ?_
  refine xp_14_1 F i_X3 w_0 dX3_beFirstLetter_2 ?_
  refine g_aload_n F 0 dX3_beFirstLetter_5 rfl rfl ?_
  refine g_iconst F (-1) dX3_beFirstLetter_6 (by decide) ?_
  refine u_callVv (k := 0) (n := 0) (b := a 14) (As := [.int (-1)]) (st := []) F (fun sz => S_X3_putCode_14 l D K a (gu_up G 14 1 0) (-1) (-1) rfl (gu_I.up (j := 14) (k := 1) (v := 0) hI (show (0 : Int) ≤ (0 : Int32).toInt by decide) (show (0 : Int32).toInt ≤ 80 by decide)) sz) (cwV 1 hts gX3_beFirstLetter_X3_putCode rfl rfl rfl (by decide +kernel) ⟨Nat.le_of_ble_eq_true rfl, Nat.le_of_ble_eq_true rfl⟩) rfl 14 xc_14 rfl (Nat.le_of_ble_eq_true rfl) ⟨Nat.zero_le _, Nat.zero_le _⟩ dX3_beFirstLetter_7 (fun G3 hw2 => ?_)
  have hI4 : xI G3 := hw2.1
  have hU5 : gu_un xcd [1402, 2900] (gu_up G 14 1 0) G3 := hw2.2.1
  have hp6 := hw2.2.2
  have b7 : (0 : Int) ≤ (G3 14 1).toInt ∧ (G3 14 1).toInt ≤ 80 := hI4 14 1
  have q8 : ((0 : Int) ≤ 79 → (G3 29 = upd (G 29) ((0 : Int)).toNat (-1) ∧ (G3 14 1).toInt = (0 : Int) + 1)) := hp6
  clear hp6 hw2
  exact u_vret F hA hQ hr G3 (⟨hI4, (gu_un.tr (gu_un.up (j := 14) (k := 1) (v := 0) gu_un.rf (show (1402 : Nat) ∈ ([1402, 2900] : List Nat) by decide)) (gu_un.su hU5 rfl)), (by have h9 := q8 (by decide); rw [h9.1, tkr_push (n := 0) (by decide) h9.2]; rfl)⟩) rfl rfl dX3_beFirstLetter_10

theorem dX3_beZero_0 : decode cX3_beZero 0 = .ok (.aload_n 0, 1) := by decide +kernel
theorem dX3_beZero_1 : decode cX3_beZero 1 = .ok (.iconst 0, 1) := by decide +kernel
theorem dX3_beZero_2 : decode cX3_beZero 2 = .ok (.putfield 21, 3) := by decide +kernel
theorem dX3_beZero_5 : decode cX3_beZero 5 = .ok (.aload_n 0, 1) := by decide +kernel
theorem dX3_beZero_6 : decode cX3_beZero 6 = .ok (.iconst 0, 1) := by decide +kernel
theorem dX3_beZero_7 : decode cX3_beZero 7 = .ok (.invokevirtual 25, 3) := by decide +kernel
theorem dX3_beZero_10 : decode cX3_beZero 10 = .ok (.return_, 1) := by decide +kernel
set_option maxRecDepth 20000 in
theorem ggX3_beZero_X3_putCode : GoodIn wsX3_beZero wsX3_putCode := goodIn_r _ [6, 1, 7, 8, 9, 10, 11, 12, 13, 14, 15, 16] rfl (by decide +kernel)
set_option maxRecDepth 20000 in
theorem gX3_beZero_X3_putCode : GoodIn wsX3_beZero (wsV RX3 25 RX3 yX3_putCode wsX3_putCode) := goodIn_app (goodIn_of _ (by decide +kernel)) ggX3_beZero_X3_putCode
set_option maxHeartbeats 4000000 in
set_option maxRecDepth 100000 in
theorem S_X3_beZero_15 (l : Launch) (D : va_G) (K : Nat → ClassId) (a : Nat → Nat) (G : gS) (hI : xI G) (sz : Nat) : Kv l yX3_beZero wsX3_beZero 2 61 0 0 D [.ref (a 15)] (xW K a G) (tK K) sz (fun (G' : gS) => (xI G') ∧ (gu_un xcd [1502, 3200] G G') ∧ ((tkr (G' 32) ((G' 15 1).toInt).toNat = [0]))) (fun (G' : gS) => (xW K a G')) (fun _ => (tK K)) := by
  unfold Kv
  refine g_ofW (cc := cX3_beZero) (lv := [(0, .ref (a 15))]) (by decide) rfl (Nat.le_of_ble_eq_true rfl) rfl ?_
  intro p e s m args below meth c A Q hA hQ F hr hnm
  have hts := F.2.2.2.2.1
  have w_0 : (Cond.fieldLink RX3 21 "QuietCut$Formula" "length" "I").before args s = true := hts _ (List.mem_of_getElem? (i := 1) rfl)
  have i_X3 : ∀ w ∈ u_ws RX3 TX3 9, w ∈ wsX3_beZero := fun _ h => List.mem_cons_of_mem _ (List.mem_append_right _ h)
  refine g_aload_n F 0 dX3_beZero_0 rfl rfl ?_
  refine g_iconst F 0 dX3_beZero_1 (by decide) ?_
  refine xp_15_1 F i_X3 w_0 dX3_beZero_2 ?_
  refine g_aload_n F 0 dX3_beZero_5 rfl rfl ?_
  refine g_iconst F 0 dX3_beZero_6 (by decide) ?_
  refine u_callVv (k := 0) (n := 0) (b := a 15) (As := [.int 0]) (st := []) F (fun sz => S_X3_putCode_15 l D K a (gu_up G 15 1 0) 0 0 rfl (gu_I.up (j := 15) (k := 1) (v := 0) hI (show (0 : Int) ≤ (0 : Int32).toInt by decide) (show (0 : Int32).toInt ≤ 80 by decide)) sz) (cwV 1 hts gX3_beZero_X3_putCode rfl rfl rfl (by decide +kernel) ⟨Nat.le_of_ble_eq_true rfl, Nat.le_of_ble_eq_true rfl⟩) rfl 15 xc_15 rfl (Nat.le_of_ble_eq_true rfl) ⟨Nat.zero_le _, Nat.zero_le _⟩ dX3_beZero_7 (fun G3 hw2 => ?_)
  have hI4 : xI G3 := hw2.1
  have hU5 : gu_un xcd [1502, 3200] (gu_up G 15 1 0) G3 := hw2.2.1
  have hp6 := hw2.2.2
  have b7 : (0 : Int) ≤ (G3 15 1).toInt ∧ (G3 15 1).toInt ≤ 80 := hI4 15 1
  have q8 : ((0 : Int) ≤ 79 → (G3 32 = upd (G 32) ((0 : Int)).toNat 0 ∧ (G3 15 1).toInt = (0 : Int) + 1)) := hp6
  clear hp6 hw2
  exact u_vret F hA hQ hr G3 (⟨hI4, (gu_un.tr (gu_un.up (j := 15) (k := 1) (v := 0) gu_un.rf (show (1502 : Nat) ∈ ([1502, 3200] : List Nat) by decide)) (gu_un.su hU5 rfl)), (by have h9 := q8 (by decide); rw [h9.1, tkr_push (n := 0) (by decide) h9.2]; rfl)⟩) rfl rfl dX3_beZero_10


set_option maxHeartbeats 4000000 in
set_option maxRecDepth 100000 in
theorem S_X3_beZero_16 (l : Launch) (D : va_G) (K : Nat → ClassId) (a : Nat → Nat) (G : gS) (hI : xI G) (sz : Nat) : Kv l yX3_beZero wsX3_beZero 2 61 0 0 D [.ref (a 16)] (xW K a G) (tK K) sz (fun (G' : gS) => (xI G') ∧ (gu_un xcd [1602, 3500] G G') ∧ ((tkr (G' 35) ((G' 16 1).toInt).toNat = [0]))) (fun (G' : gS) => (xW K a G')) (fun _ => (tK K)) := by
  unfold Kv
  refine g_ofW (cc := cX3_beZero) (lv := [(0, .ref (a 16))]) (by decide) rfl (Nat.le_of_ble_eq_true rfl) rfl ?_
  intro p e s m args below meth c A Q hA hQ F hr hnm
  have hts := F.2.2.2.2.1
  have w_0 : (Cond.fieldLink RX3 21 "QuietCut$Formula" "length" "I").before args s = true := hts _ (List.mem_of_getElem? (i := 1) rfl)
  have i_X3 : ∀ w ∈ u_ws RX3 TX3 9, w ∈ wsX3_beZero := fun _ h => List.mem_cons_of_mem _ (List.mem_append_right _ h)
  refine g_aload_n F 0 dX3_beZero_0 rfl rfl ?_
  refine g_iconst F 0 dX3_beZero_1 (by decide) ?_
  refine xp_16_1 F i_X3 w_0 dX3_beZero_2 ?_
  refine g_aload_n F 0 dX3_beZero_5 rfl rfl ?_
  refine g_iconst F 0 dX3_beZero_6 (by decide) ?_
  refine u_callVv (k := 0) (n := 0) (b := a 16) (As := [.int 0]) (st := []) F (fun sz => S_X3_putCode_16 l D K a (gu_up G 16 1 0) 0 0 rfl (gu_I.up (j := 16) (k := 1) (v := 0) hI (show (0 : Int) ≤ (0 : Int32).toInt by decide) (show (0 : Int32).toInt ≤ 80 by decide)) sz) (cwV 1 hts gX3_beZero_X3_putCode rfl rfl rfl (by decide +kernel) ⟨Nat.le_of_ble_eq_true rfl, Nat.le_of_ble_eq_true rfl⟩) rfl 16 xc_16 rfl (Nat.le_of_ble_eq_true rfl) ⟨Nat.zero_le _, Nat.zero_le _⟩ dX3_beZero_7 (fun G3 hw2 => ?_)
  have hI4 : xI G3 := hw2.1
  have hU5 : gu_un xcd [1602, 3500] (gu_up G 16 1 0) G3 := hw2.2.1
  have hp6 := hw2.2.2
  have b7 : (0 : Int) ≤ (G3 16 1).toInt ∧ (G3 16 1).toInt ≤ 80 := hI4 16 1
  have q8 : ((0 : Int) ≤ 79 → (G3 35 = upd (G 35) ((0 : Int)).toNat 0 ∧ (G3 16 1).toInt = (0 : Int) + 1)) := hp6
  clear hp6 hw2
  exact u_vret F hA hQ hr G3 (⟨hI4, (gu_un.tr (gu_un.up (j := 16) (k := 1) (v := 0) gu_un.rf (show (1602 : Nat) ∈ ([1602, 3500] : List Nat) by decide)) (gu_un.su hU5 rfl)), (by have h9 := q8 (by decide); rw [h9.1, tkr_push (n := 0) (by decide) h9.2]; rfl)⟩) rfl rfl dX3_beZero_10

theorem dX7_beUntold_0 : decode cX7_beUntold 0 = .ok (.aload_n 0, 1) := by decide +kernel
theorem dX7_beUntold_1 : decode cX7_beUntold 1 = .ok (.getfield 11, 3) := by decide +kernel
theorem dX7_beUntold_4 : decode cX7_beUntold 4 = .ok (.iconst 0, 1) := by decide +kernel
theorem dX7_beUntold_5 : decode cX7_beUntold 5 = .ok (.invokestatic 31, 3) := by decide +kernel
theorem dX7_beUntold_8 : decode cX7_beUntold 8 = .ok (.getstatic 37, 3) := by decide +kernel
theorem dX7_beUntold_11 : decode cX7_beUntold 11 = .ok (.iconst 0, 1) := by decide +kernel
theorem dX7_beUntold_12 : decode cX7_beUntold 12 = .ok (.aload_n 0, 1) := by decide +kernel
theorem dX7_beUntold_13 : decode cX7_beUntold 13 = .ok (.getfield 11, 3) := by decide +kernel
theorem dX7_beUntold_16 : decode cX7_beUntold 16 = .ok (.iconst 0, 1) := by decide +kernel
theorem dX7_beUntold_17 : decode cX7_beUntold 17 = .ok (.getstatic 37, 3) := by decide +kernel
theorem dX7_beUntold_20 : decode cX7_beUntold 20 = .ok (.arraylength, 1) := by decide +kernel
theorem dX7_beUntold_21 : decode cX7_beUntold 21 = .ok (.invokestatic 40, 3) := by decide +kernel
theorem dX7_beUntold_24 : decode cX7_beUntold 24 = .ok (.aload_n 0, 1) := by decide +kernel
theorem dX7_beUntold_25 : decode cX7_beUntold 25 = .ok (.getfield 18, 3) := by decide +kernel
theorem dX7_beUntold_28 : decode cX7_beUntold 28 = .ok (.invokevirtual 46, 3) := by decide +kernel
theorem dX7_beUntold_31 : decode cX7_beUntold 31 = .ok (.aload_n 0, 1) := by decide +kernel
theorem dX7_beUntold_32 : decode cX7_beUntold 32 = .ok (.getfield 22, 3) := by decide +kernel
theorem dX7_beUntold_35 : decode cX7_beUntold 35 = .ok (.invokevirtual 49, 3) := by decide +kernel
theorem dX7_beUntold_38 : decode cX7_beUntold 38 = .ok (.aload_n 0, 1) := by decide +kernel
theorem dX7_beUntold_39 : decode cX7_beUntold 39 = .ok (.getfield 25, 3) := by decide +kernel
theorem dX7_beUntold_42 : decode cX7_beUntold 42 = .ok (.invokevirtual 49, 3) := by decide +kernel
theorem dX7_beUntold_45 : decode cX7_beUntold 45 = .ok (.return_, 1) := by decide +kernel
set_option maxRecDepth 20000 in
theorem ggX7_beUntold_J7_fill_53178 : GoodIn wsX7_beUntold wsJ7_fill_53178 := goodIn_r _ [13] rfl (by decide +kernel)
set_option maxRecDepth 20000 in
theorem gX7_beUntold_J7_fill_53178 : GoodIn wsX7_beUntold (va_wsS RX7 31 yJ7_fill_53178 wsJ7_fill_53178) := goodIn_app (goodIn_of _ (by decide +kernel)) ggX7_beUntold_J7_fill_53178
set_option maxRecDepth 20000 in
theorem ggX7_beUntold_X3_beFirstLetter : GoodIn wsX7_beUntold wsX3_beFirstLetter := goodIn_r _ [18, 19, 20, 21, 22, 17, 23, 24, 33, 34, 35, 36, 37, 38, 39, 40, 41] rfl (by decide +kernel)
set_option maxRecDepth 20000 in
theorem gX7_beUntold_X3_beFirstLetter : GoodIn wsX7_beUntold (wsV RX7 46 RX3 yX3_beFirstLetter wsX3_beFirstLetter) := goodIn_app (goodIn_of _ (by decide +kernel)) ggX7_beUntold_X3_beFirstLetter
set_option maxRecDepth 20000 in
theorem ggX7_beUntold_X3_beZero : GoodIn wsX7_beUntold wsX3_beZero := goodIn_r _ [28, 19, 20, 21, 22, 17, 23, 24, 33, 34, 35, 36, 37, 38, 39, 40, 41] rfl (by decide +kernel)
set_option maxRecDepth 20000 in
theorem gX7_beUntold_X3_beZero : GoodIn wsX7_beUntold (wsV RX7 49 RX3 yX3_beZero wsX3_beZero) := goodIn_app (goodIn_of _ (by decide +kernel)) ggX7_beUntold_X3_beZero
set_option maxHeartbeats 4000000 in
set_option maxRecDepth 100000 in
theorem S_X7_beUntold_3 (l : Launch) (D : va_G) (K : Nat → ClassId) (a : Nat → Nat) (G : gS) (zf : Nat → Nat) (hI : xI G) (sz : Nat) : KvZ (xZ zf) l yX7_beUntold wsX7_beUntold 3 81 D [.ref (a 3)] (xW K a G) (tK K) sz (fun (G' : gS) => (xI G') ∧ (gu_un xcd [1402, 1502, 1602, 1900, 2900, 3200, 3500] G G') ∧ (xNb (G' 19)) ∧ ((∀ q : Nat, q < 36 → G' 19 q = hU q)) ∧ ((tkr (G' 29) ((G' 14 1).toInt).toNat = [-1])) ∧ ((tkr (G' 32) ((G' 15 1).toInt).toNat = [0])) ∧ ((tkr (G' 35) ((G' 16 1).toInt).toNat = [0]))) (fun (G' : gS) => (xW K a G')) := by
  unfold KvZ
  refine gz_ofW (cc := cX7_beUntold) (lv := [(0, .ref (a 3))]) (by decide) rfl (Nat.le_of_ble_eq_true rfl) rfl ?_
  intro p e s m args below meth c A Q hA hQ hZ F hr hnm
  have hts := F.2.2.2.2.1
  have w_0 : (Cond.fieldLink RX7 11 "QuietCut$Shop" "numbers" "[I").before args s = true := hts _ (List.mem_of_getElem? (i := 1) rfl)
  have i_X7 : ∀ w ∈ u_ws RX7 TX7 4, w ∈ wsX7_beUntold := fun _ h => List.mem_cons_of_mem _ (List.mem_append_left _ (List.mem_append_right _ h))
  have w_1 : (Cond.fieldLink RX7 37 "QuietCut$Shop" "UNTOLD" "[I").before args s = true := hts _ (List.mem_of_getElem? (i := 2) rfl)
  have w_2 : (Cond.methodLink RX7 40 arraycopyName).before args s = true := hts _ (List.mem_of_getElem? (i := 3) rfl)
  have w_3 : (Cond.native arraycopyName).before args s = true := hts _ (List.mem_of_getElem? (i := 4) rfl)
  have w_4 : (Cond.static arraycopyName).before args s = true := hts _ (List.mem_of_getElem? (i := 5) rfl)
  have w_5 : (Cond.initialized "java/lang/System").before args s = true := hts _ (List.mem_of_getElem? (i := 6) rfl)
  have w_6 : (Cond.fieldLink RX7 18 "QuietCut$Shop" "force" "LQuietCut$Formula;").before args s = true := hts _ (List.mem_of_getElem? (i := 7) rfl)
  have w_7 : (Cond.fieldLink RX7 22 "QuietCut$Shop" "wall" "LQuietCut$Formula;").before args s = true := hts _ (List.mem_of_getElem? (i := 8) rfl)
  have w_8 : (Cond.fieldLink RX7 25 "QuietCut$Shop" "wear" "LQuietCut$Formula;").before args s = true := hts _ (List.mem_of_getElem? (i := 9) rfl)
  refine g_aload_n F 0 dX7_beUntold_0 rfl rfl ?_
  refine xg_3_0 F i_X7 w_0 dX7_beUntold_1 ?_
  refine g_iconst F 0 dX7_beUntold_4 (by decide) ?_
  refine u_callSv (k := 0) (n := 0) (As := [.ref (a 19), .int 0]) (st := []) F (fun sz => S_J7_fill_53178_19 l D K a G 0 0 rfl hI sz) (va_cwS 2 hts gX7_beUntold_J7_fill_53178 rfl rfl rfl (by decide +kernel) ⟨Nat.le_of_ble_eq_true rfl, Nat.le_of_ble_eq_true rfl⟩) rfl (Nat.le_of_ble_eq_true rfl) ⟨Nat.zero_le _, Nat.zero_le _⟩ dX7_beUntold_5 (fun G3 hw2 => ?_)
  have hI4 : xI G3 := hw2.1
  have hU5 : gu_un xcd [1900] G G3 := hw2.2.1
  have hp6 := hw2.2.2
  have q7 : (∀ q : Nat, q < 36 → G3 19 q = 0) := hp6
  clear hp6 hw2
  refine g_untold F hZ.1 w_1 dX7_beUntold_8 ?_
  refine g_iconst F 0 dX7_beUntold_11 (by decide) ?_
  refine g_aload_n F 0 dX7_beUntold_12 rfl rfl ?_
  refine xg_3_0 F i_X7 w_0 dX7_beUntold_13 ?_
  refine g_iconst F 0 dX7_beUntold_16 (by decide) ?_
  refine g_untold F hZ.1 w_1 dX7_beUntold_17 ?_
  refine g_untoldLen F hZ.1 dX7_beUntold_20 ?_
  refine g_copyx F hZ.1 w_2 w_3 w_4 w_5 19 0 xc_19 rfl (by decide) (by decide) (by decide) (by decide) (by decide) (Nat.le_of_ble_eq_true rfl) (Nat.le_of_ble_eq_true rfl) (xW K a (gu_st G3 19 (va_cpy gz_untold (G3 19) 0 0 12))) (xs_19 _) dX7_beUntold_21 ?_
  have nb8 : xNb ((gu_st G3 19 (va_cpy gz_untold (G3 19) 0 0 12)) 19) := xNb_untold (fun q hq => q7 q hq)
  refine g_aload_n F 0 dX7_beUntold_24 rfl rfl ?_
  refine xg_3_1 F i_X7 w_6 dX7_beUntold_25 ?_
  refine u_callVv (k := 0) (n := 0) (b := a 14) (As := []) (st := []) F (fun sz => S_X3_beFirstLetter_14 l D K a (gu_st G3 19 (va_cpy gz_untold (G3 19) 0 0 12))  (gu_I.sw (j := 19) (f := (va_cpy gz_untold (G3 19) 0 0 12)) hI4 (fun _ => ti_rng _)) sz) (cwV 0 hts gX7_beUntold_X3_beFirstLetter rfl rfl rfl (by decide +kernel) ⟨Nat.le_of_ble_eq_true rfl, Nat.le_of_ble_eq_true rfl⟩) rfl 14 xc_14 rfl (Nat.le_of_ble_eq_true rfl) ⟨Nat.zero_le _, Nat.zero_le _⟩ dX7_beUntold_28 (fun G11 hw10 => ?_)
  have hI12 : xI G11 := hw10.1
  have hU13 : gu_un xcd [1402, 2900] (gu_st G3 19 (va_cpy gz_untold (G3 19) 0 0 12)) G11 := hw10.2.1
  have hp14 := hw10.2.2
  have b15 : (0 : Int) ≤ (G11 14 1).toInt ∧ (G11 14 1).toInt ≤ 80 := hI12 14 1
  have q16 : (tkr (G11 29) ((G11 14 1).toInt).toNat = [-1]) := hp14
  clear hp14 hw10
  refine g_aload_n F 0 dX7_beUntold_31 rfl rfl ?_
  refine xg_3_2 F i_X7 w_7 dX7_beUntold_32 ?_
  refine u_callVv (k := 0) (n := 0) (b := a 15) (As := []) (st := []) F (fun sz => S_X3_beZero_15 l D K a G11  hI12 sz) (cwV 0 hts gX7_beUntold_X3_beZero rfl rfl rfl (by decide +kernel) ⟨Nat.le_of_ble_eq_true rfl, Nat.le_of_ble_eq_true rfl⟩) rfl 15 xc_15 rfl (Nat.le_of_ble_eq_true rfl) ⟨Nat.zero_le _, Nat.zero_le _⟩ dX7_beUntold_35 (fun G19 hw18 => ?_)
  have hI20 : xI G19 := hw18.1
  have hU21 : gu_un xcd [1502, 3200] G11 G19 := hw18.2.1
  have hp22 := hw18.2.2
  have b23 : (0 : Int) ≤ (G19 15 1).toInt ∧ (G19 15 1).toInt ≤ 80 := hI20 15 1
  have q24 : (tkr (G19 32) ((G19 15 1).toInt).toNat = [0]) := hp22
  clear hp22 hw18
  refine g_aload_n F 0 dX7_beUntold_38 rfl rfl ?_
  refine xg_3_3 F i_X7 w_8 dX7_beUntold_39 ?_
  refine u_callVv (k := 0) (n := 0) (b := a 16) (As := []) (st := []) F (fun sz => S_X3_beZero_16 l D K a G19  hI20 sz) (cwV 0 hts gX7_beUntold_X3_beZero rfl rfl rfl (by decide +kernel) ⟨Nat.le_of_ble_eq_true rfl, Nat.le_of_ble_eq_true rfl⟩) rfl 16 xc_16 rfl (Nat.le_of_ble_eq_true rfl) ⟨Nat.zero_le _, Nat.zero_le _⟩ dX7_beUntold_42 (fun G27 hw26 => ?_)
  have hI28 : xI G27 := hw26.1
  have hU29 : gu_un xcd [1602, 3500] G19 G27 := hw26.2.1
  have hp30 := hw26.2.2
  have b31 : (0 : Int) ≤ (G27 16 1).toInt ∧ (G27 16 1).toInt ≤ 80 := hI28 16 1
  have q32 : (tkr (G27 35) ((G27 16 1).toInt).toNat = [0]) := hp30
  clear hp30 hw26
  exact u_vret F hA hQ hr G27 (⟨hI28, (gu_un.tr (gu_un.tr (gu_un.tr (gu_un.sw (j := 19) (f := (va_cpy gz_untold (G3 19) 0 0 12)) (gu_un.tr gu_un.rf (gu_un.su hU5 rfl)) (fun _ => show (1900 : Nat) ∈ ([1402, 1502, 1602, 1900, 2900, 3200, 3500] : List Nat) by decide)) (gu_un.su hU13 rfl)) (gu_un.su hU21 rfl)) (gu_un.su hU29 rfl)), ((xNb.un (xNb.un (xNb.un nb8 hU13 rfl) hU21 rfl) hU29 rfl)), (fun q hq => by rw [show G27 19 q = G19 19 q from hU29 19 q (by simp [xcd])]; rw [show G19 19 q = G11 19 q from hU21 19 q (by simp [xcd])]; rw [show G11 19 q = (gu_st G3 19 (va_cpy gz_untold (G3 19) 0 0 12)) 19 q from hU13 19 q (by simp [xcd])]; exact untold_36 (fun q hq => q7 q hq) q hq), (by rw [show G27 29 = G11 29 from funext fun k_ => (show gu_un xcd [1502, 1602, 3200, 3500] G11 G27 from (gu_un.tr (gu_un.tr gu_un.rf (gu_un.su hU21 rfl)) (gu_un.su hU29 rfl))) 29 k_ (by simp [xcd]), show G27 14 1 = G11 14 1 from (show gu_un xcd [1502, 1602, 3200, 3500] G11 G27 from (gu_un.tr (gu_un.tr gu_un.rf (gu_un.su hU21 rfl)) (gu_un.su hU29 rfl))) 14 1 (by decide)]; exact q16), (by rw [show G27 32 = G19 32 from funext fun k_ => (show gu_un xcd [1602, 3500] G19 G27 from (gu_un.tr gu_un.rf (gu_un.su hU29 rfl))) 32 k_ (by simp [xcd]), show G27 15 1 = G19 15 1 from (show gu_un xcd [1602, 3500] G19 G27 from (gu_un.tr gu_un.rf (gu_un.su hU29 rfl))) 15 1 (by decide)]; exact q24), (q32)⟩) rfl rfl dX7_beUntold_45

theorem dX7_put_0 : decode cX7_put 0 = .ok (.iload_n 1, 1) := by decide +kernel
theorem dX7_put_1 : decode cX7_put 1 = .ok (.ifCond .lt 19, 3) := by decide +kernel
theorem dX7_put_4 : decode cX7_put 4 = .ok (.iload_n 1, 1) := by decide +kernel
theorem dX7_put_5 : decode cX7_put 5 = .ok (.aload_n 0, 1) := by decide +kernel
theorem dX7_put_6 : decode cX7_put 6 = .ok (.getfield 11, 3) := by decide +kernel
theorem dX7_put_9 : decode cX7_put 9 = .ok (.arraylength, 1) := by decide +kernel
theorem dX7_put_10 : decode cX7_put 10 = .ok (.if_icmp .ge 10, 3) := by decide +kernel
theorem dX7_put_13 : decode cX7_put 13 = .ok (.aload_n 0, 1) := by decide +kernel
theorem dX7_put_14 : decode cX7_put 14 = .ok (.getfield 11, 3) := by decide +kernel
theorem dX7_put_17 : decode cX7_put 17 = .ok (.iload_n 1, 1) := by decide +kernel
theorem dX7_put_18 : decode cX7_put 18 = .ok (.iload_n 2, 1) := by decide +kernel
theorem dX7_put_19 : decode cX7_put 19 = .ok (.iastore, 1) := by decide +kernel
theorem dX7_put_20 : decode cX7_put 20 = .ok (.return_, 1) := by decide +kernel
set_option maxHeartbeats 4000000 in
set_option maxRecDepth 100000 in
theorem S_X7_put_3 (l : Launch) (D : va_G) (K : Nat → ClassId) (a : Nat → Nat) (G : gS) (p0 : Int32) (s0 : Int) (p1 : Int32) (s1 : Int) (e0 : p0.toInt = s0) (h0 : 0 ≤ s0 ∧ s0 ≤ 35) (e1 : p1.toInt = s1) (hI : xI G) (sz : Nat) : Kv l yX7_put wsX7_put 1 40 0 0 D [.ref (a 3), .int p0, .int p1] (xW K a G) (tK K) sz (fun (G' : gS) => (xI G') ∧ (gu_un xcd [1900] G G') ∧ ((G' 19 = upd (G 19) (s0).toNat p1))) (fun (G' : gS) => (xW K a G')) (fun _ => (tK K)) := by
  unfold Kv
  refine g_ofW (cc := cX7_put) (lv := [(0, .ref (a 3)), (1, .int p0), (2, .int p1)]) (by decide) rfl (Nat.le_of_ble_eq_true rfl) rfl ?_
  intro p e s m args below meth c A Q hA hQ F hr hnm
  have hts := F.2.2.2.2.1
  have w_0 : (Cond.fieldLink RX7 11 "QuietCut$Shop" "numbers" "[I").before args s = true := hts _ (List.mem_of_getElem? (i := 1) rfl)
  have i_X7 : ∀ w ∈ u_ws RX7 TX7 4, w ∈ wsX7_put := fun _ h => List.mem_cons_of_mem _ (List.mem_append_right _ h)
  have rg1 : -2147483648 ≤ s1 ∧ s1 ≤ 2147483647 := e1 ▸ ti_rng p1
  refine g_iload_n F 1 dX7_put_0 rfl rfl ?_
  refine v_if_lt F 20 dX7_put_1 (by decide) s0 e0 (fun c1 => absurd c1 (by omega)) (fun c1 => ?_)
  refine g_iload_n F 1 dX7_put_4 rfl rfl ?_
  refine g_aload_n F 0 dX7_put_5 rfl rfl ?_
  refine xg_3_0 F i_X7 w_0 dX7_put_6 ?_
  refine g_alen F 19 0 xc_19 rfl 36 rfl dX7_put_9 ?_
  refine v_icmp_ge F 20 dX7_put_10 (by decide) s0 36 e0 rfl (fun c2 => absurd c2 (by omega)) (fun c2 => ?_)
  refine g_aload_n F 0 dX7_put_13 rfl rfl ?_
  refine xg_3_0 F i_X7 w_0 dX7_put_14 ?_
  refine g_iload_n F 1 dX7_put_17 rfl rfl ?_
  refine g_iload_n F 2 dX7_put_18 rfl rfl ?_
  refine u_iast F 19 0 xc_19 rfl s0 e0 (by omega) (by omega) (xW K a (gu_up G 19 (s0).toNat p1)) (xs_19 _) dX7_put_19 ?_
  exact u_vret F hA hQ hr (gu_up G 19 (s0).toNat p1) (⟨(gu_I.up (j := 19) (k := (s0).toNat) (v := p1) hI (ti_rng _).1 (ti_rng _).2), (gu_un.up (j := 19) (k := (s0).toNat) (v := p1) gu_un.rf (show (1900 : Nat) ∈ ([1900] : List Nat) by decide)), (rfl)⟩) rfl rfl dX7_put_20

theorem dX3_copyFrom_0 : decode cX3_copyFrom 0 = .ok (.aload_n 0, 1) := by decide +kernel
theorem dX3_copyFrom_1 : decode cX3_copyFrom 1 = .ok (.aload_n 1, 1) := by decide +kernel
theorem dX3_copyFrom_2 : decode cX3_copyFrom 2 = .ok (.getfield 21, 3) := by decide +kernel
theorem dX3_copyFrom_5 : decode cX3_copyFrom 5 = .ok (.putfield 21, 3) := by decide +kernel
theorem dX3_copyFrom_8 : decode cX3_copyFrom 8 = .ok (.aload_n 1, 1) := by decide +kernel
theorem dX3_copyFrom_9 : decode cX3_copyFrom 9 = .ok (.getfield 11, 3) := by decide +kernel
theorem dX3_copyFrom_12 : decode cX3_copyFrom 12 = .ok (.iconst 0, 1) := by decide +kernel
theorem dX3_copyFrom_13 : decode cX3_copyFrom 13 = .ok (.aload_n 0, 1) := by decide +kernel
theorem dX3_copyFrom_14 : decode cX3_copyFrom 14 = .ok (.getfield 11, 3) := by decide +kernel
theorem dX3_copyFrom_17 : decode cX3_copyFrom 17 = .ok (.iconst 0, 1) := by decide +kernel
theorem dX3_copyFrom_18 : decode cX3_copyFrom 18 = .ok (.bipush 80, 2) := by decide +kernel
theorem dX3_copyFrom_20 : decode cX3_copyFrom 20 = .ok (.invokestatic 29, 3) := by decide +kernel
theorem dX3_copyFrom_23 : decode cX3_copyFrom 23 = .ok (.return_, 1) := by decide +kernel
set_option maxHeartbeats 4000000 in
set_option maxRecDepth 100000 in
theorem S_X3_copyFrom_11_14 (l : Launch) (D : va_G) (K : Nat → ClassId) (a : Nat → Nat) (G : gS) (hI : xI G) (sz : Nat) : Kv l yX3_copyFrom wsX3_copyFrom 1 40 0 0 D [.ref (a 11), .ref (a 14)] (xW K a G) (tK K) sz (fun (G' : gS) => (xI G') ∧ (gu_un xcd [1102, 2000] G G') ∧ ((tkr (G' 20) ((G' 11 1).toInt).toNat = tkr (G 29) ((G 14 1).toInt).toNat))) (fun (G' : gS) => (xW K a G')) (fun _ => (tK K)) := by
  unfold Kv
  refine g_ofW (cc := cX3_copyFrom) (lv := [(0, .ref (a 11)), (1, .ref (a 14))]) (by decide) rfl (Nat.le_of_ble_eq_true rfl) rfl ?_
  intro p e s m args below meth c A Q hA hQ F hr hnm
  have hts := F.2.2.2.2.1
  have w_0 : (Cond.fieldLink RX3 21 "QuietCut$Formula" "length" "I").before args s = true := hts _ (List.mem_of_getElem? (i := 1) rfl)
  have i_X3 : ∀ w ∈ u_ws RX3 TX3 9, w ∈ wsX3_copyFrom := fun _ h => List.mem_cons_of_mem _ (List.mem_append_right _ h)
  have w_1 : (Cond.fieldLink RX3 11 "QuietCut$Formula" "codes" "[I").before args s = true := hts _ (List.mem_of_getElem? (i := 2) rfl)
  have w_2 : (Cond.methodLink RX3 29 arraycopyName).before args s = true := hts _ (List.mem_of_getElem? (i := 3) rfl)
  have w_3 : (Cond.native arraycopyName).before args s = true := hts _ (List.mem_of_getElem? (i := 4) rfl)
  have w_4 : (Cond.static arraycopyName).before args s = true := hts _ (List.mem_of_getElem? (i := 5) rfl)
  have w_5 : (Cond.initialized "java/lang/System").before args s = true := hts _ (List.mem_of_getElem? (i := 6) rfl)
  refine g_aload_n F 0 dX3_copyFrom_0 rfl rfl ?_
  refine g_aload_n F 1 dX3_copyFrom_1 rfl rfl ?_
  refine xg_14_1 F i_X3 w_0 dX3_copyFrom_2 (G 14 1) (rfl) ?_
  have b1 : (0 : Int) ≤ (G 14 1).toInt ∧ (G 14 1).toInt ≤ 80 := hI 14 1
  refine xp_11_1 F i_X3 w_0 dX3_copyFrom_5 ?_
  refine g_aload_n F 1 dX3_copyFrom_8 rfl rfl ?_
  refine xg_14_0 F i_X3 w_1 dX3_copyFrom_9 ?_
  refine g_iconst F 0 dX3_copyFrom_12 (by decide) ?_
  refine g_aload_n F 0 dX3_copyFrom_13 rfl rfl ?_
  refine xg_11_0 F i_X3 w_1 dX3_copyFrom_14 ?_
  refine g_iconst F 0 dX3_copyFrom_17 (by decide) ?_
  refine g_bipush F 80 dX3_copyFrom_18 (by decide) ?_
  refine u_copyi F w_2 w_3 w_4 w_5 29 20 0 xc_29 xc_20 rfl 0 0 80 rfl rfl rfl (by decide) (by decide) (by decide) (by decide) (by decide) (Nat.le_of_ble_eq_true rfl) (Nat.le_of_ble_eq_true rfl) (xW K a (gu_st (gu_up G 11 1 (G 14 1)) 20 (va_cpy ((gu_up G 11 1 (G 14 1)) 29) ((gu_up G 11 1 (G 14 1)) 20) 0 0 80))) (xs_20 _) dX3_copyFrom_20 ?_
  exact u_vret F hA hQ hr (gu_st (gu_up G 11 1 (G 14 1)) 20 (va_cpy ((gu_up G 11 1 (G 14 1)) 29) ((gu_up G 11 1 (G 14 1)) 20) 0 0 80)) (⟨(gu_I.sw (j := 20) (f := (va_cpy ((gu_up G 11 1 (G 14 1)) 29) ((gu_up G 11 1 (G 14 1)) 20) 0 0 80)) (gu_I.up (j := 11) (k := 1) (v := (G 14 1)) hI (show (0 : Int) ≤ Int32.toInt (G 14 1) by omega) (show Int32.toInt (G 14 1) ≤ 80 by omega)) (fun _ => ti_rng _)), (gu_un.sw (j := 20) (f := (va_cpy ((gu_up G 11 1 (G 14 1)) 29) ((gu_up G 11 1 (G 14 1)) 20) 0 0 80)) (gu_un.up (j := 11) (k := 1) (v := (G 14 1)) gu_un.rf (show (1102 : Nat) ∈ ([1102, 2000] : List Nat) by decide)) (fun _ => show (2000 : Nat) ∈ ([1102, 2000] : List Nat) by decide)), (by rw [show (gu_st (gu_up G 11 1 (G 14 1)) 20 (va_cpy ((gu_up G 11 1 (G 14 1)) 29) ((gu_up G 11 1 (G 14 1)) 20) 0 0 80)) 11 1 = (G 14 1) from rfl]; exact tkr_ext (fun i hi => show va_cpy (G 29) (G 20) 0 0 80 i = G 29 i by unfold va_cpy; rw [if_pos (by omega)]; congr 1; omega))⟩) rfl rfl dX3_copyFrom_23


set_option maxHeartbeats 4000000 in
set_option maxRecDepth 100000 in
theorem S_X3_copyFrom_12_15 (l : Launch) (D : va_G) (K : Nat → ClassId) (a : Nat → Nat) (G : gS) (hI : xI G) (sz : Nat) : Kv l yX3_copyFrom wsX3_copyFrom 1 40 0 0 D [.ref (a 12), .ref (a 15)] (xW K a G) (tK K) sz (fun (G' : gS) => (xI G') ∧ (gu_un xcd [1202, 2300] G G') ∧ ((tkr (G' 23) ((G' 12 1).toInt).toNat = tkr (G 32) ((G 15 1).toInt).toNat))) (fun (G' : gS) => (xW K a G')) (fun _ => (tK K)) := by
  unfold Kv
  refine g_ofW (cc := cX3_copyFrom) (lv := [(0, .ref (a 12)), (1, .ref (a 15))]) (by decide) rfl (Nat.le_of_ble_eq_true rfl) rfl ?_
  intro p e s m args below meth c A Q hA hQ F hr hnm
  have hts := F.2.2.2.2.1
  have w_0 : (Cond.fieldLink RX3 21 "QuietCut$Formula" "length" "I").before args s = true := hts _ (List.mem_of_getElem? (i := 1) rfl)
  have i_X3 : ∀ w ∈ u_ws RX3 TX3 9, w ∈ wsX3_copyFrom := fun _ h => List.mem_cons_of_mem _ (List.mem_append_right _ h)
  have w_1 : (Cond.fieldLink RX3 11 "QuietCut$Formula" "codes" "[I").before args s = true := hts _ (List.mem_of_getElem? (i := 2) rfl)
  have w_2 : (Cond.methodLink RX3 29 arraycopyName).before args s = true := hts _ (List.mem_of_getElem? (i := 3) rfl)
  have w_3 : (Cond.native arraycopyName).before args s = true := hts _ (List.mem_of_getElem? (i := 4) rfl)
  have w_4 : (Cond.static arraycopyName).before args s = true := hts _ (List.mem_of_getElem? (i := 5) rfl)
  have w_5 : (Cond.initialized "java/lang/System").before args s = true := hts _ (List.mem_of_getElem? (i := 6) rfl)
  refine g_aload_n F 0 dX3_copyFrom_0 rfl rfl ?_
  refine g_aload_n F 1 dX3_copyFrom_1 rfl rfl ?_
  refine xg_15_1 F i_X3 w_0 dX3_copyFrom_2 (G 15 1) (rfl) ?_
  have b1 : (0 : Int) ≤ (G 15 1).toInt ∧ (G 15 1).toInt ≤ 80 := hI 15 1
  refine xp_12_1 F i_X3 w_0 dX3_copyFrom_5 ?_
  refine g_aload_n F 1 dX3_copyFrom_8 rfl rfl ?_
  refine xg_15_0 F i_X3 w_1 dX3_copyFrom_9 ?_
  refine g_iconst F 0 dX3_copyFrom_12 (by decide) ?_
  refine g_aload_n F 0 dX3_copyFrom_13 rfl rfl ?_
  refine xg_12_0 F i_X3 w_1 dX3_copyFrom_14 ?_
  refine g_iconst F 0 dX3_copyFrom_17 (by decide) ?_
  refine g_bipush F 80 dX3_copyFrom_18 (by decide) ?_
  refine u_copyi F w_2 w_3 w_4 w_5 32 23 0 xc_32 xc_23 rfl 0 0 80 rfl rfl rfl (by decide) (by decide) (by decide) (by decide) (by decide) (Nat.le_of_ble_eq_true rfl) (Nat.le_of_ble_eq_true rfl) (xW K a (gu_st (gu_up G 12 1 (G 15 1)) 23 (va_cpy ((gu_up G 12 1 (G 15 1)) 32) ((gu_up G 12 1 (G 15 1)) 23) 0 0 80))) (xs_23 _) dX3_copyFrom_20 ?_
  exact u_vret F hA hQ hr (gu_st (gu_up G 12 1 (G 15 1)) 23 (va_cpy ((gu_up G 12 1 (G 15 1)) 32) ((gu_up G 12 1 (G 15 1)) 23) 0 0 80)) (⟨(gu_I.sw (j := 23) (f := (va_cpy ((gu_up G 12 1 (G 15 1)) 32) ((gu_up G 12 1 (G 15 1)) 23) 0 0 80)) (gu_I.up (j := 12) (k := 1) (v := (G 15 1)) hI (show (0 : Int) ≤ Int32.toInt (G 15 1) by omega) (show Int32.toInt (G 15 1) ≤ 80 by omega)) (fun _ => ti_rng _)), (gu_un.sw (j := 23) (f := (va_cpy ((gu_up G 12 1 (G 15 1)) 32) ((gu_up G 12 1 (G 15 1)) 23) 0 0 80)) (gu_un.up (j := 12) (k := 1) (v := (G 15 1)) gu_un.rf (show (1202 : Nat) ∈ ([1202, 2300] : List Nat) by decide)) (fun _ => show (2300 : Nat) ∈ ([1202, 2300] : List Nat) by decide)), (by rw [show (gu_st (gu_up G 12 1 (G 15 1)) 23 (va_cpy ((gu_up G 12 1 (G 15 1)) 32) ((gu_up G 12 1 (G 15 1)) 23) 0 0 80)) 12 1 = (G 15 1) from rfl]; exact tkr_ext (fun i hi => show va_cpy (G 32) (G 23) 0 0 80 i = G 32 i by unfold va_cpy; rw [if_pos (by omega)]; congr 1; omega))⟩) rfl rfl dX3_copyFrom_23


set_option maxHeartbeats 4000000 in
set_option maxRecDepth 100000 in
theorem S_X3_copyFrom_13_16 (l : Launch) (D : va_G) (K : Nat → ClassId) (a : Nat → Nat) (G : gS) (hI : xI G) (sz : Nat) : Kv l yX3_copyFrom wsX3_copyFrom 1 40 0 0 D [.ref (a 13), .ref (a 16)] (xW K a G) (tK K) sz (fun (G' : gS) => (xI G') ∧ (gu_un xcd [1302, 2600] G G') ∧ ((tkr (G' 26) ((G' 13 1).toInt).toNat = tkr (G 35) ((G 16 1).toInt).toNat))) (fun (G' : gS) => (xW K a G')) (fun _ => (tK K)) := by
  unfold Kv
  refine g_ofW (cc := cX3_copyFrom) (lv := [(0, .ref (a 13)), (1, .ref (a 16))]) (by decide) rfl (Nat.le_of_ble_eq_true rfl) rfl ?_
  intro p e s m args below meth c A Q hA hQ F hr hnm
  have hts := F.2.2.2.2.1
  have w_0 : (Cond.fieldLink RX3 21 "QuietCut$Formula" "length" "I").before args s = true := hts _ (List.mem_of_getElem? (i := 1) rfl)
  have i_X3 : ∀ w ∈ u_ws RX3 TX3 9, w ∈ wsX3_copyFrom := fun _ h => List.mem_cons_of_mem _ (List.mem_append_right _ h)
  have w_1 : (Cond.fieldLink RX3 11 "QuietCut$Formula" "codes" "[I").before args s = true := hts _ (List.mem_of_getElem? (i := 2) rfl)
  have w_2 : (Cond.methodLink RX3 29 arraycopyName).before args s = true := hts _ (List.mem_of_getElem? (i := 3) rfl)
  have w_3 : (Cond.native arraycopyName).before args s = true := hts _ (List.mem_of_getElem? (i := 4) rfl)
  have w_4 : (Cond.static arraycopyName).before args s = true := hts _ (List.mem_of_getElem? (i := 5) rfl)
  have w_5 : (Cond.initialized "java/lang/System").before args s = true := hts _ (List.mem_of_getElem? (i := 6) rfl)
  refine g_aload_n F 0 dX3_copyFrom_0 rfl rfl ?_
  refine g_aload_n F 1 dX3_copyFrom_1 rfl rfl ?_
  refine xg_16_1 F i_X3 w_0 dX3_copyFrom_2 (G 16 1) (rfl) ?_
  have b1 : (0 : Int) ≤ (G 16 1).toInt ∧ (G 16 1).toInt ≤ 80 := hI 16 1
  refine xp_13_1 F i_X3 w_0 dX3_copyFrom_5 ?_
  refine g_aload_n F 1 dX3_copyFrom_8 rfl rfl ?_
  refine xg_16_0 F i_X3 w_1 dX3_copyFrom_9 ?_
  refine g_iconst F 0 dX3_copyFrom_12 (by decide) ?_
  refine g_aload_n F 0 dX3_copyFrom_13 rfl rfl ?_
  refine xg_13_0 F i_X3 w_1 dX3_copyFrom_14 ?_
  refine g_iconst F 0 dX3_copyFrom_17 (by decide) ?_
  refine g_bipush F 80 dX3_copyFrom_18 (by decide) ?_
  refine u_copyi F w_2 w_3 w_4 w_5 35 26 0 xc_35 xc_26 rfl 0 0 80 rfl rfl rfl (by decide) (by decide) (by decide) (by decide) (by decide) (Nat.le_of_ble_eq_true rfl) (Nat.le_of_ble_eq_true rfl) (xW K a (gu_st (gu_up G 13 1 (G 16 1)) 26 (va_cpy ((gu_up G 13 1 (G 16 1)) 35) ((gu_up G 13 1 (G 16 1)) 26) 0 0 80))) (xs_26 _) dX3_copyFrom_20 ?_
  exact u_vret F hA hQ hr (gu_st (gu_up G 13 1 (G 16 1)) 26 (va_cpy ((gu_up G 13 1 (G 16 1)) 35) ((gu_up G 13 1 (G 16 1)) 26) 0 0 80)) (⟨(gu_I.sw (j := 26) (f := (va_cpy ((gu_up G 13 1 (G 16 1)) 35) ((gu_up G 13 1 (G 16 1)) 26) 0 0 80)) (gu_I.up (j := 13) (k := 1) (v := (G 16 1)) hI (show (0 : Int) ≤ Int32.toInt (G 16 1) by omega) (show Int32.toInt (G 16 1) ≤ 80 by omega)) (fun _ => ti_rng _)), (gu_un.sw (j := 26) (f := (va_cpy ((gu_up G 13 1 (G 16 1)) 35) ((gu_up G 13 1 (G 16 1)) 26) 0 0 80)) (gu_un.up (j := 13) (k := 1) (v := (G 16 1)) gu_un.rf (show (1302 : Nat) ∈ ([1302, 2600] : List Nat) by decide)) (fun _ => show (2600 : Nat) ∈ ([1302, 2600] : List Nat) by decide)), (by rw [show (gu_st (gu_up G 13 1 (G 16 1)) 26 (va_cpy ((gu_up G 13 1 (G 16 1)) 35) ((gu_up G 13 1 (G 16 1)) 26) 0 0 80)) 13 1 = (G 16 1) from rfl]; exact tkr_ext (fun i hi => show va_cpy (G 35) (G 26) 0 0 80 i = G 35 i by unfold va_cpy; rw [if_pos (by omega)]; congr 1; omega))⟩) rfl rfl dX3_copyFrom_23

theorem dX7_copyFrom_0 : decode cX7_copyFrom 0 = .ok (.aload_n 1, 1) := by decide +kernel
theorem dX7_copyFrom_1 : decode cX7_copyFrom 1 = .ok (.getfield 11, 3) := by decide +kernel
theorem dX7_copyFrom_4 : decode cX7_copyFrom 4 = .ok (.iconst 0, 1) := by decide +kernel
theorem dX7_copyFrom_5 : decode cX7_copyFrom 5 = .ok (.aload_n 0, 1) := by decide +kernel
theorem dX7_copyFrom_6 : decode cX7_copyFrom 6 = .ok (.getfield 11, 3) := by decide +kernel
theorem dX7_copyFrom_9 : decode cX7_copyFrom 9 = .ok (.iconst 0, 1) := by decide +kernel
theorem dX7_copyFrom_10 : decode cX7_copyFrom 10 = .ok (.aload_n 0, 1) := by decide +kernel
theorem dX7_copyFrom_11 : decode cX7_copyFrom 11 = .ok (.getfield 11, 3) := by decide +kernel
theorem dX7_copyFrom_14 : decode cX7_copyFrom 14 = .ok (.arraylength, 1) := by decide +kernel
theorem dX7_copyFrom_15 : decode cX7_copyFrom 15 = .ok (.invokestatic 40, 3) := by decide +kernel
theorem dX7_copyFrom_18 : decode cX7_copyFrom 18 = .ok (.aload_n 0, 1) := by decide +kernel
theorem dX7_copyFrom_19 : decode cX7_copyFrom 19 = .ok (.getfield 18, 3) := by decide +kernel
theorem dX7_copyFrom_22 : decode cX7_copyFrom 22 = .ok (.aload_n 1, 1) := by decide +kernel
theorem dX7_copyFrom_23 : decode cX7_copyFrom 23 = .ok (.getfield 18, 3) := by decide +kernel
theorem dX7_copyFrom_26 : decode cX7_copyFrom 26 = .ok (.invokevirtual 52, 3) := by decide +kernel
theorem dX7_copyFrom_29 : decode cX7_copyFrom 29 = .ok (.aload_n 0, 1) := by decide +kernel
theorem dX7_copyFrom_30 : decode cX7_copyFrom 30 = .ok (.getfield 22, 3) := by decide +kernel
theorem dX7_copyFrom_33 : decode cX7_copyFrom 33 = .ok (.aload_n 1, 1) := by decide +kernel
theorem dX7_copyFrom_34 : decode cX7_copyFrom 34 = .ok (.getfield 22, 3) := by decide +kernel
theorem dX7_copyFrom_37 : decode cX7_copyFrom 37 = .ok (.invokevirtual 52, 3) := by decide +kernel
theorem dX7_copyFrom_40 : decode cX7_copyFrom 40 = .ok (.aload_n 0, 1) := by decide +kernel
theorem dX7_copyFrom_41 : decode cX7_copyFrom 41 = .ok (.getfield 25, 3) := by decide +kernel
theorem dX7_copyFrom_44 : decode cX7_copyFrom 44 = .ok (.aload_n 1, 1) := by decide +kernel
theorem dX7_copyFrom_45 : decode cX7_copyFrom 45 = .ok (.getfield 25, 3) := by decide +kernel
theorem dX7_copyFrom_48 : decode cX7_copyFrom 48 = .ok (.invokevirtual 52, 3) := by decide +kernel
theorem dX7_copyFrom_51 : decode cX7_copyFrom 51 = .ok (.return_, 1) := by decide +kernel
set_option maxRecDepth 20000 in
theorem ggX7_copyFrom_X3_copyFrom : GoodIn wsX7_copyFrom wsX3_copyFrom := goodIn_r _ [13, 14, 15, 16, 3, 4, 5, 21, 22, 23, 24, 25, 26, 27, 28, 29] rfl (by decide +kernel)
set_option maxRecDepth 20000 in
theorem gX7_copyFrom_X3_copyFrom : GoodIn wsX7_copyFrom (wsV RX7 52 RX3 yX3_copyFrom wsX3_copyFrom) := goodIn_app (goodIn_of _ (by decide +kernel)) ggX7_copyFrom_X3_copyFrom
set_option maxHeartbeats 4000000 in
set_option maxRecDepth 100000 in
theorem S_X7_copyFrom_2_3 (l : Launch) (D : va_G) (K : Nat → ClassId) (a : Nat → Nat) (G : gS) (nb : xNb (G 19)) (hI : xI G) (sz : Nat) : Kv l yX7_copyFrom wsX7_copyFrom 2 61 0 0 D [.ref (a 2), .ref (a 3)] (xW K a G) (tK K) sz (fun (G' : gS) => (xI G') ∧ (gu_un xcd [1102, 1202, 1302, 1800, 2000, 2300, 2600] G G') ∧ ((∀ q : Nat, q < 36 → G' 18 q = (G 19) q)) ∧ ((tkr (G' 20) ((G' 11 1).toInt).toNat = tkr (G 29) ((G 14 1).toInt).toNat)) ∧ ((tkr (G' 23) ((G' 12 1).toInt).toNat = tkr (G 32) ((G 15 1).toInt).toNat)) ∧ ((tkr (G' 26) ((G' 13 1).toInt).toNat = tkr (G 35) ((G 16 1).toInt).toNat))) (fun (G' : gS) => (xW K a G')) (fun _ => (tK K)) := by
  unfold Kv
  refine g_ofW (cc := cX7_copyFrom) (lv := [(0, .ref (a 2)), (1, .ref (a 3))]) (by decide) rfl (Nat.le_of_ble_eq_true rfl) rfl ?_
  intro p e s m args below meth c A Q hA hQ F hr hnm
  have hts := F.2.2.2.2.1
  have w_0 : (Cond.fieldLink RX7 11 "QuietCut$Shop" "numbers" "[I").before args s = true := hts _ (List.mem_of_getElem? (i := 1) rfl)
  have i_X7 : ∀ w ∈ u_ws RX7 TX7 4, w ∈ wsX7_copyFrom := fun _ h => List.mem_cons_of_mem _ (List.mem_append_left _ (List.mem_append_right _ h))
  have w_1 : (Cond.methodLink RX7 40 arraycopyName).before args s = true := hts _ (List.mem_of_getElem? (i := 2) rfl)
  have w_2 : (Cond.native arraycopyName).before args s = true := hts _ (List.mem_of_getElem? (i := 3) rfl)
  have w_3 : (Cond.static arraycopyName).before args s = true := hts _ (List.mem_of_getElem? (i := 4) rfl)
  have w_4 : (Cond.initialized "java/lang/System").before args s = true := hts _ (List.mem_of_getElem? (i := 5) rfl)
  have w_5 : (Cond.fieldLink RX7 18 "QuietCut$Shop" "force" "LQuietCut$Formula;").before args s = true := hts _ (List.mem_of_getElem? (i := 6) rfl)
  have w_6 : (Cond.fieldLink RX7 22 "QuietCut$Shop" "wall" "LQuietCut$Formula;").before args s = true := hts _ (List.mem_of_getElem? (i := 7) rfl)
  have w_7 : (Cond.fieldLink RX7 25 "QuietCut$Shop" "wear" "LQuietCut$Formula;").before args s = true := hts _ (List.mem_of_getElem? (i := 8) rfl)
  refine g_aload_n F 1 dX7_copyFrom_0 rfl rfl ?_
  refine xg_3_0 F i_X7 w_0 dX7_copyFrom_1 ?_
  refine g_iconst F 0 dX7_copyFrom_4 (by decide) ?_
  refine g_aload_n F 0 dX7_copyFrom_5 rfl rfl ?_
  refine xg_2_0 F i_X7 w_0 dX7_copyFrom_6 ?_
  refine g_iconst F 0 dX7_copyFrom_9 (by decide) ?_
  refine g_aload_n F 0 dX7_copyFrom_10 rfl rfl ?_
  refine xg_2_0 F i_X7 w_0 dX7_copyFrom_11 ?_
  refine g_alen F 18 0 xc_18 rfl 36 rfl dX7_copyFrom_14 ?_
  refine u_copyi F w_1 w_2 w_3 w_4 19 18 0 xc_19 xc_18 rfl 0 0 36 rfl rfl rfl (by decide) (by decide) (by decide) (by decide) (by decide) (Nat.le_of_ble_eq_true rfl) (Nat.le_of_ble_eq_true rfl) (xW K a (gu_st G 18 (va_cpy (G 19) (G 18) 0 0 36))) (xs_18 _) dX7_copyFrom_15 ?_
  refine g_aload_n F 0 dX7_copyFrom_18 rfl rfl ?_
  refine xg_2_1 F i_X7 w_5 dX7_copyFrom_19 ?_
  refine g_aload_n F 1 dX7_copyFrom_22 rfl rfl ?_
  refine xg_3_1 F i_X7 w_5 dX7_copyFrom_23 ?_
  refine u_callVv (k := 0) (n := 0) (b := a 11) (As := [.ref (a 14)]) (st := []) F (fun sz => S_X3_copyFrom_11_14 l D K a (gu_st G 18 (va_cpy (G 19) (G 18) 0 0 36))  (gu_I.cpy (j := 18) (f := G 19) (sp := 0) (dp := 0) hI (fun k_ => nb (0 + k_))) sz) (cwV 1 hts gX7_copyFrom_X3_copyFrom rfl rfl rfl (by decide +kernel) ⟨Nat.le_of_ble_eq_true rfl, Nat.le_of_ble_eq_true rfl⟩) rfl 11 xc_11 rfl (Nat.le_of_ble_eq_true rfl) ⟨Nat.zero_le _, Nat.zero_le _⟩ dX7_copyFrom_26 (fun G3 hw2 => ?_)
  have hI4 : xI G3 := hw2.1
  have hU5 : gu_un xcd [1102, 2000] (gu_st G 18 (va_cpy (G 19) (G 18) 0 0 36)) G3 := hw2.2.1
  have hp6 := hw2.2.2
  have b7 : (0 : Int) ≤ (G 14 1).toInt ∧ (G 14 1).toInt ≤ 80 := hI 14 1
  have b8 : (0 : Int) ≤ (G3 11 1).toInt ∧ (G3 11 1).toInt ≤ 80 := hI4 11 1
  have q9 : (tkr (G3 20) ((G3 11 1).toInt).toNat = tkr (G 29) ((G 14 1).toInt).toNat) := hp6
  clear hp6 hw2
  refine g_aload_n F 0 dX7_copyFrom_29 rfl rfl ?_
  refine xg_2_2 F i_X7 w_6 dX7_copyFrom_30 ?_
  refine g_aload_n F 1 dX7_copyFrom_33 rfl rfl ?_
  refine xg_3_2 F i_X7 w_6 dX7_copyFrom_34 ?_
  refine u_callVv (k := 0) (n := 0) (b := a 12) (As := [.ref (a 15)]) (st := []) F (fun sz => S_X3_copyFrom_12_15 l D K a G3  hI4 sz) (cwV 1 hts gX7_copyFrom_X3_copyFrom rfl rfl rfl (by decide +kernel) ⟨Nat.le_of_ble_eq_true rfl, Nat.le_of_ble_eq_true rfl⟩) rfl 12 xc_12 rfl (Nat.le_of_ble_eq_true rfl) ⟨Nat.zero_le _, Nat.zero_le _⟩ dX7_copyFrom_37 (fun G12 hw11 => ?_)
  have hI13 : xI G12 := hw11.1
  have hU14 : gu_un xcd [1202, 2300] G3 G12 := hw11.2.1
  have hp15 := hw11.2.2
  have b16 : (0 : Int) ≤ (G 15 1).toInt ∧ (G 15 1).toInt ≤ 80 := hI 15 1
  have b17 : (0 : Int) ≤ (G12 12 1).toInt ∧ (G12 12 1).toInt ≤ 80 := hI13 12 1
  have q18 : (tkr (G12 23) ((G12 12 1).toInt).toNat = tkr (G 32) ((G 15 1).toInt).toNat) := by have h9 := hp15; (try simp only [(show G3 15 1 = (G 15 1) from hU5 15 1 (by decide)), (show G3 32 = (G 32) from (show G3 32 = (gu_st G 18 (va_cpy (G 19) (G 18) 0 0 36)) 32 from funext fun k_ => hU5 32 k_ (show (3200 : Nat) ∉ ([1102, 2000] : List Nat) by decide)))] at h9); first | exact h9 | omega
  clear hp15 hw11
  refine g_aload_n F 0 dX7_copyFrom_40 rfl rfl ?_
  refine xg_2_3 F i_X7 w_7 dX7_copyFrom_41 ?_
  refine g_aload_n F 1 dX7_copyFrom_44 rfl rfl ?_
  refine xg_3_3 F i_X7 w_7 dX7_copyFrom_45 ?_
  refine u_callVv (k := 0) (n := 0) (b := a 13) (As := [.ref (a 16)]) (st := []) F (fun sz => S_X3_copyFrom_13_16 l D K a G12  hI13 sz) (cwV 1 hts gX7_copyFrom_X3_copyFrom rfl rfl rfl (by decide +kernel) ⟨Nat.le_of_ble_eq_true rfl, Nat.le_of_ble_eq_true rfl⟩) rfl 13 xc_13 rfl (Nat.le_of_ble_eq_true rfl) ⟨Nat.zero_le _, Nat.zero_le _⟩ dX7_copyFrom_48 (fun G21 hw20 => ?_)
  have hI22 : xI G21 := hw20.1
  have hU23 : gu_un xcd [1302, 2600] G12 G21 := hw20.2.1
  have hp24 := hw20.2.2
  have b25 : (0 : Int) ≤ (G 16 1).toInt ∧ (G 16 1).toInt ≤ 80 := hI 16 1
  have b26 : (0 : Int) ≤ (G21 13 1).toInt ∧ (G21 13 1).toInt ≤ 80 := hI22 13 1
  have q27 : (tkr (G21 26) ((G21 13 1).toInt).toNat = tkr (G 35) ((G 16 1).toInt).toNat) := by have h9 := hp24; (try simp only [(show G12 16 1 = (G 16 1) from (hU14 16 1 (by decide)).trans (hU5 16 1 (by decide))), (show G12 35 = (G 35) from (show G12 35 = G3 35 from funext fun k_ => hU14 35 k_ (show (3500 : Nat) ∉ ([1202, 2300] : List Nat) by decide)).trans ((show G3 35 = (gu_st G 18 (va_cpy (G 19) (G 18) 0 0 36)) 35 from funext fun k_ => hU5 35 k_ (show (3500 : Nat) ∉ ([1102, 2000] : List Nat) by decide))))] at h9); first | exact h9 | omega
  clear hp24 hw20
  exact u_vret F hA hQ hr G21 (⟨hI22, (gu_un.tr (gu_un.tr (gu_un.tr (gu_un.sw (j := 18) (f := (va_cpy (G 19) (G 18) 0 0 36)) gu_un.rf (fun _ => show (1800 : Nat) ∈ ([1102, 1202, 1302, 1800, 2000, 2300, 2600] : List Nat) by decide)) (gu_un.su hU5 rfl)) (gu_un.su hU14 rfl)) (gu_un.su hU23 rfl)), (fun q hq => by rw [show G21 18 q = G12 18 q from hU23 18 q (by simp [xcd])]; rw [show G12 18 q = G3 18 q from hU14 18 q (by simp [xcd])]; rw [show G3 18 q = (gu_st G 18 (va_cpy (G 19) (G 18) 0 0 36)) 18 q from hU5 18 q (by simp [xcd])]; show va_cpy (G 19) (G 18) 0 0 36 q = G 19 q; unfold va_cpy; rw [if_pos (by omega)]; congr 1; omega), (by rw [show G21 20 = G3 20 from funext fun k_ => (show gu_un xcd [1202, 1302, 2300, 2600] G3 G21 from (gu_un.tr (gu_un.tr gu_un.rf (gu_un.su hU14 rfl)) (gu_un.su hU23 rfl))) 20 k_ (by simp [xcd]), show G21 11 1 = G3 11 1 from (show gu_un xcd [1202, 1302, 2300, 2600] G3 G21 from (gu_un.tr (gu_un.tr gu_un.rf (gu_un.su hU14 rfl)) (gu_un.su hU23 rfl))) 11 1 (by decide)]; exact q9), (by rw [show G21 23 = G12 23 from funext fun k_ => (show gu_un xcd [1302, 2600] G12 G21 from (gu_un.tr gu_un.rf (gu_un.su hU23 rfl))) 23 k_ (by simp [xcd]), show G21 12 1 = G12 12 1 from (show gu_un xcd [1302, 2600] G12 G21 from (gu_un.tr gu_un.rf (gu_un.su hU23 rfl))) 12 1 (by decide)]; exact q18), (q27)⟩) rfl rfl dX7_copyFrom_51
