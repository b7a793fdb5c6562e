theorem dX13_mark_0 : decode cX13_mark 0 = .ok (.aload_n 0, 1) := by decide +kernel
theorem dX13_mark_1 : decode cX13_mark 1 = .ok (.getfield 100, 3) := by decide +kernel
theorem dX13_mark_4 : decode cX13_mark 4 = .ok (.bipush 80, 2) := by decide +kernel
theorem dX13_mark_6 : decode cX13_mark 6 = .ok (.aload_n 0, 1) := by decide +kernel
theorem dX13_mark_7 : decode cX13_mark 7 = .ok (.getfield 89, 3) := by decide +kernel
theorem dX13_mark_10 : decode cX13_mark 10 = .ok (.imul, 1) := by decide +kernel
theorem dX13_mark_11 : decode cX13_mark 11 = .ok (.aload_n 0, 1) := by decide +kernel
theorem dX13_mark_12 : decode cX13_mark 12 = .ok (.getfield 86, 3) := by decide +kernel
theorem dX13_mark_15 : decode cX13_mark 15 = .ok (.aload_n 0, 1) := by decide +kernel
theorem dX13_mark_16 : decode cX13_mark 16 = .ok (.getfield 89, 3) := by decide +kernel
theorem dX13_mark_19 : decode cX13_mark 19 = .ok (.iaload, 1) := by decide +kernel
theorem dX13_mark_20 : decode cX13_mark 20 = .ok (.iadd, 1) := by decide +kernel
theorem dX13_mark_21 : decode cX13_mark 21 = .ok (.iload_n 1, 1) := by decide +kernel
theorem dX13_mark_22 : decode cX13_mark 22 = .ok (.iastore, 1) := by decide +kernel
theorem dX13_mark_23 : decode cX13_mark 23 = .ok (.aload_n 0, 1) := by decide +kernel
theorem dX13_mark_24 : decode cX13_mark 24 = .ok (.getfield 103, 3) := by decide +kernel
theorem dX13_mark_27 : decode cX13_mark 27 = .ok (.bipush 80, 2) := by decide +kernel
theorem dX13_mark_29 : decode cX13_mark 29 = .ok (.aload_n 0, 1) := by decide +kernel
theorem dX13_mark_30 : decode cX13_mark 30 = .ok (.getfield 89, 3) := by decide +kernel
theorem dX13_mark_33 : decode cX13_mark 33 = .ok (.imul, 1) := by decide +kernel
theorem dX13_mark_34 : decode cX13_mark 34 = .ok (.aload_n 0, 1) := by decide +kernel
theorem dX13_mark_35 : decode cX13_mark 35 = .ok (.getfield 86, 3) := by decide +kernel
theorem dX13_mark_38 : decode cX13_mark 38 = .ok (.aload_n 0, 1) := by decide +kernel
theorem dX13_mark_39 : decode cX13_mark 39 = .ok (.getfield 89, 3) := by decide +kernel
theorem dX13_mark_42 : decode cX13_mark 42 = .ok (.iaload, 1) := by decide +kernel
theorem dX13_mark_43 : decode cX13_mark 43 = .ok (.iadd, 1) := by decide +kernel
theorem dX13_mark_44 : decode cX13_mark 44 = .ok (.iload_n 2, 1) := by decide +kernel
theorem dX13_mark_45 : decode cX13_mark 45 = .ok (.iastore, 1) := by decide +kernel
theorem dX13_mark_46 : decode cX13_mark 46 = .ok (.aload_n 0, 1) := by decide +kernel
theorem dX13_mark_47 : decode cX13_mark 47 = .ok (.getfield 86, 3) := by decide +kernel
theorem dX13_mark_50 : decode cX13_mark 50 = .ok (.aload_n 0, 1) := by decide +kernel
theorem dX13_mark_51 : decode cX13_mark 51 = .ok (.getfield 89, 3) := by decide +kernel
theorem dX13_mark_54 : decode cX13_mark 54 = .ok (.dup2, 1) := by decide +kernel
theorem dX13_mark_55 : decode cX13_mark 55 = .ok (.iaload, 1) := by decide +kernel
theorem dX13_mark_56 : decode cX13_mark 56 = .ok (.iconst 1, 1) := by decide +kernel
theorem dX13_mark_57 : decode cX13_mark 57 = .ok (.iadd, 1) := by decide +kernel
theorem dX13_mark_58 : decode cX13_mark 58 = .ok (.iastore, 1) := by decide +kernel
theorem dX13_mark_59 : decode cX13_mark 59 = .ok (.return_, 1) := by decide +kernel
set_option maxHeartbeats 4000000 in
set_option maxRecDepth 100000 in
theorem S_X13_mark (l : Launch) (D : va_G) (K : Nat → ClassId) (a : Nat → Nat) (G : gS) (p0 : Int32) (s0 : Int) (p1 : Int32) (s1 : Int) (e0 : p0.toInt = s0) (h0 : 0 ≤ s0 ∧ s0 ≤ 2) (e1 : p1.toInt = s1) (h1 : 0 ≤ s1 ∧ s1 ≤ 9999) (mk9 : ((G 12 ((G 0 20).toInt).toNat).toInt ≤ 79)) (hI : yI G) (sz : Nat) : Kv l yX13_mark wsX13_mark 1 40 0 0 D [.ref (a 0), .int p0, .int p1] (yW K a G) (tK K) sz (fun (G' : gS) => (yI G') ∧ (gu_un ycd [1000, 1100, 1200] G G') ∧ (yMk p0 p1 (G 0 20).toInt G G')) (fun (G' : gS) => (yW K a G')) (fun _ => (tK K)) := by
  unfold Kv
  refine g_ofW (cc := cX13_mark) (lv := [(0, .ref (a 0)), (1, .int p0), (2, .int p1)]) (by decide) rfl (Nat.le_of_ble_eq_true rfl) rfl ?_
  intro p e s m args below meth c A Q hA hQ F hr hnm
  have hts := F.2.2.2.2.1
  have w_0 : (Cond.fieldLink RX13 100 "QuietCutModel" "markKind" "[I").before args s = true := hts _ (List.mem_of_getElem? (i := 1) rfl)
  have i_X13 : ∀ w ∈ u_ws RX13 TX13 73, w ∈ wsX13_mark := fun _ h => List.mem_cons_of_mem _ (List.mem_append_right _ h)
  have w_1 : (Cond.fieldLink RX13 89 "QuietCutModel" "sum" "I").before args s = true := hts _ (List.mem_of_getElem? (i := 2) rfl)
  have w_2 : (Cond.fieldLink RX13 86 "QuietCutModel" "marks" "[I").before args s = true := hts _ (List.mem_of_getElem? (i := 3) rfl)
  have w_3 : (Cond.fieldLink RX13 103 "QuietCutModel" "markValue" "[I").before args s = true := hts _ (List.mem_of_getElem? (i := 4) rfl)
  have b1 : (0 : Int) ≤ (G 0 20).toInt ∧ (G 0 20).toInt ≤ 5 := hI 0 20
  have mb : 0 ≤ (G 12 ((G 0 20).toInt).toNat).toInt ∧ (G 12 ((G 0 20).toInt).toNat).toInt ≤ 80 := hI 12 _
  refine g_aload_n F 0 dX13_mark_0 rfl rfl ?_
  refine yg_0_17 F i_X13 w_0 dX13_mark_1 ?_
  refine g_bipush F 80 dX13_mark_4 (by decide) ?_
  refine g_aload_n F 0 dX13_mark_6 rfl rfl ?_
  refine yg_0_20 F i_X13 w_1 dX13_mark_7 (G 0 20) (rfl) ?_
  refine u_imul F dX13_mark_10 80 (G 0 20).toInt rfl rfl (by omega) (by omega) (fun y2 ey2 => ?_)
  refine g_aload_n F 0 dX13_mark_11 rfl rfl ?_
  refine yg_0_19 F i_X13 w_2 dX13_mark_12 ?_
  refine g_aload_n F 0 dX13_mark_15 rfl rfl ?_
  refine yg_0_20 F i_X13 w_1 dX13_mark_16 (G 0 20) (rfl) ?_
  refine u1_iald F 12 0 yc_12 rfl (G 0 20).toInt rfl (by omega) (by omega) dX13_mark_19 ((G 12) ((G 0 20).toInt).toNat) (rfl) ?_
  have b3 : (0 : Int) ≤ ((G 12) ((G 0 20).toInt).toNat).toInt ∧ ((G 12) ((G 0 20).toInt).toNat).toInt ≤ 80 := hI 12 _
  refine u_iadd F dX13_mark_20 y2.toInt ((G 12) ((G 0 20).toInt).toNat).toInt rfl rfl (by omega) (by omega) (fun y4 ey4 => ?_)
  refine g_iload_n F 1 dX13_mark_21 rfl rfl ?_
  refine u_iast F 10 0 yc_10 rfl y4.toInt rfl (by omega) (by omega) (yW K a (gu_up G 10 (y4.toInt).toNat p0)) (ys_10 _) dX13_mark_22 ?_
  refine g_aload_n F 0 dX13_mark_23 rfl rfl ?_
  refine yg_0_18 F i_X13 w_3 dX13_mark_24 ?_
  refine g_bipush F 80 dX13_mark_27 (by decide) ?_
  refine g_aload_n F 0 dX13_mark_29 rfl rfl ?_
  refine yg_0_20 F i_X13 w_1 dX13_mark_30 (G 0 20) (rfl) ?_
  refine u_imul F dX13_mark_33 80 (G 0 20).toInt rfl rfl (by omega) (by omega) (fun y5 ey5 => ?_)
  refine g_aload_n F 0 dX13_mark_34 rfl rfl ?_
  refine yg_0_19 F i_X13 w_2 dX13_mark_35 ?_
  refine g_aload_n F 0 dX13_mark_38 rfl rfl ?_
  refine yg_0_20 F i_X13 w_1 dX13_mark_39 (G 0 20) (rfl) ?_
  refine u1_iald F 12 0 yc_12 rfl (G 0 20).toInt rfl (by omega) (by omega) dX13_mark_42 ((G 12) ((G 0 20).toInt).toNat) (rfl) ?_
  have b6 : (0 : Int) ≤ ((G 12) ((G 0 20).toInt).toNat).toInt ∧ ((G 12) ((G 0 20).toInt).toNat).toInt ≤ 80 := hI 12 _
  refine u_iadd F dX13_mark_43 y5.toInt ((G 12) ((G 0 20).toInt).toNat).toInt rfl rfl (by omega) (by omega) (fun y7 ey7 => ?_)
  refine g_iload_n F 2 dX13_mark_44 rfl rfl ?_
  refine u_iast F 11 0 yc_11 rfl y7.toInt rfl (by omega) (by omega) (yW K a (gu_up (gu_up G 10 (y4.toInt).toNat p0) 11 (y7.toInt).toNat p1)) (ys_11 _) dX13_mark_45 ?_
  refine g_aload_n F 0 dX13_mark_46 rfl rfl ?_
  refine yg_0_19 F i_X13 w_2 dX13_mark_47 ?_
  refine g_aload_n F 0 dX13_mark_50 rfl rfl ?_
  refine yg_0_20 F i_X13 w_1 dX13_mark_51 (G 0 20) (rfl) ?_
  refine g_dup2 F dX13_mark_54 rfl rfl ?_
  refine u1_iald F 12 0 yc_12 rfl (G 0 20).toInt rfl (by omega) (by omega) dX13_mark_55 ((G 12) ((G 0 20).toInt).toNat) (rfl) ?_
  have b8 : (0 : Int) ≤ ((G 12) ((G 0 20).toInt).toNat).toInt ∧ ((G 12) ((G 0 20).toInt).toNat).toInt ≤ 80 := hI 12 _
  refine g_iconst F 1 dX13_mark_56 (by decide) ?_
  refine u_iadd F dX13_mark_57 ((G 12) ((G 0 20).toInt).toNat).toInt 1 rfl rfl (by omega) (by omega) (fun y9 ey9 => ?_)
  refine u_iast F 12 0 yc_12 rfl (G 0 20).toInt rfl (by omega) (by omega) (yW K a (gu_up (gu_up (gu_up G 10 (y4.toInt).toNat p0) 11 (y7.toInt).toNat p1) 12 ((G 0 20).toInt).toNat y9)) (ys_12 _) dX13_mark_58 ?_
  exact u_vret F hA hQ hr (gu_up (gu_up (gu_up G 10 (y4.toInt).toNat p0) 11 (y7.toInt).toNat p1) 12 ((G 0 20).toInt).toNat y9) (⟨(gu_I.up (j := 12) (k := ((G 0 20).toInt).toNat) (v := y9) (gu_I.up (j := 11) (k := (y7.toInt).toNat) (v := p1) (gu_I.up (j := 10) (k := (y4.toInt).toNat) (v := p0) hI (show (0 : Int) ≤ Int32.toInt p0 by omega) (show Int32.toInt p0 ≤ 2 by omega)) (show (0 : Int) ≤ Int32.toInt p1 by omega) (show Int32.toInt p1 ≤ 9999 by omega)) (show (0 : Int) ≤ Int32.toInt y9 by omega) (show Int32.toInt y9 ≤ 80 by omega)), (gu_un.up (j := 12) (k := ((G 0 20).toInt).toNat) (v := y9) (gu_un.up (j := 11) (k := (y7.toInt).toNat) (v := p1) (gu_un.up (j := 10) (k := (y4.toInt).toNat) (v := p0) gu_un.rf (show (1000 : Nat) ∈ ([1000, 1100, 1200] : List Nat) by decide)) (show (1100 : Nat) ∈ ([1000, 1100, 1200] : List Nat) by decide)) (show (1200 : Nat) ∈ ([1000, 1100, 1200] : List Nat) by decide)), (yMk_of (by omega) (by omega) (by omega))⟩) rfl rfl dX13_mark_59
