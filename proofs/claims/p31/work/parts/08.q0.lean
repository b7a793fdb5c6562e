theorem dX13_mark_0 : decode cX13_mark 0 = .ok (.aload_n 0, 1) := by decide +kernel
theorem dX13_mark_1 : decode cX13_mark 1 = .ok (.getfield 100, 3) := by decide +kernel
theorem dX13_mark_4 : decode cX13_mark 4 = .ok (.bipush 80, 2) := by decide +kernel
theorem dX13_mark_6 : decode cX13_mark 6 = .ok (.aload_n 0, 1) := by decide +kernel
theorem dX13_mark_7 : decode cX13_mark 7 = .ok (.getfield 89, 3) := by decide +kernel
theorem dX13_mark_10 : decode cX13_mark 10 = .ok (.imul, 1) := by decide +kernel
theorem dX13_mark_11 : decode cX13_mark 11 = .ok (.aload_n 0, 1) := by decide +kernel
theorem dX13_mark_12 : decode cX13_mark 12 = .ok (.getfield 86, 3) := by decide +kernel
theorem dX13_mark_15 : decode cX13_mark 15 = .ok (.aload_n 0, 1) := by decide +kernel
theorem dX13_mark_16 : decode cX13_mark 16 = .ok (.getfield 89, 3) := by decide +kernel
theorem dX13_mark_19 : decode cX13_mark 19 = .ok (.iaload, 1) := by decide +kernel
theorem dX13_mark_20 : decode cX13_mark 20 = .ok (.iadd, 1) := by decide +kernel
theorem dX13_mark_21 : decode cX13_mark 21 = .ok (.iload_n 1, 1) := by decide +kernel
theorem dX13_mark_22 : decode cX13_mark 22 = .ok (.iastore, 1) := by decide +kernel
theorem dX13_mark_23 : decode cX13_mark 23 = .ok (.aload_n 0, 1) := by decide +kernel
theorem dX13_mark_24 : decode cX13_mark 24 = .ok (.getfield 103, 3) := by decide +kernel
theorem dX13_mark_27 : decode cX13_mark 27 = .ok (.bipush 80, 2) := by decide +kernel
theorem dX13_mark_29 : decode cX13_mark 29 = .ok (.aload_n 0, 1) := by decide +kernel
theorem dX13_mark_30 : decode cX13_mark 30 = .ok (.getfield 89, 3) := by decide +kernel
theorem dX13_mark_33 : decode cX13_mark 33 = .ok (.imul, 1) := by decide +kernel
theorem dX13_mark_34 : decode cX13_mark 34 = .ok (.aload_n 0, 1) := by decide +kernel
theorem dX13_mark_35 : decode cX13_mark 35 = .ok (.getfield 86, 3) := by decide +kernel
theorem dX13_mark_38 : decode cX13_mark 38 = .ok (.aload_n 0, 1) := by decide +kernel
theorem dX13_mark_39 : decode cX13_mark 39 = .ok (.getfield 89, 3) := by decide +kernel
theorem dX13_mark_42 : decode cX13_mark 42 = .ok (.iaload, 1) := by decide +kernel
theorem dX13_mark_43 : decode cX13_mark 43 = .ok (.iadd, 1) := by decide +kernel
theorem dX13_mark_44 : decode cX13_mark 44 = .ok (.iload_n 2, 1) := by decide +kernel
theorem dX13_mark_45 : decode cX13_mark 45 = .ok (.iastore, 1) := by decide +kernel
theorem dX13_mark_46 : decode cX13_mark 46 = .ok (.aload_n 0, 1) := by decide +kernel
theorem dX13_mark_47 : decode cX13_mark 47 = .ok (.getfield 86, 3) := by decide +kernel
theorem dX13_mark_50 : decode cX13_mark 50 = .ok (.aload_n 0, 1) := by decide +kernel
theorem dX13_mark_51 : decode cX13_mark 51 = .ok (.getfield 89, 3) := by decide +kernel
theorem dX13_mark_54 : decode cX13_mark 54 = .ok (.dup2, 1) := by decide +kernel
theorem dX13_mark_55 : decode cX13_mark 55 = .ok (.iaload, 1) := by decide +kernel
theorem dX13_mark_56 : decode cX13_mark 56 = .ok (.iconst 1, 1) := by decide +kernel
theorem dX13_mark_57 : decode cX13_mark 57 = .ok (.iadd, 1) := by decide +kernel
theorem dX13_mark_58 : decode cX13_mark 58 = .ok (.iastore, 1) := by decide +kernel
theorem dX13_mark_59 : decode cX13_mark 59 = .ok (.return_, 1) := by decide +kernel
set_option maxHeartbeats 4000000 in
set_option maxRecDepth 100000 in
theorem S_X13_mark (l : Launch) (D : va_G) (K : Nat → ClassId) (a : Nat → Nat) (G : gS) (p0 : Int32) (s0 : Int) (p1 : Int32) (s1 : Int) (e0 : p0.toInt = s0) (h0 : 0 ≤ s0 ∧ s0 ≤ 2) (e1 : p1.toInt = s1) (mk9 : ((G 12 ((G 0 20).toInt).toNat).toInt ≤ 79)) (hI : yI G) (sz : Nat) : Kv l yX13_mark wsX13_mark 1 40 0 0 D [.ref (a 0), .int p0, .int p1] (yW K a G) (tK K) sz (fun (G' : gS) => (yI G') ∧ (gu_un ycd [1000, 1100, 1200] G G') ∧ (yMk p0 p1 (G 0 20).toInt G G')) (fun (G' : gS) => (yW K a G')) (fun _ => (tK K)) := by
  unfold Kv
  refine g_ofW (cc := cX13_mark) (lv := [(0, .ref (a 0)), (1, .int p0), (2, .int p1)]) (by decide) rfl (Nat.le_of_ble_eq_true rfl) rfl ?_
  intro p e s m args below meth c A Q hA hQ F hr hnm
  have hts := F.2.2.2.2.1
  have w_0 : (Cond.fieldLink RX13 100 "QuietCutModel" "markKind" "[I").before args s = true := hts _ (List.mem_of_getElem? (i := 1) rfl)
  have i_X13 : ∀ w ∈ u_ws RX13 TX13 73, w ∈ wsX13_mark := fun _ h => List.mem_cons_of_mem _ (List.mem_append_right _ h)
  have w_1 : (Cond.fieldLink RX13 89 "QuietCutModel" "sum" "I").before args s = true := hts _ (List.mem_of_getElem? (i := 2) rfl)
  have w_2 : (Cond.fieldLink RX13 86 "QuietCutModel" "marks" "[I").before args s = true := hts _ (List.mem_of_getElem? (i := 3) rfl)
  have w_3 : (Cond.fieldLink RX13 103 "QuietCutModel" "markValue" "[I").before args s = true := hts _ (List.mem_of_getElem? (i := 4) rfl)
  have rg1 : -2147483648 ≤ s1 ∧ s1 ≤ 2147483647 := e1 ▸ ti_rng p1
  have b1 : (0 : Int) ≤ (G 0 20).toInt ∧ (G 0 20).toInt ≤ 5 := hI 0 20
  have mb : 0 ≤ (G 12 ((G 0 20).toInt).toNat).toInt ∧ (G 12 ((G 0 20).toInt).toNat).toInt ≤ 80 := hI 12 _
  refine g_aload_n F 0 dX13_mark_0 rfl rfl ?_
  refine yg_0_17 F i_X13 w_0 dX13_mark_1 ?_
  refine g_bipush F 80 dX13_mark_4 (by decide) ?_
  refine g_aload_n F 0 dX13_mark_6 rfl rfl ?_
  refine yg_0_20 F i_X13 w_1 dX13_mark_7 (G 0 20) (rfl) ?_
  refine u_imul F dX13_mark_10 80 (G 0 20).toInt rfl rfl (by omega) (by omega) (fun y2 ey2 => ?_)
  refine g_aload_n F 0 dX13_mark_11 rfl rfl ?_
  refine yg_0_19 F i_X13 w_2 dX13_mark_12 ?_
  refine g_aload_n F 0 dX13_mark_15 rfl rfl ?_
  refine yg_0_20 F i_X13 w_1 dX13_mark_16 (G 0 20) (rfl) ?_
  refine u1_iald F 12 0 yc_12 rfl (G 0 20).toInt rfl (by omega) (by omega) dX13_mark_19 ((G 12) ((G 0 20).toInt).toNat) (rfl) ?_
  have b3 : (0 : Int) ≤ ((G 12) ((G 0 20).toInt).toNat).toInt ∧ ((G 12) ((G 0 20).toInt).toNat).toInt ≤ 80 := hI 12 _
  refine u_iadd F dX13_mark_20 y2.toInt ((G 12) ((G 0 20).toInt).toNat).toInt rfl rfl (by omega) (by omega) (fun y4 ey4 => ?_)
  refine g_iload_n F 1 dX13_mark_21 rfl rfl ?_
  refine u_iast F 10 0 yc_10 rfl y4.toInt rfl (by omega) (by omega) (yW K a (gu_up G 10 (y4.toInt).toNat p0)) (ys_10 _) dX13_mark_22 ?_
  refine g_aload_n F 0 dX13_mark_23 rfl rfl ?_
  refine yg_0_18 F i_X13 w_3 dX13_mark_24 ?_
  refine g_bipush F 80 dX13_mark_27 (by decide) ?_
  refine g_aload_n F 0 dX13_mark_29 rfl rfl ?_
  refine yg_0_20 F i_X13 w_1 dX13_mark_30 (G 0 20) (rfl) ?_
  refine u_imul F dX13_mark_33 80 (G 0 20).toInt rfl rfl (by omega) (by omega) (fun y5 ey5 => ?_)
  refine g_aload_n F 0 dX13_mark_34 rfl rfl ?_
  refine yg_0_19 F i_X13 w_2 dX13_mark_35 ?_
  refine g_aload_n F 0 dX13_mark_38 rfl rfl ?_
  refine yg_0_20 F i_X13 w_1 dX13_mark_39 (G 0 20) (rfl) ?_
  refine u1_iald F 12 0 yc_12 rfl (G 0 20).toInt rfl (by omega) (by omega) dX13_mark_42 ((G 12) ((G 0 20).toInt).toNat) (rfl) ?_
  have b6 : (0 : Int) ≤ ((G 12) ((G 0 20).toInt).toNat).toInt ∧ ((G 12) ((G 0 20).toInt).toNat).toInt ≤ 80 := hI 12 _
  refine u_iadd F dX13_mark_43 y5.toInt ((G 12) ((G 0 20).toInt).toNat).toInt rfl rfl (by omega) (by omega) (fun y7 ey7 => ?_)
  refine g_iload_n F 2 dX13_mark_44 rfl rfl ?_
  refine u_iast F 11 0 yc_11 rfl y7.toInt rfl (by omega) (by omega) (yW K a (gu_up (gu_up G 10 (y4.toInt).toNat p0) 11 (y7.toInt).toNat p1)) (ys_11 _) dX13_mark_45 ?_
  refine g_aload_n F 0 dX13_mark_46 rfl rfl ?_
  refine yg_0_19 F i_X13 w_2 dX13_mark_47 ?_
  refine g_aload_n F 0 dX13_mark_50 rfl rfl ?_
  refine yg_0_20 F i_X13 w_1 dX13_mark_51 (G 0 20) (rfl) ?_
  refine g_dup2 F dX13_mark_54 rfl rfl ?_
  refine u1_iald F 12 0 yc_12 rfl (G 0 20).toInt rfl (by omega) (by omega) dX13_mark_55 ((G 12) ((G 0 20).toInt).toNat) (rfl) ?_
  have b8 : (0 : Int) ≤ ((G 12) ((G 0 20).toInt).toNat).toInt ∧ ((G 12) ((G 0 20).toInt).toNat).toInt ≤ 80 := hI 12 _
  refine g_iconst F 1 dX13_mark_56 (by decide) ?_
  refine u_iadd F dX13_mark_57 ((G 12) ((G 0 20).toInt).toNat).toInt 1 rfl rfl (by omega) (by omega) (fun y9 ey9 => ?_)
  refine u_iast F 12 0 yc_12 rfl (G 0 20).toInt rfl (by omega) (by omega) (yW K a (gu_up (gu_up (gu_up G 10 (y4.toInt).toNat p0) 11 (y7.toInt).toNat p1) 12 ((G 0 20).toInt).toNat y9)) (ys_12 _) dX13_mark_58 ?_
  exact u_vret F hA hQ hr (gu_up (gu_up (gu_up G 10 (y4.toInt).toNat p0) 11 (y7.toInt).toNat p1) 12 ((G 0 20).toInt).toNat y9) (⟨(gu_I.up (j := 12) (k := ((G 0 20).toInt).toNat) (v := y9) (gu_I.up (j := 11) (k := (y7.toInt).toNat) (v := p1) (gu_I.up (j := 10) (k := (y4.toInt).toNat) (v := p0) hI (show (0 : Int) ≤ Int32.toInt p0 by omega) (show Int32.toInt p0 ≤ 2 by omega)) (ti_rng _).1 (ti_rng _).2) (show (0 : Int) ≤ Int32.toInt y9 by omega) (show Int32.toInt y9 ≤ 80 by omega)), (gu_un.up (j := 12) (k := ((G 0 20).toInt).toNat) (v := y9) (gu_un.up (j := 11) (k := (y7.toInt).toNat) (v := p1) (gu_un.up (j := 10) (k := (y4.toInt).toNat) (v := p0) gu_un.rf (show (1000 : Nat) ∈ ([1000, 1100, 1200] : List Nat) by decide)) (show (1100 : Nat) ∈ ([1000, 1100, 1200] : List Nat) by decide)) (show (1200 : Nat) ∈ ([1000, 1100, 1200] : List Nat) by decide)), (yMk_of (by omega) (by omega) (by omega))⟩) rfl rfl dX13_mark_59

theorem dX13_readFactor_0 : decode cX13_readFactor 0 = .ok (.aload_n 0, 1) := by decide +kernel
theorem dX13_readFactor_1 : decode cX13_readFactor 1 = .ok (.bipush 45, 2) := by decide +kernel
theorem dX13_readFactor_3 : decode cX13_readFactor 3 = .ok (.invokevirtual 110, 3) := by decide +kernel
theorem dX13_readFactor_6 : decode cX13_readFactor 6 = .ok (.istore_n 2, 1) := by decide +kernel
theorem dX13_readFactor_7 : decode cX13_readFactor 7 = .ok (.iload_n 2, 1) := by decide +kernel
theorem dX13_readFactor_8 : decode cX13_readFactor 8 = .ok (.ifCond .ne 12, 3) := by decide +kernel
theorem dX13_readFactor_11 : decode cX13_readFactor 11 = .ok (.aload_n 0, 1) := by decide +kernel
theorem dX13_readFactor_12 : decode cX13_readFactor 12 = .ok (.bipush 40, 2) := by decide +kernel
theorem dX13_readFactor_14 : decode cX13_readFactor 14 = .ok (.invokevirtual 110, 3) := by decide +kernel
theorem dX13_readFactor_17 : decode cX13_readFactor 17 = .ok (.ifCond .eq 66, 3) := by decide +kernel
theorem dX13_readFactor_20 : decode cX13_readFactor 20 = .ok (.aload_n 0, 1) := by decide +kernel
theorem dX13_readFactor_21 : decode cX13_readFactor 21 = .ok (.iload_n 1, 1) := by decide +kernel
theorem dX13_readFactor_22 : decode cX13_readFactor 22 = .ok (.iconst 4, 1) := by decide +kernel
theorem dX13_readFactor_23 : decode cX13_readFactor 23 = .ok (.if_icmp .ge 7, 3) := by decide +kernel
theorem dX13_readFactor_26 : decode cX13_readFactor 26 = .ok (.iconst 1, 1) := by decide +kernel
theorem dX13_readFactor_27 : decode cX13_readFactor 27 = .ok (.goto 4, 3) := by decide +kernel
theorem dX13_readFactor_30 : decode cX13_readFactor 30 = .ok (.iconst 0, 1) := by decide +kernel
theorem dX13_readFactor_31 : decode cX13_readFactor 31 = .ok (.iconst 4, 1) := by decide +kernel
theorem dX13_readFactor_32 : decode cX13_readFactor 32 = .ok (.invokevirtual 57, 3) := by decide +kernel
theorem dX13_readFactor_35 : decode cX13_readFactor 35 = .ok (.aload_n 0, 1) := by decide +kernel
theorem dX13_readFactor_36 : decode cX13_readFactor 36 = .ok (.invokevirtual 69, 3) := by decide +kernel
theorem dX13_readFactor_39 : decode cX13_readFactor 39 = .ok (.iload_n 2, 1) := by decide +kernel
theorem dX13_readFactor_40 : decode cX13_readFactor 40 = .ok (.ifCond .eq 20, 3) := by decide +kernel
theorem dX13_readFactor_43 : decode cX13_readFactor 43 = .ok (.aload_n 0, 1) := by decide +kernel
theorem dX13_readFactor_44 : decode cX13_readFactor 44 = .ok (.iload_n 1, 1) := by decide +kernel
theorem dX13_readFactor_45 : decode cX13_readFactor 45 = .ok (.iconst 1, 1) := by decide +kernel
theorem dX13_readFactor_46 : decode cX13_readFactor 46 = .ok (.iadd, 1) := by decide +kernel
theorem dX13_readFactor_47 : decode cX13_readFactor 47 = .ok (.invokevirtual 113, 3) := by decide +kernel
theorem dX13_readFactor_50 : decode cX13_readFactor 50 = .ok (.aload_n 0, 1) := by decide +kernel
theorem dX13_readFactor_51 : decode cX13_readFactor 51 = .ok (.iconst 2, 1) := by decide +kernel
theorem dX13_readFactor_52 : decode cX13_readFactor 52 = .ok (.bipush 33, 2) := by decide +kernel
theorem dX13_readFactor_54 : decode cX13_readFactor 54 = .ok (.invokevirtual 92, 3) := by decide +kernel
theorem dX13_readFactor_57 : decode cX13_readFactor 57 = .ok (.goto 25, 3) := by decide +kernel
theorem dX13_readFactor_60 : decode cX13_readFactor 60 = .ok (.aload_n 0, 1) := by decide +kernel
theorem dX13_readFactor_61 : decode cX13_readFactor 61 = .ok (.iload_n 1, 1) := by decide +kernel
theorem dX13_readFactor_62 : decode cX13_readFactor 62 = .ok (.iconst 1, 1) := by decide +kernel
theorem dX13_readFactor_63 : decode cX13_readFactor 63 = .ok (.iadd, 1) := by decide +kernel
theorem dX13_readFactor_64 : decode cX13_readFactor 64 = .ok (.invokevirtual 128, 3) := by decide +kernel
theorem dX13_readFactor_67 : decode cX13_readFactor 67 = .ok (.aload_n 0, 1) := by decide +kernel
theorem dX13_readFactor_68 : decode cX13_readFactor 68 = .ok (.aload_n 0, 1) := by decide +kernel
theorem dX13_readFactor_69 : decode cX13_readFactor 69 = .ok (.bipush 41, 2) := by decide +kernel
theorem dX13_readFactor_71 : decode cX13_readFactor 71 = .ok (.invokevirtual 110, 3) := by decide +kernel
theorem dX13_readFactor_74 : decode cX13_readFactor 74 = .ok (.iconst 1, 1) := by decide +kernel
theorem dX13_readFactor_75 : decode cX13_readFactor 75 = .ok (.invokevirtual 57, 3) := by decide +kernel
theorem dX13_readFactor_78 : decode cX13_readFactor 78 = .ok (.aload_n 0, 1) := by decide +kernel
theorem dX13_readFactor_79 : decode cX13_readFactor 79 = .ok (.invokevirtual 69, 3) := by decide +kernel
theorem dX13_readFactor_82 : decode cX13_readFactor 82 = .ok (.return_, 1) := by decide +kernel
theorem dX13_readFactor_83 : decode cX13_readFactor 83 = .ok (.aload_n 0, 1) := by decide +kernel
theorem dX13_readFactor_84 : decode cX13_readFactor 84 = .ok (.invokevirtual 131, 3) := by decide +kernel
theorem dX13_readFactor_87 : decode cX13_readFactor 87 = .ok (.istore_n 3, 1) := by decide +kernel
theorem dX13_readFactor_88 : decode cX13_readFactor 88 = .ok (.aload_n 0, 1) := by decide +kernel
theorem dX13_readFactor_89 : decode cX13_readFactor 89 = .ok (.iload_n 3, 1) := by decide +kernel
theorem dX13_readFactor_90 : decode cX13_readFactor 90 = .ok (.iconst (-1), 1) := by decide +kernel
theorem dX13_readFactor_91 : decode cX13_readFactor 91 = .ok (.if_icmp .ne 11, 3) := by decide +kernel
theorem dX13_readFactor_94 : decode cX13_readFactor 94 = .ok (.aload_n 0, 1) := by decide +kernel
theorem dX13_readFactor_95 : decode cX13_readFactor 95 = .ok (.getfield 31, 3) := by decide +kernel
theorem dX13_readFactor_98 : decode cX13_readFactor 98 = .ok (.iconst 2, 1) := by decide +kernel
theorem dX13_readFactor_99 : decode cX13_readFactor 99 = .ok (.if_icmp .ne 7, 3) := by decide +kernel
theorem dX13_readFactor_102 : decode cX13_readFactor 102 = .ok (.iconst 1, 1) := by decide +kernel
theorem dX13_readFactor_103 : decode cX13_readFactor 103 = .ok (.goto 4, 3) := by decide +kernel
theorem dX13_readFactor_106 : decode cX13_readFactor 106 = .ok (.iconst 0, 1) := by decide +kernel
theorem dX13_readFactor_107 : decode cX13_readFactor 107 = .ok (.iconst 1, 1) := by decide +kernel
theorem dX13_readFactor_108 : decode cX13_readFactor 108 = .ok (.invokevirtual 57, 3) := by decide +kernel
theorem dX13_readFactor_111 : decode cX13_readFactor 111 = .ok (.aload_n 0, 1) := by decide +kernel
theorem dX13_readFactor_112 : decode cX13_readFactor 112 = .ok (.aload_n 0, 1) := by decide +kernel
theorem dX13_readFactor_113 : decode cX13_readFactor 113 = .ok (.getfield 134, 3) := by decide +kernel
theorem dX13_readFactor_116 : decode cX13_readFactor 116 = .ok (.bipush 12, 2) := by decide +kernel
theorem dX13_readFactor_118 : decode cX13_readFactor 118 = .ok (.if_icmp .ge 7, 3) := by decide +kernel
theorem dX13_readFactor_121 : decode cX13_readFactor 121 = .ok (.iconst 1, 1) := by decide +kernel
theorem dX13_readFactor_122 : decode cX13_readFactor 122 = .ok (.goto 4, 3) := by decide +kernel
theorem dX13_readFactor_125 : decode cX13_readFactor 125 = .ok (.iconst 0, 1) := by decide +kernel
theorem dX13_readFactor_126 : decode cX13_readFactor 126 = .ok (.iconst 4, 1) := by decide +kernel
theorem dX13_readFactor_127 : decode cX13_readFactor 127 = .ok (.invokevirtual 57, 3) := by decide +kernel
theorem dX13_readFactor_130 : decode cX13_readFactor 130 = .ok (.aload_n 0, 1) := by decide +kernel
theorem dX13_readFactor_131 : decode cX13_readFactor 131 = .ok (.dup, 1) := by decide +kernel
theorem dX13_readFactor_132 : decode cX13_readFactor 132 = .ok (.getfield 134, 3) := by decide +kernel
theorem dX13_readFactor_135 : decode cX13_readFactor 135 = .ok (.iconst 1, 1) := by decide +kernel
theorem dX13_readFactor_136 : decode cX13_readFactor 136 = .ok (.iadd, 1) := by decide +kernel
theorem dX13_readFactor_137 : decode cX13_readFactor 137 = .ok (.putfield 134, 3) := by decide +kernel
theorem dX13_readFactor_140 : decode cX13_readFactor 140 = .ok (.aload_n 0, 1) := by decide +kernel
theorem dX13_readFactor_141 : decode cX13_readFactor 141 = .ok (.iload_n 3, 1) := by decide +kernel
theorem dX13_readFactor_142 : decode cX13_readFactor 142 = .ok (.iconst (-1), 1) := by decide +kernel
theorem dX13_readFactor_143 : decode cX13_readFactor 143 = .ok (.if_icmp .ne 7, 3) := by decide +kernel
theorem dX13_readFactor_146 : decode cX13_readFactor 146 = .ok (.iconst 0, 1) := by decide +kernel
theorem dX13_readFactor_147 : decode cX13_readFactor 147 = .ok (.goto 4, 3) := by decide +kernel
theorem dX13_readFactor_150 : decode cX13_readFactor 150 = .ok (.iconst 1, 1) := by decide +kernel
theorem dX13_readFactor_151 : decode cX13_readFactor 151 = .ok (.iload_n 3, 1) := by decide +kernel
theorem dX13_readFactor_152 : decode cX13_readFactor 152 = .ok (.iconst (-1), 1) := by decide +kernel
theorem dX13_readFactor_153 : decode cX13_readFactor 153 = .ok (.if_icmp .ne 10, 3) := by decide +kernel
theorem dX13_readFactor_156 : decode cX13_readFactor 156 = .ok (.aload_n 0, 1) := by decide +kernel
theorem dX13_readFactor_157 : decode cX13_readFactor 157 = .ok (.getfield 41, 3) := by decide +kernel
theorem dX13_readFactor_160 : decode cX13_readFactor 160 = .ok (.goto 4, 3) := by decide +kernel
theorem dX13_readFactor_163 : decode cX13_readFactor 163 = .ok (.iload_n 3, 1) := by decide +kernel
theorem dX13_readFactor_164 : decode cX13_readFactor 164 = .ok (.invokevirtual 92, 3) := by decide +kernel
theorem dX13_readFactor_167 : decode cX13_readFactor 167 = .ok (.aload_n 0, 1) := by decide +kernel
theorem dX13_readFactor_168 : decode cX13_readFactor 168 = .ok (.invokevirtual 69, 3) := by decide +kernel
theorem dX13_readFactor_171 : decode cX13_readFactor 171 = .ok (.return_, 1) := by decide +kernel
set_option maxRecDepth 20000 in
theorem ggX13_readFactor_X13_isSign : GoodIn wsX13_readFactor wsX13_isSign := goodIn_r _ [8, 1, 3, 107, 108, 109, 110, 111, 112, 113, 114, 115, 116, 117, 118, 119, 120, 121, 122, 123, 124, 125, 126, 127, 128, 129, 130, 131, 132, 133, 134, 135, 136, 137, 138, 139, 140, 141, 142, 143, 144, 145, 146, 147, 148, 149, 150, 151, 152, 153, 154, 155, 156, 157, 158, 159, 160, 161, 162, 163, 164, 165, 166, 167, 168, 169, 170, 171, 172, 173, 174, 175, 176, 177, 178, 179] rfl (by decide +kernel)
set_option maxRecDepth 20000 in
theorem gX13_readFactor_X13_isSign : GoodIn wsX13_readFactor (wsV RX13 110 RX13 yX13_isSign wsX13_isSign) := goodIn_app (goodIn_of _ (by decide +kernel)) ggX13_readFactor_X13_isSign
set_option maxRecDepth 20000 in
theorem ggX13_readFactor_X13_letterAtHand : GoodIn wsX13_readFactor wsX13_letterAtHand := goodIn_r _ [48, 39, 49, 50, 51, 7, 52, 1, 17, 20, 19, 53, 54, 55, 56, 57, 58, 59, 60, 61, 62, 63, 64, 65, 66, 67, 68, 69, 70, 71, 72, 73, 74, 75, 76, 77, 78, 79, 80, 81, 82, 83, 84, 85, 86, 87, 88, 89, 90, 91, 92, 93, 94, 95, 96, 97, 98, 99, 100, 101, 107, 108, 109, 110, 111, 112, 113, 114, 115, 116, 117, 118, 119, 120, 121, 122, 123, 124, 125, 126, 127, 128, 129, 130, 131, 132, 133, 134, 135, 136, 137, 138, 139, 140, 141, 142, 143, 144, 145, 146, 147, 148, 149, 150, 151, 152, 153, 154, 155, 156, 157, 158, 159, 160, 161, 162, 163, 164, 165, 166, 167, 168, 169, 170, 171, 172, 173, 174, 175, 176, 177, 178, 179] rfl (by decide +kernel)
set_option maxRecDepth 20000 in
theorem gX13_readFactor_X13_letterAtHand : GoodIn wsX13_readFactor (wsV RX13 131 RX13 yX13_letterAtHand wsX13_letterAtHand) := goodIn_app (goodIn_of _ (by decide +kernel)) ggX13_readFactor_X13_letterAtHand
set_option maxRecDepth 20000 in
theorem ggX13_readFactor_X13_mark : GoodIn wsX13_readFactor wsX13_mark := goodIn_r _ [37, 38, 39, 40, 41, 107, 108, 109, 110, 111, 112, 113, 114, 115, 116, 117, 118, 119, 120, 121, 122, 123, 124, 125, 126, 127, 128, 129, 130, 131, 132, 133, 134, 135, 136, 137, 138, 139, 140, 141, 142, 143, 144, 145, 146, 147, 148, 149, 150, 151, 152, 153, 154, 155, 156, 157, 158, 159, 160, 161, 162, 163, 164, 165, 166, 167, 168, 169, 170, 171, 172, 173, 174, 175, 176, 177, 178, 179] rfl (by decide +kernel)
set_option maxRecDepth 20000 in
theorem gX13_readFactor_X13_mark : GoodIn wsX13_readFactor (wsV RX13 92 RX13 yX13_mark wsX13_mark) := goodIn_app (goodIn_of _ (by decide +kernel)) ggX13_readFactor_X13_mark
set_option maxRecDepth 20000 in
theorem ggX13_readFactor_X13_need : GoodIn wsX13_readFactor wsX13_need := goodIn_r _ [12] rfl (by decide +kernel)
set_option maxRecDepth 20000 in
theorem gX13_readFactor_X13_need : GoodIn wsX13_readFactor (wsV RX13 57 RX13 yX13_need wsX13_need) := goodIn_app (goodIn_of _ (by decide +kernel)) ggX13_readFactor_X13_need
set_option maxRecDepth 20000 in
theorem ggX13_readFactor_X13_scan : GoodIn wsX13_readFactor wsX13_scan := goodIn_r _ [16, 17, 18, 19, 20, 1, 3, 21, 22, 23, 7, 24, 25, 26, 27, 28, 29, 30, 107, 108, 109, 110, 111, 112, 113, 114, 115, 116, 117, 118, 119, 120, 121, 122, 123, 124, 125, 126, 127, 128, 129, 130, 131, 132, 133, 134, 135, 136, 137, 138, 139, 140, 141, 142, 143, 144, 145, 146, 147, 148, 149, 150, 151, 152, 153, 154, 155, 156, 157, 158, 159, 160, 161, 162, 163, 164, 165, 166, 167, 168, 169, 170, 171, 172, 173, 174, 175, 176, 177, 178, 179] rfl (by decide +kernel)
set_option maxRecDepth 20000 in
theorem gX13_readFactor_X13_scan : GoodIn wsX13_readFactor (wsV RX13 69 RX13 yX13_scan wsX13_scan) := goodIn_app (goodIn_of _ (by decide +kernel)) ggX13_readFactor_X13_scan
def wsT_X13_readFactor : List Cond := wsX13_readFactor ++ wsT_nx
theorem gT_X13_readFactor_X13_need : GoodIn wsT_X13_readFactor (wsV RX13 57 RX13 yX13_need wsT_X13_need) := gT_call gX13_readFactor_X13_need gT_nx
set_option maxHeartbeats 4000000 in
set_option maxRecDepth 100000 in
theorem S_X13_readFactor_v4 (l : Launch) (D : va_G) (K : Nat → ClassId) (a : Nat → Nat) (G : gS) (qs vs : Nat → Nat) (pb : ((G 0 5).toInt ≤ (G 0 3).toInt)) (s35 : (3 ≤ (G 0 20).toInt)) (m6 : ((G 12 ((G 0 20).toInt).toNat).toInt ≤ 6 * (G 0 21).toInt)) (hI : yI G) (sz : Nat) : KxvZ (yZ qs vs) l yX13_readFactor wsT_X13_readFactor 7 169 D [.ref (a 0), .int 4] (yW K a G) (tK K) sz (fun (G' : gS) => (yI G') ∧ (gu_un ycd [5, 6, 7, 8, 9, 10, 22, 1000, 1100, 1200] G G') ∧ (((G' 0 5).toInt ≤ (G 0 3).toInt ∧ (G 0 5).toInt ≤ (G' 0 5).toInt ∧ ((G' 0 6).toInt = 0 ∨ (G 0 5).toInt < (G' 0 5).toInt))) ∧ (ySg 2 (G 0 20).toInt G G') ∧ (yKp G G')) (fun (G' : gS) => (yI G') ∧ (gu_un ycd [5, 6, 7, 8, 9, 10, 22, 1000, 1100, 1200] G G') ∧ (yKp G G')) (a 1) (fun (G' : gS) => (yW K a G')) := by
  unfold KxvZ
  refine gxz_ofW (cc := cX13_readFactor) (lv := [(0, .ref (a 0)), (1, .int 4)]) (by decide) rfl (Nat.le_of_ble_eq_true rfl) rfl ?_
  intro p e s m args below meth c A Q hA hQ hZ F hr hex
  have hts := F.2.2.2.2.1
  have w_0 : (Cond.fieldLink RX13 134 "QuietCutModel" "parts" "I").before args s = true := hts _ (List.mem_of_getElem? (i := 2) rfl)
  have i_X13 : ∀ w ∈ u_ws RX13 TX13 73, w ∈ wsT_X13_readFactor := fun w h => List.mem_append_left _ ((show ∀ w ∈ u_ws RX13 TX13 73, w ∈ wsX13_readFactor from fun _ h => List.mem_cons_of_mem _ (List.mem_append_right _ h)) w h)
  have w_1 : (Cond.fieldLink RX13 31 "QuietCutModel" "hand" "I").before args s = true := hts _ (List.mem_of_getElem? (i := 1) rfl)
  have w_2 : (Cond.fieldLink RX13 41 "QuietCutModel" "value" "I").before args s = true := hts _ (List.mem_of_getElem? (i := 3) rfl)
  have b1 : (0 : Int) ≤ (G 0 3).toInt ∧ (G 0 3).toInt ≤ 1000 := hI 0 3
  have b2 : (0 : Int) ≤ (G 0 5).toInt ∧ (G 0 5).toInt ≤ 1000 := hI 0 5
  have b3 : (0 : Int) ≤ (G 0 6).toInt ∧ (G 0 6).toInt ≤ 4 := hI 0 6
  have b4 : (0 : Int) ≤ (G 0 20).toInt ∧ (G 0 20).toInt ≤ 5 := hI 0 20
  have b5 : (0 : Int) ≤ (G 0 21).toInt ∧ (G 0 21).toInt ≤ 12 := hI 0 21
  refine g_aload_n F 0 dX13_readFactor_0 rfl rfl ?_
  refine g_bipush F 45 dX13_readFactor_1 (by decide) ?_
  refine u_callVi (k := 0) (n := 0) (b := a 0) (As := [.int 45]) (st := []) F (fun sz => S_X13_isSign l D K a G 45 45 rfl hI sz) (cwV 1 hts (gT_left gX13_readFactor_X13_isSign) rfl rfl rfl (by decide +kernel) ⟨Nat.le_of_ble_eq_true rfl, Nat.le_of_ble_eq_true rfl⟩) rfl 0 yc_0 rfl (Nat.le_of_ble_eq_true rfl) ⟨Nat.zero_le _, Nat.zero_le _⟩ dX13_readFactor_3 (fun r6 _ hw7 => ?_)
  rcases hw7 with ⟨rfl, q9⟩ | ⟨rfl, q10⟩
  · have q9 : ((G 0 6).toInt = 3 ∧ (G 0 7).toInt = (45 : Int)) := q9
    refine g_istore_n F [(2, .int 1), (0, .ref (a 0)), (1, .int 4)] dX13_readFactor_6 rfl (by decide) rfl ?_
    refine g_iload_n F 0 dX13_readFactor_7 rfl rfl ?_
    refine v_if_ne F 20 dX13_readFactor_8 (by decide) 1 rfl (fun c11 => ?_) (fun c11 => absurd c11 (by decide))
    refine g_aload_n F 1 dX13_readFactor_20 rfl rfl ?_
    refine g_iload_n F 2 dX13_readFactor_21 rfl rfl ?_
    refine g_iconst F 4 dX13_readFactor_22 (by decide) ?_
    refine v_icmp_ge F 30 dX13_readFactor_23 (by decide) 4 4 rfl rfl (fun c12 => ?_) (fun c12 => absurd c12 (by decide))
    refine g_iconst F 0 dX13_readFactor_30 (by decide) ?_
    refine g_iconst F 4 dX13_readFactor_31 (by decide) ?_
    refine ux_callvv (k := 0) (n := 0) (b := a 0) (As := [.int 0, .int 4]) (st := []) F (fun sz => S_X13_need l D K a G 0 0 4 4 rfl (by decide) rfl hI sz) (cwV 2 hts gT_X13_readFactor_X13_need rfl rfl rfl (by decide +kernel) ⟨Nat.le_of_ble_eq_true rfl, Nat.le_of_ble_eq_true rfl⟩) rfl 0 yc_0 rfl (Nat.le_of_ble_eq_true rfl) ⟨Nat.zero_le _, Nat.zero_le _⟩ dX13_readFactor_32 hex hA hQ (fun u9 h9 => ⟨h9.1, gu_un.tr gu_un.rf (gu_un.su h9.2.1 rfl), (yKp.un yKp.rf h9.2.1 rfl)⟩) (fun G15 hw14 => ?_)
    have hI16 : yI G15 := hw14.1
    have hU17 : gu_un ycd [9, 10] G G15 := hw14.2.1
    have hp18 := hw14.2.2
    have q19 : ((0 : Int) ≠ 0) := hp18
    exfalso; omega
  · have q10 : ((G 0 6).toInt ≠ 3 ∨ (G 0 7).toInt ≠ (45 : Int)) := q10
    refine g_istore_n F [(2, .int 0), (0, .ref (a 0)), (1, .int 4)] dX13_readFactor_6 rfl (by decide) rfl ?_
    refine g_iload_n F 0 dX13_readFactor_7 rfl rfl ?_
    refine v_if_ne F 20 dX13_readFactor_8 (by decide) 0 rfl (fun c20 => absurd c20 (by decide)) (fun c20 => ?_)
    refine g_aload_n F 1 dX13_readFactor_11 rfl rfl ?_
    refine g_bipush F 40 dX13_readFactor_12 (by decide) ?_
    refine u_callVi (k := 0) (n := 0) (b := a 0) (As := [.int 40]) (st := []) F (fun sz => S_X13_isSign l D K a G 40 40 rfl hI sz) (cwV 1 hts (gT_left gX13_readFactor_X13_isSign) rfl rfl rfl (by decide +kernel) ⟨Nat.le_of_ble_eq_true rfl, Nat.le_of_ble_eq_true rfl⟩) rfl 0 yc_0 rfl (Nat.le_of_ble_eq_true rfl) ⟨Nat.zero_le _, Nat.zero_le _⟩ dX13_readFactor_14 (fun r21 _ hw22 => ?_)
    rcases hw22 with ⟨rfl, q24⟩ | ⟨rfl, q25⟩
    · have q24 : ((G 0 6).toInt = 3 ∧ (G 0 7).toInt = (40 : Int)) := q24
      refine v_if_eq F 83 dX13_readFactor_17 (by decide) 1 rfl (fun c26 => absurd c26 (by decide)) (fun c26 => ?_)
      refine g_aload_n F 1 dX13_readFactor_20 rfl rfl ?_
      refine g_iload_n F 2 dX13_readFactor_21 rfl rfl ?_
      refine g_iconst F 4 dX13_readFactor_22 (by decide) ?_
      refine v_icmp_ge F 30 dX13_readFactor_23 (by decide) 4 4 rfl rfl (fun c27 => ?_) (fun c27 => absurd c27 (by decide))
      refine g_iconst F 0 dX13_readFactor_30 (by decide) ?_
      refine g_iconst F 4 dX13_readFactor_31 (by decide) ?_
      refine ux_callvv (k := 0) (n := 0) (b := a 0) (As := [.int 0, .int 4]) (st := []) F (fun sz => S_X13_need l D K a G 0 0 4 4 rfl (by decide) rfl hI sz) (cwV 2 hts gT_X13_readFactor_X13_need rfl rfl rfl (by decide +kernel) ⟨Nat.le_of_ble_eq_true rfl, Nat.le_of_ble_eq_true rfl⟩) rfl 0 yc_0 rfl (Nat.le_of_ble_eq_true rfl) ⟨Nat.zero_le _, Nat.zero_le _⟩ dX13_readFactor_32 hex hA hQ (fun u9 h9 => ⟨h9.1, gu_un.tr gu_un.rf (gu_un.su h9.2.1 rfl), (yKp.un yKp.rf h9.2.1 rfl)⟩) (fun G30 hw29 => ?_)
      have hI31 : yI G30 := hw29.1
      have hU32 : gu_un ycd [9, 10] G G30 := hw29.2.1
      have hp33 := hw29.2.2
      have q34 : ((0 : Int) ≠ 0) := hp33
      exfalso; omega
    · have q25 : ((G 0 6).toInt ≠ 3 ∨ (G 0 7).toInt ≠ (40 : Int)) := q25
      refine v_if_eq F 83 dX13_readFactor_17 (by decide) 0 rfl (fun c35 => ?_) (fun c35 => absurd c35 (by decide))
      refine g_aload_n F 1 dX13_readFactor_83 rfl rfl ?_
      refine uz_callVi (k := 0) (n := 0) (b := a 0) (As := []) (st := []) F yZ_st hZ (fun sz => S_X13_letterAtHand l D K a G qs vs  (by (first | omega | (simp only [Int32.reduceToInt, true_and, and_true, ne_eq, not_true_eq_false, false_and, or_false, false_or, true_or, or_true, false_implies] <;> omega))) hI sz) (cwV 0 hts (gT_left gX13_readFactor_X13_letterAtHand) rfl rfl rfl (by decide +kernel) ⟨Nat.le_of_ble_eq_true rfl, Nat.le_of_ble_eq_true rfl⟩) rfl 0 yc_0 rfl (Nat.le_of_ble_eq_true rfl) ⟨Nat.zero_le _, Nat.zero_le _⟩ dX13_readFactor_84 (fun r36 _ hw37 => ?_)
      have q39 : (r36.toInt = yLt ((G 0 20).toInt - 3) G) := hw37.2
      have rg40 := hw37.1
      clear hw37
      refine g_istore_n F [(3, .int r36), (2, .int 0), (0, .ref (a 0)), (1, .int 4)] dX13_readFactor_87 rfl (by decide) rfl ?_
      refine g_aload_n F 2 dX13_readFactor_88 rfl rfl ?_
      refine g_iload_n F 0 dX13_readFactor_89 rfl rfl ?_
      refine g_iconst F (-1) dX13_readFactor_90 (by decide) ?_
      refine v_icmp_ne F 102 dX13_readFactor_91 (by decide) r36.toInt (-1) rfl rfl (fun c41 => ?_) (fun c41 => ?_)
      · refine g_iconst F 1 dX13_readFactor_102 (by decide) ?_
        refine g_goto F 107 dX13_readFactor_103 (by decide) ?_
        refine g_iconst F 1 dX13_readFactor_107 (by decide) ?_
        refine ux_callvv (k := 0) (n := 0) (b := a 0) (As := [.int 1, .int 1]) (st := []) F (fun sz => S_X13_need l D K a G 1 1 1 1 rfl (by decide) rfl hI sz) (cwV 2 hts gT_X13_readFactor_X13_need rfl rfl rfl (by decide +kernel) ⟨Nat.le_of_ble_eq_true rfl, Nat.le_of_ble_eq_true rfl⟩) rfl 0 yc_0 rfl (Nat.le_of_ble_eq_true rfl) ⟨Nat.zero_le _, Nat.zero_le _⟩ dX13_readFactor_108 hex hA hQ (fun u9 h9 => ⟨h9.1, gu_un.tr gu_un.rf (gu_un.su h9.2.1 rfl), (yKp.un yKp.rf h9.2.1 rfl)⟩) (fun G44 hw43 => ?_)
        have hI45 : yI G44 := hw43.1
        have hU46 : gu_un ycd [9, 10] G G44 := hw43.2.1
        have hp47 := hw43.2.2
        have q48 : ((1 : Int) ≠ 0) := hp47
        clear hp47 hw43
        refine g_aload_n F 2 dX13_readFactor_111 rfl rfl ?_
        refine g_aload_n F 2 dX13_readFactor_112 rfl rfl ?_
        refine yg_0_21 F i_X13 w_0 dX13_readFactor_113 (G 0 21) (hU46 0 21 (by decide)) ?_
        refine g_bipush F 12 dX13_readFactor_116 (by decide) ?_
        refine v_icmp_ge F 125 dX13_readFactor_118 (by decide) (G 0 21).toInt 12 rfl rfl (fun c49 => ?_) (fun c49 => ?_)
        · refine g_iconst F 0 dX13_readFactor_125 (by decide) ?_
          refine g_iconst F 4 dX13_readFactor_126 (by decide) ?_
          refine ux_callvv (k := 0) (n := 0) (b := a 0) (As := [.int 0, .int 4]) (st := []) F (fun sz => S_X13_need l D K a G44 0 0 4 4 rfl (by decide) rfl hI45 sz) (cwV 2 hts gT_X13_readFactor_X13_need rfl rfl rfl (by decide +kernel) ⟨Nat.le_of_ble_eq_true rfl, Nat.le_of_ble_eq_true rfl⟩) rfl 0 yc_0 rfl (Nat.le_of_ble_eq_true rfl) ⟨Nat.zero_le _, Nat.zero_le _⟩ dX13_readFactor_127 hex hA hQ (fun u9 h9 => ⟨h9.1, gu_un.tr (gu_un.tr gu_un.rf (gu_un.su hU46 rfl)) (gu_un.su h9.2.1 rfl), (yKp.un (yKp.un yKp.rf (show gu_un ycd [9, 10] G G44 from (gu_un.tr gu_un.rf (gu_un.su hU46 rfl))) rfl) h9.2.1 rfl)⟩) (fun G52 hw51 => ?_)
          have hI53 : yI G52 := hw51.1
          have hU54 : gu_un ycd [9, 10] G44 G52 := hw51.2.1
          have hp55 := hw51.2.2
          have q56 : ((0 : Int) ≠ 0) := hp55
          exfalso; omega
        · refine g_iconst F 1 dX13_readFactor_121 (by decide) ?_
          refine g_goto F 126 dX13_readFactor_122 (by decide) ?_
          refine g_iconst F 4 dX13_readFactor_126 (by decide) ?_
          refine ux_callvv (k := 0) (n := 0) (b := a 0) (As := [.int 1, .int 4]) (st := []) F (fun sz => S_X13_need l D K a G44 1 1 4 4 rfl (by decide) rfl hI45 sz) (cwV 2 hts gT_X13_readFactor_X13_need rfl rfl rfl (by decide +kernel) ⟨Nat.le_of_ble_eq_true rfl, Nat.le_of_ble_eq_true rfl⟩) rfl 0 yc_0 rfl (Nat.le_of_ble_eq_true rfl) ⟨Nat.zero_le _, Nat.zero_le _⟩ dX13_readFactor_127 hex hA hQ (fun u9 h9 => ⟨h9.1, gu_un.tr (gu_un.tr gu_un.rf (gu_un.su hU46 rfl)) (gu_un.su h9.2.1 rfl), (yKp.un (yKp.un yKp.rf (show gu_un ycd [9, 10] G G44 from (gu_un.tr gu_un.rf (gu_un.su hU46 rfl))) rfl) h9.2.1 rfl)⟩) (fun G59 hw58 => ?_)
          have hI60 : yI G59 := hw58.1
          have hU61 : gu_un ycd [9, 10] G44 G59 := hw58.2.1
          have hp62 := hw58.2.2
          have q63 : ((1 : Int) ≠ 0) := hp62
          clear hp62 hw58
          refine g_aload_n F 2 dX13_readFactor_130 rfl rfl ?_
          refine g_dup F dX13_readFactor_131 rfl ?_
          refine yg_0_21 F i_X13 w_0 dX13_readFactor_132 (G 0 21) ((hU61 0 21 (by decide)).trans (hU46 0 21 (by decide))) ?_
          refine g_iconst F 1 dX13_readFactor_135 (by decide) ?_
          refine u_iadd F dX13_readFactor_136 (G 0 21).toInt 1 rfl rfl (by omega) (by omega) (fun y64 ey64 => ?_)
          refine yp_0_21 F i_X13 w_0 dX13_readFactor_137 ?_
          refine g_aload_n F 2 dX13_readFactor_140 rfl rfl ?_
          refine g_iload_n F 0 dX13_readFactor_141 rfl rfl ?_
          refine g_iconst F (-1) dX13_readFactor_142 (by decide) ?_
          refine v_icmp_ne F 150 dX13_readFactor_143 (by decide) r36.toInt (-1) rfl rfl (fun c65 => ?_) (fun c65 => absurd c65 (by omega))
          refine g_iconst F 1 dX13_readFactor_150 (by decide) ?_
          refine g_iload_n F 0 dX13_readFactor_151 rfl rfl ?_
          refine g_iconst F (-1) dX13_readFactor_152 (by decide) ?_
          refine v_icmp_ne F 163 dX13_readFactor_153 (by decide) r36.toInt (-1) rfl rfl (fun c66 => ?_) (fun c66 => absurd c66 (by omega))
          refine g_iload_n F 0 dX13_readFactor_163 rfl rfl ?_
          refine u_callVv (k := 0) (n := 0) (b := a 0) (As := [.int 1, .int r36]) (st := []) F (fun sz => S_X13_mark l D K a (gu_up G59 0 21 y64) 1 1 r36 r36.toInt rfl (by decide) rfl (by rw [show (gu_up G59 0 21 y64) 0 20 = G 0 20 from (hU61 0 20 (by decide)).trans (hU46 0 20 (by decide))]; have h9 : (G59 12 ((G 0 20).toInt).toNat).toInt ≤ 6 * (G59 0 21).toInt := (y_m6 m6 (show gu_un ycd [9, 10] G G59 from (gu_un.tr (gu_un.tr gu_un.rf (gu_un.su hU46 rfl)) (gu_un.su hU61 rfl))) rfl rfl); have h8 : (0 : Int) ≤ (G59 0 21).toInt ∧ (G59 0 21).toInt ≤ 12 := hI60 0 21; show (G59 12 ((G 0 20).toInt).toNat).toInt ≤ 79; omega) (gu_I.up (j := 0) (k := 21) (v := y64) hI60 (show (0 : Int) ≤ Int32.toInt y64 by omega) (show Int32.toInt y64 ≤ 12 by omega)) sz) (cwV 2 hts (gT_left gX13_readFactor_X13_mark) rfl rfl rfl (by decide +kernel) ⟨Nat.le_of_ble_eq_true rfl, Nat.le_of_ble_eq_true rfl⟩) rfl 0 yc_0 rfl (Nat.le_of_ble_eq_true rfl) ⟨Nat.zero_le _, Nat.zero_le _⟩ dX13_readFactor_164 (fun G69 hw68 => ?_)
          have hI70 : yI G69 := hw68.1
          have hU71 : gu_un ycd [1000, 1100, 1200] (gu_up G59 0 21 y64) G69 := hw68.2.1
          have hp72 := hw68.2.2
          have q73 : yMk 1 r36 (G 0 20).toInt (gu_up G59 0 21 y64) G69 := by have h9 := hp72; (try simp only [(show (gu_up G59 0 21 y64) 0 20 = (G 0 20) from (hU61 0 20 (by decide)).trans (hU46 0 20 (by decide)))] at h9); first | exact h9 | omega
          have m0 : 0 ≤ (G 12 ((G 0 20).toInt).toNat).toInt := (show (0 : Int) ≤ (G 12 ((G 0 20).toInt).toNat).toInt ∧ (G 12 ((G 0 20).toInt).toNat).toInt ≤ 80 from hI 12 _).1
          have m1 : 0 ≤ ((gu_up G59 0 21 y64) 12 ((G 0 20).toInt).toNat).toInt := (show (0 : Int) ≤ (G59 12 ((G 0 20).toInt).toNat).toInt ∧ (G59 12 ((G 0 20).toInt).toNat).toInt ≤ 80 from hI60 12 _).1
          have kp74 : yKp G G69 := yKp.tr (yKp.un yKp.rf (show gu_un ycd [9, 10, 22] G (gu_up G59 0 21 y64) from (gu_un.up (j := 0) (k := 21) (v := y64) (gu_un.tr (gu_un.tr gu_un.rf (gu_un.su hU46 rfl)) (gu_un.su hU61 rfl)) (show (22 : Nat) ∈ ([9, 10, 22] : List Nat) by decide))) rfl) (q73.kp (by omega) m1)
          have sg75 : ySg 2 (G 0 20).toInt G G69 := yMk.leaf q73 (by first | decide | omega) (by decide) (by omega) (show (gu_up G59 0 21 y64) 10 = G 10 from (show G59 10 = G44 10 from funext fun k_ => hU61 10 k_ (show (1000 : Nat) ∉ ([9, 10] : List Nat) by decide)).trans ((show G44 10 = G 10 from funext fun k_ => hU46 10 k_ (show (1000 : Nat) ∉ ([9, 10] : List Nat) by decide)))) (show (gu_up G59 0 21 y64) 11 = G 11 from (show G59 11 = G44 11 from funext fun k_ => hU61 11 k_ (show (1100 : Nat) ∉ ([9, 10] : List Nat) by decide)).trans ((show G44 11 = G 11 from funext fun k_ => hU46 11 k_ (show (1100 : Nat) ∉ ([9, 10] : List Nat) by decide)))) (show (gu_up G59 0 21 y64) 12 = G 12 from (show G59 12 = G44 12 from funext fun k_ => hU61 12 k_ (show (1200 : Nat) ∉ ([9, 10] : List Nat) by decide)).trans ((show G44 12 = G 12 from funext fun k_ => hU46 12 k_ (show (1200 : Nat) ∉ ([9, 10] : List Nat) by decide)))) m0 (by omega) (show (y64 : Int32).toInt = _ by omega)
          clear hp72 hw68
          refine g_aload_n F 2 dX13_readFactor_167 rfl rfl ?_
          refine u_callVv (k := 0) (n := 0) (b := a 0) (As := []) (st := []) F (fun sz => S_X13_scan l D K a G69  (by have e9_0_3 : G69 0 3 = (G 0 3) := (hU71 0 3 (by decide)).trans ((hU61 0 3 (by decide)).trans (hU46 0 3 (by decide))); have e9_0_5 : G69 0 5 = (G 0 5) := (hU71 0 5 (by decide)).trans ((hU61 0 5 (by decide)).trans (hU46 0 5 (by decide))); (try simp only [e9_0_3, e9_0_5, true_and, and_true]) <;> (first | omega | (simp only [Int32.reduceToInt, true_and, and_true, ne_eq, not_true_eq_false, false_and, or_false, false_or, true_or, or_true, false_implies] <;> omega))) hI70 sz) (cwV 0 hts (gT_left gX13_readFactor_X13_scan) rfl rfl rfl (by decide +kernel) ⟨Nat.le_of_ble_eq_true rfl, Nat.le_of_ble_eq_true rfl⟩) rfl 0 yc_0 rfl (Nat.le_of_ble_eq_true rfl) ⟨Nat.zero_le _, Nat.zero_le _⟩ dX13_readFactor_168 (fun G78 hw77 => ?_)
          have hI79 : yI G78 := hw77.1
          have hU80 : gu_un ycd [5, 6, 7, 8] G69 G78 := hw77.2.1
          have hp81 := hw77.2.2
          have b82 : (0 : Int) ≤ (G78 0 5).toInt ∧ (G78 0 5).toInt ≤ 1000 := hI79 0 5
          have b83 : (0 : Int) ≤ (G78 0 4).toInt ∧ (G78 0 4).toInt ≤ 1000 := hI79 0 4
          have q84 : ((G78 0 5).toInt ≤ (G 0 3).toInt ∧ (G 0 5).toInt ≤ (G78 0 4).toInt ∧ (G78 0 4).toInt ≤ (G78 0 5).toInt) := by have h9 := hp81.1; (try simp only [(show G69 0 3 = (G 0 3) from (hU71 0 3 (by decide)).trans ((hU61 0 3 (by decide)).trans (hU46 0 3 (by decide)))), (show G69 0 5 = (G 0 5) from (hU71 0 5 (by decide)).trans ((hU61 0 5 (by decide)).trans (hU46 0 5 (by decide))))] at h9); first | exact h9 | omega
          have b85 : (0 : Int) ≤ (G78 0 6).toInt ∧ (G78 0 6).toInt ≤ 4 := hI79 0 6
          have q86 : (((G78 0 6).toInt = 0 ∧ (G78 0 4).toInt = (G 0 3).toInt) ∨ ((G78 0 6).toInt ≠ 0 ∧ (G78 0 4).toInt < (G78 0 5).toInt)) := by have h9 := hp81.2.1; (try simp only [(show G69 0 3 = (G 0 3) from (hU71 0 3 (by decide)).trans ((hU61 0 3 (by decide)).trans (hU46 0 3 (by decide))))] at h9); first | exact h9 | omega
          have q87 : tTok (G 2) (G 0 3).toInt (G 0 5).toInt (G78 0 6).toInt (G78 0 4).toInt (G78 0 7).toInt (G78 0 5).toInt := by have h9 := hp81.2.2; (try simp only [(show G69 0 3 = (G 0 3) from (hU71 0 3 (by decide)).trans ((hU61 0 3 (by decide)).trans (hU46 0 3 (by decide)))), (show G69 0 5 = (G 0 5) from (hU71 0 5 (by decide)).trans ((hU61 0 5 (by decide)).trans (hU46 0 5 (by decide)))), (show G69 2 = (G 2) from (show G69 2 = (gu_up G59 0 21 y64) 2 from funext fun k_ => hU71 2 k_ (show (200 : Nat) ∉ ([1000, 1100, 1200] : List Nat) by decide)).trans ((show G59 2 = G44 2 from funext fun k_ => hU61 2 k_ (show (200 : Nat) ∉ ([9, 10] : List Nat) by decide)).trans ((show G44 2 = G 2 from funext fun k_ => hU46 2 k_ (show (200 : Nat) ∉ ([9, 10] : List Nat) by decide)))))] at h9); first | exact h9 | omega
          clear hp81 hw77
          exact ux_vret F hA hQ hr G78 (⟨hI79, (gu_un.tr (gu_un.tr (gu_un.up (j := 0) (k := 21) (v := y64) (gu_un.tr (gu_un.tr gu_un.rf (gu_un.su hU46 rfl)) (gu_un.su hU61 rfl)) (show (22 : Nat) ∈ ([5, 6, 7, 8, 9, 10, 22, 1000, 1100, 1200] : List Nat) by decide)) (gu_un.su hU71 rfl)) (gu_un.su hU80 rfl)), (by show ((G78 0 5).toInt ≤ (G 0 3).toInt ∧ (G 0 5).toInt ≤ (G78 0 5).toInt ∧ ((G78 0 6).toInt = 0 ∨ (G 0 5).toInt < (G78 0 5).toInt)); (first | omega | (simp only [Int32.reduceToInt, true_and, and_true, ne_eq, not_true_eq_false, false_and, or_false, false_or, true_or, or_true, false_implies] <;> omega))), ((sg75.un (show gu_un ycd [5, 6, 7, 8] G69 G78 from (gu_un.tr gu_un.rf (gu_un.su hU80 rfl))) rfl rfl)), ((yKp.un kp74 (show gu_un ycd [5, 6, 7, 8] G69 G78 from (gu_un.tr gu_un.rf (gu_un.su hU80 rfl))) rfl))⟩) rfl rfl dX13_readFactor_171
      · refine g_aload_n F 2 dX13_readFactor_94 rfl rfl ?_
        refine yg_0_6 F i_X13 w_1 dX13_readFactor_95 (G 0 6) (rfl) ?_
        refine g_iconst F 2 dX13_readFactor_98 (by decide) ?_
        refine v_icmp_ne F 106 dX13_readFactor_99 (by decide) (G 0 6).toInt 2 rfl rfl (fun c88 => ?_) (fun c88 => ?_)
        · refine g_iconst F 0 dX13_readFactor_106 (by decide) ?_
          refine g_iconst F 1 dX13_readFactor_107 (by decide) ?_
          refine ux_callvv (k := 0) (n := 0) (b := a 0) (As := [.int 0, .int 1]) (st := []) F (fun sz => S_X13_need l D K a G 0 0 1 1 rfl (by decide) rfl hI sz) (cwV 2 hts gT_X13_readFactor_X13_need rfl rfl rfl (by decide +kernel) ⟨Nat.le_of_ble_eq_true rfl, Nat.le_of_ble_eq_true rfl⟩) rfl 0 yc_0 rfl (Nat.le_of_ble_eq_true rfl) ⟨Nat.zero_le _, Nat.zero_le _⟩ dX13_readFactor_108 hex hA hQ (fun u9 h9 => ⟨h9.1, gu_un.tr gu_un.rf (gu_un.su h9.2.1 rfl), (yKp.un yKp.rf h9.2.1 rfl)⟩) (fun G91 hw90 => ?_)
          have hI92 : yI G91 := hw90.1
          have hU93 : gu_un ycd [9, 10] G G91 := hw90.2.1
          have hp94 := hw90.2.2
          have q95 : ((0 : Int) ≠ 0) := hp94
          exfalso; omega
        · refine g_iconst F 1 dX13_readFactor_102 (by decide) ?_
          refine g_goto F 107 dX13_readFactor_103 (by decide) ?_
          refine g_iconst F 1 dX13_readFactor_107 (by decide) ?_
          refine ux_callvv (k := 0) (n := 0) (b := a 0) (As := [.int 1, .int 1]) (st := []) F (fun sz => S_X13_need l D K a G 1 1 1 1 rfl (by decide) rfl hI sz) (cwV 2 hts gT_X13_readFactor_X13_need rfl rfl rfl (by decide +kernel) ⟨Nat.le_of_ble_eq_true rfl, Nat.le_of_ble_eq_true rfl⟩) rfl 0 yc_0 rfl (Nat.le_of_ble_eq_true rfl) ⟨Nat.zero_le _, Nat.zero_le _⟩ dX13_readFactor_108 hex hA hQ (fun u9 h9 => ⟨h9.1, gu_un.tr gu_un.rf (gu_un.su h9.2.1 rfl), (yKp.un yKp.rf h9.2.1 rfl)⟩) (fun G98 hw97 => ?_)
          have hI99 : yI G98 := hw97.1
          have hU100 : gu_un ycd [9, 10] G G98 := hw97.2.1
          have hp101 := hw97.2.2
          have q102 : ((1 : Int) ≠ 0) := hp101
          clear hp101 hw97
          refine g_aload_n F 2 dX13_readFactor_111 rfl rfl ?_
          refine g_aload_n F 2 dX13_readFactor_112 rfl rfl ?_
          refine yg_0_21 F i_X13 w_0 dX13_readFactor_113 (G 0 21) (hU100 0 21 (by decide)) ?_
          refine g_bipush F 12 dX13_readFactor_116 (by decide) ?_
          refine v_icmp_ge F 125 dX13_readFactor_118 (by decide) (G 0 21).toInt 12 rfl rfl (fun c103 => ?_) (fun c103 => ?_)
          · refine g_iconst F 0 dX13_readFactor_125 (by decide) ?_
            refine g_iconst F 4 dX13_readFactor_126 (by decide) ?_
            refine ux_callvv (k := 0) (n := 0) (b := a 0) (As := [.int 0, .int 4]) (st := []) F (fun sz => S_X13_need l D K a G98 0 0 4 4 rfl (by decide) rfl hI99 sz) (cwV 2 hts gT_X13_readFactor_X13_need rfl rfl rfl (by decide +kernel) ⟨Nat.le_of_ble_eq_true rfl, Nat.le_of_ble_eq_true rfl⟩) rfl 0 yc_0 rfl (Nat.le_of_ble_eq_true rfl) ⟨Nat.zero_le _, Nat.zero_le _⟩ dX13_readFactor_127 hex hA hQ (fun u9 h9 => ⟨h9.1, gu_un.tr (gu_un.tr gu_un.rf (gu_un.su hU100 rfl)) (gu_un.su h9.2.1 rfl), (yKp.un (yKp.un yKp.rf (show gu_un ycd [9, 10] G G98 from (gu_un.tr gu_un.rf (gu_un.su hU100 rfl))) rfl) h9.2.1 rfl)⟩) (fun G106 hw105 => ?_)
            have hI107 : yI G106 := hw105.1
            have hU108 : gu_un ycd [9, 10] G98 G106 := hw105.2.1
            have hp109 := hw105.2.2
            have q110 : ((0 : Int) ≠ 0) := hp109
            exfalso; omega
          · refine g_iconst F 1 dX13_readFactor_121 (by decide) ?_
            refine g_goto F 126 dX13_readFactor_122 (by decide) ?_
            refine g_iconst F 4 dX13_readFactor_126 (by decide) ?_
            refine ux_callvv (k := 0) (n := 0) (b := a 0) (As := [.int 1, .int 4]) (st := []) F (fun sz => S_X13_need l D K a G98 1 1 4 4 rfl (by decide) rfl hI99 sz) (cwV 2 hts gT_X13_readFactor_X13_need rfl rfl rfl (by decide +kernel) ⟨Nat.le_of_ble_eq_true rfl, Nat.le_of_ble_eq_true rfl⟩) rfl 0 yc_0 rfl (Nat.le_of_ble_eq_true rfl) ⟨Nat.zero_le _, Nat.zero_le _⟩ dX13_readFactor_127 hex hA hQ (fun u9 h9 => ⟨h9.1, gu_un.tr (gu_un.tr gu_un.rf (gu_un.su hU100 rfl)) (gu_un.su h9.2.1 rfl), (yKp.un (yKp.un yKp.rf (show gu_un ycd [9, 10] G G98 from (gu_un.tr gu_un.rf (gu_un.su hU100 rfl))) rfl) h9.2.1 rfl)⟩) (fun G113 hw112 => ?_)
            have hI114 : yI G113 := hw112.1
            have hU115 : gu_un ycd [9, 10] G98 G113 := hw112.2.1
            have hp116 := hw112.2.2
            have q117 : ((1 : Int) ≠ 0) := hp116
            clear hp116 hw112
            refine g_aload_n F 2 dX13_readFactor_130 rfl rfl ?_
            refine g_dup F dX13_readFactor_131 rfl ?_
            refine yg_0_21 F i_X13 w_0 dX13_readFactor_132 (G 0 21) ((hU115 0 21 (by decide)).trans (hU100 0 21 (by decide))) ?_
            refine g_iconst F 1 dX13_readFactor_135 (by decide) ?_
            refine u_iadd F dX13_readFactor_136 (G 0 21).toInt 1 rfl rfl (by omega) (by omega) (fun y118 ey118 => ?_)
            refine yp_0_21 F i_X13 w_0 dX13_readFactor_137 ?_
            refine g_aload_n F 2 dX13_readFactor_140 rfl rfl ?_
            refine g_iload_n F 0 dX13_readFactor_141 rfl rfl ?_
            refine g_iconst F (-1) dX13_readFactor_142 (by decide) ?_
            refine v_icmp_ne F 150 dX13_readFactor_143 (by decide) r36.toInt (-1) rfl rfl (fun c119 => absurd c119 (by omega)) (fun c119 => ?_)
            refine g_iconst F 0 dX13_readFactor_146 (by decide) ?_
            refine g_goto F 151 dX13_readFactor_147 (by decide) ?_
            refine g_iload_n F 0 dX13_readFactor_151 rfl rfl ?_
            refine g_iconst F (-1) dX13_readFactor_152 (by decide) ?_
            refine v_icmp_ne F 163 dX13_readFactor_153 (by decide) r36.toInt (-1) rfl rfl (fun c120 => absurd c120 (by omega)) (fun c120 => ?_)
            refine g_aload_n F 2 dX13_readFactor_156 rfl rfl ?_
            refine yg_0_7 F i_X13 w_2 dX13_readFactor_157 (G 0 7) ((hU115 0 7 (by decide)).trans (hU100 0 7 (by decide))) ?_
            refine g_goto F 164 dX13_readFactor_160 (by decide) ?_
            refine u_callVv (k := 0) (n := 0) (b := a 0) (As := [.int 0, .int (G 0 7)]) (st := []) F (fun sz => S_X13_mark l D K a (gu_up G113 0 21 y118) 0 0 (G 0 7) (G 0 7).toInt rfl (by decide) rfl (by rw [show (gu_up G113 0 21 y118) 0 20 = G 0 20 from (hU115 0 20 (by decide)).trans (hU100 0 20 (by decide))]; have h9 : (G113 12 ((G 0 20).toInt).toNat).toInt ≤ 6 * (G113 0 21).toInt := (y_m6 m6 (show gu_un ycd [9, 10] G G113 from (gu_un.tr (gu_un.tr gu_un.rf (gu_un.su hU100 rfl)) (gu_un.su hU115 rfl))) rfl rfl); have h8 : (0 : Int) ≤ (G113 0 21).toInt ∧ (G113 0 21).toInt ≤ 12 := hI114 0 21; show (G113 12 ((G 0 20).toInt).toNat).toInt ≤ 79; omega) (gu_I.up (j := 0) (k := 21) (v := y118) hI114 (show (0 : Int) ≤ Int32.toInt y118 by omega) (show Int32.toInt y118 ≤ 12 by omega)) sz) (cwV 2 hts (gT_left gX13_readFactor_X13_mark) rfl rfl rfl (by decide +kernel) ⟨Nat.le_of_ble_eq_true rfl, Nat.le_of_ble_eq_true rfl⟩) rfl 0 yc_0 rfl (Nat.le_of_ble_eq_true rfl) ⟨Nat.zero_le _, Nat.zero_le _⟩ dX13_readFactor_164 (fun G123 hw122 => ?_)
            have hI124 : yI G123 := hw122.1
            have hU125 : gu_un ycd [1000, 1100, 1200] (gu_up G113 0 21 y118) G123 := hw122.2.1
            have hp126 := hw122.2.2
            have q127 : yMk 0 (G 0 7) (G 0 20).toInt (gu_up G113 0 21 y118) G123 := by have h9 := hp126; (try simp only [(show (gu_up G113 0 21 y118) 0 20 = (G 0 20) from (hU115 0 20 (by decide)).trans (hU100 0 20 (by decide)))] at h9); first | exact h9 | omega
            have m0 : 0 ≤ (G 12 ((G 0 20).toInt).toNat).toInt := (show (0 : Int) ≤ (G 12 ((G 0 20).toInt).toNat).toInt ∧ (G 12 ((G 0 20).toInt).toNat).toInt ≤ 80 from hI 12 _).1
            have m1 : 0 ≤ ((gu_up G113 0 21 y118) 12 ((G 0 20).toInt).toNat).toInt := (show (0 : Int) ≤ (G113 12 ((G 0 20).toInt).toNat).toInt ∧ (G113 12 ((G 0 20).toInt).toNat).toInt ≤ 80 from hI114 12 _).1
            have kp128 : yKp G G123 := yKp.tr (yKp.un yKp.rf (show gu_un ycd [9, 10, 22] G (gu_up G113 0 21 y118) from (gu_un.up (j := 0) (k := 21) (v := y118) (gu_un.tr (gu_un.tr gu_un.rf (gu_un.su hU100 rfl)) (gu_un.su hU115 rfl)) (show (22 : Nat) ∈ ([9, 10, 22] : List Nat) by decide))) rfl) (q127.kp (by omega) m1)
            have sg129 : ySg 2 (G 0 20).toInt G G123 := yMk.leaf q127 (by first | decide | omega) (by decide) (by omega) (show (gu_up G113 0 21 y118) 10 = G 10 from (show G113 10 = G98 10 from funext fun k_ => hU115 10 k_ (show (1000 : Nat) ∉ ([9, 10] : List Nat) by decide)).trans ((show G98 10 = G 10 from funext fun k_ => hU100 10 k_ (show (1000 : Nat) ∉ ([9, 10] : List Nat) by decide)))) (show (gu_up G113 0 21 y118) 11 = G 11 from (show G113 11 = G98 11 from funext fun k_ => hU115 11 k_ (show (1100 : Nat) ∉ ([9, 10] : List Nat) by decide)).trans ((show G98 11 = G 11 from funext fun k_ => hU100 11 k_ (show (1100 : Nat) ∉ ([9, 10] : List Nat) by decide)))) (show (gu_up G113 0 21 y118) 12 = G 12 from (show G113 12 = G98 12 from funext fun k_ => hU115 12 k_ (show (1200 : Nat) ∉ ([9, 10] : List Nat) by decide)).trans ((show G98 12 = G 12 from funext fun k_ => hU100 12 k_ (show (1200 : Nat) ∉ ([9, 10] : List Nat) by decide)))) m0 (by omega) (show (y118 : Int32).toInt = _ by omega)
            clear hp126 hw122
            refine g_aload_n F 2 dX13_readFactor_167 rfl rfl ?_
            refine u_callVv (k := 0) (n := 0) (b := a 0) (As := []) (st := []) F (fun sz => S_X13_scan l D K a G123  (by have e9_0_3 : G123 0 3 = (G 0 3) := (hU125 0 3 (by decide)).trans ((hU115 0 3 (by decide)).trans (hU100 0 3 (by decide))); have e9_0_5 : G123 0 5 = (G 0 5) := (hU125 0 5 (by decide)).trans ((hU115 0 5 (by decide)).trans (hU100 0 5 (by decide))); (try simp only [e9_0_3, e9_0_5, true_and, and_true]) <;> (first | omega | (simp only [Int32.reduceToInt, true_and, and_true, ne_eq, not_true_eq_false, false_and, or_false, false_or, true_or, or_true, false_implies] <;> omega))) hI124 sz) (cwV 0 hts (gT_left gX13_readFactor_X13_scan) rfl rfl rfl (by decide +kernel) ⟨Nat.le_of_ble_eq_true rfl, Nat.le_of_ble_eq_true rfl⟩) rfl 0 yc_0 rfl (Nat.le_of_ble_eq_true rfl) ⟨Nat.zero_le _, Nat.zero_le _⟩ dX13_readFactor_168 (fun G132 hw131 => ?_)
            have hI133 : yI G132 := hw131.1
            have hU134 : gu_un ycd [5, 6, 7, 8] G123 G132 := hw131.2.1
            have hp135 := hw131.2.2
            have b136 : (0 : Int) ≤ (G132 0 5).toInt ∧ (G132 0 5).toInt ≤ 1000 := hI133 0 5
            have b137 : (0 : Int) ≤ (G132 0 4).toInt ∧ (G132 0 4).toInt ≤ 1000 := hI133 0 4
            have q138 : ((G132 0 5).toInt ≤ (G 0 3).toInt ∧ (G 0 5).toInt ≤ (G132 0 4).toInt ∧ (G132 0 4).toInt ≤ (G132 0 5).toInt) := by have h9 := hp135.1; (try simp only [(show G123 0 3 = (G 0 3) from (hU125 0 3 (by decide)).trans ((hU115 0 3 (by decide)).trans (hU100 0 3 (by decide)))), (show G123 0 5 = (G 0 5) from (hU125 0 5 (by decide)).trans ((hU115 0 5 (by decide)).trans (hU100 0 5 (by decide))))] at h9); first | exact h9 | omega
            have b139 : (0 : Int) ≤ (G132 0 6).toInt ∧ (G132 0 6).toInt ≤ 4 := hI133 0 6
            have q140 : (((G132 0 6).toInt = 0 ∧ (G132 0 4).toInt = (G 0 3).toInt) ∨ ((G132 0 6).toInt ≠ 0 ∧ (G132 0 4).toInt < (G132 0 5).toInt)) := by have h9 := hp135.2.1; (try simp only [(show G123 0 3 = (G 0 3) from (hU125 0 3 (by decide)).trans ((hU115 0 3 (by decide)).trans (hU100 0 3 (by decide))))] at h9); first | exact h9 | omega
            have q141 : tTok (G 2) (G 0 3).toInt (G 0 5).toInt (G132 0 6).toInt (G132 0 4).toInt (G132 0 7).toInt (G132 0 5).toInt := by have h9 := hp135.2.2; (try simp only [(show G123 0 3 = (G 0 3) from (hU125 0 3 (by decide)).trans ((hU115 0 3 (by decide)).trans (hU100 0 3 (by decide)))), (show G123 0 5 = (G 0 5) from (hU125 0 5 (by decide)).trans ((hU115 0 5 (by decide)).trans (hU100 0 5 (by decide)))), (show G123 2 = (G 2) from (show G123 2 = (gu_up G113 0 21 y118) 2 from funext fun k_ => hU125 2 k_ (show (200 : Nat) ∉ ([1000, 1100, 1200] : List Nat) by decide)).trans ((show G113 2 = G98 2 from funext fun k_ => hU115 2 k_ (show (200 : Nat) ∉ ([9, 10] : List Nat) by decide)).trans ((show G98 2 = G 2 from funext fun k_ => hU100 2 k_ (show (200 : Nat) ∉ ([9, 10] : List Nat) by decide)))))] at h9); first | exact h9 | omega
            clear hp135 hw131
            exact ux_vret F hA hQ hr G132 (⟨hI133, (gu_un.tr (gu_un.tr (gu_un.up (j := 0) (k := 21) (v := y118) (gu_un.tr (gu_un.tr gu_un.rf (gu_un.su hU100 rfl)) (gu_un.su hU115 rfl)) (show (22 : Nat) ∈ ([5, 6, 7, 8, 9, 10, 22, 1000, 1100, 1200] : List Nat) by decide)) (gu_un.su hU125 rfl)) (gu_un.su hU134 rfl)), (by show ((G132 0 5).toInt ≤ (G 0 3).toInt ∧ (G 0 5).toInt ≤ (G132 0 5).toInt ∧ ((G132 0 6).toInt = 0 ∨ (G 0 5).toInt < (G132 0 5).toInt)); (first | omega | (simp only [Int32.reduceToInt, true_and, and_true, ne_eq, not_true_eq_false, false_and, or_false, false_or, true_or, or_true, false_implies] <;> omega))), ((sg129.un (show gu_un ycd [5, 6, 7, 8] G123 G132 from (gu_un.tr gu_un.rf (gu_un.su hU134 rfl))) rfl rfl)), ((yKp.un kp128 (show gu_un ycd [5, 6, 7, 8] G123 G132 from (gu_un.tr gu_un.rf (gu_un.su hU134 rfl))) rfl))⟩) rfl rfl dX13_readFactor_171

theorem dX13_readProduct_0 : decode cX13_readProduct 0 = .ok (.aload_n 0, 1) := by decide +kernel
theorem dX13_readProduct_1 : decode cX13_readProduct 1 = .ok (.iload_n 1, 1) := by decide +kernel
theorem dX13_readProduct_2 : decode cX13_readProduct 2 = .ok (.invokevirtual 113, 3) := by decide +kernel
theorem dX13_readProduct_5 : decode cX13_readProduct 5 = .ok (.aload_n 0, 1) := by decide +kernel
theorem dX13_readProduct_6 : decode cX13_readProduct 6 = .ok (.bipush 42, 2) := by decide +kernel
theorem dX13_readProduct_8 : decode cX13_readProduct 8 = .ok (.invokevirtual 110, 3) := by decide +kernel
theorem dX13_readProduct_11 : decode cX13_readProduct 11 = .ok (.ifCond .ne 21, 3) := by decide +kernel
theorem dX13_readProduct_14 : decode cX13_readProduct 14 = .ok (.aload_n 0, 1) := by decide +kernel
theorem dX13_readProduct_15 : decode cX13_readProduct 15 = .ok (.bipush 47, 2) := by decide +kernel
theorem dX13_readProduct_17 : decode cX13_readProduct 17 = .ok (.invokevirtual 110, 3) := by decide +kernel
theorem dX13_readProduct_20 : decode cX13_readProduct 20 = .ok (.ifCond .ne 12, 3) := by decide +kernel
theorem dX13_readProduct_23 : decode cX13_readProduct 23 = .ok (.aload_n 0, 1) := by decide +kernel
theorem dX13_readProduct_24 : decode cX13_readProduct 24 = .ok (.bipush 37, 2) := by decide +kernel
theorem dX13_readProduct_26 : decode cX13_readProduct 26 = .ok (.invokevirtual 110, 3) := by decide +kernel
theorem dX13_readProduct_29 : decode cX13_readProduct 29 = .ok (.ifCond .eq 26, 3) := by decide +kernel
theorem dX13_readProduct_32 : decode cX13_readProduct 32 = .ok (.aload_n 0, 1) := by decide +kernel
theorem dX13_readProduct_33 : decode cX13_readProduct 33 = .ok (.getfield 41, 3) := by decide +kernel
theorem dX13_readProduct_36 : decode cX13_readProduct 36 = .ok (.istore_n 2, 1) := by decide +kernel
theorem dX13_readProduct_37 : decode cX13_readProduct 37 = .ok (.aload_n 0, 1) := by decide +kernel
theorem dX13_readProduct_38 : decode cX13_readProduct 38 = .ok (.invokevirtual 69, 3) := by decide +kernel
theorem dX13_readProduct_41 : decode cX13_readProduct 41 = .ok (.aload_n 0, 1) := by decide +kernel
theorem dX13_readProduct_42 : decode cX13_readProduct 42 = .ok (.iload_n 1, 1) := by decide +kernel
theorem dX13_readProduct_43 : decode cX13_readProduct 43 = .ok (.invokevirtual 113, 3) := by decide +kernel
theorem dX13_readProduct_46 : decode cX13_readProduct 46 = .ok (.aload_n 0, 1) := by decide +kernel
theorem dX13_readProduct_47 : decode cX13_readProduct 47 = .ok (.iconst 2, 1) := by decide +kernel
theorem dX13_readProduct_48 : decode cX13_readProduct 48 = .ok (.iload_n 2, 1) := by decide +kernel
theorem dX13_readProduct_49 : decode cX13_readProduct 49 = .ok (.invokevirtual 92, 3) := by decide +kernel
theorem dX13_readProduct_52 : decode cX13_readProduct 52 = .ok (.goto (-47), 3) := by decide +kernel
theorem dX13_readProduct_55 : decode cX13_readProduct 55 = .ok (.return_, 1) := by decide +kernel
set_option maxRecDepth 20000 in
theorem ggX13_readProduct_X13_isSign : GoodIn wsX13_readProduct wsX13_isSign := goodIn_r _ [9, 10, 1, 107, 108, 109, 110, 111, 112, 113, 114, 115, 116, 117, 118, 119, 120, 121, 122, 123, 124, 125, 126, 127, 128, 129, 130, 131, 132, 133, 134, 135, 136, 137, 138, 139, 140, 141, 142, 143, 144, 145, 146, 147, 148, 149, 150, 151, 152, 153, 154, 155, 156, 157, 158, 159, 160, 161, 162, 163, 164, 165, 166, 167, 168, 169, 170, 171, 172, 173, 174, 175, 176, 177, 178, 179] rfl (by decide +kernel)
set_option maxRecDepth 20000 in
theorem gX13_readProduct_X13_isSign : GoodIn wsX13_readProduct (wsV RX13 110 RX13 yX13_isSign wsX13_isSign) := goodIn_app (goodIn_of _ (by decide +kernel)) ggX13_readProduct_X13_isSign
set_option maxRecDepth 20000 in
theorem ggX13_readProduct_X13_mark : GoodIn wsX13_readProduct wsX13_mark := goodIn_r _ [32, 33, 34, 35, 36, 107, 108, 109, 110, 111, 112, 113, 114, 115, 116, 117, 118, 119, 120, 121, 122, 123, 124, 125, 126, 127, 128, 129, 130, 131, 132, 133, 134, 135, 136, 137, 138, 139, 140, 141, 142, 143, 144, 145, 146, 147, 148, 149, 150, 151, 152, 153, 154, 155, 156, 157, 158, 159, 160, 161, 162, 163, 164, 165, 166, 167, 168, 169, 170, 171, 172, 173, 174, 175, 176, 177, 178, 179] rfl (by decide +kernel)
set_option maxRecDepth 20000 in
theorem gX13_readProduct_X13_mark : GoodIn wsX13_readProduct (wsV RX13 92 RX13 yX13_mark wsX13_mark) := goodIn_app (goodIn_of _ (by decide +kernel)) ggX13_readProduct_X13_mark
set_option maxRecDepth 20000 in
theorem ggX13_readProduct_X13_readFactor : GoodIn wsX13_readProduct wsX13_readFactor := goodIn_r _ [37, 10, 38, 1, 6, 7, 8, 5, 9, 39, 40, 41, 42, 11, 12, 13, 14, 15, 16, 17, 18, 19, 20, 21, 22, 23, 24, 25, 26, 27, 28, 2, 3, 4, 29, 30, 31, 32, 33, 34, 35, 36, 43, 44, 45, 46, 47, 48, 49, 50, 51, 52, 53, 54, 55, 56, 57, 58, 59, 60, 61, 62, 63, 64, 65, 66, 67, 68, 69, 70, 71, 72, 73, 74, 75, 76, 77, 78, 79, 80, 81, 82, 83, 84, 85, 86, 87, 88, 89, 90, 91, 92, 93, 94, 95, 96, 97, 98, 99, 100, 101, 102, 0, 103, 104, 105, 106, 107, 108, 109, 110, 111, 112, 113, 114, 115, 116, 117, 118, 119, 120, 121, 122, 123, 124, 125, 126, 127, 128, 129, 130, 131, 132, 133, 134, 135, 136, 137, 138, 139, 140, 141, 142, 143, 144, 145, 146, 147, 148, 149, 150, 151, 152, 153, 154, 155, 156, 157, 158, 159, 160, 161, 162, 163, 164, 165, 166, 167, 168, 169, 170, 171, 172, 173, 174, 175, 176, 177, 178, 179] rfl (by decide +kernel)
set_option maxRecDepth 20000 in
theorem gX13_readProduct_X13_readFactor : GoodIn wsX13_readProduct (wsV RX13 113 RX13 yX13_readFactor wsX13_readFactor) := goodIn_app (goodIn_of _ (by decide +kernel)) ggX13_readProduct_X13_readFactor
set_option maxRecDepth 20000 in
theorem ggX13_readProduct_X13_scan : GoodIn wsX13_readProduct wsX13_scan := goodIn_r _ [14, 15, 16, 17, 18, 10, 1, 19, 20, 21, 5, 22, 23, 24, 25, 26, 27, 28, 107, 108, 109, 110, 111, 112, 113, 114, 115, 116, 117, 118, 119, 120, 121, 122, 123, 124, 125, 126, 127, 128, 129, 130, 131, 132, 133, 134, 135, 136, 137, 138, 139, 140, 141, 142, 143, 144, 145, 146, 147, 148, 149, 150, 151, 152, 153, 154, 155, 156, 157, 158, 159, 160, 161, 162, 163, 164, 165, 166, 167, 168, 169, 170, 171, 172, 173, 174, 175, 176, 177, 178, 179] rfl (by decide +kernel)
set_option maxRecDepth 20000 in
theorem gX13_readProduct_X13_scan : GoodIn wsX13_readProduct (wsV RX13 69 RX13 yX13_scan wsX13_scan) := goodIn_app (goodIn_of _ (by decide +kernel)) ggX13_readProduct_X13_scan
def wsT_X13_readProduct : List Cond := wsX13_readProduct ++ wsT_nx
theorem gT_X13_readProduct_X13_readFactor : GoodIn wsT_X13_readProduct (wsV RX13 113 RX13 yX13_readFactor wsT_X13_readFactor) := gT_call gX13_readProduct_X13_readFactor gT_nx
set_option maxHeartbeats 4000000 in
set_option maxRecDepth 100000 in
theorem S_X13_readProduct_v4 (l : Launch) (D : va_G) (K : Nat → ClassId) (a : Nat → Nat) (G : gS) (qs vs : Nat → Nat) (pb : ((G 0 5).toInt ≤ (G 0 3).toInt)) (s35 : (3 ≤ (G 0 20).toInt)) (m6 : ((G 12 ((G 0 20).toInt).toNat).toInt ≤ 6 * (G 0 21).toInt)) (hI : yI G) (sz : Nat) : KxvZ (yZ qs vs) l yX13_readProduct wsT_X13_readProduct 8 192 D [.ref (a 0), .int 4] (yW K a G) (tK K) sz (fun (G' : gS) => (yI G') ∧ (gu_un ycd [5, 6, 7, 8, 9, 10, 22, 1000, 1100, 1200] G G') ∧ (((G' 0 5).toInt ≤ (G 0 3).toInt ∧ (G 0 5).toInt ≤ (G' 0 5).toInt ∧ ((G' 0 6).toInt = 0 ∨ (G 0 5).toInt < (G' 0 5).toInt))) ∧ (ySg 2 (G 0 20).toInt G G') ∧ (yKp G G')) (fun (G' : gS) => (yI G') ∧ (gu_un ycd [5, 6, 7, 8, 9, 10, 22, 1000, 1100, 1200] G G') ∧ (yKp G G')) (a 1) (fun (G' : gS) => (yW K a G')) := by
  unfold KxvZ
  refine gxz_ofW (cc := cX13_readProduct) (lv := [(0, .ref (a 0)), (1, .int 4)]) (by decide) rfl (Nat.le_of_ble_eq_true rfl) rfl ?_
  intro p e s m args below meth c A Q hA hQ hZ F hr hex
  have hts := F.2.2.2.2.1
  have w_0 : (Cond.fieldLink RX13 41 "QuietCutModel" "value" "I").before args s = true := hts _ (List.mem_of_getElem? (i := 1) rfl)
  have i_X13 : ∀ w ∈ u_ws RX13 TX13 73, w ∈ wsT_X13_readProduct := fun w h => List.mem_append_left _ ((show ∀ w ∈ u_ws RX13 TX13 73, w ∈ wsX13_readProduct from fun _ h => List.mem_cons_of_mem _ (List.mem_append_right _ h)) w h)
  have b1 : (0 : Int) ≤ (G 0 3).toInt ∧ (G 0 3).toInt ≤ 1000 := hI 0 3
  have b2 : (0 : Int) ≤ (G 0 5).toInt ∧ (G 0 5).toInt ≤ 1000 := hI 0 5
  have b3 : (0 : Int) ≤ (G 0 6).toInt ∧ (G 0 6).toInt ≤ 4 := hI 0 6
  have b4 : (0 : Int) ≤ (G 0 20).toInt ∧ (G 0 20).toInt ≤ 5 := hI 0 20
  have b5 : (0 : Int) ≤ (G 0 21).toInt ∧ (G 0 21).toInt ≤ 12 := hI 0 21
  have J_5 : ∀ (fuel : Nat) (Gj5 : gS), (8 * (1000 - (Gj5 0 5).toInt) + (Gj5 0 6).toInt).toNat < fuel → (yI Gj5) → (gu_un ycd [5, 6, 7, 8, 9, 10, 22, 1000, 1100, 1200] G Gj5) → (ySg 2 (G 0 20).toInt G Gj5) → (yKp G Gj5) → (((Gj5 0 5).toInt ≤ (G 0 3).toInt)) → (((G 0 5).toInt ≤ (Gj5 0 5).toInt ∧ ((Gj5 0 6).toInt = 0 ∨ (G 0 5).toInt < (Gj5 0 5).toInt))) → gG p l e (gR 8 0 0 192) s m args below meth c D A 3 Q 0 0 (yW K a Gj5) (tK K) [(0, .ref (a 0)), (1, .int 4)] 5 [] := by
    intro fuel
    induction fuel with
    | zero => intro Gj5 hm; exact absurd hm (Nat.not_lt_zero _)
    | succ fuel_5 ih_5 =>
      intro Gj5 hm_5 jI5 jU5 sg5 kp5 bl_5 bm_5
      have J_32 : ∀ (_ : Unit), (((Gj5 0 6).toInt = 3 ∧ (Gj5 0 7).toInt ≠ 33 ∧ xsg (Gj5 0 7).toInt = 2)) → (((Gj5 0 5).toInt ≤ (G 0 3).toInt)) → (((G 0 5).toInt ≤ (Gj5 0 5).toInt ∧ ((Gj5 0 6).toInt = 0 ∨ (G 0 5).toInt < (Gj5 0 5).toInt))) → gG p l e (gR 8 0 0 192) s m args below meth c D A 3 Q 0 0 (yW K a Gj5) (tK K) [(0, .ref (a 0)), (1, .int 4)] 32 [] := by
        intro _ sn bl_32 bm_32
        refine g_aload_n F 0 dX13_readProduct_32 rfl rfl ?_
        refine yg_0_7 F i_X13 w_0 dX13_readProduct_33 (Gj5 0 7) (rfl) ?_
        refine g_istore_n F [(2, .int (Gj5 0 7)), (0, .ref (a 0)), (1, .int 4)] dX13_readProduct_36 rfl (by decide) rfl ?_
        refine g_aload_n F 1 dX13_readProduct_37 rfl rfl ?_
        have b6 : (0 : Int) ≤ (Gj5 0 5).toInt ∧ (Gj5 0 5).toInt ≤ 1000 := jI5 0 5
        refine u_callVv (k := 0) (n := 0) (b := a 0) (As := []) (st := []) F (fun sz => S_X13_scan l D K a Gj5  (by have e9_0_3 : Gj5 0 3 = (G 0 3) := jU5 0 3 (by decide); (try simp only [e9_0_3, true_and, and_true]) <;> (first | omega | (simp only [Int32.reduceToInt, true_and, and_true, ne_eq, not_true_eq_false, false_and, or_false, false_or, true_or, or_true, false_implies] <;> omega))) jI5 sz) (cwV 0 hts (gT_left gX13_readProduct_X13_scan) rfl rfl rfl (by decide +kernel) ⟨Nat.le_of_ble_eq_true rfl, Nat.le_of_ble_eq_true rfl⟩) rfl 0 yc_0 rfl (Nat.le_of_ble_eq_true rfl) ⟨Nat.zero_le _, Nat.zero_le _⟩ dX13_readProduct_38 (fun G9 hw8 => ?_)
        have hI10 : yI G9 := hw8.1
        have hU11 : gu_un ycd [5, 6, 7, 8] Gj5 G9 := hw8.2.1
        have hp12 := hw8.2.2
        have b13 : (0 : Int) ≤ (G9 0 5).toInt ∧ (G9 0 5).toInt ≤ 1000 := hI10 0 5
        have b14 : (0 : Int) ≤ (G9 0 4).toInt ∧ (G9 0 4).toInt ≤ 1000 := hI10 0 4
        have q15 : ((G9 0 5).toInt ≤ (G 0 3).toInt ∧ (Gj5 0 5).toInt ≤ (G9 0 4).toInt ∧ (G9 0 4).toInt ≤ (G9 0 5).toInt) := by have h9 := hp12.1; (try simp only [(show Gj5 0 3 = (G 0 3) from jU5 0 3 (by decide))] at h9); first | exact h9 | omega
        have b16 : (0 : Int) ≤ (G9 0 6).toInt ∧ (G9 0 6).toInt ≤ 4 := hI10 0 6
        have q17 : (((G9 0 6).toInt = 0 ∧ (G9 0 4).toInt = (G 0 3).toInt) ∨ ((G9 0 6).toInt ≠ 0 ∧ (G9 0 4).toInt < (G9 0 5).toInt)) := by have h9 := hp12.2.1; (try simp only [(show Gj5 0 3 = (G 0 3) from jU5 0 3 (by decide))] at h9); first | exact h9 | omega
        have q18 : tTok (G 2) (G 0 3).toInt (Gj5 0 5).toInt (G9 0 6).toInt (G9 0 4).toInt (G9 0 7).toInt (G9 0 5).toInt := by have h9 := hp12.2.2; (try simp only [(show Gj5 0 3 = (G 0 3) from jU5 0 3 (by decide)), (show Gj5 2 = (G 2) from (show Gj5 2 = G 2 from funext fun k_ => jU5 2 k_ (show (200 : Nat) ∉ ([5, 6, 7, 8, 9, 10, 22, 1000, 1100, 1200] : List Nat) by decide)))] at h9); first | exact h9 | omega
        clear hp12 hw8
        refine g_aload_n F 1 dX13_readProduct_41 rfl rfl ?_
        refine g_iload_n F 2 dX13_readProduct_42 rfl rfl ?_
        refine uxz_callvv (k := 0) (n := 0) (b := a 0) (As := [.int 4]) (st := []) F yZ_st hZ (fun sz => S_X13_readFactor_v4 l D K a G9 qs vs  (by have e9_0_3 : G9 0 3 = (G 0 3) := (hU11 0 3 (by decide)).trans (jU5 0 3 (by decide)); (try simp only [e9_0_3, true_and, and_true]) <;> (first | omega | (simp only [Int32.reduceToInt, true_and, and_true, ne_eq, not_true_eq_false, false_and, or_false, false_or, true_or, or_true, false_implies] <;> omega))) (by have e9_0_20 : G9 0 20 = (G 0 20) := (hU11 0 20 (by decide)).trans (jU5 0 20 (by decide)); (try simp only [e9_0_20, true_and, and_true]) <;> (first | omega | (simp only [Int32.reduceToInt, true_and, and_true, ne_eq, not_true_eq_false, false_and, or_false, false_or, true_or, or_true, false_implies] <;> omega))) (by rw [show G9 0 20 = G 0 20 from (hU11 0 20 (by decide)).trans (jU5 0 20 (by decide))]; exact (ySg.m6 (c := 2) (sg5.un (show gu_un ycd [5, 6, 7, 8] Gj5 G9 from (gu_un.tr gu_un.rf (gu_un.su hU11 rfl))) rfl rfl) (by decide) (by decide) m6)) hI10 sz) (cwV 1 hts gT_X13_readProduct_X13_readFactor rfl rfl rfl (by decide +kernel) ⟨Nat.le_of_ble_eq_true rfl, Nat.le_of_ble_eq_true rfl⟩) rfl 0 yc_0 rfl (Nat.le_of_ble_eq_true rfl) ⟨Nat.zero_le _, Nat.zero_le _⟩ dX13_readProduct_43 hex hA hQ (fun u9 h9 => ⟨h9.1, gu_un.tr (gu_un.tr (gu_un.tr gu_un.rf (gu_un.su jU5 rfl)) (gu_un.su hU11 rfl)) (gu_un.su h9.2.1 rfl), (yKp.tr (yKp.un kp5 (show gu_un ycd [5, 6, 7, 8] Gj5 G9 from (gu_un.tr gu_un.rf (gu_un.su hU11 rfl))) rfl) h9.2.2)⟩) (fun G21 hw20 => ?_)
        have hI22 : yI G21 := hw20.1
        have hU23 : gu_un ycd [5, 6, 7, 8, 9, 10, 22, 1000, 1100, 1200] G9 G21 := hw20.2.1
        have hp24 := hw20.2.2
        have b25 : (0 : Int) ≤ (G21 0 5).toInt ∧ (G21 0 5).toInt ≤ 1000 := hI22 0 5
        have b26 : (0 : Int) ≤ (G21 0 6).toInt ∧ (G21 0 6).toInt ≤ 4 := hI22 0 6
        have q27 : ((G21 0 5).toInt ≤ (G 0 3).toInt ∧ (G9 0 5).toInt ≤ (G21 0 5).toInt ∧ ((G21 0 6).toInt = 0 ∨ (G9 0 5).toInt < (G21 0 5).toInt)) := by have h9 := hp24.1; (try simp only [(show G9 0 3 = (G 0 3) from (hU11 0 3 (by decide)).trans (jU5 0 3 (by decide)))] at h9); first | exact h9 | omega
        have q28 : ySg 2 (G 0 20).toInt G9 G21 := by have h9 := hp24.2.1; (try simp only [(show G9 0 20 = (G 0 20) from (hU11 0 20 (by decide)).trans (jU5 0 20 (by decide)))] at h9); first | exact h9 | omega
        have q29 : yKp G9 G21 := hp24.2.2
        have kp30 : yKp G G21 := yKp.tr (yKp.un kp5 (show gu_un ycd [5, 6, 7, 8] Gj5 G9 from (gu_un.tr gu_un.rf (gu_un.su hU11 rfl))) rfl) q29
        clear hp24 hw20
        refine g_aload_n F 1 dX13_readProduct_46 rfl rfl ?_
        refine g_iconst F 2 dX13_readProduct_47 (by decide) ?_
        refine g_iload_n F 0 dX13_readProduct_48 rfl rfl ?_
        refine u_callVv (k := 0) (n := 0) (b := a 0) (As := [.int 2, .int (Gj5 0 7)]) (st := []) F (fun sz => S_X13_mark l D K a G21 2 2 (Gj5 0 7) (Gj5 0 7).toInt rfl (by decide) rfl (by rw [show G21 0 20 = G 0 20 from (hU23 0 20 (by decide)).trans ((hU11 0 20 (by decide)).trans (jU5 0 20 (by decide)))]; have h9 : (G21 12 ((G 0 20).toInt).toNat).toInt ≤ 6 * (G21 0 21).toInt := (ySg.m6 (c := 2) q28 (by decide) (by decide) (ySg.m6 (c := 2) (sg5.un (show gu_un ycd [5, 6, 7, 8] Gj5 G9 from (gu_un.tr gu_un.rf (gu_un.su hU11 rfl))) rfl rfl) (by decide) (by decide) m6)); have h8 : (0 : Int) ≤ (G21 0 21).toInt ∧ (G21 0 21).toInt ≤ 12 := hI22 0 21; show (G21 12 ((G 0 20).toInt).toNat).toInt ≤ 79; omega) hI22 sz) (cwV 2 hts (gT_left gX13_readProduct_X13_mark) rfl rfl rfl (by decide +kernel) ⟨Nat.le_of_ble_eq_true rfl, Nat.le_of_ble_eq_true rfl⟩) rfl 0 yc_0 rfl (Nat.le_of_ble_eq_true rfl) ⟨Nat.zero_le _, Nat.zero_le _⟩ dX13_readProduct_49 (fun G33 hw32 => ?_)
        have hI34 : yI G33 := hw32.1
        have hU35 : gu_un ycd [1000, 1100, 1200] G21 G33 := hw32.2.1
        have hp36 := hw32.2.2
        have q37 : yMk 2 (Gj5 0 7) (G 0 20).toInt G21 G33 := by have h9 := hp36; (try simp only [(show G21 0 20 = (G 0 20) from (hU23 0 20 (by decide)).trans ((hU11 0 20 (by decide)).trans (jU5 0 20 (by decide))))] at h9); first | exact h9 | omega
        have m0 : 0 ≤ (G 12 ((G 0 20).toInt).toNat).toInt := (show (0 : Int) ≤ (G 12 ((G 0 20).toInt).toNat).toInt ∧ (G 12 ((G 0 20).toInt).toNat).toInt ≤ 80 from hI 12 _).1
        have m1 : 0 ≤ (G21 12 ((G 0 20).toInt).toNat).toInt := (show (0 : Int) ≤ (G21 12 ((G 0 20).toInt).toNat).toInt ∧ (G21 12 ((G 0 20).toInt).toNat).toInt ≤ 80 from hI22 12 _).1
        have kp38 : yKp G G33 := yKp.tr kp30 (q37.kp (by omega) m1)
        have sg39 : ySg 2 (G 0 20).toInt G G33 := ySg.join (sg5.un (show gu_un ycd [5, 6, 7, 8] Gj5 G9 from (gu_un.tr gu_un.rf (gu_un.su hU11 rfl))) rfl rfl) q28 q37 (by decide) (by omega) (by omega) m0 (by have h9 : (G21 12 ((G 0 20).toInt).toNat).toInt ≤ 6 * (G21 0 21).toInt := (ySg.m6 (c := 2) q28 (by decide) (by decide) (ySg.m6 (c := 2) (sg5.un (show gu_un ycd [5, 6, 7, 8] Gj5 G9 from (gu_un.tr gu_un.rf (gu_un.su hU11 rfl))) rfl rfl) (by decide) (by decide) m6)); have h8 : (0 : Int) ≤ (G21 0 21).toInt ∧ (G21 0 21).toInt ≤ 12 := hI22 0 21; omega)
        clear hp36 hw32
        refine g_goto F 5 dX13_readProduct_52 (by decide) ?_
        refine g_locals [(0, .ref (a 0)), (1, .int 4)] [1, 2] rfl ?_
        exact ih_5 G33 (by have e9_0_5 : G33 0 5 = (G21 0 5) := hU35 0 5 (by decide); have e9_0_6 : G33 0 6 = (G21 0 6) := hU35 0 6 (by decide); (try simp only [e9_0_5, e9_0_6, true_and, and_true]) <;> omega) hI34 (gu_un.tr (gu_un.tr (gu_un.tr (gu_un.tr gu_un.rf (gu_un.su jU5 rfl)) (gu_un.su hU11 rfl)) (gu_un.su hU23 rfl)) (gu_un.su hU35 rfl)) (sg39) (kp38) (by have e9_0_3 : G33 0 3 = (G 0 3) := (hU35 0 3 (by decide)).trans ((hU23 0 3 (by decide)).trans ((hU11 0 3 (by decide)).trans (jU5 0 3 (by decide)))); have e9_0_5 : G33 0 5 = (G21 0 5) := hU35 0 5 (by decide); (try simp only [e9_0_3, e9_0_5, true_and, and_true]) <;> (first | omega | (simp only [Int32.reduceToInt, true_and, and_true, ne_eq, not_true_eq_false, false_and, or_false, false_or, true_or, or_true, false_implies] <;> omega))) (by have e9_0_5 : G33 0 5 = (G21 0 5) := hU35 0 5 (by decide); have e9_0_6 : G33 0 6 = (G21 0 6) := hU35 0 6 (by decide); (try simp only [e9_0_5, e9_0_6, true_and, and_true]) <;> (first | omega | (simp only [Int32.reduceToInt, true_and, and_true, ne_eq, not_true_eq_false, false_and, or_false, false_or, true_or, or_true, false_implies] <;> omega)))
      refine g_aload_n F 0 dX13_readProduct_5 rfl rfl ?_
      refine g_bipush F 42 dX13_readProduct_6 (by decide) ?_
      refine u_callVi (k := 0) (n := 0) (b := a 0) (As := [.int 42]) (st := []) F (fun sz => S_X13_isSign l D K a Gj5 42 42 rfl jI5 sz) (cwV 1 hts (gT_left gX13_readProduct_X13_isSign) rfl rfl rfl (by decide +kernel) ⟨Nat.le_of_ble_eq_true rfl, Nat.le_of_ble_eq_true rfl⟩) rfl 0 yc_0 rfl (Nat.le_of_ble_eq_true rfl) ⟨Nat.zero_le _, Nat.zero_le _⟩ dX13_readProduct_8 (fun r40 _ hw41 => ?_)
      rcases hw41 with ⟨rfl, q43⟩ | ⟨rfl, q44⟩
      · have b45 : (0 : Int) ≤ (Gj5 0 6).toInt ∧ (Gj5 0 6).toInt ≤ 4 := jI5 0 6
        have q43 : ((Gj5 0 6).toInt = 3 ∧ (Gj5 0 7).toInt = (42 : Int)) := q43
        refine v_if_ne F 32 dX13_readProduct_11 (by decide) 1 rfl (fun c46 => ?_) (fun c46 => absurd c46 (by decide))
        have b47 : (0 : Int) ≤ (Gj5 0 5).toInt ∧ (Gj5 0 5).toInt ≤ 1000 := jI5 0 5
        exact J_32 () (⟨by omega, by omega, xsg_2.mpr (by omega)⟩) (by have e9_0_3 : Gj5 0 3 = (G 0 3) := jU5 0 3 (by decide); (try simp only [e9_0_3, true_and, and_true]) <;> (first | omega | (simp only [Int32.reduceToInt, true_and, and_true, ne_eq, not_true_eq_false, false_and, or_false, false_or, true_or, or_true, false_implies] <;> omega))) (by (first | omega | (simp only [Int32.reduceToInt, true_and, and_true, ne_eq, not_true_eq_false, false_and, or_false, false_or, true_or, or_true, false_implies] <;> omega)))
      · have b48 : (0 : Int) ≤ (Gj5 0 6).toInt ∧ (Gj5 0 6).toInt ≤ 4 := jI5 0 6
        have q44 : ((Gj5 0 6).toInt ≠ 3 ∨ (Gj5 0 7).toInt ≠ (42 : Int)) := q44
        refine v_if_ne F 32 dX13_readProduct_11 (by decide) 0 rfl (fun c49 => absurd c49 (by decide)) (fun c49 => ?_)
        refine g_aload_n F 0 dX13_readProduct_14 rfl rfl ?_
        refine g_bipush F 47 dX13_readProduct_15 (by decide) ?_
        refine u_callVi (k := 0) (n := 0) (b := a 0) (As := [.int 47]) (st := []) F (fun sz => S_X13_isSign l D K a Gj5 47 47 rfl jI5 sz) (cwV 1 hts (gT_left gX13_readProduct_X13_isSign) rfl rfl rfl (by decide +kernel) ⟨Nat.le_of_ble_eq_true rfl, Nat.le_of_ble_eq_true rfl⟩) rfl 0 yc_0 rfl (Nat.le_of_ble_eq_true rfl) ⟨Nat.zero_le _, Nat.zero_le _⟩ dX13_readProduct_17 (fun r50 _ hw51 => ?_)
        rcases hw51 with ⟨rfl, q53⟩ | ⟨rfl, q54⟩
        · have q53 : ((Gj5 0 6).toInt = 3 ∧ (Gj5 0 7).toInt = (47 : Int)) := q53
          refine v_if_ne F 32 dX13_readProduct_20 (by decide) 1 rfl (fun c55 => ?_) (fun c55 => absurd c55 (by decide))
          have b56 : (0 : Int) ≤ (Gj5 0 5).toInt ∧ (Gj5 0 5).toInt ≤ 1000 := jI5 0 5
          exact J_32 () (⟨by omega, by omega, xsg_2.mpr (by omega)⟩) (by have e9_0_3 : Gj5 0 3 = (G 0 3) := jU5 0 3 (by decide); (try simp only [e9_0_3, true_and, and_true]) <;> (first | omega | (simp only [Int32.reduceToInt, true_and, and_true, ne_eq, not_true_eq_false, false_and, or_false, false_or, true_or, or_true, false_implies] <;> omega))) (by (first | omega | (simp only [Int32.reduceToInt, true_and, and_true, ne_eq, not_true_eq_false, false_and, or_false, false_or, true_or, or_true, false_implies] <;> omega)))
        · have q54 : ((Gj5 0 6).toInt ≠ 3 ∨ (Gj5 0 7).toInt ≠ (47 : Int)) := q54
          refine v_if_ne F 32 dX13_readProduct_20 (by decide) 0 rfl (fun c57 => absurd c57 (by decide)) (fun c57 => ?_)
          refine g_aload_n F 0 dX13_readProduct_23 rfl rfl ?_
          refine g_bipush F 37 dX13_readProduct_24 (by decide) ?_
          refine u_callVi (k := 0) (n := 0) (b := a 0) (As := [.int 37]) (st := []) F (fun sz => S_X13_isSign l D K a Gj5 37 37 rfl jI5 sz) (cwV 1 hts (gT_left gX13_readProduct_X13_isSign) rfl rfl rfl (by decide +kernel) ⟨Nat.le_of_ble_eq_true rfl, Nat.le_of_ble_eq_true rfl⟩) rfl 0 yc_0 rfl (Nat.le_of_ble_eq_true rfl) ⟨Nat.zero_le _, Nat.zero_le _⟩ dX13_readProduct_26 (fun r58 _ hw59 => ?_)
          rcases hw59 with ⟨rfl, q61⟩ | ⟨rfl, q62⟩
          · have q61 : ((Gj5 0 6).toInt = 3 ∧ (Gj5 0 7).toInt = (37 : Int)) := q61
            refine v_if_eq F 55 dX13_readProduct_29 (by decide) 1 rfl (fun c63 => absurd c63 (by decide)) (fun c63 => ?_)
            have b64 : (0 : Int) ≤ (Gj5 0 5).toInt ∧ (Gj5 0 5).toInt ≤ 1000 := jI5 0 5
            exact J_32 () (⟨by omega, by omega, xsg_2.mpr (by omega)⟩) (by have e9_0_3 : Gj5 0 3 = (G 0 3) := jU5 0 3 (by decide); (try simp only [e9_0_3, true_and, and_true]) <;> (first | omega | (simp only [Int32.reduceToInt, true_and, and_true, ne_eq, not_true_eq_false, false_and, or_false, false_or, true_or, or_true, false_implies] <;> omega))) (by (first | omega | (simp only [Int32.reduceToInt, true_and, and_true, ne_eq, not_true_eq_false, false_and, or_false, false_or, true_or, or_true, false_implies] <;> omega)))
          · have q62 : ((Gj5 0 6).toInt ≠ 3 ∨ (Gj5 0 7).toInt ≠ (37 : Int)) := q62
            refine v_if_eq F 55 dX13_readProduct_29 (by decide) 0 rfl (fun c65 => ?_) (fun c65 => absurd c65 (by decide))
            have b66 : (0 : Int) ≤ (Gj5 0 5).toInt ∧ (Gj5 0 5).toInt ≤ 1000 := jI5 0 5
            exact ux_vret F hA hQ hr Gj5 (⟨jI5, (gu_un.tr gu_un.rf (gu_un.su jU5 rfl)), (by show ((Gj5 0 5).toInt ≤ (G 0 3).toInt ∧ (G 0 5).toInt ≤ (Gj5 0 5).toInt ∧ ((Gj5 0 6).toInt = 0 ∨ (G 0 5).toInt < (Gj5 0 5).toInt)); (first | omega | (simp only [Int32.reduceToInt, true_and, and_true, ne_eq, not_true_eq_false, false_and, or_false, false_or, true_or, or_true, false_implies] <;> omega))), (sg5), (kp5)⟩) rfl rfl dX13_readProduct_55
  refine g_aload_n F 0 dX13_readProduct_0 rfl rfl ?_
  refine g_iload_n F 1 dX13_readProduct_1 rfl rfl ?_
  refine uxz_callvv (k := 0) (n := 0) (b := a 0) (As := [.int 4]) (st := []) F yZ_st hZ (fun sz => S_X13_readFactor_v4 l D K a G qs vs  (by (first | omega | (simp only [Int32.reduceToInt, true_and, and_true, ne_eq, not_true_eq_false, false_and, or_false, false_or, true_or, or_true, false_implies] <;> omega))) (by (first | omega | (simp only [Int32.reduceToInt, true_and, and_true, ne_eq, not_true_eq_false, false_and, or_false, false_or, true_or, or_true, false_implies] <;> omega))) (m6) hI sz) (cwV 1 hts gT_X13_readProduct_X13_readFactor rfl rfl rfl (by decide +kernel) ⟨Nat.le_of_ble_eq_true rfl, Nat.le_of_ble_eq_true rfl⟩) rfl 0 yc_0 rfl (Nat.le_of_ble_eq_true rfl) ⟨Nat.zero_le _, Nat.zero_le _⟩ dX13_readProduct_2 hex hA hQ (fun u9 h9 => ⟨h9.1, gu_un.tr gu_un.rf (gu_un.su h9.2.1 rfl), (yKp.tr yKp.rf h9.2.2)⟩) (fun G69 hw68 => ?_)
  have hI70 : yI G69 := hw68.1
  have hU71 : gu_un ycd [5, 6, 7, 8, 9, 10, 22, 1000, 1100, 1200] G G69 := hw68.2.1
  have hp72 := hw68.2.2
  have b73 : (0 : Int) ≤ (G69 0 5).toInt ∧ (G69 0 5).toInt ≤ 1000 := hI70 0 5
  have b74 : (0 : Int) ≤ (G69 0 6).toInt ∧ (G69 0 6).toInt ≤ 4 := hI70 0 6
  have q75 : ((G69 0 5).toInt ≤ (G 0 3).toInt ∧ (G 0 5).toInt ≤ (G69 0 5).toInt ∧ ((G69 0 6).toInt = 0 ∨ (G 0 5).toInt < (G69 0 5).toInt)) := hp72.1
  have q76 : ySg 2 (G 0 20).toInt G G69 := hp72.2.1
  have q77 : yKp G G69 := hp72.2.2
  have kp78 : yKp G G69 := yKp.tr yKp.rf q77
  have sg79 : ySg 2 (G 0 20).toInt G G69 := q76
  clear hp72 hw68
  exact J_5 _ G69 (Nat.lt_succ_self _) hI70 (gu_un.tr gu_un.rf (gu_un.su hU71 rfl)) (sg79) (kp78) (by have e9_0_3 : G69 0 3 = (G 0 3) := hU71 0 3 (by decide); (try simp only [e9_0_3, true_and, and_true]) <;> (first | omega | (simp only [Int32.reduceToInt, true_and, and_true, ne_eq, not_true_eq_false, false_and, or_false, false_or, true_or, or_true, false_implies] <;> omega))) (by (first | omega | (simp only [Int32.reduceToInt, true_and, and_true, ne_eq, not_true_eq_false, false_and, or_false, false_or, true_or, or_true, false_implies] <;> omega)))

theorem dX13_readSum_0 : decode cX13_readSum 0 = .ok (.aload_n 0, 1) := by decide +kernel
theorem dX13_readSum_1 : decode cX13_readSum 1 = .ok (.iload_n 1, 1) := by decide +kernel
theorem dX13_readSum_2 : decode cX13_readSum 2 = .ok (.invokevirtual 106, 3) := by decide +kernel
theorem dX13_readSum_5 : decode cX13_readSum 5 = .ok (.aload_n 0, 1) := by decide +kernel
theorem dX13_readSum_6 : decode cX13_readSum 6 = .ok (.bipush 43, 2) := by decide +kernel
theorem dX13_readSum_8 : decode cX13_readSum 8 = .ok (.invokevirtual 110, 3) := by decide +kernel
theorem dX13_readSum_11 : decode cX13_readSum 11 = .ok (.ifCond .ne 12, 3) := by decide +kernel
theorem dX13_readSum_14 : decode cX13_readSum 14 = .ok (.aload_n 0, 1) := by decide +kernel
theorem dX13_readSum_15 : decode cX13_readSum 15 = .ok (.bipush 45, 2) := by decide +kernel
theorem dX13_readSum_17 : decode cX13_readSum 17 = .ok (.invokevirtual 110, 3) := by decide +kernel
theorem dX13_readSum_20 : decode cX13_readSum 20 = .ok (.ifCond .eq 26, 3) := by decide +kernel
theorem dX13_readSum_23 : decode cX13_readSum 23 = .ok (.aload_n 0, 1) := by decide +kernel
theorem dX13_readSum_24 : decode cX13_readSum 24 = .ok (.getfield 41, 3) := by decide +kernel
theorem dX13_readSum_27 : decode cX13_readSum 27 = .ok (.istore_n 2, 1) := by decide +kernel
theorem dX13_readSum_28 : decode cX13_readSum 28 = .ok (.aload_n 0, 1) := by decide +kernel
theorem dX13_readSum_29 : decode cX13_readSum 29 = .ok (.invokevirtual 69, 3) := by decide +kernel
theorem dX13_readSum_32 : decode cX13_readSum 32 = .ok (.aload_n 0, 1) := by decide +kernel
theorem dX13_readSum_33 : decode cX13_readSum 33 = .ok (.iload_n 1, 1) := by decide +kernel
theorem dX13_readSum_34 : decode cX13_readSum 34 = .ok (.invokevirtual 106, 3) := by decide +kernel
theorem dX13_readSum_37 : decode cX13_readSum 37 = .ok (.aload_n 0, 1) := by decide +kernel
theorem dX13_readSum_38 : decode cX13_readSum 38 = .ok (.iconst 2, 1) := by decide +kernel
theorem dX13_readSum_39 : decode cX13_readSum 39 = .ok (.iload_n 2, 1) := by decide +kernel
theorem dX13_readSum_40 : decode cX13_readSum 40 = .ok (.invokevirtual 92, 3) := by decide +kernel
theorem dX13_readSum_43 : decode cX13_readSum 43 = .ok (.goto (-38), 3) := by decide +kernel
theorem dX13_readSum_46 : decode cX13_readSum 46 = .ok (.return_, 1) := by decide +kernel
set_option maxRecDepth 20000 in
theorem ggX13_readSum_X13_isSign : GoodIn wsX13_readSum wsX13_isSign := goodIn_r _ [9, 10, 1, 107, 108, 109, 110, 111, 112, 113, 114, 115, 116, 117, 118, 119, 120, 121, 122, 123, 124, 125, 126, 127, 128, 129, 130, 131, 132, 133, 134, 135, 136, 137, 138, 139, 140, 141, 142, 143, 144, 145, 146, 147, 148, 149, 150, 151, 152, 153, 154, 155, 156, 157, 158, 159, 160, 161, 162, 163, 164, 165, 166, 167, 168, 169, 170, 171, 172, 173, 174, 175, 176, 177, 178, 179] rfl (by decide +kernel)
set_option maxRecDepth 20000 in
theorem gX13_readSum_X13_isSign : GoodIn wsX13_readSum (wsV RX13 110 RX13 yX13_isSign wsX13_isSign) := goodIn_app (goodIn_of _ (by decide +kernel)) ggX13_readSum_X13_isSign
set_option maxRecDepth 20000 in
theorem ggX13_readSum_X13_mark : GoodIn wsX13_readSum wsX13_mark := goodIn_r _ [32, 33, 34, 35, 36, 107, 108, 109, 110, 111, 112, 113, 114, 115, 116, 117, 118, 119, 120, 121, 122, 123, 124, 125, 126, 127, 128, 129, 130, 131, 132, 133, 134, 135, 136, 137, 138, 139, 140, 141, 142, 143, 144, 145, 146, 147, 148, 149, 150, 151, 152, 153, 154, 155, 156, 157, 158, 159, 160, 161, 162, 163, 164, 165, 166, 167, 168, 169, 170, 171, 172, 173, 174, 175, 176, 177, 178, 179] rfl (by decide +kernel)
set_option maxRecDepth 20000 in
theorem gX13_readSum_X13_mark : GoodIn wsX13_readSum (wsV RX13 92 RX13 yX13_mark wsX13_mark) := goodIn_app (goodIn_of _ (by decide +kernel)) ggX13_readSum_X13_mark
set_option maxRecDepth 20000 in
theorem ggX13_readSum_X13_readProduct : GoodIn wsX13_readSum wsX13_readProduct := goodIn_r _ [106, 1, 43, 44, 45, 5, 6, 7, 8, 9, 10, 11, 12, 13, 14, 15, 16, 17, 18, 19, 20, 21, 22, 23, 24, 25, 26, 27, 28, 29, 30, 31, 32, 33, 34, 35, 36, 37, 38, 39, 40, 41, 42, 46, 47, 48, 49, 50, 51, 52, 53, 54, 55, 56, 57, 58, 59, 60, 61, 62, 63, 64, 65, 66, 67, 68, 69, 70, 71, 72, 73, 74, 75, 76, 77, 78, 79, 80, 81, 82, 83, 84, 85, 86, 87, 88, 89, 90, 91, 92, 93, 94, 95, 96, 97, 98, 99, 100, 101, 102, 103, 104, 105, 0, 2, 3, 4, 107, 108, 109, 110, 111, 112, 113, 114, 115, 116, 117, 118, 119, 120, 121, 122, 123, 124, 125, 126, 127, 128, 129, 130, 131, 132, 133, 134, 135, 136, 137, 138, 139, 140, 141, 142, 143, 144, 145, 146, 147, 148, 149, 150, 151, 152, 153, 154, 155, 156, 157, 158, 159, 160, 161, 162, 163, 164, 165, 166, 167, 168, 169, 170, 171, 172, 173, 174, 175, 176, 177, 178, 179] rfl (by decide +kernel)
set_option maxRecDepth 20000 in
theorem gX13_readSum_X13_readProduct : GoodIn wsX13_readSum (wsV RX13 106 RX13 yX13_readProduct wsX13_readProduct) := goodIn_app (goodIn_of _ (by decide +kernel)) ggX13_readSum_X13_readProduct
set_option maxRecDepth 20000 in
theorem ggX13_readSum_X13_scan : GoodIn wsX13_readSum wsX13_scan := goodIn_r _ [14, 15, 16, 17, 18, 10, 1, 19, 20, 21, 5, 22, 23, 24, 25, 26, 27, 28, 107, 108, 109, 110, 111, 112, 113, 114, 115, 116, 117, 118, 119, 120, 121, 122, 123, 124, 125, 126, 127, 128, 129, 130, 131, 132, 133, 134, 135, 136, 137, 138, 139, 140, 141, 142, 143, 144, 145, 146, 147, 148, 149, 150, 151, 152, 153, 154, 155, 156, 157, 158, 159, 160, 161, 162, 163, 164, 165, 166, 167, 168, 169, 170, 171, 172, 173, 174, 175, 176, 177, 178, 179] rfl (by decide +kernel)
set_option maxRecDepth 20000 in
theorem gX13_readSum_X13_scan : GoodIn wsX13_readSum (wsV RX13 69 RX13 yX13_scan wsX13_scan) := goodIn_app (goodIn_of _ (by decide +kernel)) ggX13_readSum_X13_scan
def wsT_X13_readSum : List Cond := wsX13_readSum ++ wsT_nx
theorem gT_X13_readSum_X13_readProduct : GoodIn wsT_X13_readSum (wsV RX13 106 RX13 yX13_readProduct wsT_X13_readProduct) := gT_call gX13_readSum_X13_readProduct gT_nx
set_option maxHeartbeats 4000000 in
set_option maxRecDepth 100000 in
theorem S_X13_readSum_v4 (l : Launch) (D : va_G) (K : Nat → ClassId) (a : Nat → Nat) (G : gS) (qs vs : Nat → Nat) (pb : ((G 0 5).toInt ≤ (G 0 3).toInt)) (s35 : (3 ≤ (G 0 20).toInt)) (m6 : ((G 12 ((G 0 20).toInt).toNat).toInt ≤ 6 * (G 0 21).toInt)) (hI : yI G) (sz : Nat) : KxvZ (yZ qs vs) l yX13_readSum wsT_X13_readSum 9 214 D [.ref (a 0), .int 4] (yW K a G) (tK K) sz (fun (G' : gS) => (yI G') ∧ (gu_un ycd [5, 6, 7, 8, 9, 10, 22, 1000, 1100, 1200] G G') ∧ (((G' 0 5).toInt ≤ (G 0 3).toInt ∧ (G 0 5).toInt ≤ (G' 0 5).toInt ∧ ((G' 0 6).toInt = 0 ∨ (G 0 5).toInt < (G' 0 5).toInt))) ∧ (ySg 2 (G 0 20).toInt G G') ∧ (yKp G G')) (fun (G' : gS) => (yI G') ∧ (gu_un ycd [5, 6, 7, 8, 9, 10, 22, 1000, 1100, 1200] G G') ∧ (yKp G G')) (a 1) (fun (G' : gS) => (yW K a G')) := by
  unfold KxvZ
  refine gxz_ofW (cc := cX13_readSum) (lv := [(0, .ref (a 0)), (1, .int 4)]) (by decide) rfl (Nat.le_of_ble_eq_true rfl) rfl ?_
  intro p e s m args below meth c A Q hA hQ hZ F hr hex
  have hts := F.2.2.2.2.1
  have w_0 : (Cond.fieldLink RX13 41 "QuietCutModel" "value" "I").before args s = true := hts _ (List.mem_of_getElem? (i := 1) rfl)
  have i_X13 : ∀ w ∈ u_ws RX13 TX13 73, w ∈ wsT_X13_readSum := fun w h => List.mem_append_left _ ((show ∀ w ∈ u_ws RX13 TX13 73, w ∈ wsX13_readSum from fun _ h => List.mem_cons_of_mem _ (List.mem_append_right _ h)) w h)
  have b1 : (0 : Int) ≤ (G 0 3).toInt ∧ (G 0 3).toInt ≤ 1000 := hI 0 3
  have b2 : (0 : Int) ≤ (G 0 5).toInt ∧ (G 0 5).toInt ≤ 1000 := hI 0 5
  have b3 : (0 : Int) ≤ (G 0 6).toInt ∧ (G 0 6).toInt ≤ 4 := hI 0 6
  have b4 : (0 : Int) ≤ (G 0 20).toInt ∧ (G 0 20).toInt ≤ 5 := hI 0 20
  have b5 : (0 : Int) ≤ (G 0 21).toInt ∧ (G 0 21).toInt ≤ 12 := hI 0 21
  have J_5 : ∀ (fuel : Nat) (Gj5 : gS), (8 * (1000 - (Gj5 0 5).toInt) + (Gj5 0 6).toInt).toNat < fuel → (yI Gj5) → (gu_un ycd [5, 6, 7, 8, 9, 10, 22, 1000, 1100, 1200] G Gj5) → (ySg 2 (G 0 20).toInt G Gj5) → (yKp G Gj5) → (((Gj5 0 5).toInt ≤ (G 0 3).toInt)) → (((G 0 5).toInt ≤ (Gj5 0 5).toInt ∧ ((Gj5 0 6).toInt = 0 ∨ (G 0 5).toInt < (Gj5 0 5).toInt))) → gG p l e (gR 9 0 0 214) s m args below meth c D A 3 Q 0 0 (yW K a Gj5) (tK K) [(0, .ref (a 0)), (1, .int 4)] 5 [] := by
    intro fuel
    induction fuel with
    | zero => intro Gj5 hm; exact absurd hm (Nat.not_lt_zero _)
    | succ fuel_5 ih_5 =>
      intro Gj5 hm_5 jI5 jU5 sg5 kp5 bl_5 bm_5
      have J_23 : ∀ (_ : Unit), (((Gj5 0 6).toInt = 3 ∧ (Gj5 0 7).toInt ≠ 33 ∧ xsg (Gj5 0 7).toInt = 1)) → (((Gj5 0 5).toInt ≤ (G 0 3).toInt)) → (((G 0 5).toInt ≤ (Gj5 0 5).toInt ∧ ((Gj5 0 6).toInt = 0 ∨ (G 0 5).toInt < (Gj5 0 5).toInt))) → gG p l e (gR 9 0 0 214) s m args below meth c D A 3 Q 0 0 (yW K a Gj5) (tK K) [(0, .ref (a 0)), (1, .int 4)] 23 [] := by
        intro _ sn bl_23 bm_23
        refine g_aload_n F 0 dX13_readSum_23 rfl rfl ?_
        refine yg_0_7 F i_X13 w_0 dX13_readSum_24 (Gj5 0 7) (rfl) ?_
        refine g_istore_n F [(2, .int (Gj5 0 7)), (0, .ref (a 0)), (1, .int 4)] dX13_readSum_27 rfl (by decide) rfl ?_
        refine g_aload_n F 1 dX13_readSum_28 rfl rfl ?_
        have b6 : (0 : Int) ≤ (Gj5 0 5).toInt ∧ (Gj5 0 5).toInt ≤ 1000 := jI5 0 5
        refine u_callVv (k := 0) (n := 0) (b := a 0) (As := []) (st := []) F (fun sz => S_X13_scan l D K a Gj5  (by have e9_0_3 : Gj5 0 3 = (G 0 3) := jU5 0 3 (by decide); (try simp only [e9_0_3, true_and, and_true]) <;> (first | omega | (simp only [Int32.reduceToInt, true_and, and_true, ne_eq, not_true_eq_false, false_and, or_false, false_or, true_or, or_true, false_implies] <;> omega))) jI5 sz) (cwV 0 hts (gT_left gX13_readSum_X13_scan) rfl rfl rfl (by decide +kernel) ⟨Nat.le_of_ble_eq_true rfl, Nat.le_of_ble_eq_true rfl⟩) rfl 0 yc_0 rfl (Nat.le_of_ble_eq_true rfl) ⟨Nat.zero_le _, Nat.zero_le _⟩ dX13_readSum_29 (fun G9 hw8 => ?_)
        have hI10 : yI G9 := hw8.1
        have hU11 : gu_un ycd [5, 6, 7, 8] Gj5 G9 := hw8.2.1
        have hp12 := hw8.2.2
        have b13 : (0 : Int) ≤ (G9 0 5).toInt ∧ (G9 0 5).toInt ≤ 1000 := hI10 0 5
        have b14 : (0 : Int) ≤ (G9 0 4).toInt ∧ (G9 0 4).toInt ≤ 1000 := hI10 0 4
        have q15 : ((G9 0 5).toInt ≤ (G 0 3).toInt ∧ (Gj5 0 5).toInt ≤ (G9 0 4).toInt ∧ (G9 0 4).toInt ≤ (G9 0 5).toInt) := by have h9 := hp12.1; (try simp only [(show Gj5 0 3 = (G 0 3) from jU5 0 3 (by decide))] at h9); first | exact h9 | omega
        have b16 : (0 : Int) ≤ (G9 0 6).toInt ∧ (G9 0 6).toInt ≤ 4 := hI10 0 6
        have q17 : (((G9 0 6).toInt = 0 ∧ (G9 0 4).toInt = (G 0 3).toInt) ∨ ((G9 0 6).toInt ≠ 0 ∧ (G9 0 4).toInt < (G9 0 5).toInt)) := by have h9 := hp12.2.1; (try simp only [(show Gj5 0 3 = (G 0 3) from jU5 0 3 (by decide))] at h9); first | exact h9 | omega
        have q18 : tTok (G 2) (G 0 3).toInt (Gj5 0 5).toInt (G9 0 6).toInt (G9 0 4).toInt (G9 0 7).toInt (G9 0 5).toInt := by have h9 := hp12.2.2; (try simp only [(show Gj5 0 3 = (G 0 3) from jU5 0 3 (by decide)), (show Gj5 2 = (G 2) from (show Gj5 2 = G 2 from funext fun k_ => jU5 2 k_ (show (200 : Nat) ∉ ([5, 6, 7, 8, 9, 10, 22, 1000, 1100, 1200] : List Nat) by decide)))] at h9); first | exact h9 | omega
        clear hp12 hw8
        refine g_aload_n F 1 dX13_readSum_32 rfl rfl ?_
        refine g_iload_n F 2 dX13_readSum_33 rfl rfl ?_
        refine uxz_callvv (k := 0) (n := 0) (b := a 0) (As := [.int 4]) (st := []) F yZ_st hZ (fun sz => S_X13_readProduct_v4 l D K a G9 qs vs  (by have e9_0_3 : G9 0 3 = (G 0 3) := (hU11 0 3 (by decide)).trans (jU5 0 3 (by decide)); (try simp only [e9_0_3, true_and, and_true]) <;> (first | omega | (simp only [Int32.reduceToInt, true_and, and_true, ne_eq, not_true_eq_false, false_and, or_false, false_or, true_or, or_true, false_implies] <;> omega))) (by have e9_0_20 : G9 0 20 = (G 0 20) := (hU11 0 20 (by decide)).trans (jU5 0 20 (by decide)); (try simp only [e9_0_20, true_and, and_true]) <;> (first | omega | (simp only [Int32.reduceToInt, true_and, and_true, ne_eq, not_true_eq_false, false_and, or_false, false_or, true_or, or_true, false_implies] <;> omega))) (by rw [show G9 0 20 = G 0 20 from (hU11 0 20 (by decide)).trans (jU5 0 20 (by decide))]; exact (ySg.m6 (c := 2) (sg5.un (show gu_un ycd [5, 6, 7, 8] Gj5 G9 from (gu_un.tr gu_un.rf (gu_un.su hU11 rfl))) rfl rfl) (by decide) (by decide) m6)) hI10 sz) (cwV 1 hts gT_X13_readSum_X13_readProduct rfl rfl rfl (by decide +kernel) ⟨Nat.le_of_ble_eq_true rfl, Nat.le_of_ble_eq_true rfl⟩) rfl 0 yc_0 rfl (Nat.le_of_ble_eq_true rfl) ⟨Nat.zero_le _, Nat.zero_le _⟩ dX13_readSum_34 hex hA hQ (fun u9 h9 => ⟨h9.1, gu_un.tr (gu_un.tr (gu_un.tr gu_un.rf (gu_un.su jU5 rfl)) (gu_un.su hU11 rfl)) (gu_un.su h9.2.1 rfl), (yKp.tr (yKp.un kp5 (show gu_un ycd [5, 6, 7, 8] Gj5 G9 from (gu_un.tr gu_un.rf (gu_un.su hU11 rfl))) rfl) h9.2.2)⟩) (fun G21 hw20 => ?_)
        have hI22 : yI G21 := hw20.1
        have hU23 : gu_un ycd [5, 6, 7, 8, 9, 10, 22, 1000, 1100, 1200] G9 G21 := hw20.2.1
        have hp24 := hw20.2.2
        have b25 : (0 : Int) ≤ (G21 0 5).toInt ∧ (G21 0 5).toInt ≤ 1000 := hI22 0 5
        have b26 : (0 : Int) ≤ (G21 0 6).toInt ∧ (G21 0 6).toInt ≤ 4 := hI22 0 6
        have q27 : ((G21 0 5).toInt ≤ (G 0 3).toInt ∧ (G9 0 5).toInt ≤ (G21 0 5).toInt ∧ ((G21 0 6).toInt = 0 ∨ (G9 0 5).toInt < (G21 0 5).toInt)) := by have h9 := hp24.1; (try simp only [(show G9 0 3 = (G 0 3) from (hU11 0 3 (by decide)).trans (jU5 0 3 (by decide)))] at h9); first | exact h9 | omega
        have q28 : ySg 2 (G 0 20).toInt G9 G21 := by have h9 := hp24.2.1; (try simp only [(show G9 0 20 = (G 0 20) from (hU11 0 20 (by decide)).trans (jU5 0 20 (by decide)))] at h9); first | exact h9 | omega
        have q29 : yKp G9 G21 := hp24.2.2
        have kp30 : yKp G G21 := yKp.tr (yKp.un kp5 (show gu_un ycd [5, 6, 7, 8] Gj5 G9 from (gu_un.tr gu_un.rf (gu_un.su hU11 rfl))) rfl) q29
        clear hp24 hw20
        refine g_aload_n F 1 dX13_readSum_37 rfl rfl ?_
        refine g_iconst F 2 dX13_readSum_38 (by decide) ?_
        refine g_iload_n F 0 dX13_readSum_39 rfl rfl ?_
        refine u_callVv (k := 0) (n := 0) (b := a 0) (As := [.int 2, .int (Gj5 0 7)]) (st := []) F (fun sz => S_X13_mark l D K a G21 2 2 (Gj5 0 7) (Gj5 0 7).toInt rfl (by decide) rfl (by rw [show G21 0 20 = G 0 20 from (hU23 0 20 (by decide)).trans ((hU11 0 20 (by decide)).trans (jU5 0 20 (by decide)))]; have h9 : (G21 12 ((G 0 20).toInt).toNat).toInt ≤ 6 * (G21 0 21).toInt := (ySg.m6 (c := 2) q28 (by decide) (by decide) (ySg.m6 (c := 2) (sg5.un (show gu_un ycd [5, 6, 7, 8] Gj5 G9 from (gu_un.tr gu_un.rf (gu_un.su hU11 rfl))) rfl rfl) (by decide) (by decide) m6)); have h8 : (0 : Int) ≤ (G21 0 21).toInt ∧ (G21 0 21).toInt ≤ 12 := hI22 0 21; show (G21 12 ((G 0 20).toInt).toNat).toInt ≤ 79; omega) hI22 sz) (cwV 2 hts (gT_left gX13_readSum_X13_mark) rfl rfl rfl (by decide +kernel) ⟨Nat.le_of_ble_eq_true rfl, Nat.le_of_ble_eq_true rfl⟩) rfl 0 yc_0 rfl (Nat.le_of_ble_eq_true rfl) ⟨Nat.zero_le _, Nat.zero_le _⟩ dX13_readSum_40 (fun G33 hw32 => ?_)
        have hI34 : yI G33 := hw32.1
        have hU35 : gu_un ycd [1000, 1100, 1200] G21 G33 := hw32.2.1
        have hp36 := hw32.2.2
        have q37 : yMk 2 (Gj5 0 7) (G 0 20).toInt G21 G33 := by have h9 := hp36; (try simp only [(show G21 0 20 = (G 0 20) from (hU23 0 20 (by decide)).trans ((hU11 0 20 (by decide)).trans (jU5 0 20 (by decide))))] at h9); first | exact h9 | omega
        have m0 : 0 ≤ (G 12 ((G 0 20).toInt).toNat).toInt := (show (0 : Int) ≤ (G 12 ((G 0 20).toInt).toNat).toInt ∧ (G 12 ((G 0 20).toInt).toNat).toInt ≤ 80 from hI 12 _).1
        have m1 : 0 ≤ (G21 12 ((G 0 20).toInt).toNat).toInt := (show (0 : Int) ≤ (G21 12 ((G 0 20).toInt).toNat).toInt ∧ (G21 12 ((G 0 20).toInt).toNat).toInt ≤ 80 from hI22 12 _).1
        have kp38 : yKp G G33 := yKp.tr kp30 (q37.kp (by omega) m1)
        have sg39 : ySg 2 (G 0 20).toInt G G33 := ySg.join (sg5.un (show gu_un ycd [5, 6, 7, 8] Gj5 G9 from (gu_un.tr gu_un.rf (gu_un.su hU11 rfl))) rfl rfl) q28 q37 (by decide) (by omega) (by omega) m0 (by have h9 : (G21 12 ((G 0 20).toInt).toNat).toInt ≤ 6 * (G21 0 21).toInt := (ySg.m6 (c := 2) q28 (by decide) (by decide) (ySg.m6 (c := 2) (sg5.un (show gu_un ycd [5, 6, 7, 8] Gj5 G9 from (gu_un.tr gu_un.rf (gu_un.su hU11 rfl))) rfl rfl) (by decide) (by decide) m6)); have h8 : (0 : Int) ≤ (G21 0 21).toInt ∧ (G21 0 21).toInt ≤ 12 := hI22 0 21; omega)
        clear hp36 hw32
        refine g_goto F 5 dX13_readSum_43 (by decide) ?_
        refine g_locals [(0, .ref (a 0)), (1, .int 4)] [1, 2] rfl ?_
        exact ih_5 G33 (by have e9_0_5 : G33 0 5 = (G21 0 5) := hU35 0 5 (by decide); have e9_0_6 : G33 0 6 = (G21 0 6) := hU35 0 6 (by decide); (try simp only [e9_0_5, e9_0_6, true_and, and_true]) <;> omega) hI34 (gu_un.tr (gu_un.tr (gu_un.tr (gu_un.tr gu_un.rf (gu_un.su jU5 rfl)) (gu_un.su hU11 rfl)) (gu_un.su hU23 rfl)) (gu_un.su hU35 rfl)) (sg39) (kp38) (by have e9_0_3 : G33 0 3 = (G 0 3) := (hU35 0 3 (by decide)).trans ((hU23 0 3 (by decide)).trans ((hU11 0 3 (by decide)).trans (jU5 0 3 (by decide)))); have e9_0_5 : G33 0 5 = (G21 0 5) := hU35 0 5 (by decide); (try simp only [e9_0_3, e9_0_5, true_and, and_true]) <;> (first | omega | (simp only [Int32.reduceToInt, true_and, and_true, ne_eq, not_true_eq_false, false_and, or_false, false_or, true_or, or_true, false_implies] <;> omega))) (by have e9_0_5 : G33 0 5 = (G21 0 5) := hU35 0 5 (by decide); have e9_0_6 : G33 0 6 = (G21 0 6) := hU35 0 6 (by decide); (try simp only [e9_0_5, e9_0_6, true_and, and_true]) <;> (first | omega | (simp only [Int32.reduceToInt, true_and, and_true, ne_eq, not_true_eq_false, false_and, or_false, false_or, true_or, or_true, false_implies] <;> omega)))
      refine g_aload_n F 0 dX13_readSum_5 rfl rfl ?_
      refine g_bipush F 43 dX13_readSum_6 (by decide) ?_
      refine u_callVi (k := 0) (n := 0) (b := a 0) (As := [.int 43]) (st := []) F (fun sz => S_X13_isSign l D K a Gj5 43 43 rfl jI5 sz) (cwV 1 hts (gT_left gX13_readSum_X13_isSign) rfl rfl rfl (by decide +kernel) ⟨Nat.le_of_ble_eq_true rfl, Nat.le_of_ble_eq_true rfl⟩) rfl 0 yc_0 rfl (Nat.le_of_ble_eq_true rfl) ⟨Nat.zero_le _, Nat.zero_le _⟩ dX13_readSum_8 (fun r40 _ hw41 => ?_)
      rcases hw41 with ⟨rfl, q43⟩ | ⟨rfl, q44⟩
      · have b45 : (0 : Int) ≤ (Gj5 0 6).toInt ∧ (Gj5 0 6).toInt ≤ 4 := jI5 0 6
        have q43 : ((Gj5 0 6).toInt = 3 ∧ (Gj5 0 7).toInt = (43 : Int)) := q43
        refine v_if_ne F 23 dX13_readSum_11 (by decide) 1 rfl (fun c46 => ?_) (fun c46 => absurd c46 (by decide))
        have b47 : (0 : Int) ≤ (Gj5 0 5).toInt ∧ (Gj5 0 5).toInt ≤ 1000 := jI5 0 5
        exact J_23 () (⟨by omega, by omega, xsg_1.mpr (by omega)⟩) (by have e9_0_3 : Gj5 0 3 = (G 0 3) := jU5 0 3 (by decide); (try simp only [e9_0_3, true_and, and_true]) <;> (first | omega | (simp only [Int32.reduceToInt, true_and, and_true, ne_eq, not_true_eq_false, false_and, or_false, false_or, true_or, or_true, false_implies] <;> omega))) (by (first | omega | (simp only [Int32.reduceToInt, true_and, and_true, ne_eq, not_true_eq_false, false_and, or_false, false_or, true_or, or_true, false_implies] <;> omega)))
      · have b48 : (0 : Int) ≤ (Gj5 0 6).toInt ∧ (Gj5 0 6).toInt ≤ 4 := jI5 0 6
        have q44 : ((Gj5 0 6).toInt ≠ 3 ∨ (Gj5 0 7).toInt ≠ (43 : Int)) := q44
        refine v_if_ne F 23 dX13_readSum_11 (by decide) 0 rfl (fun c49 => absurd c49 (by decide)) (fun c49 => ?_)
        refine g_aload_n F 0 dX13_readSum_14 rfl rfl ?_
        refine g_bipush F 45 dX13_readSum_15 (by decide) ?_
        refine u_callVi (k := 0) (n := 0) (b := a 0) (As := [.int 45]) (st := []) F (fun sz => S_X13_isSign l D K a Gj5 45 45 rfl jI5 sz) (cwV 1 hts (gT_left gX13_readSum_X13_isSign) rfl rfl rfl (by decide +kernel) ⟨Nat.le_of_ble_eq_true rfl, Nat.le_of_ble_eq_true rfl⟩) rfl 0 yc_0 rfl (Nat.le_of_ble_eq_true rfl) ⟨Nat.zero_le _, Nat.zero_le _⟩ dX13_readSum_17 (fun r50 _ hw51 => ?_)
        rcases hw51 with ⟨rfl, q53⟩ | ⟨rfl, q54⟩
        · have q53 : ((Gj5 0 6).toInt = 3 ∧ (Gj5 0 7).toInt = (45 : Int)) := q53
          refine v_if_eq F 46 dX13_readSum_20 (by decide) 1 rfl (fun c55 => absurd c55 (by decide)) (fun c55 => ?_)
          have b56 : (0 : Int) ≤ (Gj5 0 5).toInt ∧ (Gj5 0 5).toInt ≤ 1000 := jI5 0 5
          exact J_23 () (⟨by omega, by omega, xsg_1.mpr (by omega)⟩) (by have e9_0_3 : Gj5 0 3 = (G 0 3) := jU5 0 3 (by decide); (try simp only [e9_0_3, true_and, and_true]) <;> (first | omega | (simp only [Int32.reduceToInt, true_and, and_true, ne_eq, not_true_eq_false, false_and, or_false, false_or, true_or, or_true, false_implies] <;> omega))) (by (first | omega | (simp only [Int32.reduceToInt, true_and, and_true, ne_eq, not_true_eq_false, false_and, or_false, false_or, true_or, or_true, false_implies] <;> omega)))
        · have q54 : ((Gj5 0 6).toInt ≠ 3 ∨ (Gj5 0 7).toInt ≠ (45 : Int)) := q54
          refine v_if_eq F 46 dX13_readSum_20 (by decide) 0 rfl (fun c57 => ?_) (fun c57 => absurd c57 (by decide))
          have b58 : (0 : Int) ≤ (Gj5 0 5).toInt ∧ (Gj5 0 5).toInt ≤ 1000 := jI5 0 5
          exact ux_vret F hA hQ hr Gj5 (⟨jI5, (gu_un.tr gu_un.rf (gu_un.su jU5 rfl)), (by show ((Gj5 0 5).toInt ≤ (G 0 3).toInt ∧ (G 0 5).toInt ≤ (Gj5 0 5).toInt ∧ ((Gj5 0 6).toInt = 0 ∨ (G 0 5).toInt < (Gj5 0 5).toInt)); (first | omega | (simp only [Int32.reduceToInt, true_and, and_true, ne_eq, not_true_eq_false, false_and, or_false, false_or, true_or, or_true, false_implies] <;> omega))), (sg5), (kp5)⟩) rfl rfl dX13_readSum_46
  refine g_aload_n F 0 dX13_readSum_0 rfl rfl ?_
  refine g_iload_n F 1 dX13_readSum_1 rfl rfl ?_
  refine uxz_callvv (k := 0) (n := 0) (b := a 0) (As := [.int 4]) (st := []) F yZ_st hZ (fun sz => S_X13_readProduct_v4 l D K a G qs vs  (by (first | omega | (simp only [Int32.reduceToInt, true_and, and_true, ne_eq, not_true_eq_false, false_and, or_false, false_or, true_or, or_true, false_implies] <;> omega))) (by (first | omega | (simp only [Int32.reduceToInt, true_and, and_true, ne_eq, not_true_eq_false, false_and, or_false, false_or, true_or, or_true, false_implies] <;> omega))) (m6) hI sz) (cwV 1 hts gT_X13_readSum_X13_readProduct rfl rfl rfl (by decide +kernel) ⟨Nat.le_of_ble_eq_true rfl, Nat.le_of_ble_eq_true rfl⟩) rfl 0 yc_0 rfl (Nat.le_of_ble_eq_true rfl) ⟨Nat.zero_le _, Nat.zero_le _⟩ dX13_readSum_2 hex hA hQ (fun u9 h9 => ⟨h9.1, gu_un.tr gu_un.rf (gu_un.su h9.2.1 rfl), (yKp.tr yKp.rf h9.2.2)⟩) (fun G61 hw60 => ?_)
  have hI62 : yI G61 := hw60.1
  have hU63 : gu_un ycd [5, 6, 7, 8, 9, 10, 22, 1000, 1100, 1200] G G61 := hw60.2.1
  have hp64 := hw60.2.2
  have b65 : (0 : Int) ≤ (G61 0 5).toInt ∧ (G61 0 5).toInt ≤ 1000 := hI62 0 5
  have b66 : (0 : Int) ≤ (G61 0 6).toInt ∧ (G61 0 6).toInt ≤ 4 := hI62 0 6
  have q67 : ((G61 0 5).toInt ≤ (G 0 3).toInt ∧ (G 0 5).toInt ≤ (G61 0 5).toInt ∧ ((G61 0 6).toInt = 0 ∨ (G 0 5).toInt < (G61 0 5).toInt)) := hp64.1
  have q68 : ySg 2 (G 0 20).toInt G G61 := hp64.2.1
  have q69 : yKp G G61 := hp64.2.2
  have kp70 : yKp G G61 := yKp.tr yKp.rf q69
  have sg71 : ySg 2 (G 0 20).toInt G G61 := q68
  clear hp64 hw60
  exact J_5 _ G61 (Nat.lt_succ_self _) hI62 (gu_un.tr gu_un.rf (gu_un.su hU63 rfl)) (sg71) (kp70) (by have e9_0_3 : G61 0 3 = (G 0 3) := hU63 0 3 (by decide); (try simp only [e9_0_3, true_and, and_true]) <;> (first | omega | (simp only [Int32.reduceToInt, true_and, and_true, ne_eq, not_true_eq_false, false_and, or_false, false_or, true_or, or_true, false_implies] <;> omega))) (by (first | omega | (simp only [Int32.reduceToInt, true_and, and_true, ne_eq, not_true_eq_false, false_and, or_false, false_or, true_or, or_true, false_implies] <;> omega)))
