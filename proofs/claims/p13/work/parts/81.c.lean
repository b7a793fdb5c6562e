set_option maxRecDepth 20000 in
theorem ggL_law_X11_sure : GoodIn wsL_law wsX11_sure := goodIn_rn _ [(1017, 1), (32, 1), (36, 1), (806, 3), (31, 1), (809, 5), (130, 1), (814, 1), (758, 2), (18, 1), (760, 1), (61, 1), (1018, 3), (35, 1), (1021, 1), (139, 1), (1022, 1), (141, 1), (140, 1), (1023, 3), (819, 4), (126, 1), (823, 1), (80, 3), (824, 4), (762, 1), (27, 1), (763, 1), (828, 5), (360, 3), (833, 5), (364, 2), (838, 8), (127, 1), (846, 12), (125, 1), (858, 1), (84, 3), (859, 6), (128, 2), (865, 5), (715, 2), (64, 1), (717, 1), (91, 1), (71, 2), (718, 3), (870, 15), (1440, 14), (1549, 20), (1533, 4), (1569, 8), (1544, 5), (1602, 9)] rfl (by decide +kernel)
set_option maxRecDepth 20000 in
theorem gL_law_X11_sure : GoodIn wsL_law (wsV RL 75 RX11 yX11_sure wsX11_sure) := goodIn_app (goodIn_of _ (by decide +kernel)) ggL_law_X11_sure
set_option maxRecDepth 20000 in
theorem ggL_law_X13_sure : GoodIn wsL_law wsX13_sure := goodIn_rn _ [(1029, 1), (181, 1), (901, 3), (5, 1), (904, 2), (705, 1), (906, 1), (773, 4), (280, 3), (911, 8), (193, 1), (919, 1), (360, 3), (777, 3), (920, 8), (198, 1), (928, 1), (199, 1), (247, 1), (929, 4), (200, 1), (933, 2), (185, 1), (935, 8), (659, 1), (364, 2), (943, 8), (183, 1), (194, 4), (951, 4), (726, 4), (191, 1), (190, 1), (189, 1), (192, 1), (730, 3), (955, 8), (1454, 73)] rfl (by decide +kernel)
set_option maxRecDepth 20000 in
theorem gL_law_X13_sure : GoodIn wsL_law (wsV RL 79 RX13 yX13_sure wsX13_sure) := goodIn_app (goodIn_of _ (by decide +kernel)) ggL_law_X13_sure
set_option maxHeartbeats 4000000 in
set_option maxRecDepth 100000 in
theorem law_c14 {p : Program} {e : Env} {s : State} {m : MethodId} {args : Array Value} {below : List Frame} {meth : Method} {c : Code} {A : Nat → Prop} {Q : State → Prop} (l : Launch) (D : va_G) (F : gF p s m args meth c cL_law RL 4 wsL_law A) (hts0 : ∀ w ∈ wsL_t, w.before args s = true) {zf : Nat → Nat} (hZ : xZ zf A s s.heap) {qs vs : Nat → Nat} (hY : yZ qs vs A s s.heap) {sb L : Nat} {sx : Nat → Int32} (hX : va_X sb L sx s s.heap) (hbl : sb < s.heap.size) (hbA : ¬ A sb) (hL : L ≤ 3584) (K : Nat → ClassId) (a b : Nat → Nat) (G G2 : gS) (hl : lI G G2) (i : Int32) (i0 : Int) (ei : i.toInt = i0) (h0 : 0 ≤ i0) (h7 : i0 + 7 ≤ L) (kE : ∀ G1 G3 : gS, lI G1 G3 → gG p l e (gR 2048 601024 7293033 84000) s m args below meth c D A 4 Q 139 10449 (xW K a G1 ++ yW K b G3) (tK K) [(3, .int i), (2, .ref (b 0)), (1, .ref (a 0)), (0, .ref sb)] 1385 []) : gG p l e (gR 2048 601024 7293033 84000) s m args below meth c D A 4 Q 139 10449 (xW K a G ++ yW K b G2) (tK K) [(3, .int i), (2, .ref (b 0)), (1, .ref (a 0)), (0, .ref sb)] 696 [] := by
  have hts := F.2.2.2.2.1
  obtain ⟨hxI, hyI, hf3, h_w3, hd0, heq, htb, hsc, hsr, hfk, hfp, hlN, hjm, hlG, h66, hpB, hpK⟩ := hl
  refine g_aload_n F 2 dL_law_696 rfl rfl ?_
  refine g_aload_n F 3 dL_law_697 rfl rfl ?_
  refine g_iload_n F 0 dL_law_698 rfl rfl ?_
  refine g_iconst F 1 dL_law_699 (by decide) ?_
  refine u_iadd F dL_law_700 i0 1 ei rfl (by omega) (by omega) (fun y1 ey1 => ?_)
  refine g_sld F hX hbl hbA ((i0 + 1)).toNat (congrArg Int.toNat (show y1.toInt = (i0 + 1) by omega)) (ti_in rfl (by omega) (by omega)) dL_law_701 ?_
  refine g_aload_n F 3 dL_law_702 rfl rfl ?_
  refine g_iload_n F 0 dL_law_703 rfl rfl ?_
  refine g_iconst F 2 dL_law_704 (by decide) ?_
  refine u_iadd F dL_law_705 i0 2 ei rfl (by omega) (by omega) (fun y2 ey2 => ?_)
  refine g_sld F hX hbl hbA ((i0 + 2)).toNat (congrArg Int.toNat (show y2.toInt = (i0 + 2) by omega)) (ti_in rfl (by omega) (by omega)) dL_law_706 ?_
  refine g_aload_n F 3 dL_law_707 rfl rfl ?_
  refine g_iload_n F 0 dL_law_708 rfl rfl ?_
  refine g_iconst F 3 dL_law_709 (by decide) ?_
  refine u_iadd F dL_law_710 i0 3 ei rfl (by omega) (by omega) (fun y3 ey3 => ?_)
  refine g_sld F hX hbl hbA ((i0 + 3)).toNat (congrArg Int.toNat (show y3.toInt = (i0 + 3) by omega)) (ti_in rfl (by omega) (by omega)) dL_law_711 ?_
  refine g_aload_n F 3 dL_law_712 rfl rfl ?_
  refine g_iload_n F 0 dL_law_713 rfl rfl ?_
  refine g_iconst F 4 dL_law_714 (by decide) ?_
  refine u_iadd F dL_law_715 i0 4 ei rfl (by omega) (by omega) (fun y4 ey4 => ?_)
  refine g_sld F hX hbl hbA ((i0 + 4)).toNat (congrArg Int.toNat (show y4.toInt = (i0 + 4) by omega)) (ti_in rfl (by omega) (by omega)) dL_law_716 ?_
  refine u2_callVi (k := 139) (n := 10449) (b := a 0) (As := [.int (sx ((i0 + 1)).toNat), .int (sx ((i0 + 2)).toNat), .int (sx ((i0 + 3)).toNat), .int (sx ((i0 + 4)).toNat)]) (st := []) (wc := (xW K a G)) (wr := (yW K b G2)) F (fun sz => S_X11_sure l D K a G (sx ((i0 + 1)).toNat) (sx ((i0 + 1)).toNat).toInt (sx ((i0 + 2)).toNat) (sx ((i0 + 2)).toNat).toInt (sx ((i0 + 3)).toNat) (sx ((i0 + 3)).toNat).toInt (sx ((i0 + 4)).toNat) (sx ((i0 + 4)).toNat).toInt rfl rfl rfl rfl hxI sz) (cwV 4 hts gL_law_X11_sure rfl rfl rfl (by decide +kernel) ⟨Nat.le_of_ble_eq_true rfl, Nat.le_of_ble_eq_true rfl⟩) rfl 0 xc_0 rfl (Nat.le_of_ble_eq_true rfl) ⟨Nat.le_of_ble_eq_true rfl, Nat.le_of_ble_eq_true rfl⟩ dL_law_717 (fun r5 G_6 hw7 => ?_)
  have hI8 : xI G_6 := hw7.1
  have hU9 : gu_un xcd [602, 603, 604, 605, 608, 613, 614, 615, 616, 617, 618, 619, 620, 2100, 2400, 2700, 4400, 4500, 4600, 4700, 4800] G G_6 := hw7.2.1
  have f10 : xF3 G_6 := xF3.un hf3 hU9 rfl rfl rfl
  have w_11 : G_6 17 = G 17 := funext fun k_ => hU9 17 k_ (by simp [xcd, ycd])
  have w_12 : G_6 88 = G 88 := funext fun k_ => hU9 88 k_ (by simp [xcd, ycd])
  have t13 : G_6 10 2 = G 10 2 := hU9 10 2 (by decide)
  have t13i := congrArg Int32.toInt t13
  have t14 : G_6 1 1 = G 1 1 := hU9 1 1 (by decide)
  have t14i := congrArg Int32.toInt t14
  have t15 : G_6 0 12 = G 0 12 := hU9 0 12 (by decide)
  have t15i := congrArg Int32.toInt t15
  have t16 : G_6 0 13 = G 0 13 := hU9 0 13 (by decide)
  have t16i := congrArg Int32.toInt t16
  have t17 : G_6 8 3 = G 8 3 := hU9 8 3 (by decide)
  have t17i := congrArg Int32.toInt t17
  have t18 : G_6 6 6 = G 6 6 := hU9 6 6 (by decide)
  have t18i := congrArg Int32.toInt t18
  have lG19 := lG.un hlG hU9 rfl
  have lNu20 := lNu.unx hlN hU9 rfl
  refine g_pop F dL_law_720 rfl ?_
  refine g_aload_n F 1 dL_law_721 rfl rfl ?_
  refine g_aload_n F 3 dL_law_722 rfl rfl ?_
  refine g_iload_n F 0 dL_law_723 rfl rfl ?_
  refine g_iconst F 1 dL_law_724 (by decide) ?_
  refine u_iadd F dL_law_725 i0 1 ei rfl (by omega) (by omega) (fun y21 ey21 => ?_)
  refine g_sld F hX hbl hbA ((i0 + 1)).toNat (congrArg Int.toNat (show y21.toInt = (i0 + 1) by omega)) (ti_in rfl (by omega) (by omega)) dL_law_726 ?_
  refine g_aload_n F 3 dL_law_727 rfl rfl ?_
  refine g_iload_n F 0 dL_law_728 rfl rfl ?_
  refine g_iconst F 2 dL_law_729 (by decide) ?_
  refine u_iadd F dL_law_730 i0 2 ei rfl (by omega) (by omega) (fun y22 ey22 => ?_)
  refine g_sld F hX hbl hbA ((i0 + 2)).toNat (congrArg Int.toNat (show y22.toInt = (i0 + 2) by omega)) (ti_in rfl (by omega) (by omega)) dL_law_731 ?_
  refine g_aload_n F 3 dL_law_732 rfl rfl ?_
  refine g_iload_n F 0 dL_law_733 rfl rfl ?_
  refine g_iconst F 3 dL_law_734 (by decide) ?_
  refine u_iadd F dL_law_735 i0 3 ei rfl (by omega) (by omega) (fun y23 ey23 => ?_)
  refine g_sld F hX hbl hbA ((i0 + 3)).toNat (congrArg Int.toNat (show y23.toInt = (i0 + 3) by omega)) (ti_in rfl (by omega) (by omega)) dL_law_736 ?_
  refine g_aload_n F 3 dL_law_737 rfl rfl ?_
  refine g_iload_n F 0 dL_law_738 rfl rfl ?_
  refine g_iconst F 4 dL_law_739 (by decide) ?_
  refine u_iadd F dL_law_740 i0 4 ei rfl (by omega) (by omega) (fun y24 ey24 => ?_)
  refine g_sld F hX hbl hbA ((i0 + 4)).toNat (congrArg Int.toNat (show y24.toInt = (i0 + 4) by omega)) (ti_in rfl (by omega) (by omega)) dL_law_741 ?_
  refine u2_callVi (k := 139) (n := 10449) (b := b 0) (As := [.int (sx ((i0 + 1)).toNat), .int (sx ((i0 + 2)).toNat), .int (sx ((i0 + 3)).toNat), .int (sx ((i0 + 4)).toNat)]) (st := []) (wc := (yW K b G2)) (wr := (xW K a G_6)) F (fun sz => S_X13_sure l D K b G2 (sx ((i0 + 1)).toNat) (sx ((i0 + 1)).toNat).toInt (sx ((i0 + 2)).toNat) (sx ((i0 + 2)).toNat).toInt (sx ((i0 + 3)).toNat) (sx ((i0 + 3)).toNat).toInt (sx ((i0 + 4)).toNat) (sx ((i0 + 4)).toNat).toInt rfl rfl rfl rfl h_w3 (by omega) hyI sz) (cwV 4 hts gL_law_X13_sure rfl rfl rfl (by decide +kernel) ⟨Nat.le_of_ble_eq_true rfl, Nat.le_of_ble_eq_true rfl⟩) rfl 0 yc_0 rfl (Nat.le_of_ble_eq_true rfl) ⟨Nat.le_of_ble_eq_true rfl, Nat.le_of_ble_eq_true rfl⟩ dL_law_742 (fun r25 G_26 hw27 => ?_)
  have hI28 : yI G_26 := hw27.1
  have hU29 : gu_un ycd [29, 33, 36, 37, 1300, 1400, 1500, 1600, 1700, 1800, 1900, 2000, 2100] G2 G_26 := hw27.2.1
  have q30 := hw27.2.2.2.1
  have q31 := hw27.2.2.2.2
  have w32 : yW3 G_26 := yW3.un h_w3 hU29 rfl
  have w_33 : G_26 2 = G2 2 := funext fun k_ => hU29 2 k_ (by simp [xcd, ycd])
  have w_34 : G_26 46 = G2 46 := funext fun k_ => hU29 46 k_ (by simp [xcd, ycd])
  have t35 : G_26 0 72 = G2 0 72 := hU29 0 72 (by decide)
  have t35i := congrArg Int32.toInt t35
  have t36 : G_26 0 2 = G2 0 2 := hU29 0 2 (by decide)
  have t36i := congrArg Int32.toInt t36
  have t37 : G_26 0 8 = G2 0 8 := hU29 0 8 (by decide)
  have t37i := congrArg Int32.toInt t37
  have t38 : G_26 0 9 = G2 0 9 := hU29 0 9 (by decide)
  have t38i := congrArg Int32.toInt t38
  have t39 : G_26 0 45 = G2 0 45 := hU29 0 45 (by decide)
  have t39i := congrArg Int32.toInt t39
  have lNu40 := lNu.uny lNu20 hU29 rfl
  have hr0 : (G 18 0).toInt = (G2 3 0).toInt := congrArg Int32.toInt (hlN.1.1 0 (by decide))
  have hr1 : (G 18 1).toInt = (G2 3 1).toInt := congrArg Int32.toInt (hlN.1.1 1 (by decide))
  have hb0 : (4 : Int) ≤ (G 18 0).toInt ∧ (G 18 0).toInt ≤ 16 := hxI 18 0
  have hb1 : (1 : Int) ≤ (G 18 1).toInt ∧ (G 18 1).toInt ≤ 6 := hxI 18 1
  have pB41 : pcB (xPc G_6) (yPc G_26) := pcB.go hpB (pcB.xun hU9 rfl) (pcB.nh q30 (hU29 0 29 (by decide)))
  have pK42 : pcK (xPc G_6) (yPc G_26) := pcK.go hpK (pcK.xun hU9 rfl) (pcK.yun hU29 rfl)
  refine g_pop F dL_law_745 rfl ?_
  refine g_goto F 1385 dL_law_746 (by decide) ?_
  exact kE G_6 G_26 ⟨hI8, hI28, f10, w32, by omega, by omega, fun i hi => by first | (exfalso; omega) | (rw [w_33, w_11]; exact htb i (by omega)), by omega, fun i hi => by rw [w_34, w_12]; exact hsr i (by omega), by omega, by omega, lNu40, by omega, lG19, by omega, pB41, pK42⟩
set_option maxRecDepth 20000 in
theorem ggL_law_X11_deepest : GoodIn wsL_law wsX11_deepest := goodIn_rn _ [(1033, 1), (32, 1), (36, 1), (806, 3), (31, 1), (809, 5), (130, 1), (814, 1), (758, 2), (18, 1), (760, 1), (61, 1), (1034, 3), (35, 1), (1037, 5), (141, 1), (139, 1), (1022, 1), (140, 1), (1023, 2), (1042, 1), (1025, 1), (819, 4), (126, 1), (823, 1), (80, 3), (824, 4), (762, 1), (27, 1), (763, 1), (828, 5), (360, 3), (833, 5), (364, 2), (838, 8), (127, 1), (846, 12), (125, 1), (858, 1), (84, 3), (859, 6), (128, 2), (865, 5), (715, 2), (64, 1), (717, 1), (91, 1), (71, 2), (718, 3), (870, 15), (1440, 14), (1549, 20), (1533, 4), (1569, 8), (1544, 5), (1602, 9)] rfl (by decide +kernel)
set_option maxRecDepth 20000 in
theorem gL_law_X11_deepest : GoodIn wsL_law (wsV RL 80 RX11 yX11_deepest wsX11_deepest) := goodIn_app (goodIn_of _ (by decide +kernel)) ggL_law_X11_deepest
set_option maxRecDepth 20000 in
theorem ggL_law_X13_deepest : GoodIn wsL_law wsX13_deepest := goodIn_rn _ [(1046, 1), (905, 1), (773, 3), (5, 1), (776, 1), (181, 1), (280, 3), (1047, 8), (911, 8), (193, 1), (919, 1), (360, 3), (777, 3), (920, 8), (198, 1), (928, 1), (199, 1), (247, 1), (929, 4), (200, 1), (933, 2), (185, 1), (935, 8), (659, 1), (364, 2), (943, 8), (183, 1), (194, 4), (951, 4), (726, 4), (191, 1), (190, 1), (189, 1), (192, 1), (730, 3), (955, 8), (1454, 73)] rfl (by decide +kernel)
set_option maxRecDepth 20000 in
theorem gL_law_X13_deepest : GoodIn wsL_law (wsV RL 83 RX13 yX13_deepest wsX13_deepest) := goodIn_app (goodIn_of _ (by decide +kernel)) ggL_law_X13_deepest
set_option maxHeartbeats 4000000 in
set_option maxRecDepth 100000 in
theorem law_c15 {p : Program} {e : Env} {s : State} {m : MethodId} {args : Array Value} {below : List Frame} {meth : Method} {c : Code} {A : Nat → Prop} {Q : State → Prop} (l : Launch) (D : va_G) (F : gF p s m args meth c cL_law RL 4 wsL_law A) (hts0 : ∀ w ∈ wsL_t, w.before args s = true) {zf : Nat → Nat} (hZ : xZ zf A s s.heap) {qs vs : Nat → Nat} (hY : yZ qs vs A s s.heap) {sb L : Nat} {sx : Nat → Int32} (hX : va_X sb L sx s s.heap) (hbl : sb < s.heap.size) (hbA : ¬ A sb) (hL : L ≤ 3584) (K : Nat → ClassId) (a b : Nat → Nat) (G G2 : gS) (hl : lI G G2) (i : Int32) (i0 : Int) (ei : i.toInt = i0) (h0 : 0 ≤ i0) (h7 : i0 + 7 ≤ L) (kE : ∀ G1 G3 : gS, lI G1 G3 → gG p l e (gR 2048 601024 7293033 84000) s m args below meth c D A 4 Q 139 10449 (xW K a G1 ++ yW K b G3) (tK K) [(3, .int i), (2, .ref (b 0)), (1, .ref (a 0)), (0, .ref sb)] 1385 []) : gG p l e (gR 2048 601024 7293033 84000) s m args below meth c D A 4 Q 139 10449 (xW K a G ++ yW K b G2) (tK K) [(3, .int i), (2, .ref (b 0)), (1, .ref (a 0)), (0, .ref sb)] 749 [] := by
  have hts := F.2.2.2.2.1
  obtain ⟨hxI, hyI, hf3, h_w3, hd0, heq, htb, hsc, hsr, hfk, hfp, hlN, hjm, hlG, h66, hpB, hpK⟩ := hl
  refine g_aload_n F 2 dL_law_749 rfl rfl ?_
  refine g_aload_n F 3 dL_law_750 rfl rfl ?_
  refine g_iload_n F 0 dL_law_751 rfl rfl ?_
  refine g_iconst F 1 dL_law_752 (by decide) ?_
  refine u_iadd F dL_law_753 i0 1 ei rfl (by omega) (by omega) (fun y1 ey1 => ?_)
  refine g_sld F hX hbl hbA ((i0 + 1)).toNat (congrArg Int.toNat (show y1.toInt = (i0 + 1) by omega)) (ti_in rfl (by omega) (by omega)) dL_law_754 ?_
  refine g_aload_n F 3 dL_law_755 rfl rfl ?_
  refine g_iload_n F 0 dL_law_756 rfl rfl ?_
  refine g_iconst F 2 dL_law_757 (by decide) ?_
  refine u_iadd F dL_law_758 i0 2 ei rfl (by omega) (by omega) (fun y2 ey2 => ?_)
  refine g_sld F hX hbl hbA ((i0 + 2)).toNat (congrArg Int.toNat (show y2.toInt = (i0 + 2) by omega)) (ti_in rfl (by omega) (by omega)) dL_law_759 ?_
  refine u2_callVi (k := 139) (n := 10449) (b := a 0) (As := [.int (sx ((i0 + 1)).toNat), .int (sx ((i0 + 2)).toNat)]) (st := []) (wc := (xW K a G)) (wr := (yW K b G2)) F (fun sz => S_X11_deepest l D K a G (sx ((i0 + 1)).toNat) (sx ((i0 + 1)).toNat).toInt (sx ((i0 + 2)).toNat) (sx ((i0 + 2)).toNat).toInt rfl rfl hxI sz) (cwV 2 hts gL_law_X11_deepest rfl rfl rfl (by decide +kernel) ⟨Nat.le_of_ble_eq_true rfl, Nat.le_of_ble_eq_true rfl⟩) rfl 0 xc_0 rfl (Nat.le_of_ble_eq_true rfl) ⟨Nat.le_of_ble_eq_true rfl, Nat.le_of_ble_eq_true rfl⟩ dL_law_760 (fun r3 G_4 hw5 => ?_)
  have hI6 : xI G_4 := hw5.1
  have hU7 : gu_un xcd [602, 603, 604, 605, 608, 613, 614, 615, 616, 617, 618, 619, 620, 2100, 2400, 2700, 4400, 4500, 4600, 4700, 4800] G G_4 := hw5.2.1
  have f8 : xF3 G_4 := xF3.un hf3 hU7 rfl rfl rfl
  have w_9 : G_4 17 = G 17 := funext fun k_ => hU7 17 k_ (by simp [xcd, ycd])
  have w_10 : G_4 88 = G 88 := funext fun k_ => hU7 88 k_ (by simp [xcd, ycd])
  have t11 : G_4 10 2 = G 10 2 := hU7 10 2 (by decide)
  have t11i := congrArg Int32.toInt t11
  have t12 : G_4 1 1 = G 1 1 := hU7 1 1 (by decide)
  have t12i := congrArg Int32.toInt t12
  have t13 : G_4 0 12 = G 0 12 := hU7 0 12 (by decide)
  have t13i := congrArg Int32.toInt t13
  have t14 : G_4 0 13 = G 0 13 := hU7 0 13 (by decide)
  have t14i := congrArg Int32.toInt t14
  have t15 : G_4 8 3 = G 8 3 := hU7 8 3 (by decide)
  have t15i := congrArg Int32.toInt t15
  have t16 : G_4 6 6 = G 6 6 := hU7 6 6 (by decide)
  have t16i := congrArg Int32.toInt t16
  have lG17 := lG.un hlG hU7 rfl
  have lNu18 := lNu.unx hlN hU7 rfl
  refine g_pop F dL_law_763 rfl ?_
  refine g_aload_n F 1 dL_law_764 rfl rfl ?_
  refine g_aload_n F 3 dL_law_765 rfl rfl ?_
  refine g_iload_n F 0 dL_law_766 rfl rfl ?_
  refine g_iconst F 1 dL_law_767 (by decide) ?_
  refine u_iadd F dL_law_768 i0 1 ei rfl (by omega) (by omega) (fun y19 ey19 => ?_)
  refine g_sld F hX hbl hbA ((i0 + 1)).toNat (congrArg Int.toNat (show y19.toInt = (i0 + 1) by omega)) (ti_in rfl (by omega) (by omega)) dL_law_769 ?_
  refine g_aload_n F 3 dL_law_770 rfl rfl ?_
  refine g_iload_n F 0 dL_law_771 rfl rfl ?_
  refine g_iconst F 2 dL_law_772 (by decide) ?_
  refine u_iadd F dL_law_773 i0 2 ei rfl (by omega) (by omega) (fun y20 ey20 => ?_)
  refine g_sld F hX hbl hbA ((i0 + 2)).toNat (congrArg Int.toNat (show y20.toInt = (i0 + 2) by omega)) (ti_in rfl (by omega) (by omega)) dL_law_774 ?_
  refine u2_callVi (k := 139) (n := 10449) (b := b 0) (As := [.int (sx ((i0 + 1)).toNat), .int (sx ((i0 + 2)).toNat)]) (st := []) (wc := (yW K b G2)) (wr := (xW K a G_4)) F (fun sz => S_X13_deepest l D K b G2 (sx ((i0 + 1)).toNat) (sx ((i0 + 1)).toNat).toInt (sx ((i0 + 2)).toNat) (sx ((i0 + 2)).toNat).toInt rfl rfl h_w3 (by omega) hyI sz) (cwV 2 hts gL_law_X13_deepest rfl rfl rfl (by decide +kernel) ⟨Nat.le_of_ble_eq_true rfl, Nat.le_of_ble_eq_true rfl⟩) rfl 0 yc_0 rfl (Nat.le_of_ble_eq_true rfl) ⟨Nat.le_of_ble_eq_true rfl, Nat.le_of_ble_eq_true rfl⟩ dL_law_775 (fun r21 G_22 hw23 => ?_)
  have hI24 : yI G_22 := hw23.1
  have hU25 : gu_un ycd [29, 33, 36, 37, 1300, 1400, 1500, 1600, 1700, 1800, 1900, 2000, 2100] G2 G_22 := hw23.2.1
  have q26 := hw23.2.2.2.1
  have q27 := hw23.2.2.2.2
  have w28 : yW3 G_22 := yW3.un h_w3 hU25 rfl
  have w_29 : G_22 2 = G2 2 := funext fun k_ => hU25 2 k_ (by simp [xcd, ycd])
  have w_30 : G_22 46 = G2 46 := funext fun k_ => hU25 46 k_ (by simp [xcd, ycd])
  have t31 : G_22 0 72 = G2 0 72 := hU25 0 72 (by decide)
  have t31i := congrArg Int32.toInt t31
  have t32 : G_22 0 2 = G2 0 2 := hU25 0 2 (by decide)
  have t32i := congrArg Int32.toInt t32
  have t33 : G_22 0 8 = G2 0 8 := hU25 0 8 (by decide)
  have t33i := congrArg Int32.toInt t33
  have t34 : G_22 0 9 = G2 0 9 := hU25 0 9 (by decide)
  have t34i := congrArg Int32.toInt t34
  have t35 : G_22 0 45 = G2 0 45 := hU25 0 45 (by decide)
  have t35i := congrArg Int32.toInt t35
  have lNu36 := lNu.uny lNu18 hU25 rfl
  have hr0 : (G 18 0).toInt = (G2 3 0).toInt := congrArg Int32.toInt (hlN.1.1 0 (by decide))
  have hr1 : (G 18 1).toInt = (G2 3 1).toInt := congrArg Int32.toInt (hlN.1.1 1 (by decide))
  have hb0 : (4 : Int) ≤ (G 18 0).toInt ∧ (G 18 0).toInt ≤ 16 := hxI 18 0
  have hb1 : (1 : Int) ≤ (G 18 1).toInt ∧ (G 18 1).toInt ≤ 6 := hxI 18 1
  have pB37 : pcB (xPc G_4) (yPc G_22) := pcB.go hpB (pcB.xun hU7 rfl) (pcB.nh q26 (hU25 0 29 (by decide)))
  have pK38 : pcK (xPc G_4) (yPc G_22) := pcK.go hpK (pcK.xun hU7 rfl) (pcK.yun hU25 rfl)
  refine g_pop F dL_law_778 rfl ?_
  refine g_goto F 1385 dL_law_779 (by decide) ?_
  exact kE G_4 G_22 ⟨hI6, hI24, f8, w28, by omega, by omega, fun i hi => by first | (exfalso; omega) | (rw [w_29, w_9]; exact htb i (by omega)), by omega, fun i hi => by rw [w_30, w_10]; exact hsr i (by omega), by omega, by omega, lNu36, by omega, lG17, by omega, pB37, pK38⟩
set_option maxRecDepth 20000 in
theorem ggL_law_X11_best : GoodIn wsL_law wsX11_best := goodIn_rn _ [(1058, 1), (19, 1), (36, 1), (1059, 1), (758, 2), (18, 1), (760, 1), (61, 1), (1060, 3), (35, 1), (1063, 1), (139, 1), (1064, 5), (874, 3), (1069, 1), (882, 3), (1070, 1), (1035, 7), (141, 1), (1022, 1), (140, 1), (1023, 2), (1042, 1), (807, 2), (31, 1), (809, 5), (130, 1), (814, 1), (1025, 1), (819, 4), (126, 1), (823, 1), (80, 3), (824, 4), (762, 1), (27, 1), (763, 1), (828, 5), (360, 3), (833, 5), (364, 2), (838, 8), (127, 1), (846, 12), (125, 1), (858, 1), (84, 3), (859, 6), (128, 2), (865, 5), (715, 2), (64, 1), (717, 1), (91, 1), (71, 2), (718, 3), (870, 4), (877, 5), (1440, 14), (1533, 4), (1569, 8), (1544, 25), (1602, 9)] rfl (by decide +kernel)
set_option maxRecDepth 20000 in
theorem gL_law_X11_best : GoodIn wsL_law (wsV RL 84 RX11 yX11_best wsX11_best) := goodIn_app (goodIn_of _ (by decide +kernel)) ggL_law_X11_best
set_option maxRecDepth 20000 in
theorem ggL_law_X13_best : GoodIn wsL_law wsX13_best := goodIn_rn _ [(1074, 1), (773, 3), (5, 1), (776, 1), (181, 1), (280, 3), (1047, 8), (911, 8), (193, 1), (919, 1), (360, 3), (777, 3), (920, 8), (198, 1), (928, 1), (199, 1), (247, 1), (929, 4), (200, 1), (933, 2), (185, 1), (935, 8), (659, 1), (364, 2), (943, 8), (183, 1), (194, 4), (951, 4), (726, 4), (191, 1), (190, 1), (189, 1), (192, 1), (730, 3), (955, 8), (1075, 4), (1454, 73)] rfl (by decide +kernel)
set_option maxRecDepth 20000 in
theorem gL_law_X13_best : GoodIn wsL_law (wsV RL 87 RX13 yX13_best wsX13_best) := goodIn_app (goodIn_of _ (by decide +kernel)) ggL_law_X13_best
set_option maxHeartbeats 4000000 in
set_option maxRecDepth 100000 in
theorem law_c16 {p : Program} {e : Env} {s : State} {m : MethodId} {args : Array Value} {below : List Frame} {meth : Method} {c : Code} {A : Nat → Prop} {Q : State → Prop} (l : Launch) (D : va_G) (F : gF p s m args meth c cL_law RL 4 wsL_law A) (hts0 : ∀ w ∈ wsL_t, w.before args s = true) {zf : Nat → Nat} (hZ : xZ zf A s s.heap) {qs vs : Nat → Nat} (hY : yZ qs vs A s s.heap) {sb L : Nat} {sx : Nat → Int32} (hX : va_X sb L sx s s.heap) (hbl : sb < s.heap.size) (hbA : ¬ A sb) (hL : L ≤ 3584) (K : Nat → ClassId) (a b : Nat → Nat) (G G2 : gS) (hl : lI G G2) (i : Int32) (i0 : Int) (ei : i.toInt = i0) (h0 : 0 ≤ i0) (h7 : i0 + 7 ≤ L) (kE : ∀ G1 G3 : gS, lI G1 G3 → gG p l e (gR 2048 601024 7293033 84000) s m args below meth c D A 4 Q 139 10449 (xW K a G1 ++ yW K b G3) (tK K) [(3, .int i), (2, .ref (b 0)), (1, .ref (a 0)), (0, .ref sb)] 1385 []) : gG p l e (gR 2048 601024 7293033 84000) s m args below meth c D A 4 Q 139 10449 (xW K a G ++ yW K b G2) (tK K) [(3, .int i), (2, .ref (b 0)), (1, .ref (a 0)), (0, .ref sb)] 782 [] := by
  have hts := F.2.2.2.2.1
  obtain ⟨hxI, hyI, hf3, h_w3, hd0, heq, htb, hsc, hsr, hfk, hfp, hlN, hjm, hlG, h66, hpB, hpK⟩ := hl
  refine g_aload_n F 2 dL_law_782 rfl rfl ?_
  refine g_aload_n F 3 dL_law_783 rfl rfl ?_
  refine g_iload_n F 0 dL_law_784 rfl rfl ?_
  refine g_iconst F 1 dL_law_785 (by decide) ?_
  refine u_iadd F dL_law_786 i0 1 ei rfl (by omega) (by omega) (fun y1 ey1 => ?_)
  refine g_sld F hX hbl hbA ((i0 + 1)).toNat (congrArg Int.toNat (show y1.toInt = (i0 + 1) by omega)) (ti_in rfl (by omega) (by omega)) dL_law_787 ?_
  refine u2_callVi (k := 139) (n := 10449) (b := a 0) (As := [.int (sx ((i0 + 1)).toNat)]) (st := []) (wc := (xW K a G)) (wr := (yW K b G2)) F (fun sz => S_X11_best l D K a G (sx ((i0 + 1)).toNat) (sx ((i0 + 1)).toNat).toInt rfl hxI sz) (cwV 1 hts gL_law_X11_best rfl rfl rfl (by decide +kernel) ⟨Nat.le_of_ble_eq_true rfl, Nat.le_of_ble_eq_true rfl⟩) rfl 0 xc_0 rfl (Nat.le_of_ble_eq_true rfl) ⟨Nat.le_of_ble_eq_true rfl, Nat.le_of_ble_eq_true rfl⟩ dL_law_788 (fun r2 G_3 hw4 => ?_)
  have hI5 : xI G_3 := hw4.1
  have hU6 : gu_un xcd [602, 603, 604, 605, 608, 613, 614, 615, 616, 617, 618, 619, 620, 2100, 2400, 2700, 4400, 4500, 4600, 4700, 4800] G G_3 := hw4.2.1
  have f7 : xF3 G_3 := xF3.un hf3 hU6 rfl rfl rfl
  have w_8 : G_3 17 = G 17 := funext fun k_ => hU6 17 k_ (by simp [xcd, ycd])
  have w_9 : G_3 88 = G 88 := funext fun k_ => hU6 88 k_ (by simp [xcd, ycd])
  have t10 : G_3 10 2 = G 10 2 := hU6 10 2 (by decide)
  have t10i := congrArg Int32.toInt t10
  have t11 : G_3 1 1 = G 1 1 := hU6 1 1 (by decide)
  have t11i := congrArg Int32.toInt t11
  have t12 : G_3 0 12 = G 0 12 := hU6 0 12 (by decide)
  have t12i := congrArg Int32.toInt t12
  have t13 : G_3 0 13 = G 0 13 := hU6 0 13 (by decide)
  have t13i := congrArg Int32.toInt t13
  have t14 : G_3 8 3 = G 8 3 := hU6 8 3 (by decide)
  have t14i := congrArg Int32.toInt t14
  have t15 : G_3 6 6 = G 6 6 := hU6 6 6 (by decide)
  have t15i := congrArg Int32.toInt t15
  have lG16 := lG.un hlG hU6 rfl
  have lNu17 := lNu.unx hlN hU6 rfl
  refine g_pop F dL_law_791 rfl ?_
  refine g_aload_n F 1 dL_law_792 rfl rfl ?_
  refine g_aload_n F 3 dL_law_793 rfl rfl ?_
  refine g_iload_n F 0 dL_law_794 rfl rfl ?_
  refine g_iconst F 1 dL_law_795 (by decide) ?_
  refine u_iadd F dL_law_796 i0 1 ei rfl (by omega) (by omega) (fun y18 ey18 => ?_)
  refine g_sld F hX hbl hbA ((i0 + 1)).toNat (congrArg Int.toNat (show y18.toInt = (i0 + 1) by omega)) (ti_in rfl (by omega) (by omega)) dL_law_797 ?_
  refine u2_callVi (k := 139) (n := 10449) (b := b 0) (As := [.int (sx ((i0 + 1)).toNat)]) (st := []) (wc := (yW K b G2)) (wr := (xW K a G_3)) F (fun sz => S_X13_best l D K b G2 (sx ((i0 + 1)).toNat) (sx ((i0 + 1)).toNat).toInt rfl h_w3 (by omega) hyI sz) (cwV 1 hts gL_law_X13_best rfl rfl rfl (by decide +kernel) ⟨Nat.le_of_ble_eq_true rfl, Nat.le_of_ble_eq_true rfl⟩) rfl 0 yc_0 rfl (Nat.le_of_ble_eq_true rfl) ⟨Nat.le_of_ble_eq_true rfl, Nat.le_of_ble_eq_true rfl⟩ dL_law_798 (fun r19 G_20 hw21 => ?_)
  have hI22 : yI G_20 := hw21.1
  have hU23 : gu_un ycd [29, 33, 36, 37, 1300, 1400, 1500, 1600, 1700, 1800, 1900, 2000, 2100] G2 G_20 := hw21.2.1
  have q24 := hw21.2.2.2.1
  have q25 := hw21.2.2.2.2
  have w26 : yW3 G_20 := yW3.un h_w3 hU23 rfl
  have w_27 : G_20 2 = G2 2 := funext fun k_ => hU23 2 k_ (by simp [xcd, ycd])
  have w_28 : G_20 46 = G2 46 := funext fun k_ => hU23 46 k_ (by simp [xcd, ycd])
  have t29 : G_20 0 72 = G2 0 72 := hU23 0 72 (by decide)
  have t29i := congrArg Int32.toInt t29
  have t30 : G_20 0 2 = G2 0 2 := hU23 0 2 (by decide)
  have t30i := congrArg Int32.toInt t30
  have t31 : G_20 0 8 = G2 0 8 := hU23 0 8 (by decide)
  have t31i := congrArg Int32.toInt t31
  have t32 : G_20 0 9 = G2 0 9 := hU23 0 9 (by decide)
  have t32i := congrArg Int32.toInt t32
  have t33 : G_20 0 45 = G2 0 45 := hU23 0 45 (by decide)
  have t33i := congrArg Int32.toInt t33
  have lNu34 := lNu.uny lNu17 hU23 rfl
  have hr0 : (G 18 0).toInt = (G2 3 0).toInt := congrArg Int32.toInt (hlN.1.1 0 (by decide))
  have hr1 : (G 18 1).toInt = (G2 3 1).toInt := congrArg Int32.toInt (hlN.1.1 1 (by decide))
  have hb0 : (4 : Int) ≤ (G 18 0).toInt ∧ (G 18 0).toInt ≤ 16 := hxI 18 0
  have hb1 : (1 : Int) ≤ (G 18 1).toInt ∧ (G 18 1).toInt ≤ 6 := hxI 18 1
  have pB35 : pcB (xPc G_3) (yPc G_20) := pcB.go hpB (pcB.xun hU6 rfl) (pcB.nh q24 (hU23 0 29 (by decide)))
  have pK36 : pcK (xPc G_3) (yPc G_20) := pcK.go hpK (pcK.xun hU6 rfl) (pcK.yun hU23 rfl)
  refine g_pop F dL_law_801 rfl ?_
  refine g_goto F 1385 dL_law_802 (by decide) ?_
  exact kE G_3 G_20 ⟨hI5, hI22, f7, w26, by omega, by omega, fun i hi => by first | (exfalso; omega) | (rw [w_27, w_8]; exact htb i (by omega)), by omega, fun i hi => by rw [w_28, w_9]; exact hsr i (by omega), by omega, by omega, lNu34, by omega, lG16, by omega, pB35, pK36⟩
set_option maxRecDepth 20000 in
theorem ggL_law_X11_plan : GoodIn wsL_law wsX11_plan := goodIn_rn _ [(1082, 1), (19, 1), (36, 1), (1059, 1), (758, 2), (18, 1), (760, 1), (61, 1), (1083, 3), (35, 1), (1086, 1), (139, 1), (1022, 1), (1087, 1), (364, 1), (361, 1), (365, 1), (136, 1), (1088, 4), (135, 1), (1092, 1), (84, 3), (1038, 4), (141, 1), (140, 1), (1023, 2), (1042, 1), (807, 2), (31, 1), (809, 5), (130, 1), (814, 1), (1025, 1), (819, 4), (126, 1), (823, 1), (80, 3), (824, 4), (762, 1), (27, 1), (763, 1), (828, 5), (360, 1), (362, 1), (833, 13), (127, 1), (846, 12), (125, 1), (858, 7), (128, 2), (865, 5), (715, 2), (64, 1), (717, 1), (91, 1), (71, 2), (718, 3), (870, 15), (1093, 4), (137, 1), (1064, 6), (1097, 10), (138, 1), (1107, 7), (1440, 14), (1533, 4), (1569, 8), (1544, 25), (1602, 9)] rfl (by decide +kernel)
set_option maxRecDepth 20000 in
theorem gL_law_X11_plan : GoodIn wsL_law (wsV RL 88 RX11 yX11_plan wsX11_plan) := goodIn_app (goodIn_of _ (by decide +kernel)) ggL_law_X11_plan
set_option maxRecDepth 20000 in
theorem ggL_law_X13_plan : GoodIn wsL_law wsX13_plan := goodIn_rn _ [(1117, 2), (181, 1), (205, 1), (202, 2), (942, 1), (1119, 1), (204, 1), (1120, 1), (773, 3), (5, 1), (776, 1), (280, 3), (1121, 3), (1051, 4), (911, 8), (193, 1), (919, 1), (360, 3), (777, 3), (920, 8), (198, 1), (928, 1), (199, 1), (247, 1), (929, 4), (200, 1), (933, 2), (185, 1), (935, 7), (659, 1), (364, 2), (943, 8), (183, 1), (194, 4), (951, 4), (726, 4), (191, 1), (190, 1), (189, 1), (192, 1), (730, 3), (955, 8), (1124, 4), (1075, 4), (1128, 10), (1454, 73)] rfl (by decide +kernel)
set_option maxRecDepth 20000 in
theorem gL_law_X13_plan : GoodIn wsL_law (wsV RL 91 RX13 yX13_plan wsX13_plan) := goodIn_app (goodIn_of _ (by decide +kernel)) ggL_law_X13_plan
set_option maxHeartbeats 4000000 in
set_option maxRecDepth 100000 in
theorem law_c17 {p : Program} {e : Env} {s : State} {m : MethodId} {args : Array Value} {below : List Frame} {meth : Method} {c : Code} {A : Nat → Prop} {Q : State → Prop} (l : Launch) (D : va_G) (F : gF p s m args meth c cL_law RL 4 wsL_law A) (hts0 : ∀ w ∈ wsL_t, w.before args s = true) {zf : Nat → Nat} (hZ : xZ zf A s s.heap) {qs vs : Nat → Nat} (hY : yZ qs vs A s s.heap) {sb L : Nat} {sx : Nat → Int32} (hX : va_X sb L sx s s.heap) (hbl : sb < s.heap.size) (hbA : ¬ A sb) (hL : L ≤ 3584) (K : Nat → ClassId) (a b : Nat → Nat) (G G2 : gS) (hl : lI G G2) (i : Int32) (i0 : Int) (ei : i.toInt = i0) (h0 : 0 ≤ i0) (h7 : i0 + 7 ≤ L) (kE : ∀ G1 G3 : gS, lI G1 G3 → gG p l e (gR 2048 601024 7293033 84000) s m args below meth c D A 4 Q 139 10449 (xW K a G1 ++ yW K b G3) (tK K) [(3, .int i), (2, .ref (b 0)), (1, .ref (a 0)), (0, .ref sb)] 1385 []) : gG p l e (gR 2048 601024 7293033 84000) s m args below meth c D A 4 Q 139 10449 (xW K a G ++ yW K b G2) (tK K) [(3, .int i), (2, .ref (b 0)), (1, .ref (a 0)), (0, .ref sb)] 805 [] := by
  have hts := F.2.2.2.2.1
  obtain ⟨hxI, hyI, hf3, h_w3, hd0, heq, htb, hsc, hsr, hfk, hfp, hlN, hjm, hlG, h66, hpB, hpK⟩ := hl
  refine g_aload_n F 2 dL_law_805 rfl rfl ?_
  refine g_aload_n F 3 dL_law_806 rfl rfl ?_
  refine g_iload_n F 0 dL_law_807 rfl rfl ?_
  refine g_iconst F 1 dL_law_808 (by decide) ?_
  refine u_iadd F dL_law_809 i0 1 ei rfl (by omega) (by omega) (fun y1 ey1 => ?_)
  refine g_sld F hX hbl hbA ((i0 + 1)).toNat (congrArg Int.toNat (show y1.toInt = (i0 + 1) by omega)) (ti_in rfl (by omega) (by omega)) dL_law_810 ?_
  refine g_aload_n F 3 dL_law_811 rfl rfl ?_
  refine g_iload_n F 0 dL_law_812 rfl rfl ?_
  refine g_iconst F 2 dL_law_813 (by decide) ?_
  refine u_iadd F dL_law_814 i0 2 ei rfl (by omega) (by omega) (fun y2 ey2 => ?_)
  refine g_sld F hX hbl hbA ((i0 + 2)).toNat (congrArg Int.toNat (show y2.toInt = (i0 + 2) by omega)) (ti_in rfl (by omega) (by omega)) dL_law_815 ?_
  refine u2_callVi (k := 139) (n := 10449) (b := a 0) (As := [.int (sx ((i0 + 1)).toNat), .int (sx ((i0 + 2)).toNat)]) (st := []) (wc := (xW K a G)) (wr := (yW K b G2)) F (fun sz => S_X11_plan l D K a G (sx ((i0 + 1)).toNat) (sx ((i0 + 1)).toNat).toInt (sx ((i0 + 2)).toNat) (sx ((i0 + 2)).toNat).toInt rfl rfl hxI sz) (cwV 2 hts gL_law_X11_plan rfl rfl rfl (by decide +kernel) ⟨Nat.le_of_ble_eq_true rfl, Nat.le_of_ble_eq_true rfl⟩) rfl 0 xc_0 rfl (Nat.le_of_ble_eq_true rfl) ⟨Nat.le_of_ble_eq_true rfl, Nat.le_of_ble_eq_true rfl⟩ dL_law_816 (fun r3 G_4 hw5 => ?_)
  have hI6 : xI G_4 := hw5.1
  have hU7 : gu_un xcd [602, 603, 604, 605, 608, 613, 614, 615, 616, 617, 618, 619, 620, 708, 2100, 2400, 2700, 4400, 4500, 4600, 4700, 4800, 4900, 5000, 5100, 5200] G G_4 := hw5.2
  have f8 : xF3 G_4 := xF3.un hf3 hU7 rfl rfl rfl
  have w_9 : G_4 17 = G 17 := funext fun k_ => hU7 17 k_ (by simp [xcd, ycd])
  have w_10 : G_4 88 = G 88 := funext fun k_ => hU7 88 k_ (by simp [xcd, ycd])
  have t11 : G_4 10 2 = G 10 2 := hU7 10 2 (by decide)
  have t11i := congrArg Int32.toInt t11
  have t12 : G_4 1 1 = G 1 1 := hU7 1 1 (by decide)
  have t12i := congrArg Int32.toInt t12
  have t13 : G_4 0 12 = G 0 12 := hU7 0 12 (by decide)
  have t13i := congrArg Int32.toInt t13
  have t14 : G_4 0 13 = G 0 13 := hU7 0 13 (by decide)
  have t14i := congrArg Int32.toInt t14
  have t15 : G_4 8 3 = G 8 3 := hU7 8 3 (by decide)
  have t15i := congrArg Int32.toInt t15
  have t16 : G_4 6 6 = G 6 6 := hU7 6 6 (by decide)
  have t16i := congrArg Int32.toInt t16
  have lG17 := lG.un hlG hU7 rfl
  have lNu18 := lNu.unx hlN hU7 rfl
  refine g_pop F dL_law_819 rfl ?_
  refine g_aload_n F 1 dL_law_820 rfl rfl ?_
  refine g_aload_n F 3 dL_law_821 rfl rfl ?_
  refine g_iload_n F 0 dL_law_822 rfl rfl ?_
  refine g_iconst F 1 dL_law_823 (by decide) ?_
  refine u_iadd F dL_law_824 i0 1 ei rfl (by omega) (by omega) (fun y19 ey19 => ?_)
  refine g_sld F hX hbl hbA ((i0 + 1)).toNat (congrArg Int.toNat (show y19.toInt = (i0 + 1) by omega)) (ti_in rfl (by omega) (by omega)) dL_law_825 ?_
  refine g_aload_n F 3 dL_law_826 rfl rfl ?_
  refine g_iload_n F 0 dL_law_827 rfl rfl ?_
  refine g_iconst F 2 dL_law_828 (by decide) ?_
  refine u_iadd F dL_law_829 i0 2 ei rfl (by omega) (by omega) (fun y20 ey20 => ?_)
  refine g_sld F hX hbl hbA ((i0 + 2)).toNat (congrArg Int.toNat (show y20.toInt = (i0 + 2) by omega)) (ti_in rfl (by omega) (by omega)) dL_law_830 ?_
  refine u2_callVi (k := 139) (n := 10449) (b := b 0) (As := [.int (sx ((i0 + 1)).toNat), .int (sx ((i0 + 2)).toNat)]) (st := []) (wc := (yW K b G2)) (wr := (xW K a G_4)) F (fun sz => S_X13_plan l D K b G2 (sx ((i0 + 1)).toNat) (sx ((i0 + 1)).toNat).toInt (sx ((i0 + 2)).toNat) (sx ((i0 + 2)).toNat).toInt rfl rfl h_w3 (by omega) hyI sz) (cwV 2 hts gL_law_X13_plan rfl rfl rfl (by decide +kernel) ⟨Nat.le_of_ble_eq_true rfl, Nat.le_of_ble_eq_true rfl⟩) rfl 0 yc_0 rfl (Nat.le_of_ble_eq_true rfl) ⟨Nat.le_of_ble_eq_true rfl, Nat.le_of_ble_eq_true rfl⟩ dL_law_831 (fun r21 G_22 hw23 => ?_)
  have hI24 : yI G_22 := hw23.1
  have hU25 : gu_un ycd [29, 33, 36, 37, 43, 44, 1300, 1400, 1500, 1600, 1700, 1800, 1900, 2000, 2100, 2300, 2400, 2500, 2600] G2 G_22 := hw23.2.1
  have q26 := hw23.2.2.1
  have q27 := hw23.2.2.2
  have w28 : yW3 G_22 := yW3.un h_w3 hU25 rfl
  have w_29 : G_22 2 = G2 2 := funext fun k_ => hU25 2 k_ (by simp [xcd, ycd])
  have w_30 : G_22 46 = G2 46 := funext fun k_ => hU25 46 k_ (by simp [xcd, ycd])
  have t31 : G_22 0 72 = G2 0 72 := hU25 0 72 (by decide)
  have t31i := congrArg Int32.toInt t31
  have t32 : G_22 0 2 = G2 0 2 := hU25 0 2 (by decide)
  have t32i := congrArg Int32.toInt t32
  have t33 : G_22 0 8 = G2 0 8 := hU25 0 8 (by decide)
  have t33i := congrArg Int32.toInt t33
  have t34 : G_22 0 9 = G2 0 9 := hU25 0 9 (by decide)
  have t34i := congrArg Int32.toInt t34
  have t35 : G_22 0 45 = G2 0 45 := hU25 0 45 (by decide)
  have t35i := congrArg Int32.toInt t35
  have lNu36 := lNu.uny lNu18 hU25 rfl
  have hr0 : (G 18 0).toInt = (G2 3 0).toInt := congrArg Int32.toInt (hlN.1.1 0 (by decide))
  have hr1 : (G 18 1).toInt = (G2 3 1).toInt := congrArg Int32.toInt (hlN.1.1 1 (by decide))
  have hb0 : (4 : Int) ≤ (G 18 0).toInt ∧ (G 18 0).toInt ≤ 16 := hxI 18 0
  have hb1 : (1 : Int) ≤ (G 18 1).toInt ∧ (G 18 1).toInt ≤ 6 := hxI 18 1
  have pB37 : pcB (xPc G_4) (yPc G_22) := pcB.go hpB (pcB.xun hU7 rfl) (pcB.nh q26 (hU25 0 29 (by decide)))
  have pK38 : pcK (xPc G_4) (yPc G_22) := pcK.go hpK (pcK.xun hU7 rfl) (pcK.yun hU25 rfl)
  refine g_pop F dL_law_834 rfl ?_
  refine g_goto F 1385 dL_law_835 (by decide) ?_
  exact kE G_4 G_22 ⟨hI6, hI24, f8, w28, by omega, by omega, fun i hi => by first | (exfalso; omega) | (rw [w_29, w_9]; exact htb i (by omega)), by omega, fun i hi => by rw [w_30, w_10]; exact hsr i (by omega), by omega, by omega, lNu36, by omega, lG17, by omega, pB37, pK38⟩
set_option maxRecDepth 20000 in
theorem ggL_law_X11_planned : GoodIn wsL_law wsX11_planned := goodIn_rn _ [(1141, 1), (36, 1), (1142, 3), (35, 1), (1145, 1), (1106, 1), (138, 1), (1440, 14), (1569, 8)] rfl (by decide +kernel)
set_option maxRecDepth 20000 in
theorem gL_law_X11_planned : GoodIn wsL_law (wsV RL 92 RX11 yX11_planned wsX11_planned) := goodIn_app (goodIn_of _ (by decide +kernel)) ggL_law_X11_planned
set_option maxRecDepth 20000 in
theorem ggL_law_X13_planned : GoodIn wsL_law wsX13_planned := goodIn_rn _ [(1149, 1), (1120, 1), (1119, 1), (1150, 1), (905, 1), (204, 1), (280, 2), (5, 1), (282, 1), (1454, 73)] rfl (by decide +kernel)
set_option maxRecDepth 20000 in
theorem gL_law_X13_planned : GoodIn wsL_law (wsV RL 95 RX13 yX13_planned wsX13_planned) := goodIn_app (goodIn_of _ (by decide +kernel)) ggL_law_X13_planned
set_option maxHeartbeats 4000000 in
set_option maxRecDepth 100000 in
theorem law_c18 {p : Program} {e : Env} {s : State} {m : MethodId} {args : Array Value} {below : List Frame} {meth : Method} {c : Code} {A : Nat → Prop} {Q : State → Prop} (l : Launch) (D : va_G) (F : gF p s m args meth c cL_law RL 4 wsL_law A) (hts0 : ∀ w ∈ wsL_t, w.before args s = true) {zf : Nat → Nat} (hZ : xZ zf A s s.heap) {qs vs : Nat → Nat} (hY : yZ qs vs A s s.heap) {sb L : Nat} {sx : Nat → Int32} (hX : va_X sb L sx s s.heap) (hbl : sb < s.heap.size) (hbA : ¬ A sb) (hL : L ≤ 3584) (K : Nat → ClassId) (a b : Nat → Nat) (G G2 : gS) (hl : lI G G2) (i : Int32) (i0 : Int) (ei : i.toInt = i0) (h0 : 0 ≤ i0) (h7 : i0 + 7 ≤ L) (kE : ∀ G1 G3 : gS, lI G1 G3 → gG p l e (gR 2048 601024 7293033 84000) s m args below meth c D A 4 Q 139 10449 (xW K a G1 ++ yW K b G3) (tK K) [(3, .int i), (2, .ref (b 0)), (1, .ref (a 0)), (0, .ref sb)] 1385 []) : gG p l e (gR 2048 601024 7293033 84000) s m args below meth c D A 4 Q 139 10449 (xW K a G ++ yW K b G2) (tK K) [(3, .int i), (2, .ref (b 0)), (1, .ref (a 0)), (0, .ref sb)] 838 [] := by
  have hts := F.2.2.2.2.1
  obtain ⟨hxI, hyI, hf3, h_w3, hd0, heq, htb, hsc, hsr, hfk, hfp, hlN, hjm, hlG, h66, hpB, hpK⟩ := hl
  refine g_aload_n F 2 dL_law_838 rfl rfl ?_
  refine g_aload_n F 3 dL_law_839 rfl rfl ?_
  refine g_iload_n F 0 dL_law_840 rfl rfl ?_
  refine g_iconst F 1 dL_law_841 (by decide) ?_
  refine u_iadd F dL_law_842 i0 1 ei rfl (by omega) (by omega) (fun y1 ey1 => ?_)
  refine g_sld F hX hbl hbA ((i0 + 1)).toNat (congrArg Int.toNat (show y1.toInt = (i0 + 1) by omega)) (ti_in rfl (by omega) (by omega)) dL_law_843 ?_
  refine u2_callVi (k := 139) (n := 10449) (b := a 0) (As := [.int (sx ((i0 + 1)).toNat)]) (st := []) (wc := (xW K a G)) (wr := (yW K b G2)) F (fun sz => S_X11_planned l D K a G (sx ((i0 + 1)).toNat) (sx ((i0 + 1)).toNat).toInt rfl hxI sz) (cwV 1 hts gL_law_X11_planned rfl rfl rfl (by decide +kernel) ⟨Nat.le_of_ble_eq_true rfl, Nat.le_of_ble_eq_true rfl⟩) rfl 0 xc_0 rfl (Nat.le_of_ble_eq_true rfl) ⟨Nat.le_of_ble_eq_true rfl, Nat.le_of_ble_eq_true rfl⟩ dL_law_844 (fun r2 _ hw4 => ?_)
  refine g_pop F dL_law_847 rfl ?_
  refine g_aload_n F 1 dL_law_848 rfl rfl ?_
  refine g_aload_n F 3 dL_law_849 rfl rfl ?_
  refine g_iload_n F 0 dL_law_850 rfl rfl ?_
  refine g_iconst F 1 dL_law_851 (by decide) ?_
  refine u_iadd F dL_law_852 i0 1 ei rfl (by omega) (by omega) (fun y5 ey5 => ?_)
  refine g_sld F hX hbl hbA ((i0 + 1)).toNat (congrArg Int.toNat (show y5.toInt = (i0 + 1) by omega)) (ti_in rfl (by omega) (by omega)) dL_law_853 ?_
  refine u2_callVi (k := 139) (n := 10449) (b := b 0) (As := [.int (sx ((i0 + 1)).toNat)]) (st := []) (wc := (yW K b G2)) (wr := (xW K a G)) F (fun sz => S_X13_planned l D K b G2 (sx ((i0 + 1)).toNat) (sx ((i0 + 1)).toNat).toInt rfl hyI sz) (cwV 1 hts gL_law_X13_planned rfl rfl rfl (by decide +kernel) ⟨Nat.le_of_ble_eq_true rfl, Nat.le_of_ble_eq_true rfl⟩) rfl 0 yc_0 rfl (Nat.le_of_ble_eq_true rfl) ⟨Nat.le_of_ble_eq_true rfl, Nat.le_of_ble_eq_true rfl⟩ dL_law_854 (fun r6 _ hw8 => ?_)
  have hr0 : (G 18 0).toInt = (G2 3 0).toInt := congrArg Int32.toInt (hlN.1.1 0 (by decide))
  have hr1 : (G 18 1).toInt = (G2 3 1).toInt := congrArg Int32.toInt (hlN.1.1 1 (by decide))
  have hb0 : (4 : Int) ≤ (G 18 0).toInt ∧ (G 18 0).toInt ≤ 16 := hxI 18 0
  have hb1 : (1 : Int) ≤ (G 18 1).toInt ∧ (G 18 1).toInt ≤ 6 := hxI 18 1
  have pB9 : pcB (xPc G) (yPc G2) := pcB.go hpB pcB.rf pcB.rf
  have pK10 : pcK (xPc G) (yPc G2) := pcK.go hpK pcK.rf pcK.rf
  refine g_pop F dL_law_857 rfl ?_
  refine g_goto F 1385 dL_law_858 (by decide) ?_
  exact kE G G2 ⟨hxI, hyI, hf3, h_w3, by omega, by omega, fun i hi => by first | (exfalso; omega) | (exact htb i (by omega)), by omega, fun i hi => by exact hsr i (by omega), by omega, by omega, hlN, by omega, hlG, by omega, pB9, pK10⟩
set_option maxRecDepth 20000 in
theorem ggL_law_X11_bestTeeth : GoodIn wsL_law wsX11_bestTeeth := goodIn_rn _ [(1154, 1), (32, 1), (36, 1), (806, 3), (31, 1), (809, 5), (130, 1), (814, 1), (758, 2), (18, 1), (760, 1), (61, 1), (1155, 2), (35, 1), (1157, 13), (141, 1), (1170, 4), (857, 1), (1070, 1), (1035, 7), (139, 1), (1022, 1), (140, 1), (1023, 2), (1042, 1), (1025, 1), (819, 4), (126, 1), (823, 1), (80, 3), (824, 4), (762, 1), (27, 1), (763, 1), (828, 5), (360, 3), (833, 5), (364, 2), (838, 8), (127, 1), (846, 11), (125, 1), (858, 1), (84, 3), (859, 6), (128, 2), (865, 5), (715, 2), (64, 1), (717, 1), (91, 1), (71, 2), (718, 3), (870, 15), (1440, 14), (1549, 20), (1533, 4), (1569, 8), (1544, 5), (1602, 9)] rfl (by decide +kernel)
set_option maxRecDepth 20000 in
theorem gL_law_X11_bestTeeth : GoodIn wsL_law (wsV RL 96 RX11 yX11_bestTeeth wsX11_bestTeeth) := goodIn_app (goodIn_of _ (by decide +kernel)) ggL_law_X11_bestTeeth
set_option maxRecDepth 20000 in
theorem ggL_law_X13_bestTeeth : GoodIn wsL_law wsX13_bestTeeth := goodIn_rn _ [(1177, 1), (905, 1), (1178, 2), (181, 1), (206, 1), (183, 1), (773, 3), (5, 1), (776, 1), (280, 3), (1180, 3), (1047, 8), (911, 8), (193, 1), (919, 1), (360, 3), (777, 3), (920, 8), (198, 1), (928, 1), (199, 1), (247, 1), (929, 4), (200, 1), (933, 2), (185, 1), (935, 8), (659, 1), (364, 2), (943, 8), (194, 4), (951, 4), (726, 4), (191, 1), (190, 1), (189, 1), (192, 1), (730, 3), (955, 8), (1454, 73)] rfl (by decide +kernel)
set_option maxRecDepth 20000 in
theorem gL_law_X13_bestTeeth : GoodIn wsL_law (wsV RL 99 RX13 yX13_bestTeeth wsX13_bestTeeth) := goodIn_app (goodIn_of _ (by decide +kernel)) ggL_law_X13_bestTeeth
set_option maxHeartbeats 4000000 in
set_option maxRecDepth 100000 in
theorem law_c19 {p : Program} {e : Env} {s : State} {m : MethodId} {args : Array Value} {below : List Frame} {meth : Method} {c : Code} {A : Nat → Prop} {Q : State → Prop} (l : Launch) (D : va_G) (F : gF p s m args meth c cL_law RL 4 wsL_law A) (hts0 : ∀ w ∈ wsL_t, w.before args s = true) {zf : Nat → Nat} (hZ : xZ zf A s s.heap) {qs vs : Nat → Nat} (hY : yZ qs vs A s s.heap) {sb L : Nat} {sx : Nat → Int32} (hX : va_X sb L sx s s.heap) (hbl : sb < s.heap.size) (hbA : ¬ A sb) (hL : L ≤ 3584) (K : Nat → ClassId) (a b : Nat → Nat) (G G2 : gS) (hl : lI G G2) (i : Int32) (i0 : Int) (ei : i.toInt = i0) (h0 : 0 ≤ i0) (h7 : i0 + 7 ≤ L) (kE : ∀ G1 G3 : gS, lI G1 G3 → gG p l e (gR 2048 601024 7293033 84000) s m args below meth c D A 4 Q 139 10449 (xW K a G1 ++ yW K b G3) (tK K) [(3, .int i), (2, .ref (b 0)), (1, .ref (a 0)), (0, .ref sb)] 1385 []) : gG p l e (gR 2048 601024 7293033 84000) s m args below meth c D A 4 Q 139 10449 (xW K a G ++ yW K b G2) (tK K) [(3, .int i), (2, .ref (b 0)), (1, .ref (a 0)), (0, .ref sb)] 861 [] := by
  have hts := F.2.2.2.2.1
  obtain ⟨hxI, hyI, hf3, h_w3, hd0, heq, htb, hsc, hsr, hfk, hfp, hlN, hjm, hlG, h66, hpB, hpK⟩ := hl
  refine g_aload_n F 2 dL_law_861 rfl rfl ?_
  refine g_aload_n F 3 dL_law_862 rfl rfl ?_
  refine g_iload_n F 0 dL_law_863 rfl rfl ?_
  refine g_iconst F 1 dL_law_864 (by decide) ?_
  refine u_iadd F dL_law_865 i0 1 ei rfl (by omega) (by omega) (fun y1 ey1 => ?_)
  refine g_sld F hX hbl hbA ((i0 + 1)).toNat (congrArg Int.toNat (show y1.toInt = (i0 + 1) by omega)) (ti_in rfl (by omega) (by omega)) dL_law_866 ?_
  refine g_aload_n F 3 dL_law_867 rfl rfl ?_
  refine g_iload_n F 0 dL_law_868 rfl rfl ?_
  refine g_iconst F 2 dL_law_869 (by decide) ?_
  refine u_iadd F dL_law_870 i0 2 ei rfl (by omega) (by omega) (fun y2 ey2 => ?_)
  refine g_sld F hX hbl hbA ((i0 + 2)).toNat (congrArg Int.toNat (show y2.toInt = (i0 + 2) by omega)) (ti_in rfl (by omega) (by omega)) dL_law_871 ?_
  refine g_aload_n F 3 dL_law_872 rfl rfl ?_
  refine g_iload_n F 0 dL_law_873 rfl rfl ?_
  refine g_iconst F 3 dL_law_874 (by decide) ?_
  refine u_iadd F dL_law_875 i0 3 ei rfl (by omega) (by omega) (fun y3 ey3 => ?_)
  refine g_sld F hX hbl hbA ((i0 + 3)).toNat (congrArg Int.toNat (show y3.toInt = (i0 + 3) by omega)) (ti_in rfl (by omega) (by omega)) dL_law_876 ?_
  refine g_aload_n F 3 dL_law_877 rfl rfl ?_
  refine g_iload_n F 0 dL_law_878 rfl rfl ?_
  refine g_iconst F 4 dL_law_879 (by decide) ?_
  refine u_iadd F dL_law_880 i0 4 ei rfl (by omega) (by omega) (fun y4 ey4 => ?_)
  refine g_sld F hX hbl hbA ((i0 + 4)).toNat (congrArg Int.toNat (show y4.toInt = (i0 + 4) by omega)) (ti_in rfl (by omega) (by omega)) dL_law_881 ?_
  refine u2_callVi (k := 139) (n := 10449) (b := a 0) (As := [.int (sx ((i0 + 1)).toNat), .int (sx ((i0 + 2)).toNat), .int (sx ((i0 + 3)).toNat), .int (sx ((i0 + 4)).toNat)]) (st := []) (wc := (xW K a G)) (wr := (yW K b G2)) F (fun sz => S_X11_bestTeeth l D K a G (sx ((i0 + 1)).toNat) (sx ((i0 + 1)).toNat).toInt (sx ((i0 + 2)).toNat) (sx ((i0 + 2)).toNat).toInt (sx ((i0 + 3)).toNat) (sx ((i0 + 3)).toNat).toInt (sx ((i0 + 4)).toNat) (sx ((i0 + 4)).toNat).toInt rfl rfl rfl rfl hxI sz) (cwV 4 hts gL_law_X11_bestTeeth rfl rfl rfl (by decide +kernel) ⟨Nat.le_of_ble_eq_true rfl, Nat.le_of_ble_eq_true rfl⟩) rfl 0 xc_0 rfl (Nat.le_of_ble_eq_true rfl) ⟨Nat.le_of_ble_eq_true rfl, Nat.le_of_ble_eq_true rfl⟩ dL_law_882 (fun r5 G_6 hw7 => ?_)
  have hI8 : xI G_6 := hw7.1
  have hU9 : gu_un xcd [602, 603, 604, 605, 607, 608, 613, 614, 615, 616, 617, 618, 619, 620, 2100, 2400, 2700, 4400, 4500, 4600, 4700, 4800] G G_6 := hw7.2.1
  have q10 := hw7.2.2
  have f11 : xF3 G_6 := xF3.un hf3 hU9 rfl rfl rfl
  have w_12 : G_6 17 = G 17 := funext fun k_ => hU9 17 k_ (by simp [xcd, ycd])
  have w_13 : G_6 88 = G 88 := funext fun k_ => hU9 88 k_ (by simp [xcd, ycd])
  have t14 : G_6 10 2 = G 10 2 := hU9 10 2 (by decide)
  have t14i := congrArg Int32.toInt t14
  have t15 : G_6 1 1 = G 1 1 := hU9 1 1 (by decide)
  have t15i := congrArg Int32.toInt t15
  have t16 : G_6 0 12 = G 0 12 := hU9 0 12 (by decide)
  have t16i := congrArg Int32.toInt t16
  have t17 : G_6 0 13 = G 0 13 := hU9 0 13 (by decide)
  have t17i := congrArg Int32.toInt t17
  have t18 : G_6 8 3 = G 8 3 := hU9 8 3 (by decide)
  have t18i := congrArg Int32.toInt t18
  have lG19 := lG.un hlG hU9 rfl
  have lNu20 := lNu.unx hlN hU9 rfl
  refine g_pop F dL_law_885 rfl ?_
  refine g_aload_n F 1 dL_law_886 rfl rfl ?_
  refine g_aload_n F 3 dL_law_887 rfl rfl ?_
  refine g_iload_n F 0 dL_law_888 rfl rfl ?_
  refine g_iconst F 1 dL_law_889 (by decide) ?_
  refine u_iadd F dL_law_890 i0 1 ei rfl (by omega) (by omega) (fun y21 ey21 => ?_)
  refine g_sld F hX hbl hbA ((i0 + 1)).toNat (congrArg Int.toNat (show y21.toInt = (i0 + 1) by omega)) (ti_in rfl (by omega) (by omega)) dL_law_891 ?_
  refine g_aload_n F 3 dL_law_892 rfl rfl ?_
  refine g_iload_n F 0 dL_law_893 rfl rfl ?_
  refine g_iconst F 2 dL_law_894 (by decide) ?_
  refine u_iadd F dL_law_895 i0 2 ei rfl (by omega) (by omega) (fun y22 ey22 => ?_)
  refine g_sld F hX hbl hbA ((i0 + 2)).toNat (congrArg Int.toNat (show y22.toInt = (i0 + 2) by omega)) (ti_in rfl (by omega) (by omega)) dL_law_896 ?_
  refine g_aload_n F 3 dL_law_897 rfl rfl ?_
  refine g_iload_n F 0 dL_law_898 rfl rfl ?_
  refine g_iconst F 3 dL_law_899 (by decide) ?_
  refine u_iadd F dL_law_900 i0 3 ei rfl (by omega) (by omega) (fun y23 ey23 => ?_)
  refine g_sld F hX hbl hbA ((i0 + 3)).toNat (congrArg Int.toNat (show y23.toInt = (i0 + 3) by omega)) (ti_in rfl (by omega) (by omega)) dL_law_901 ?_
  refine g_aload_n F 3 dL_law_902 rfl rfl ?_
  refine g_iload_n F 0 dL_law_903 rfl rfl ?_
  refine g_iconst F 4 dL_law_904 (by decide) ?_
  refine u_iadd F dL_law_905 i0 4 ei rfl (by omega) (by omega) (fun y24 ey24 => ?_)
  refine g_sld F hX hbl hbA ((i0 + 4)).toNat (congrArg Int.toNat (show y24.toInt = (i0 + 4) by omega)) (ti_in rfl (by omega) (by omega)) dL_law_906 ?_
  refine u2_callVi (k := 139) (n := 10449) (b := b 0) (As := [.int (sx ((i0 + 1)).toNat), .int (sx ((i0 + 2)).toNat), .int (sx ((i0 + 3)).toNat), .int (sx ((i0 + 4)).toNat)]) (st := []) (wc := (yW K b G2)) (wr := (xW K a G_6)) F (fun sz => S_X13_bestTeeth l D K b G2 (sx ((i0 + 1)).toNat) (sx ((i0 + 1)).toNat).toInt (sx ((i0 + 2)).toNat) (sx ((i0 + 2)).toNat).toInt (sx ((i0 + 3)).toNat) (sx ((i0 + 3)).toNat).toInt (sx ((i0 + 4)).toNat) (sx ((i0 + 4)).toNat).toInt rfl rfl rfl rfl h_w3 (by omega) hyI sz) (cwV 4 hts gL_law_X13_bestTeeth rfl rfl rfl (by decide +kernel) ⟨Nat.le_of_ble_eq_true rfl, Nat.le_of_ble_eq_true rfl⟩) rfl 0 yc_0 rfl (Nat.le_of_ble_eq_true rfl) ⟨Nat.le_of_ble_eq_true rfl, Nat.le_of_ble_eq_true rfl⟩ dL_law_907 (fun r25 G_26 hw27 => ?_)
  have hI28 : yI G_26 := hw27.1
  have hU29 : gu_un ycd [29, 33, 36, 37, 300, 500, 1300, 1400, 1500, 1600, 1700, 1800, 1900, 2000, 2100, 2700] G2 G_26 := hw27.2.1
  have q30 := hw27.2.2.2.1
  have q31 := hw27.2.2.2.2.1
  have q32 := hw27.2.2.2.2.2
  have w33 : yW3 G_26 := yW3.un h_w3 hU29 rfl
  have w_34 : G_26 2 = G2 2 := funext fun k_ => hU29 2 k_ (by simp [xcd, ycd])
  have w_35 : G_26 46 = G2 46 := funext fun k_ => hU29 46 k_ (by simp [xcd, ycd])
  have t36 : G_26 0 72 = G2 0 72 := hU29 0 72 (by decide)
  have t36i := congrArg Int32.toInt t36
  have t37 : G_26 0 2 = G2 0 2 := hU29 0 2 (by decide)
  have t37i := congrArg Int32.toInt t37
  have t38 : G_26 0 8 = G2 0 8 := hU29 0 8 (by decide)
  have t38i := congrArg Int32.toInt t38
  have t39 : G_26 0 9 = G2 0 9 := hU29 0 9 (by decide)
  have t39i := congrArg Int32.toInt t39
  have t40 : G_26 0 45 = G2 0 45 := hU29 0 45 (by decide)
  have t40i := congrArg Int32.toInt t40
  have lNu41 := lNu.rs hyI lNu20 hU29 rfl q32
  have hr0 : (G 18 0).toInt = (G2 3 0).toInt := congrArg Int32.toInt (hlN.1.1 0 (by decide))
  have hr1 : (G 18 1).toInt = (G2 3 1).toInt := congrArg Int32.toInt (hlN.1.1 1 (by decide))
  have hb0 : (4 : Int) ≤ (G 18 0).toInt ∧ (G 18 0).toInt ≤ 16 := hxI 18 0
  have hb1 : (1 : Int) ≤ (G 18 1).toInt ∧ (G 18 1).toInt ≤ 6 := hxI 18 1
  have pB42 : pcB (xPc G_6) (yPc G_26) := pcB.go hpB (pcB.xun hU9 rfl) (pcB.nh q30 (hU29 0 29 (by decide)))
  have pK43 : pcK (xPc G_6) (yPc G_26) := pcK.go hpK (pcK.xun hU9 rfl) (pcK.yun hU29 rfl)
  refine g_pop F dL_law_910 rfl ?_
  refine g_goto F 1385 dL_law_911 (by decide) ?_
  exact kE G_6 G_26 ⟨hI8, hI28, f11, w33, by omega, by omega, fun i hi => by first | (exfalso; omega) | (rw [w_34, w_12]; exact htb i (by omega)), by omega, fun i hi => by rw [w_35, w_13]; exact hsr i (by omega), by omega, by omega, lNu41, by omega, lG19, by omega, pB42, pK43⟩
