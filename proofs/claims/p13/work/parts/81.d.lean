set_option maxRecDepth 20000 in
theorem ggL_law_X11_job : GoodIn wsL_law wsX11_job := goodIn_rn _ [(1186, 1), (32, 1), (40, 1), (806, 3), (31, 1), (809, 5), (130, 1), (814, 1), (758, 2), (18, 1), (760, 1), (61, 1), (1187, 3), (39, 1), (1190, 1), (580, 1), (147, 1), (581, 1), (1440, 14), (1549, 20), (1533, 4), (1577, 12)] rfl (by decide +kernel)
set_option maxRecDepth 20000 in
theorem gL_law_X11_job : GoodIn wsL_law (wsV RL 100 RX11 yX11_job wsX11_job) := goodIn_app (goodIn_of _ (by decide +kernel)) ggL_law_X11_job
set_option maxRecDepth 20000 in
theorem ggL_law_X13_job : GoodIn wsL_law wsX13_job := goodIn_rn _ [(1194, 1), (594, 1), (207, 4), (595, 1), (901, 3), (5, 1), (904, 2), (705, 1), (906, 1), (773, 4), (181, 1), (280, 3), (1454, 73)] rfl (by decide +kernel)
set_option maxRecDepth 20000 in
theorem gL_law_X13_job : GoodIn wsL_law (wsV RL 103 RX13 yX13_job wsX13_job) := goodIn_app (goodIn_of _ (by decide +kernel)) ggL_law_X13_job
set_option maxHeartbeats 4000000 in
set_option maxRecDepth 100000 in
theorem law_c20 {p : Program} {e : Env} {s : State} {m : MethodId} {args : Array Value} {below : List Frame} {meth : Method} {c : Code} {A : Nat → Prop} {Q : State → Prop} (l : Launch) (D : va_G) (F : gF p s m args meth c cL_law RL 4 wsL_law A) (hts0 : ∀ w ∈ wsL_t, w.before args s = true) {zf : Nat → Nat} (hZ : xZ zf A s s.heap) {qs vs : Nat → Nat} (hY : yZ qs vs A s s.heap) {sb L : Nat} {sx : Nat → Int32} (hX : va_X sb L sx s s.heap) (hbl : sb < s.heap.size) (hbA : ¬ A sb) (hL : L ≤ 3584) (K : Nat → ClassId) (a b : Nat → Nat) (G G2 : gS) (hl : lI G G2) (i : Int32) (i0 : Int) (ei : i.toInt = i0) (h0 : 0 ≤ i0) (h7 : i0 + 7 ≤ L) (kE : ∀ G1 G3 : gS, lI G1 G3 → gG p l e (gR 2048 601024 7293033 84000) s m args below meth c D A 4 Q 139 10449 (xW K a G1 ++ yW K b G3) (tK K) [(3, .int i), (2, .ref (b 0)), (1, .ref (a 0)), (0, .ref sb)] 1385 []) : gG p l e (gR 2048 601024 7293033 84000) s m args below meth c D A 4 Q 139 10449 (xW K a G ++ yW K b G2) (tK K) [(3, .int i), (2, .ref (b 0)), (1, .ref (a 0)), (0, .ref sb)] 914 [] := by
  have hts := F.2.2.2.2.1
  obtain ⟨hxI, hyI, hf3, h_w3, hd0, heq, htb, hsc, hsr, hfk, hfp, hlN, hjm, hlG, h66, hpB, hpK⟩ := hl
  refine g_aload_n F 2 dL_law_914 rfl rfl ?_
  refine g_aload_n F 3 dL_law_915 rfl rfl ?_
  refine g_iload_n F 0 dL_law_916 rfl rfl ?_
  refine g_iconst F 1 dL_law_917 (by decide) ?_
  refine u_iadd F dL_law_918 i0 1 ei rfl (by omega) (by omega) (fun y1 ey1 => ?_)
  refine g_sld F hX hbl hbA ((i0 + 1)).toNat (congrArg Int.toNat (show y1.toInt = (i0 + 1) by omega)) (ti_in rfl (by omega) (by omega)) dL_law_919 ?_
  refine g_aload_n F 3 dL_law_920 rfl rfl ?_
  refine g_iload_n F 0 dL_law_921 rfl rfl ?_
  refine g_iconst F 2 dL_law_922 (by decide) ?_
  refine u_iadd F dL_law_923 i0 2 ei rfl (by omega) (by omega) (fun y2 ey2 => ?_)
  refine g_sld F hX hbl hbA ((i0 + 2)).toNat (congrArg Int.toNat (show y2.toInt = (i0 + 2) by omega)) (ti_in rfl (by omega) (by omega)) dL_law_924 ?_
  refine g_aload_n F 3 dL_law_925 rfl rfl ?_
  refine g_iload_n F 0 dL_law_926 rfl rfl ?_
  refine g_iconst F 3 dL_law_927 (by decide) ?_
  refine u_iadd F dL_law_928 i0 3 ei rfl (by omega) (by omega) (fun y3 ey3 => ?_)
  refine g_sld F hX hbl hbA ((i0 + 3)).toNat (congrArg Int.toNat (show y3.toInt = (i0 + 3) by omega)) (ti_in rfl (by omega) (by omega)) dL_law_929 ?_
  refine g_aload_n F 3 dL_law_930 rfl rfl ?_
  refine g_iload_n F 0 dL_law_931 rfl rfl ?_
  refine g_iconst F 4 dL_law_932 (by decide) ?_
  refine u_iadd F dL_law_933 i0 4 ei rfl (by omega) (by omega) (fun y4 ey4 => ?_)
  refine g_sld F hX hbl hbA ((i0 + 4)).toNat (congrArg Int.toNat (show y4.toInt = (i0 + 4) by omega)) (ti_in rfl (by omega) (by omega)) dL_law_934 ?_
  refine u2_callVi (k := 139) (n := 10449) (b := a 0) (As := [.int (sx ((i0 + 1)).toNat), .int (sx ((i0 + 2)).toNat), .int (sx ((i0 + 3)).toNat), .int (sx ((i0 + 4)).toNat)]) (st := []) (wc := (xW K a G)) (wr := (yW K b G2)) F (fun sz => S_X11_job l D K a G (sx ((i0 + 1)).toNat) (sx ((i0 + 1)).toNat).toInt (sx ((i0 + 2)).toNat) (sx ((i0 + 2)).toNat).toInt (sx ((i0 + 3)).toNat) (sx ((i0 + 3)).toNat).toInt (sx ((i0 + 4)).toNat) (sx ((i0 + 4)).toNat).toInt rfl rfl rfl rfl hxI sz) (cwV 4 hts gL_law_X11_job rfl rfl rfl (by decide +kernel) ⟨Nat.le_of_ble_eq_true rfl, Nat.le_of_ble_eq_true rfl⟩) rfl 0 xc_0 rfl (Nat.le_of_ble_eq_true rfl) ⟨Nat.le_of_ble_eq_true rfl, Nat.le_of_ble_eq_true rfl⟩ dL_law_935 (fun r5 G_6 hw7 => ?_)
  have hI8 : xI G_6 := hw7.1
  have hU9 : gu_un xcd [602, 603, 604, 605, 804, 809, 5400, 5500, 5600, 5700] G G_6 := hw7.2.1
  have q10 := hw7.2.2.2
  have f11 : xF3 G_6 := xF3.un hf3 hU9 rfl rfl rfl
  have w_12 : G_6 17 = G 17 := funext fun k_ => hU9 17 k_ (by simp [xcd, ycd])
  have w_13 : G_6 88 = G 88 := funext fun k_ => hU9 88 k_ (by simp [xcd, ycd])
  have t14 : G_6 10 2 = G 10 2 := hU9 10 2 (by decide)
  have t14i := congrArg Int32.toInt t14
  have t15 : G_6 1 1 = G 1 1 := hU9 1 1 (by decide)
  have t15i := congrArg Int32.toInt t15
  have t16 : G_6 0 12 = G 0 12 := hU9 0 12 (by decide)
  have t16i := congrArg Int32.toInt t16
  have t17 : G_6 0 13 = G 0 13 := hU9 0 13 (by decide)
  have t17i := congrArg Int32.toInt t17
  have t18 : G_6 6 6 = G 6 6 := hU9 6 6 (by decide)
  have t18i := congrArg Int32.toInt t18
  have lG19 := lG.un hlG hU9 rfl
  have lNu20 := lNu.unx hlN hU9 rfl
  refine g_pop F dL_law_938 rfl ?_
  refine g_aload_n F 1 dL_law_939 rfl rfl ?_
  refine g_aload_n F 3 dL_law_940 rfl rfl ?_
  refine g_iload_n F 0 dL_law_941 rfl rfl ?_
  refine g_iconst F 1 dL_law_942 (by decide) ?_
  refine u_iadd F dL_law_943 i0 1 ei rfl (by omega) (by omega) (fun y21 ey21 => ?_)
  refine g_sld F hX hbl hbA ((i0 + 1)).toNat (congrArg Int.toNat (show y21.toInt = (i0 + 1) by omega)) (ti_in rfl (by omega) (by omega)) dL_law_944 ?_
  refine g_aload_n F 3 dL_law_945 rfl rfl ?_
  refine g_iload_n F 0 dL_law_946 rfl rfl ?_
  refine g_iconst F 2 dL_law_947 (by decide) ?_
  refine u_iadd F dL_law_948 i0 2 ei rfl (by omega) (by omega) (fun y22 ey22 => ?_)
  refine g_sld F hX hbl hbA ((i0 + 2)).toNat (congrArg Int.toNat (show y22.toInt = (i0 + 2) by omega)) (ti_in rfl (by omega) (by omega)) dL_law_949 ?_
  refine g_aload_n F 3 dL_law_950 rfl rfl ?_
  refine g_iload_n F 0 dL_law_951 rfl rfl ?_
  refine g_iconst F 3 dL_law_952 (by decide) ?_
  refine u_iadd F dL_law_953 i0 3 ei rfl (by omega) (by omega) (fun y23 ey23 => ?_)
  refine g_sld F hX hbl hbA ((i0 + 3)).toNat (congrArg Int.toNat (show y23.toInt = (i0 + 3) by omega)) (ti_in rfl (by omega) (by omega)) dL_law_954 ?_
  refine g_aload_n F 3 dL_law_955 rfl rfl ?_
  refine g_iload_n F 0 dL_law_956 rfl rfl ?_
  refine g_iconst F 4 dL_law_957 (by decide) ?_
  refine u_iadd F dL_law_958 i0 4 ei rfl (by omega) (by omega) (fun y24 ey24 => ?_)
  refine g_sld F hX hbl hbA ((i0 + 4)).toNat (congrArg Int.toNat (show y24.toInt = (i0 + 4) by omega)) (ti_in rfl (by omega) (by omega)) dL_law_959 ?_
  refine u2_callVi (k := 139) (n := 10449) (b := b 0) (As := [.int (sx ((i0 + 1)).toNat), .int (sx ((i0 + 2)).toNat), .int (sx ((i0 + 3)).toNat), .int (sx ((i0 + 4)).toNat)]) (st := []) (wc := (yW K b G2)) (wr := (xW K a G_6)) F (fun sz => S_X13_job l D K b G2 (sx ((i0 + 1)).toNat) (sx ((i0 + 1)).toNat).toInt (sx ((i0 + 2)).toNat) (sx ((i0 + 2)).toNat).toInt (sx ((i0 + 3)).toNat) (sx ((i0 + 3)).toNat).toInt (sx ((i0 + 4)).toNat) (sx ((i0 + 4)).toNat).toInt rfl rfl rfl rfl hyI sz) (cwV 4 hts gL_law_X13_job rfl rfl rfl (by decide +kernel) ⟨Nat.le_of_ble_eq_true rfl, Nat.le_of_ble_eq_true rfl⟩) rfl 0 yc_0 rfl (Nat.le_of_ble_eq_true rfl) ⟨Nat.le_of_ble_eq_true rfl, Nat.le_of_ble_eq_true rfl⟩ dL_law_960 (fun r25 G_26 hw27 => ?_)
  have hI28 : yI G_26 := hw27.1
  have hU29 : gu_un ycd [46, 54, 2800, 2900, 3000, 3100] G2 G_26 := hw27.2.1
  have q30 := hw27.2.2.2
  have w31 : yW3 G_26 := yW3.un h_w3 hU29 rfl
  have w_32 : G_26 2 = G2 2 := funext fun k_ => hU29 2 k_ (by simp [xcd, ycd])
  have w_33 : G_26 46 = G2 46 := funext fun k_ => hU29 46 k_ (by simp [xcd, ycd])
  have t34 : G_26 0 72 = G2 0 72 := hU29 0 72 (by decide)
  have t34i := congrArg Int32.toInt t34
  have t35 : G_26 0 2 = G2 0 2 := hU29 0 2 (by decide)
  have t35i := congrArg Int32.toInt t35
  have t36 : G_26 0 32 = G2 0 32 := hU29 0 32 (by decide)
  have t36i := congrArg Int32.toInt t36
  have t37 : G_26 0 8 = G2 0 8 := hU29 0 8 (by decide)
  have t37i := congrArg Int32.toInt t37
  have t38 : G_26 0 9 = G2 0 9 := hU29 0 9 (by decide)
  have t38i := congrArg Int32.toInt t38
  have lNu39 := lNu.uny lNu20 hU29 rfl
  have hring : (G 18 1).toInt = (G2 3 1).toInt := congrArg Int32.toInt (hlN.1.1 1 (by decide))
  have hr0 : (G 18 0).toInt = (G2 3 0).toInt := congrArg Int32.toInt (hlN.1.1 0 (by decide))
  have hr1 : (G 18 1).toInt = (G2 3 1).toInt := congrArg Int32.toInt (hlN.1.1 1 (by decide))
  have hb0 : (4 : Int) ≤ (G 18 0).toInt ∧ (G 18 0).toInt ≤ 16 := hxI 18 0
  have hb1 : (1 : Int) ≤ (G 18 1).toInt ∧ (G 18 1).toInt ≤ 6 := hxI 18 1
  have pB40 : pcB (xPc G_6) (yPc G_26) := pcB.go hpB (pcB.xun hU9 rfl) (pcB.yun hU29 rfl)
  have pK41 : pcK (xPc G_6) (yPc G_26) := pcK.go hpK (pcK.xun hU9 rfl) (pcK.yun hU29 rfl)
  refine g_pop F dL_law_963 rfl ?_
  refine g_goto F 1385 dL_law_964 (by decide) ?_
  exact kE G_6 G_26 ⟨hI8, hI28, f11, w31, by omega, by omega, fun i hi => by first | (exfalso; omega) | (rw [w_32, w_12]; exact htb i (by omega)), by omega, fun i hi => by rw [w_33, w_13]; exact hsr i (by omega), by omega, by omega, lNu39, by omega, lG19, by omega, pB40, pK41⟩
set_option maxRecDepth 20000 in
theorem ggL_law_X11_order : GoodIn wsL_law wsX11_order := goodIn_rn _ [(1198, 1), (40, 1), (815, 2), (31, 1), (817, 1), (1199, 3), (39, 1), (1202, 1), (580, 1), (1203, 7), (152, 1), (1210, 1), (148, 1), (1211, 1), (80, 3), (149, 1), (1212, 5), (581, 1), (150, 2), (153, 1), (1217, 5), (147, 1), (1222, 2), (807, 7), (130, 1), (814, 1), (758, 2), (18, 1), (760, 1), (61, 1), (1224, 1), (819, 4), (126, 1), (823, 5), (762, 1), (27, 1), (763, 1), (828, 5), (360, 3), (833, 5), (364, 2), (838, 8), (127, 1), (846, 12), (125, 1), (858, 1), (84, 3), (859, 6), (128, 2), (865, 5), (715, 2), (64, 1), (717, 1), (91, 1), (71, 2), (718, 3), (870, 15), (1225, 1), (983, 3), (1440, 14), (1577, 12), (1544, 25), (1533, 4), (1602, 9)] rfl (by decide +kernel)
set_option maxRecDepth 20000 in
theorem gL_law_X11_order : GoodIn wsL_law (wsV RL 104 RX11 yX11_order wsX11_order) := goodIn_app (goodIn_of _ (by decide +kernel)) ggL_law_X11_order
set_option maxRecDepth 20000 in
theorem ggL_law_X13_order : GoodIn wsL_law wsX13_order := goodIn_rn _ [(1229, 1), (594, 1), (942, 1), (1230, 1), (213, 1), (212, 1), (595, 1), (907, 2), (5, 1), (909, 2), (280, 3), (1231, 4), (211, 1), (207, 1), (209, 2), (208, 1), (200, 1), (911, 8), (193, 1), (181, 1), (919, 1), (360, 3), (777, 3), (924, 4), (198, 1), (928, 1), (199, 1), (247, 1), (929, 6), (185, 1), (935, 7), (659, 1), (364, 2), (943, 8), (183, 1), (194, 4), (951, 4), (726, 4), (191, 1), (190, 1), (189, 1), (192, 1), (730, 3), (955, 8), (1454, 73)] rfl (by decide +kernel)
set_option maxRecDepth 20000 in
theorem gL_law_X13_order : GoodIn wsL_law (wsV RL 107 RX13 yX13_order wsX13_order) := goodIn_app (goodIn_of _ (by decide +kernel)) ggL_law_X13_order
set_option maxHeartbeats 4000000 in
set_option maxRecDepth 100000 in
theorem law_c21 {p : Program} {e : Env} {s : State} {m : MethodId} {args : Array Value} {below : List Frame} {meth : Method} {c : Code} {A : Nat → Prop} {Q : State → Prop} (l : Launch) (D : va_G) (F : gF p s m args meth c cL_law RL 4 wsL_law A) (hts0 : ∀ w ∈ wsL_t, w.before args s = true) {zf : Nat → Nat} (hZ : xZ zf A s s.heap) {qs vs : Nat → Nat} (hY : yZ qs vs A s s.heap) {sb L : Nat} {sx : Nat → Int32} (hX : va_X sb L sx s s.heap) (hbl : sb < s.heap.size) (hbA : ¬ A sb) (hL : L ≤ 3584) (K : Nat → ClassId) (a b : Nat → Nat) (G G2 : gS) (hl : lI G G2) (i : Int32) (i0 : Int) (ei : i.toInt = i0) (h0 : 0 ≤ i0) (h7 : i0 + 7 ≤ L) (kE : ∀ G1 G3 : gS, lI G1 G3 → gG p l e (gR 2048 601024 7293033 84000) s m args below meth c D A 4 Q 139 10449 (xW K a G1 ++ yW K b G3) (tK K) [(3, .int i), (2, .ref (b 0)), (1, .ref (a 0)), (0, .ref sb)] 1385 []) : gG p l e (gR 2048 601024 7293033 84000) s m args below meth c D A 4 Q 139 10449 (xW K a G ++ yW K b G2) (tK K) [(3, .int i), (2, .ref (b 0)), (1, .ref (a 0)), (0, .ref sb)] 967 [] := by
  have hts := F.2.2.2.2.1
  obtain ⟨hxI, hyI, hf3, h_w3, hd0, heq, htb, hsc, hsr, hfk, hfp, hlN, hjm, hlG, h66, hpB, hpK⟩ := hl
  refine g_aload_n F 2 dL_law_967 rfl rfl ?_
  refine g_aload_n F 3 dL_law_968 rfl rfl ?_
  refine g_iload_n F 0 dL_law_969 rfl rfl ?_
  refine g_iconst F 1 dL_law_970 (by decide) ?_
  refine u_iadd F dL_law_971 i0 1 ei rfl (by omega) (by omega) (fun y1 ey1 => ?_)
  refine g_sld F hX hbl hbA ((i0 + 1)).toNat (congrArg Int.toNat (show y1.toInt = (i0 + 1) by omega)) (ti_in rfl (by omega) (by omega)) dL_law_972 ?_
  refine g_aload_n F 3 dL_law_973 rfl rfl ?_
  refine g_iload_n F 0 dL_law_974 rfl rfl ?_
  refine g_iconst F 2 dL_law_975 (by decide) ?_
  refine u_iadd F dL_law_976 i0 2 ei rfl (by omega) (by omega) (fun y2 ey2 => ?_)
  refine g_sld F hX hbl hbA ((i0 + 2)).toNat (congrArg Int.toNat (show y2.toInt = (i0 + 2) by omega)) (ti_in rfl (by omega) (by omega)) dL_law_977 ?_
  refine u2_callVi (k := 139) (n := 10449) (b := a 0) (As := [.int (sx ((i0 + 1)).toNat), .int (sx ((i0 + 2)).toNat)]) (st := []) (wc := (xW K a G)) (wr := (yW K b G2)) F (fun sz => S_X11_order l D K a G (sx ((i0 + 1)).toNat) (sx ((i0 + 1)).toNat).toInt (sx ((i0 + 2)).toNat) (sx ((i0 + 2)).toNat).toInt rfl rfl hxI sz) (cwV 2 hts gL_law_X11_order rfl rfl rfl (by decide +kernel) ⟨Nat.le_of_ble_eq_true rfl, Nat.le_of_ble_eq_true rfl⟩) rfl 0 xc_0 rfl (Nat.le_of_ble_eq_true rfl) ⟨Nat.le_of_ble_eq_true rfl, Nat.le_of_ble_eq_true rfl⟩ dL_law_978 (fun r3 G_4 hw5 => ?_)
  have hI6 : xI G_4 := hw5.1
  have hU7 : gu_un xcd [602, 603, 604, 605, 608, 613, 614, 615, 616, 617, 618, 619, 620, 809, 810, 811, 812, 2100, 2400, 2700, 4400, 4500, 4600, 4700, 4800, 5900, 6000, 6100, 6200, 6300, 6400, 6500, 6600, 6700] G G_4 := hw5.2
  have f8 : xF3 G_4 := xF3.un hf3 hU7 rfl rfl rfl
  have w_9 : G_4 17 = G 17 := funext fun k_ => hU7 17 k_ (by simp [xcd, ycd])
  have w_10 : G_4 88 = G 88 := funext fun k_ => hU7 88 k_ (by simp [xcd, ycd])
  have t11 : G_4 10 2 = G 10 2 := hU7 10 2 (by decide)
  have t11i := congrArg Int32.toInt t11
  have t12 : G_4 1 1 = G 1 1 := hU7 1 1 (by decide)
  have t12i := congrArg Int32.toInt t12
  have t13 : G_4 0 12 = G 0 12 := hU7 0 12 (by decide)
  have t13i := congrArg Int32.toInt t13
  have t14 : G_4 0 13 = G 0 13 := hU7 0 13 (by decide)
  have t14i := congrArg Int32.toInt t14
  have t15 : G_4 8 3 = G 8 3 := hU7 8 3 (by decide)
  have t15i := congrArg Int32.toInt t15
  have t16 : G_4 6 6 = G 6 6 := hU7 6 6 (by decide)
  have t16i := congrArg Int32.toInt t16
  have lG17 := lG.un hlG hU7 rfl
  have lNu18 := lNu.unx hlN hU7 rfl
  refine g_pop F dL_law_981 rfl ?_
  refine g_aload_n F 1 dL_law_982 rfl rfl ?_
  refine g_aload_n F 3 dL_law_983 rfl rfl ?_
  refine g_iload_n F 0 dL_law_984 rfl rfl ?_
  refine g_iconst F 1 dL_law_985 (by decide) ?_
  refine u_iadd F dL_law_986 i0 1 ei rfl (by omega) (by omega) (fun y19 ey19 => ?_)
  refine g_sld F hX hbl hbA ((i0 + 1)).toNat (congrArg Int.toNat (show y19.toInt = (i0 + 1) by omega)) (ti_in rfl (by omega) (by omega)) dL_law_987 ?_
  refine g_aload_n F 3 dL_law_988 rfl rfl ?_
  refine g_iload_n F 0 dL_law_989 rfl rfl ?_
  refine g_iconst F 2 dL_law_990 (by decide) ?_
  refine u_iadd F dL_law_991 i0 2 ei rfl (by omega) (by omega) (fun y20 ey20 => ?_)
  refine g_sld F hX hbl hbA ((i0 + 2)).toNat (congrArg Int.toNat (show y20.toInt = (i0 + 2) by omega)) (ti_in rfl (by omega) (by omega)) dL_law_992 ?_
  refine u2_callVi (k := 139) (n := 10449) (b := b 0) (As := [.int (sx ((i0 + 1)).toNat), .int (sx ((i0 + 2)).toNat)]) (st := []) (wc := (yW K b G2)) (wr := (xW K a G_4)) F (fun sz => S_X13_order l D K b G2 (sx ((i0 + 1)).toNat) (sx ((i0 + 1)).toNat).toInt (sx ((i0 + 2)).toNat) (sx ((i0 + 2)).toNat).toInt rfl rfl h_w3 (by omega) hyI sz) (cwV 2 hts gL_law_X13_order rfl rfl rfl (by decide +kernel) ⟨Nat.le_of_ble_eq_true rfl, Nat.le_of_ble_eq_true rfl⟩) rfl 0 yc_0 rfl (Nat.le_of_ble_eq_true rfl) ⟨Nat.le_of_ble_eq_true rfl, Nat.le_of_ble_eq_true rfl⟩ dL_law_993 (fun r21 G_22 hw23 => ?_)
  have hI24 : yI G_22 := hw23.1
  have hU25 : gu_un ycd [29, 33, 36, 37, 47, 54, 1300, 1400, 1500, 1600, 1700, 1800, 1900, 2000, 2100, 3200, 3300, 3400] G2 G_22 := hw23.2.1
  have q26 := hw23.2.2.1
  have q27 := hw23.2.2.2
  have w28 : yW3 G_22 := yW3.un h_w3 hU25 rfl
  have w_29 : G_22 2 = G2 2 := funext fun k_ => hU25 2 k_ (by simp [xcd, ycd])
  have w_30 : G_22 46 = G2 46 := funext fun k_ => hU25 46 k_ (by simp [xcd, ycd])
  have t31 : G_22 0 72 = G2 0 72 := hU25 0 72 (by decide)
  have t31i := congrArg Int32.toInt t31
  have t32 : G_22 0 2 = G2 0 2 := hU25 0 2 (by decide)
  have t32i := congrArg Int32.toInt t32
  have t33 : G_22 0 8 = G2 0 8 := hU25 0 8 (by decide)
  have t33i := congrArg Int32.toInt t33
  have t34 : G_22 0 9 = G2 0 9 := hU25 0 9 (by decide)
  have t34i := congrArg Int32.toInt t34
  have t35 : G_22 0 45 = G2 0 45 := hU25 0 45 (by decide)
  have t35i := congrArg Int32.toInt t35
  have lNu36 := lNu.uny lNu18 hU25 rfl
  have hr0 : (G 18 0).toInt = (G2 3 0).toInt := congrArg Int32.toInt (hlN.1.1 0 (by decide))
  have hr1 : (G 18 1).toInt = (G2 3 1).toInt := congrArg Int32.toInt (hlN.1.1 1 (by decide))
  have hb0 : (4 : Int) ≤ (G 18 0).toInt ∧ (G 18 0).toInt ≤ 16 := hxI 18 0
  have hb1 : (1 : Int) ≤ (G 18 1).toInt ∧ (G 18 1).toInt ≤ 6 := hxI 18 1
  have pB37 : pcB (xPc G_4) (yPc G_22) := pcB.go hpB (pcB.xun hU7 rfl) (pcB.nh q26 (hU25 0 29 (by decide)))
  have pK38 : pcK (xPc G_4) (yPc G_22) := pcK.go hpK (pcK.xun hU7 rfl) (pcK.yun hU25 rfl)
  refine g_pop F dL_law_996 rfl ?_
  refine g_goto F 1385 dL_law_997 (by decide) ?_
  exact kE G_4 G_22 ⟨hI6, hI24, f8, w28, by omega, by omega, fun i hi => by first | (exfalso; omega) | (rw [w_29, w_9]; exact htb i (by omega)), by omega, fun i hi => by rw [w_30, w_10]; exact hsr i (by omega), by omega, by omega, lNu36, by omega, lG17, by omega, pB37, pK38⟩
set_option maxRecDepth 20000 in
theorem ggL_law_X11_ordered : GoodIn wsL_law wsX11_ordered := goodIn_rn _ [(1238, 1), (40, 1), (1239, 3), (39, 1), (1242, 1), (581, 1), (151, 1), (1440, 14), (1577, 12)] rfl (by decide +kernel)
set_option maxRecDepth 20000 in
theorem gL_law_X11_ordered : GoodIn wsL_law (wsV RL 108 RX11 yX11_ordered wsX11_ordered) := goodIn_app (goodIn_of _ (by decide +kernel)) ggL_law_X11_ordered
set_option maxRecDepth 20000 in
theorem ggL_law_X13_ordered : GoodIn wsL_law wsX13_ordered := goodIn_rn _ [(1246, 1), (595, 1), (594, 1), (213, 1), (280, 2), (5, 1), (282, 1), (1454, 73)] rfl (by decide +kernel)
set_option maxRecDepth 20000 in
theorem gL_law_X13_ordered : GoodIn wsL_law (wsV RL 111 RX13 yX13_ordered wsX13_ordered) := goodIn_app (goodIn_of _ (by decide +kernel)) ggL_law_X13_ordered
set_option maxHeartbeats 4000000 in
set_option maxRecDepth 100000 in
theorem law_c22 {p : Program} {e : Env} {s : State} {m : MethodId} {args : Array Value} {below : List Frame} {meth : Method} {c : Code} {A : Nat → Prop} {Q : State → Prop} (l : Launch) (D : va_G) (F : gF p s m args meth c cL_law RL 4 wsL_law A) (hts0 : ∀ w ∈ wsL_t, w.before args s = true) {zf : Nat → Nat} (hZ : xZ zf A s s.heap) {qs vs : Nat → Nat} (hY : yZ qs vs A s s.heap) {sb L : Nat} {sx : Nat → Int32} (hX : va_X sb L sx s s.heap) (hbl : sb < s.heap.size) (hbA : ¬ A sb) (hL : L ≤ 3584) (K : Nat → ClassId) (a b : Nat → Nat) (G G2 : gS) (hl : lI G G2) (i : Int32) (i0 : Int) (ei : i.toInt = i0) (h0 : 0 ≤ i0) (h7 : i0 + 7 ≤ L) (kE : ∀ G1 G3 : gS, lI G1 G3 → gG p l e (gR 2048 601024 7293033 84000) s m args below meth c D A 4 Q 139 10449 (xW K a G1 ++ yW K b G3) (tK K) [(3, .int i), (2, .ref (b 0)), (1, .ref (a 0)), (0, .ref sb)] 1385 []) : gG p l e (gR 2048 601024 7293033 84000) s m args below meth c D A 4 Q 139 10449 (xW K a G ++ yW K b G2) (tK K) [(3, .int i), (2, .ref (b 0)), (1, .ref (a 0)), (0, .ref sb)] 1000 [] := by
  have hts := F.2.2.2.2.1
  obtain ⟨hxI, hyI, hf3, h_w3, hd0, heq, htb, hsc, hsr, hfk, hfp, hlN, hjm, hlG, h66, hpB, hpK⟩ := hl
  refine g_aload_n F 2 dL_law_1000 rfl rfl ?_
  refine g_aload_n F 3 dL_law_1001 rfl rfl ?_
  refine g_iload_n F 0 dL_law_1002 rfl rfl ?_
  refine g_iconst F 1 dL_law_1003 (by decide) ?_
  refine u_iadd F dL_law_1004 i0 1 ei rfl (by omega) (by omega) (fun y1 ey1 => ?_)
  refine g_sld F hX hbl hbA ((i0 + 1)).toNat (congrArg Int.toNat (show y1.toInt = (i0 + 1) by omega)) (ti_in rfl (by omega) (by omega)) dL_law_1005 ?_
  refine u2_callVi (k := 139) (n := 10449) (b := a 0) (As := [.int (sx ((i0 + 1)).toNat)]) (st := []) (wc := (xW K a G)) (wr := (yW K b G2)) F (fun sz => S_X11_ordered l D K a G (sx ((i0 + 1)).toNat) (sx ((i0 + 1)).toNat).toInt rfl hxI sz) (cwV 1 hts gL_law_X11_ordered rfl rfl rfl (by decide +kernel) ⟨Nat.le_of_ble_eq_true rfl, Nat.le_of_ble_eq_true rfl⟩) rfl 0 xc_0 rfl (Nat.le_of_ble_eq_true rfl) ⟨Nat.le_of_ble_eq_true rfl, Nat.le_of_ble_eq_true rfl⟩ dL_law_1006 (fun r2 _ hw4 => ?_)
  refine g_pop F dL_law_1009 rfl ?_
  refine g_aload_n F 1 dL_law_1010 rfl rfl ?_
  refine g_aload_n F 3 dL_law_1011 rfl rfl ?_
  refine g_iload_n F 0 dL_law_1012 rfl rfl ?_
  refine g_iconst F 1 dL_law_1013 (by decide) ?_
  refine u_iadd F dL_law_1014 i0 1 ei rfl (by omega) (by omega) (fun y5 ey5 => ?_)
  refine g_sld F hX hbl hbA ((i0 + 1)).toNat (congrArg Int.toNat (show y5.toInt = (i0 + 1) by omega)) (ti_in rfl (by omega) (by omega)) dL_law_1015 ?_
  refine u2_callVi (k := 139) (n := 10449) (b := b 0) (As := [.int (sx ((i0 + 1)).toNat)]) (st := []) (wc := (yW K b G2)) (wr := (xW K a G)) F (fun sz => S_X13_ordered l D K b G2 (sx ((i0 + 1)).toNat) (sx ((i0 + 1)).toNat).toInt rfl hyI sz) (cwV 1 hts gL_law_X13_ordered rfl rfl rfl (by decide +kernel) ⟨Nat.le_of_ble_eq_true rfl, Nat.le_of_ble_eq_true rfl⟩) rfl 0 yc_0 rfl (Nat.le_of_ble_eq_true rfl) ⟨Nat.le_of_ble_eq_true rfl, Nat.le_of_ble_eq_true rfl⟩ dL_law_1016 (fun r6 _ hw8 => ?_)
  have hr0 : (G 18 0).toInt = (G2 3 0).toInt := congrArg Int32.toInt (hlN.1.1 0 (by decide))
  have hr1 : (G 18 1).toInt = (G2 3 1).toInt := congrArg Int32.toInt (hlN.1.1 1 (by decide))
  have hb0 : (4 : Int) ≤ (G 18 0).toInt ∧ (G 18 0).toInt ≤ 16 := hxI 18 0
  have hb1 : (1 : Int) ≤ (G 18 1).toInt ∧ (G 18 1).toInt ≤ 6 := hxI 18 1
  have pB9 : pcB (xPc G) (yPc G2) := pcB.go hpB pcB.rf pcB.rf
  have pK10 : pcK (xPc G) (yPc G2) := pcK.go hpK pcK.rf pcK.rf
  refine g_pop F dL_law_1019 rfl ?_
  refine g_goto F 1385 dL_law_1020 (by decide) ?_
  exact kE G G2 ⟨hxI, hyI, hf3, h_w3, by omega, by omega, fun i hi => by first | (exfalso; omega) | (exact htb i (by omega)), by omega, fun i hi => by exact hsr i (by omega), by omega, by omega, hlN, by omega, hlG, by omega, pB9, pK10⟩
set_option maxRecDepth 20000 in
theorem ggL_law_X11_until : GoodIn wsL_law wsX11_until := goodIn_rn _ [(1250, 1), (32, 1), (40, 1), (806, 3), (31, 1), (809, 5), (130, 1), (814, 1), (758, 2), (18, 1), (760, 1), (61, 1), (815, 3), (1251, 3), (39, 1), (1254, 1), (153, 1), (148, 2), (1222, 1), (1206, 4), (152, 1), (1210, 2), (80, 3), (1212, 1), (1224, 1), (819, 4), (126, 1), (823, 5), (762, 1), (27, 1), (763, 1), (828, 5), (360, 3), (833, 5), (364, 2), (838, 8), (127, 1), (846, 12), (125, 1), (858, 1), (84, 3), (859, 6), (128, 2), (865, 5), (715, 2), (64, 1), (717, 1), (91, 1), (71, 2), (718, 3), (870, 15), (1225, 1), (983, 3), (1440, 14), (1549, 20), (1533, 4), (1577, 12), (1544, 5), (1602, 9)] rfl (by decide +kernel)
set_option maxRecDepth 20000 in
theorem gL_law_X11_until : GoodIn wsL_law (wsV RL 112 RX11 yX11_until wsX11_until) := goodIn_app (goodIn_of _ (by decide +kernel)) ggL_law_X11_until
set_option maxRecDepth 20000 in
theorem ggL_law_X13_until : GoodIn wsL_law wsX13_until := goodIn_rn _ [(1258, 1), (901, 3), (5, 1), (904, 2), (705, 1), (906, 1), (773, 4), (181, 1), (280, 3), (907, 4), (924, 4), (198, 1), (928, 1), (193, 1), (199, 1), (247, 1), (911, 9), (360, 3), (777, 3), (929, 4), (200, 1), (933, 2), (185, 1), (935, 8), (659, 1), (364, 2), (943, 8), (183, 1), (194, 4), (951, 4), (726, 4), (191, 1), (190, 1), (189, 1), (192, 1), (730, 3), (955, 8), (1454, 73)] rfl (by decide +kernel)
set_option maxRecDepth 20000 in
theorem gL_law_X13_until : GoodIn wsL_law (wsV RL 115 RX13 yX13_until wsX13_until) := goodIn_app (goodIn_of _ (by decide +kernel)) ggL_law_X13_until
set_option maxHeartbeats 4000000 in
set_option maxRecDepth 100000 in
theorem law_c23 {p : Program} {e : Env} {s : State} {m : MethodId} {args : Array Value} {below : List Frame} {meth : Method} {c : Code} {A : Nat → Prop} {Q : State → Prop} (l : Launch) (D : va_G) (F : gF p s m args meth c cL_law RL 4 wsL_law A) (hts0 : ∀ w ∈ wsL_t, w.before args s = true) {zf : Nat → Nat} (hZ : xZ zf A s s.heap) {qs vs : Nat → Nat} (hY : yZ qs vs A s s.heap) {sb L : Nat} {sx : Nat → Int32} (hX : va_X sb L sx s s.heap) (hbl : sb < s.heap.size) (hbA : ¬ A sb) (hL : L ≤ 3584) (K : Nat → ClassId) (a b : Nat → Nat) (G G2 : gS) (hl : lI G G2) (i : Int32) (i0 : Int) (ei : i.toInt = i0) (h0 : 0 ≤ i0) (h7 : i0 + 7 ≤ L) (kE : ∀ G1 G3 : gS, lI G1 G3 → gG p l e (gR 2048 601024 7293033 84000) s m args below meth c D A 4 Q 139 10449 (xW K a G1 ++ yW K b G3) (tK K) [(3, .int i), (2, .ref (b 0)), (1, .ref (a 0)), (0, .ref sb)] 1385 []) : gG p l e (gR 2048 601024 7293033 84000) s m args below meth c D A 4 Q 139 10449 (xW K a G ++ yW K b G2) (tK K) [(3, .int i), (2, .ref (b 0)), (1, .ref (a 0)), (0, .ref sb)] 1023 [] := by
  have hts := F.2.2.2.2.1
  obtain ⟨hxI, hyI, hf3, h_w3, hd0, heq, htb, hsc, hsr, hfk, hfp, hlN, hjm, hlG, h66, hpB, hpK⟩ := hl
  refine g_aload_n F 2 dL_law_1023 rfl rfl ?_
  refine g_aload_n F 3 dL_law_1024 rfl rfl ?_
  refine g_iload_n F 0 dL_law_1025 rfl rfl ?_
  refine g_iconst F 1 dL_law_1026 (by decide) ?_
  refine u_iadd F dL_law_1027 i0 1 ei rfl (by omega) (by omega) (fun y1 ey1 => ?_)
  refine g_sld F hX hbl hbA ((i0 + 1)).toNat (congrArg Int.toNat (show y1.toInt = (i0 + 1) by omega)) (ti_in rfl (by omega) (by omega)) dL_law_1028 ?_
  refine g_aload_n F 3 dL_law_1029 rfl rfl ?_
  refine g_iload_n F 0 dL_law_1030 rfl rfl ?_
  refine g_iconst F 2 dL_law_1031 (by decide) ?_
  refine u_iadd F dL_law_1032 i0 2 ei rfl (by omega) (by omega) (fun y2 ey2 => ?_)
  refine g_sld F hX hbl hbA ((i0 + 2)).toNat (congrArg Int.toNat (show y2.toInt = (i0 + 2) by omega)) (ti_in rfl (by omega) (by omega)) dL_law_1033 ?_
  refine g_aload_n F 3 dL_law_1034 rfl rfl ?_
  refine g_iload_n F 0 dL_law_1035 rfl rfl ?_
  refine g_iconst F 3 dL_law_1036 (by decide) ?_
  refine u_iadd F dL_law_1037 i0 3 ei rfl (by omega) (by omega) (fun y3 ey3 => ?_)
  refine g_sld F hX hbl hbA ((i0 + 3)).toNat (congrArg Int.toNat (show y3.toInt = (i0 + 3) by omega)) (ti_in rfl (by omega) (by omega)) dL_law_1038 ?_
  refine g_aload_n F 3 dL_law_1039 rfl rfl ?_
  refine g_iload_n F 0 dL_law_1040 rfl rfl ?_
  refine g_iconst F 4 dL_law_1041 (by decide) ?_
  refine u_iadd F dL_law_1042 i0 4 ei rfl (by omega) (by omega) (fun y4 ey4 => ?_)
  refine g_sld F hX hbl hbA ((i0 + 4)).toNat (congrArg Int.toNat (show y4.toInt = (i0 + 4) by omega)) (ti_in rfl (by omega) (by omega)) dL_law_1043 ?_
  refine g_aload_n F 3 dL_law_1044 rfl rfl ?_
  refine g_iload_n F 0 dL_law_1045 rfl rfl ?_
  refine g_iconst F 5 dL_law_1046 (by decide) ?_
  refine u_iadd F dL_law_1047 i0 5 ei rfl (by omega) (by omega) (fun y5 ey5 => ?_)
  refine g_sld F hX hbl hbA ((i0 + 5)).toNat (congrArg Int.toNat (show y5.toInt = (i0 + 5) by omega)) (ti_in rfl (by omega) (by omega)) dL_law_1048 ?_
  refine g_aload_n F 3 dL_law_1049 rfl rfl ?_
  refine g_iload_n F 0 dL_law_1050 rfl rfl ?_
  refine g_bipush F 6 dL_law_1051 (by decide) ?_
  refine u_iadd F dL_law_1053 i0 6 ei rfl (by omega) (by omega) (fun y6 ey6 => ?_)
  refine g_sld F hX hbl hbA ((i0 + 6)).toNat (congrArg Int.toNat (show y6.toInt = (i0 + 6) by omega)) (ti_in rfl (by omega) (by omega)) dL_law_1054 ?_
  refine u2_callVi (k := 139) (n := 10449) (b := a 0) (As := [.int (sx ((i0 + 1)).toNat), .int (sx ((i0 + 2)).toNat), .int (sx ((i0 + 3)).toNat), .int (sx ((i0 + 4)).toNat), .int (sx ((i0 + 5)).toNat), .int (sx ((i0 + 6)).toNat)]) (st := []) (wc := (xW K a G)) (wr := (yW K b G2)) F (fun sz => S_X11_until l D K a G (sx ((i0 + 1)).toNat) (sx ((i0 + 1)).toNat).toInt (sx ((i0 + 2)).toNat) (sx ((i0 + 2)).toNat).toInt (sx ((i0 + 3)).toNat) (sx ((i0 + 3)).toNat).toInt (sx ((i0 + 4)).toNat) (sx ((i0 + 4)).toNat).toInt (sx ((i0 + 5)).toNat) (sx ((i0 + 5)).toNat).toInt (sx ((i0 + 6)).toNat) (sx ((i0 + 6)).toNat).toInt rfl rfl rfl rfl rfl rfl hxI sz) (cwV 6 hts gL_law_X11_until rfl rfl rfl (by decide +kernel) ⟨Nat.le_of_ble_eq_true rfl, Nat.le_of_ble_eq_true rfl⟩) rfl 0 xc_0 rfl (Nat.le_of_ble_eq_true rfl) ⟨Nat.le_of_ble_eq_true rfl, Nat.le_of_ble_eq_true rfl⟩ dL_law_1055 (fun r7 G_8 hw9 => ?_)
  have hI10 : xI G_8 := hw9.1
  have hU11 : gu_un xcd [602, 603, 604, 605, 608, 613, 614, 615, 616, 617, 618, 619, 620, 2100, 2400, 2700, 4400, 4500, 4600, 4700, 4800, 5900, 6500] G G_8 := hw9.2.1
  have f12 : xF3 G_8 := xF3.un hf3 hU11 rfl rfl rfl
  have w_13 : G_8 17 = G 17 := funext fun k_ => hU11 17 k_ (by simp [xcd, ycd])
  have w_14 : G_8 88 = G 88 := funext fun k_ => hU11 88 k_ (by simp [xcd, ycd])
  have t15 : G_8 10 2 = G 10 2 := hU11 10 2 (by decide)
  have t15i := congrArg Int32.toInt t15
  have t16 : G_8 1 1 = G 1 1 := hU11 1 1 (by decide)
  have t16i := congrArg Int32.toInt t16
  have t17 : G_8 0 12 = G 0 12 := hU11 0 12 (by decide)
  have t17i := congrArg Int32.toInt t17
  have t18 : G_8 0 13 = G 0 13 := hU11 0 13 (by decide)
  have t18i := congrArg Int32.toInt t18
  have t19 : G_8 8 3 = G 8 3 := hU11 8 3 (by decide)
  have t19i := congrArg Int32.toInt t19
  have t20 : G_8 6 6 = G 6 6 := hU11 6 6 (by decide)
  have t20i := congrArg Int32.toInt t20
  have lG21 := lG.un hlG hU11 rfl
  have lNu22 := lNu.unx hlN hU11 rfl
  refine g_pop F dL_law_1058 rfl ?_
  refine g_aload_n F 1 dL_law_1059 rfl rfl ?_
  refine g_aload_n F 3 dL_law_1060 rfl rfl ?_
  refine g_iload_n F 0 dL_law_1061 rfl rfl ?_
  refine g_iconst F 1 dL_law_1062 (by decide) ?_
  refine u_iadd F dL_law_1063 i0 1 ei rfl (by omega) (by omega) (fun y23 ey23 => ?_)
  refine g_sld F hX hbl hbA ((i0 + 1)).toNat (congrArg Int.toNat (show y23.toInt = (i0 + 1) by omega)) (ti_in rfl (by omega) (by omega)) dL_law_1064 ?_
  refine g_aload_n F 3 dL_law_1065 rfl rfl ?_
  refine g_iload_n F 0 dL_law_1066 rfl rfl ?_
  refine g_iconst F 2 dL_law_1067 (by decide) ?_
  refine u_iadd F dL_law_1068 i0 2 ei rfl (by omega) (by omega) (fun y24 ey24 => ?_)
  refine g_sld F hX hbl hbA ((i0 + 2)).toNat (congrArg Int.toNat (show y24.toInt = (i0 + 2) by omega)) (ti_in rfl (by omega) (by omega)) dL_law_1069 ?_
  refine g_aload_n F 3 dL_law_1070 rfl rfl ?_
  refine g_iload_n F 0 dL_law_1071 rfl rfl ?_
  refine g_iconst F 3 dL_law_1072 (by decide) ?_
  refine u_iadd F dL_law_1073 i0 3 ei rfl (by omega) (by omega) (fun y25 ey25 => ?_)
  refine g_sld F hX hbl hbA ((i0 + 3)).toNat (congrArg Int.toNat (show y25.toInt = (i0 + 3) by omega)) (ti_in rfl (by omega) (by omega)) dL_law_1074 ?_
  refine g_aload_n F 3 dL_law_1075 rfl rfl ?_
  refine g_iload_n F 0 dL_law_1076 rfl rfl ?_
  refine g_iconst F 4 dL_law_1077 (by decide) ?_
  refine u_iadd F dL_law_1078 i0 4 ei rfl (by omega) (by omega) (fun y26 ey26 => ?_)
  refine g_sld F hX hbl hbA ((i0 + 4)).toNat (congrArg Int.toNat (show y26.toInt = (i0 + 4) by omega)) (ti_in rfl (by omega) (by omega)) dL_law_1079 ?_
  refine g_aload_n F 3 dL_law_1080 rfl rfl ?_
  refine g_iload_n F 0 dL_law_1081 rfl rfl ?_
  refine g_iconst F 5 dL_law_1082 (by decide) ?_
  refine u_iadd F dL_law_1083 i0 5 ei rfl (by omega) (by omega) (fun y27 ey27 => ?_)
  refine g_sld F hX hbl hbA ((i0 + 5)).toNat (congrArg Int.toNat (show y27.toInt = (i0 + 5) by omega)) (ti_in rfl (by omega) (by omega)) dL_law_1084 ?_
  refine g_aload_n F 3 dL_law_1085 rfl rfl ?_
  refine g_iload_n F 0 dL_law_1086 rfl rfl ?_
  refine g_bipush F 6 dL_law_1087 (by decide) ?_
  refine u_iadd F dL_law_1089 i0 6 ei rfl (by omega) (by omega) (fun y28 ey28 => ?_)
  refine g_sld F hX hbl hbA ((i0 + 6)).toNat (congrArg Int.toNat (show y28.toInt = (i0 + 6) by omega)) (ti_in rfl (by omega) (by omega)) dL_law_1090 ?_
  refine u2_callVi (k := 139) (n := 10449) (b := b 0) (As := [.int (sx ((i0 + 1)).toNat), .int (sx ((i0 + 2)).toNat), .int (sx ((i0 + 3)).toNat), .int (sx ((i0 + 4)).toNat), .int (sx ((i0 + 5)).toNat), .int (sx ((i0 + 6)).toNat)]) (st := []) (wc := (yW K b G2)) (wr := (xW K a G_8)) F (fun sz => S_X13_until l D K b G2 (sx ((i0 + 1)).toNat) (sx ((i0 + 1)).toNat).toInt (sx ((i0 + 2)).toNat) (sx ((i0 + 2)).toNat).toInt (sx ((i0 + 3)).toNat) (sx ((i0 + 3)).toNat).toInt (sx ((i0 + 4)).toNat) (sx ((i0 + 4)).toNat).toInt (sx ((i0 + 5)).toNat) (sx ((i0 + 5)).toNat).toInt (sx ((i0 + 6)).toNat) (sx ((i0 + 6)).toNat).toInt rfl rfl rfl rfl rfl rfl h_w3 (by omega) hyI sz) (cwV 6 hts gL_law_X13_until rfl rfl rfl (by decide +kernel) ⟨Nat.le_of_ble_eq_true rfl, Nat.le_of_ble_eq_true rfl⟩) rfl 0 yc_0 rfl (Nat.le_of_ble_eq_true rfl) ⟨Nat.le_of_ble_eq_true rfl, Nat.le_of_ble_eq_true rfl⟩ dL_law_1091 (fun r29 G_30 hw31 => ?_)
  have hI32 : yI G_30 := hw31.1
  have hU33 : gu_un ycd [29, 33, 36, 37, 1300, 1400, 1500, 1600, 1700, 1800, 1900, 2000, 2100] G2 G_30 := hw31.2.1
  have q34 := hw31.2.2.2.1
  have q35 := hw31.2.2.2.2
  have w36 : yW3 G_30 := yW3.un h_w3 hU33 rfl
  have w_37 : G_30 2 = G2 2 := funext fun k_ => hU33 2 k_ (by simp [xcd, ycd])
  have w_38 : G_30 46 = G2 46 := funext fun k_ => hU33 46 k_ (by simp [xcd, ycd])
  have t39 : G_30 0 72 = G2 0 72 := hU33 0 72 (by decide)
  have t39i := congrArg Int32.toInt t39
  have t40 : G_30 0 2 = G2 0 2 := hU33 0 2 (by decide)
  have t40i := congrArg Int32.toInt t40
  have t41 : G_30 0 8 = G2 0 8 := hU33 0 8 (by decide)
  have t41i := congrArg Int32.toInt t41
  have t42 : G_30 0 9 = G2 0 9 := hU33 0 9 (by decide)
  have t42i := congrArg Int32.toInt t42
  have t43 : G_30 0 45 = G2 0 45 := hU33 0 45 (by decide)
  have t43i := congrArg Int32.toInt t43
  have lNu44 := lNu.uny lNu22 hU33 rfl
  have hr0 : (G 18 0).toInt = (G2 3 0).toInt := congrArg Int32.toInt (hlN.1.1 0 (by decide))
  have hr1 : (G 18 1).toInt = (G2 3 1).toInt := congrArg Int32.toInt (hlN.1.1 1 (by decide))
  have hb0 : (4 : Int) ≤ (G 18 0).toInt ∧ (G 18 0).toInt ≤ 16 := hxI 18 0
  have hb1 : (1 : Int) ≤ (G 18 1).toInt ∧ (G 18 1).toInt ≤ 6 := hxI 18 1
  have pB45 : pcB (xPc G_8) (yPc G_30) := pcB.go hpB (pcB.xun hU11 rfl) (pcB.nh q34 (hU33 0 29 (by decide)))
  have pK46 : pcK (xPc G_8) (yPc G_30) := pcK.go hpK (pcK.xun hU11 rfl) (pcK.yun hU33 rfl)
  refine g_pop F dL_law_1094 rfl ?_
  refine g_goto F 1385 dL_law_1095 (by decide) ?_
  exact kE G_8 G_30 ⟨hI10, hI32, f12, w36, by omega, by omega, fun i hi => by first | (exfalso; omega) | (rw [w_37, w_13]; exact htb i (by omega)), by omega, fun i hi => by rw [w_38, w_14]; exact hsr i (by omega), by omega, by omega, lNu44, by omega, lG21, by omega, pB45, pK46⟩
set_option maxRecDepth 20000 in
theorem ggL_law_X11_offer : GoodIn wsL_law wsX11_offer := goodIn_rn _ [(1262, 1), (32, 1), (44, 1), (806, 3), (31, 1), (809, 5), (130, 1), (814, 1), (758, 2), (18, 1), (760, 1), (61, 1), (1263, 3), (43, 1), (1266, 1), (164, 1), (158, 1), (163, 1), (1267, 1), (586, 1), (160, 1), (1268, 1), (819, 4), (126, 1), (823, 1), (80, 3), (824, 4), (762, 1), (27, 1), (763, 1), (828, 5), (360, 3), (833, 5), (364, 2), (838, 8), (127, 1), (846, 12), (125, 1), (858, 1), (84, 3), (859, 6), (128, 2), (865, 5), (715, 2), (64, 1), (717, 1), (91, 1), (71, 2), (718, 3), (870, 15), (1269, 4), (1440, 14), (1549, 20), (1533, 4), (1589, 10), (1602, 9)] rfl (by decide +kernel)
set_option maxRecDepth 20000 in
theorem gL_law_X11_offer : GoodIn wsL_law (wsV RL 116 RX11 yX11_offer wsX11_offer) := goodIn_app (goodIn_of _ (by decide +kernel)) ggL_law_X11_offer
set_option maxRecDepth 20000 in
theorem ggL_law_X13_offer : GoodIn wsL_law wsX13_offer := goodIn_rn _ [(1276, 1), (596, 1), (214, 4), (901, 3), (5, 1), (904, 2), (705, 1), (906, 1), (773, 4), (181, 1), (280, 3), (1454, 73)] rfl (by decide +kernel)
set_option maxRecDepth 20000 in
theorem gL_law_X13_offer : GoodIn wsL_law (wsV RL 119 RX13 yX13_offer wsX13_offer) := goodIn_app (goodIn_of _ (by decide +kernel)) ggL_law_X13_offer
set_option maxHeartbeats 4000000 in
set_option maxRecDepth 100000 in
theorem law_c24 {p : Program} {e : Env} {s : State} {m : MethodId} {args : Array Value} {below : List Frame} {meth : Method} {c : Code} {A : Nat → Prop} {Q : State → Prop} (l : Launch) (D : va_G) (F : gF p s m args meth c cL_law RL 4 wsL_law A) (hts0 : ∀ w ∈ wsL_t, w.before args s = true) {zf : Nat → Nat} (hZ : xZ zf A s s.heap) {qs vs : Nat → Nat} (hY : yZ qs vs A s s.heap) {sb L : Nat} {sx : Nat → Int32} (hX : va_X sb L sx s s.heap) (hbl : sb < s.heap.size) (hbA : ¬ A sb) (hL : L ≤ 3584) (K : Nat → ClassId) (a b : Nat → Nat) (G G2 : gS) (hl : lI G G2) (i : Int32) (i0 : Int) (ei : i.toInt = i0) (h0 : 0 ≤ i0) (h7 : i0 + 7 ≤ L) (kE : ∀ G1 G3 : gS, lI G1 G3 → gG p l e (gR 2048 601024 7293033 84000) s m args below meth c D A 4 Q 139 10449 (xW K a G1 ++ yW K b G3) (tK K) [(3, .int i), (2, .ref (b 0)), (1, .ref (a 0)), (0, .ref sb)] 1385 []) : gG p l e (gR 2048 601024 7293033 84000) s m args below meth c D A 4 Q 139 10449 (xW K a G ++ yW K b G2) (tK K) [(3, .int i), (2, .ref (b 0)), (1, .ref (a 0)), (0, .ref sb)] 1098 [] := by
  have hts := F.2.2.2.2.1
  obtain ⟨hxI, hyI, hf3, h_w3, hd0, heq, htb, hsc, hsr, hfk, hfp, hlN, hjm, hlG, h66, hpB, hpK⟩ := hl
  refine g_aload_n F 2 dL_law_1098 rfl rfl ?_
  refine g_aload_n F 3 dL_law_1099 rfl rfl ?_
  refine g_iload_n F 0 dL_law_1100 rfl rfl ?_
  refine g_iconst F 1 dL_law_1101 (by decide) ?_
  refine u_iadd F dL_law_1102 i0 1 ei rfl (by omega) (by omega) (fun y1 ey1 => ?_)
  refine g_sld F hX hbl hbA ((i0 + 1)).toNat (congrArg Int.toNat (show y1.toInt = (i0 + 1) by omega)) (ti_in rfl (by omega) (by omega)) dL_law_1103 ?_
  refine g_aload_n F 3 dL_law_1104 rfl rfl ?_
  refine g_iload_n F 0 dL_law_1105 rfl rfl ?_
  refine g_iconst F 2 dL_law_1106 (by decide) ?_
  refine u_iadd F dL_law_1107 i0 2 ei rfl (by omega) (by omega) (fun y2 ey2 => ?_)
  refine g_sld F hX hbl hbA ((i0 + 2)).toNat (congrArg Int.toNat (show y2.toInt = (i0 + 2) by omega)) (ti_in rfl (by omega) (by omega)) dL_law_1108 ?_
  refine g_aload_n F 3 dL_law_1109 rfl rfl ?_
  refine g_iload_n F 0 dL_law_1110 rfl rfl ?_
  refine g_iconst F 3 dL_law_1111 (by decide) ?_
  refine u_iadd F dL_law_1112 i0 3 ei rfl (by omega) (by omega) (fun y3 ey3 => ?_)
  refine g_sld F hX hbl hbA ((i0 + 3)).toNat (congrArg Int.toNat (show y3.toInt = (i0 + 3) by omega)) (ti_in rfl (by omega) (by omega)) dL_law_1113 ?_
  refine g_aload_n F 3 dL_law_1114 rfl rfl ?_
  refine g_iload_n F 0 dL_law_1115 rfl rfl ?_
  refine g_iconst F 4 dL_law_1116 (by decide) ?_
  refine u_iadd F dL_law_1117 i0 4 ei rfl (by omega) (by omega) (fun y4 ey4 => ?_)
  refine g_sld F hX hbl hbA ((i0 + 4)).toNat (congrArg Int.toNat (show y4.toInt = (i0 + 4) by omega)) (ti_in rfl (by omega) (by omega)) dL_law_1118 ?_
  refine u2_callVi (k := 139) (n := 10449) (b := a 0) (As := [.int (sx ((i0 + 1)).toNat), .int (sx ((i0 + 2)).toNat), .int (sx ((i0 + 3)).toNat), .int (sx ((i0 + 4)).toNat)]) (st := []) (wc := (xW K a G)) (wr := (yW K b G2)) F (fun sz => S_X11_offer l D K a G (sx ((i0 + 1)).toNat) (sx ((i0 + 1)).toNat).toInt (sx ((i0 + 2)).toNat) (sx ((i0 + 2)).toNat).toInt (sx ((i0 + 3)).toNat) (sx ((i0 + 3)).toNat).toInt (sx ((i0 + 4)).toNat) (sx ((i0 + 4)).toNat).toInt rfl rfl rfl rfl hxI sz) (cwV 4 hts gL_law_X11_offer rfl rfl rfl (by decide +kernel) ⟨Nat.le_of_ble_eq_true rfl, Nat.le_of_ble_eq_true rfl⟩) rfl 0 xc_0 rfl (Nat.le_of_ble_eq_true rfl) ⟨Nat.le_of_ble_eq_true rfl, Nat.le_of_ble_eq_true rfl⟩ dL_law_1119 (fun r5 G_6 hw7 => ?_)
  have hI8 : xI G_6 := hw7.1
  have hU9 : gu_un xcd [602, 603, 604, 605, 608, 613, 614, 615, 616, 617, 618, 619, 620, 905, 2100, 2400, 2700, 4400, 4500, 4600, 4700, 4800, 7000, 7100, 7200, 7300, 7400, 7500, 7600, 7700, 7800, 7900] G G_6 := hw7.2.1
  have f10 : xF3 G_6 := xF3.un hf3 hU9 rfl rfl rfl
  have w_11 : G_6 17 = G 17 := funext fun k_ => hU9 17 k_ (by simp [xcd, ycd])
  have w_12 : G_6 88 = G 88 := funext fun k_ => hU9 88 k_ (by simp [xcd, ycd])
  have t13 : G_6 10 2 = G 10 2 := hU9 10 2 (by decide)
  have t13i := congrArg Int32.toInt t13
  have t14 : G_6 1 1 = G 1 1 := hU9 1 1 (by decide)
  have t14i := congrArg Int32.toInt t14
  have t15 : G_6 0 12 = G 0 12 := hU9 0 12 (by decide)
  have t15i := congrArg Int32.toInt t15
  have t16 : G_6 0 13 = G 0 13 := hU9 0 13 (by decide)
  have t16i := congrArg Int32.toInt t16
  have t17 : G_6 8 3 = G 8 3 := hU9 8 3 (by decide)
  have t17i := congrArg Int32.toInt t17
  have t18 : G_6 6 6 = G 6 6 := hU9 6 6 (by decide)
  have t18i := congrArg Int32.toInt t18
  have lG19 := lG.un hlG hU9 rfl
  have lNu20 := lNu.unx hlN hU9 rfl
  refine g_pop F dL_law_1122 rfl ?_
  refine g_aload_n F 1 dL_law_1123 rfl rfl ?_
  refine g_aload_n F 3 dL_law_1124 rfl rfl ?_
  refine g_iload_n F 0 dL_law_1125 rfl rfl ?_
  refine g_iconst F 1 dL_law_1126 (by decide) ?_
  refine u_iadd F dL_law_1127 i0 1 ei rfl (by omega) (by omega) (fun y21 ey21 => ?_)
  refine g_sld F hX hbl hbA ((i0 + 1)).toNat (congrArg Int.toNat (show y21.toInt = (i0 + 1) by omega)) (ti_in rfl (by omega) (by omega)) dL_law_1128 ?_
  refine g_aload_n F 3 dL_law_1129 rfl rfl ?_
  refine g_iload_n F 0 dL_law_1130 rfl rfl ?_
  refine g_iconst F 2 dL_law_1131 (by decide) ?_
  refine u_iadd F dL_law_1132 i0 2 ei rfl (by omega) (by omega) (fun y22 ey22 => ?_)
  refine g_sld F hX hbl hbA ((i0 + 2)).toNat (congrArg Int.toNat (show y22.toInt = (i0 + 2) by omega)) (ti_in rfl (by omega) (by omega)) dL_law_1133 ?_
  refine g_aload_n F 3 dL_law_1134 rfl rfl ?_
  refine g_iload_n F 0 dL_law_1135 rfl rfl ?_
  refine g_iconst F 3 dL_law_1136 (by decide) ?_
  refine u_iadd F dL_law_1137 i0 3 ei rfl (by omega) (by omega) (fun y23 ey23 => ?_)
  refine g_sld F hX hbl hbA ((i0 + 3)).toNat (congrArg Int.toNat (show y23.toInt = (i0 + 3) by omega)) (ti_in rfl (by omega) (by omega)) dL_law_1138 ?_
  refine g_aload_n F 3 dL_law_1139 rfl rfl ?_
  refine g_iload_n F 0 dL_law_1140 rfl rfl ?_
  refine g_iconst F 4 dL_law_1141 (by decide) ?_
  refine u_iadd F dL_law_1142 i0 4 ei rfl (by omega) (by omega) (fun y24 ey24 => ?_)
  refine g_sld F hX hbl hbA ((i0 + 4)).toNat (congrArg Int.toNat (show y24.toInt = (i0 + 4) by omega)) (ti_in rfl (by omega) (by omega)) dL_law_1143 ?_
  refine u2_callVi (k := 139) (n := 10449) (b := b 0) (As := [.int (sx ((i0 + 1)).toNat), .int (sx ((i0 + 2)).toNat), .int (sx ((i0 + 3)).toNat), .int (sx ((i0 + 4)).toNat)]) (st := []) (wc := (yW K b G2)) (wr := (xW K a G_6)) F (fun sz => S_X13_offer l D K b G2 (sx ((i0 + 1)).toNat) (sx ((i0 + 1)).toNat).toInt (sx ((i0 + 2)).toNat) (sx ((i0 + 2)).toNat).toInt (sx ((i0 + 3)).toNat) (sx ((i0 + 3)).toNat).toInt (sx ((i0 + 4)).toNat) (sx ((i0 + 4)).toNat).toInt rfl rfl rfl rfl hyI sz) (cwV 4 hts gL_law_X13_offer rfl rfl rfl (by decide +kernel) ⟨Nat.le_of_ble_eq_true rfl, Nat.le_of_ble_eq_true rfl⟩) rfl 0 yc_0 rfl (Nat.le_of_ble_eq_true rfl) ⟨Nat.le_of_ble_eq_true rfl, Nat.le_of_ble_eq_true rfl⟩ dL_law_1144 (fun r25 G_26 hw27 => ?_)
  have hI28 : yI G_26 := hw27.1
  have hU29 : gu_un ycd [56, 3500, 3600, 3700, 3800] G2 G_26 := hw27.2.1
  have w30 : yW3 G_26 := yW3.un h_w3 hU29 rfl
  have w_31 : G_26 2 = G2 2 := funext fun k_ => hU29 2 k_ (by simp [xcd, ycd])
  have w_32 : G_26 46 = G2 46 := funext fun k_ => hU29 46 k_ (by simp [xcd, ycd])
  have t33 : G_26 0 72 = G2 0 72 := hU29 0 72 (by decide)
  have t33i := congrArg Int32.toInt t33
  have t34 : G_26 0 2 = G2 0 2 := hU29 0 2 (by decide)
  have t34i := congrArg Int32.toInt t34
  have t35 : G_26 0 32 = G2 0 32 := hU29 0 32 (by decide)
  have t35i := congrArg Int32.toInt t35
  have t36 : G_26 0 8 = G2 0 8 := hU29 0 8 (by decide)
  have t36i := congrArg Int32.toInt t36
  have t37 : G_26 0 9 = G2 0 9 := hU29 0 9 (by decide)
  have t37i := congrArg Int32.toInt t37
  have t38 : G_26 0 45 = G2 0 45 := hU29 0 45 (by decide)
  have t38i := congrArg Int32.toInt t38
  have lNu39 := lNu.uny lNu20 hU29 rfl
  have hr0 : (G 18 0).toInt = (G2 3 0).toInt := congrArg Int32.toInt (hlN.1.1 0 (by decide))
  have hr1 : (G 18 1).toInt = (G2 3 1).toInt := congrArg Int32.toInt (hlN.1.1 1 (by decide))
  have hb0 : (4 : Int) ≤ (G 18 0).toInt ∧ (G 18 0).toInt ≤ 16 := hxI 18 0
  have hb1 : (1 : Int) ≤ (G 18 1).toInt ∧ (G 18 1).toInt ≤ 6 := hxI 18 1
  have pB40 : pcB (xPc G_6) (yPc G_26) := pcB.go hpB (pcB.xun hU9 rfl) (pcB.yun hU29 rfl)
  have pK41 : pcK (xPc G_6) (yPc G_26) := pcK.go hpK (pcK.xun hU9 rfl) (pcK.yun hU29 rfl)
  refine g_pop F dL_law_1147 rfl ?_
  refine g_goto F 1385 dL_law_1148 (by decide) ?_
  exact kE G_6 G_26 ⟨hI8, hI28, f10, w30, by omega, by omega, fun i hi => by first | (exfalso; omega) | (rw [w_31, w_11]; exact htb i (by omega)), by omega, fun i hi => by rw [w_32, w_12]; exact hsr i (by omega), by omega, by omega, lNu39, by omega, lG19, by omega, pB40, pK41⟩
set_option maxRecDepth 20000 in
theorem ggL_law_X11_heard : GoodIn wsL_law wsX11_heard := goodIn_rn _ [(1280, 1), (44, 1), (1281, 3), (43, 1), (1284, 1), (586, 2), (161, 1), (589, 1), (1285, 4), (1440, 14), (1589, 10)] rfl (by decide +kernel)
set_option maxRecDepth 20000 in
theorem gL_law_X11_heard : GoodIn wsL_law (wsV RL 120 RX11 yX11_heard wsX11_heard) := goodIn_app (goodIn_of _ (by decide +kernel)) ggL_law_X11_heard
set_option maxRecDepth 20000 in
theorem ggL_law_X13_heard : GoodIn wsL_law wsX13_heard := goodIn_rn _ [(1292, 1), (599, 1), (1293, 1), (596, 1), (725, 1), (597, 1), (218, 3), (280, 2), (5, 1), (282, 1), (1454, 73)] rfl (by decide +kernel)
set_option maxRecDepth 20000 in
theorem gL_law_X13_heard : GoodIn wsL_law (wsV RL 123 RX13 yX13_heard wsX13_heard) := goodIn_app (goodIn_of _ (by decide +kernel)) ggL_law_X13_heard
set_option maxHeartbeats 4000000 in
set_option maxRecDepth 100000 in
theorem law_c25 {p : Program} {e : Env} {s : State} {m : MethodId} {args : Array Value} {below : List Frame} {meth : Method} {c : Code} {A : Nat → Prop} {Q : State → Prop} (l : Launch) (D : va_G) (F : gF p s m args meth c cL_law RL 4 wsL_law A) (hts0 : ∀ w ∈ wsL_t, w.before args s = true) {zf : Nat → Nat} (hZ : xZ zf A s s.heap) {qs vs : Nat → Nat} (hY : yZ qs vs A s s.heap) {sb L : Nat} {sx : Nat → Int32} (hX : va_X sb L sx s s.heap) (hbl : sb < s.heap.size) (hbA : ¬ A sb) (hL : L ≤ 3584) (K : Nat → ClassId) (a b : Nat → Nat) (G G2 : gS) (hl : lI G G2) (i : Int32) (i0 : Int) (ei : i.toInt = i0) (h0 : 0 ≤ i0) (h7 : i0 + 7 ≤ L) (kE : ∀ G1 G3 : gS, lI G1 G3 → gG p l e (gR 2048 601024 7293033 84000) s m args below meth c D A 4 Q 139 10449 (xW K a G1 ++ yW K b G3) (tK K) [(3, .int i), (2, .ref (b 0)), (1, .ref (a 0)), (0, .ref sb)] 1385 []) : gG p l e (gR 2048 601024 7293033 84000) s m args below meth c D A 4 Q 139 10449 (xW K a G ++ yW K b G2) (tK K) [(3, .int i), (2, .ref (b 0)), (1, .ref (a 0)), (0, .ref sb)] 1151 [] := by
  have hts := F.2.2.2.2.1
  obtain ⟨hxI, hyI, hf3, h_w3, hd0, heq, htb, hsc, hsr, hfk, hfp, hlN, hjm, hlG, h66, hpB, hpK⟩ := hl
  refine g_aload_n F 2 dL_law_1151 rfl rfl ?_
  refine g_aload_n F 3 dL_law_1152 rfl rfl ?_
  refine g_iload_n F 0 dL_law_1153 rfl rfl ?_
  refine g_iconst F 1 dL_law_1154 (by decide) ?_
  refine u_iadd F dL_law_1155 i0 1 ei rfl (by omega) (by omega) (fun y1 ey1 => ?_)
  refine g_sld F hX hbl hbA ((i0 + 1)).toNat (congrArg Int.toNat (show y1.toInt = (i0 + 1) by omega)) (ti_in rfl (by omega) (by omega)) dL_law_1156 ?_
  refine g_aload_n F 3 dL_law_1157 rfl rfl ?_
  refine g_iload_n F 0 dL_law_1158 rfl rfl ?_
  refine g_iconst F 2 dL_law_1159 (by decide) ?_
  refine u_iadd F dL_law_1160 i0 2 ei rfl (by omega) (by omega) (fun y2 ey2 => ?_)
  refine g_sld F hX hbl hbA ((i0 + 2)).toNat (congrArg Int.toNat (show y2.toInt = (i0 + 2) by omega)) (ti_in rfl (by omega) (by omega)) dL_law_1161 ?_
  refine g_aload_n F 3 dL_law_1162 rfl rfl ?_
  refine g_iload_n F 0 dL_law_1163 rfl rfl ?_
  refine g_iconst F 3 dL_law_1164 (by decide) ?_
  refine u_iadd F dL_law_1165 i0 3 ei rfl (by omega) (by omega) (fun y3 ey3 => ?_)
  refine g_sld F hX hbl hbA ((i0 + 3)).toNat (congrArg Int.toNat (show y3.toInt = (i0 + 3) by omega)) (ti_in rfl (by omega) (by omega)) dL_law_1166 ?_
  refine u2_callVi (k := 139) (n := 10449) (b := a 0) (As := [.int (sx ((i0 + 1)).toNat), .int (sx ((i0 + 2)).toNat), .int (sx ((i0 + 3)).toNat)]) (st := []) (wc := (xW K a G)) (wr := (yW K b G2)) F (fun sz => S_X11_heard l D K a G (sx ((i0 + 1)).toNat) (sx ((i0 + 1)).toNat).toInt (sx ((i0 + 2)).toNat) (sx ((i0 + 2)).toNat).toInt (sx ((i0 + 3)).toNat) (sx ((i0 + 3)).toNat).toInt rfl rfl rfl hxI sz) (cwV 3 hts gL_law_X11_heard rfl rfl rfl (by decide +kernel) ⟨Nat.le_of_ble_eq_true rfl, Nat.le_of_ble_eq_true rfl⟩) rfl 0 xc_0 rfl (Nat.le_of_ble_eq_true rfl) ⟨Nat.le_of_ble_eq_true rfl, Nat.le_of_ble_eq_true rfl⟩ dL_law_1167 (fun r4 G_5 hw6 => ?_)
  have hI7 : xI G_5 := hw6.1
  have hU8 : gu_un xcd [907, 910, 8100, 8200, 8300] G G_5 := hw6.2.1
  have f9 : xF3 G_5 := xF3.un hf3 hU8 rfl rfl rfl
  have w_10 : G_5 17 = G 17 := funext fun k_ => hU8 17 k_ (by simp [xcd, ycd])
  have w_11 : G_5 88 = G 88 := funext fun k_ => hU8 88 k_ (by simp [xcd, ycd])
  have t12 : G_5 10 2 = G 10 2 := hU8 10 2 (by decide)
  have t12i := congrArg Int32.toInt t12
  have t13 : G_5 1 1 = G 1 1 := hU8 1 1 (by decide)
  have t13i := congrArg Int32.toInt t13
  have t14 : G_5 0 12 = G 0 12 := hU8 0 12 (by decide)
  have t14i := congrArg Int32.toInt t14
  have t15 : G_5 0 13 = G 0 13 := hU8 0 13 (by decide)
  have t15i := congrArg Int32.toInt t15
  have t16 : G_5 8 3 = G 8 3 := hU8 8 3 (by decide)
  have t16i := congrArg Int32.toInt t16
  have t17 : G_5 6 6 = G 6 6 := hU8 6 6 (by decide)
  have t17i := congrArg Int32.toInt t17
  have lG18 := lG.un hlG hU8 rfl
  have lNu19 := lNu.unx hlN hU8 rfl
  refine g_pop F dL_law_1170 rfl ?_
  refine g_aload_n F 1 dL_law_1171 rfl rfl ?_
  refine g_aload_n F 3 dL_law_1172 rfl rfl ?_
  refine g_iload_n F 0 dL_law_1173 rfl rfl ?_
  refine g_iconst F 1 dL_law_1174 (by decide) ?_
  refine u_iadd F dL_law_1175 i0 1 ei rfl (by omega) (by omega) (fun y20 ey20 => ?_)
  refine g_sld F hX hbl hbA ((i0 + 1)).toNat (congrArg Int.toNat (show y20.toInt = (i0 + 1) by omega)) (ti_in rfl (by omega) (by omega)) dL_law_1176 ?_
  refine g_aload_n F 3 dL_law_1177 rfl rfl ?_
  refine g_iload_n F 0 dL_law_1178 rfl rfl ?_
  refine g_iconst F 2 dL_law_1179 (by decide) ?_
  refine u_iadd F dL_law_1180 i0 2 ei rfl (by omega) (by omega) (fun y21 ey21 => ?_)
  refine g_sld F hX hbl hbA ((i0 + 2)).toNat (congrArg Int.toNat (show y21.toInt = (i0 + 2) by omega)) (ti_in rfl (by omega) (by omega)) dL_law_1181 ?_
  refine g_aload_n F 3 dL_law_1182 rfl rfl ?_
  refine g_iload_n F 0 dL_law_1183 rfl rfl ?_
  refine g_iconst F 3 dL_law_1184 (by decide) ?_
  refine u_iadd F dL_law_1185 i0 3 ei rfl (by omega) (by omega) (fun y22 ey22 => ?_)
  refine g_sld F hX hbl hbA ((i0 + 3)).toNat (congrArg Int.toNat (show y22.toInt = (i0 + 3) by omega)) (ti_in rfl (by omega) (by omega)) dL_law_1186 ?_
  refine u2_callVi (k := 139) (n := 10449) (b := b 0) (As := [.int (sx ((i0 + 1)).toNat), .int (sx ((i0 + 2)).toNat), .int (sx ((i0 + 3)).toNat)]) (st := []) (wc := (yW K b G2)) (wr := (xW K a G_5)) F (fun sz => S_X13_heard l D K b G2 (sx ((i0 + 1)).toNat) (sx ((i0 + 1)).toNat).toInt (sx ((i0 + 2)).toNat) (sx ((i0 + 2)).toNat).toInt (sx ((i0 + 3)).toNat) (sx ((i0 + 3)).toNat).toInt rfl rfl rfl hyI sz) (cwV 3 hts gL_law_X13_heard rfl rfl rfl (by decide +kernel) ⟨Nat.le_of_ble_eq_true rfl, Nat.le_of_ble_eq_true rfl⟩) rfl 0 yc_0 rfl (Nat.le_of_ble_eq_true rfl) ⟨Nat.le_of_ble_eq_true rfl, Nat.le_of_ble_eq_true rfl⟩ dL_law_1187 (fun r23 G_24 hw25 => ?_)
  have hI26 : yI G_24 := hw25.1
  have hU27 : gu_un ycd [57, 59, 3900, 4000, 4100] G2 G_24 := hw25.2.1
  have w28 : yW3 G_24 := yW3.un h_w3 hU27 rfl
  have w_29 : G_24 2 = G2 2 := funext fun k_ => hU27 2 k_ (by simp [xcd, ycd])
  have w_30 : G_24 46 = G2 46 := funext fun k_ => hU27 46 k_ (by simp [xcd, ycd])
  have t31 : G_24 0 72 = G2 0 72 := hU27 0 72 (by decide)
  have t31i := congrArg Int32.toInt t31
  have t32 : G_24 0 2 = G2 0 2 := hU27 0 2 (by decide)
  have t32i := congrArg Int32.toInt t32
  have t33 : G_24 0 32 = G2 0 32 := hU27 0 32 (by decide)
  have t33i := congrArg Int32.toInt t33
  have t34 : G_24 0 8 = G2 0 8 := hU27 0 8 (by decide)
  have t34i := congrArg Int32.toInt t34
  have t35 : G_24 0 9 = G2 0 9 := hU27 0 9 (by decide)
  have t35i := congrArg Int32.toInt t35
  have t36 : G_24 0 45 = G2 0 45 := hU27 0 45 (by decide)
  have t36i := congrArg Int32.toInt t36
  have lNu37 := lNu.uny lNu19 hU27 rfl
  have hr0 : (G 18 0).toInt = (G2 3 0).toInt := congrArg Int32.toInt (hlN.1.1 0 (by decide))
  have hr1 : (G 18 1).toInt = (G2 3 1).toInt := congrArg Int32.toInt (hlN.1.1 1 (by decide))
  have hb0 : (4 : Int) ≤ (G 18 0).toInt ∧ (G 18 0).toInt ≤ 16 := hxI 18 0
  have hb1 : (1 : Int) ≤ (G 18 1).toInt ∧ (G 18 1).toInt ≤ 6 := hxI 18 1
  have pB38 : pcB (xPc G_5) (yPc G_24) := pcB.go hpB (pcB.xun hU8 rfl) (pcB.yun hU27 rfl)
  have pK39 : pcK (xPc G_5) (yPc G_24) := pcK.go hpK (pcK.xun hU8 rfl) (pcK.yun hU27 rfl)
  refine g_pop F dL_law_1190 rfl ?_
  refine g_goto F 1385 dL_law_1191 (by decide) ?_
  exact kE G_5 G_24 ⟨hI7, hI26, f9, w28, by omega, by omega, fun i hi => by first | (exfalso; omega) | (rw [w_29, w_10]; exact htb i (by omega)), by omega, fun i hi => by rw [w_30, w_11]; exact hsr i (by omega), by omega, by omega, lNu37, by omega, lG18, by omega, pB38, pK39⟩
set_option maxRecDepth 20000 in
theorem ggL_law_X11_right : GoodIn wsL_law wsX11_right := goodIn_rn _ [(1297, 1), (44, 1), (1298, 3), (43, 1), (1301, 1), (587, 1), (161, 1), (588, 1), (162, 1), (589, 1), (1285, 4), (1302, 4), (1440, 14), (1589, 10)] rfl (by decide +kernel)
set_option maxRecDepth 20000 in
theorem gL_law_X11_right : GoodIn wsL_law (wsV RL 124 RX11 yX11_right wsX11_right) := goodIn_app (goodIn_of _ (by decide +kernel)) ggL_law_X11_right
set_option maxRecDepth 20000 in
theorem ggL_law_X13_right : GoodIn wsL_law wsX13_right := goodIn_rn _ [(1309, 1), (599, 1), (1293, 1), (597, 1), (725, 1), (598, 1), (221, 3), (280, 2), (5, 1), (282, 1), (1454, 73)] rfl (by decide +kernel)
set_option maxRecDepth 20000 in
theorem gL_law_X13_right : GoodIn wsL_law (wsV RL 127 RX13 yX13_right wsX13_right) := goodIn_app (goodIn_of _ (by decide +kernel)) ggL_law_X13_right
set_option maxHeartbeats 4000000 in
set_option maxRecDepth 100000 in
theorem law_c26 {p : Program} {e : Env} {s : State} {m : MethodId} {args : Array Value} {below : List Frame} {meth : Method} {c : Code} {A : Nat → Prop} {Q : State → Prop} (l : Launch) (D : va_G) (F : gF p s m args meth c cL_law RL 4 wsL_law A) (hts0 : ∀ w ∈ wsL_t, w.before args s = true) {zf : Nat → Nat} (hZ : xZ zf A s s.heap) {qs vs : Nat → Nat} (hY : yZ qs vs A s s.heap) {sb L : Nat} {sx : Nat → Int32} (hX : va_X sb L sx s s.heap) (hbl : sb < s.heap.size) (hbA : ¬ A sb) (hL : L ≤ 3584) (K : Nat → ClassId) (a b : Nat → Nat) (G G2 : gS) (hl : lI G G2) (i : Int32) (i0 : Int) (ei : i.toInt = i0) (h0 : 0 ≤ i0) (h7 : i0 + 7 ≤ L) (kE : ∀ G1 G3 : gS, lI G1 G3 → gG p l e (gR 2048 601024 7293033 84000) s m args below meth c D A 4 Q 139 10449 (xW K a G1 ++ yW K b G3) (tK K) [(3, .int i), (2, .ref (b 0)), (1, .ref (a 0)), (0, .ref sb)] 1385 []) : gG p l e (gR 2048 601024 7293033 84000) s m args below meth c D A 4 Q 139 10449 (xW K a G ++ yW K b G2) (tK K) [(3, .int i), (2, .ref (b 0)), (1, .ref (a 0)), (0, .ref sb)] 1194 [] := by
  have hts := F.2.2.2.2.1
  obtain ⟨hxI, hyI, hf3, h_w3, hd0, heq, htb, hsc, hsr, hfk, hfp, hlN, hjm, hlG, h66, hpB, hpK⟩ := hl
  refine g_aload_n F 2 dL_law_1194 rfl rfl ?_
  refine g_aload_n F 3 dL_law_1195 rfl rfl ?_
  refine g_iload_n F 0 dL_law_1196 rfl rfl ?_
  refine g_iconst F 1 dL_law_1197 (by decide) ?_
  refine u_iadd F dL_law_1198 i0 1 ei rfl (by omega) (by omega) (fun y1 ey1 => ?_)
  refine g_sld F hX hbl hbA ((i0 + 1)).toNat (congrArg Int.toNat (show y1.toInt = (i0 + 1) by omega)) (ti_in rfl (by omega) (by omega)) dL_law_1199 ?_
  refine g_aload_n F 3 dL_law_1200 rfl rfl ?_
  refine g_iload_n F 0 dL_law_1201 rfl rfl ?_
  refine g_iconst F 2 dL_law_1202 (by decide) ?_
  refine u_iadd F dL_law_1203 i0 2 ei rfl (by omega) (by omega) (fun y2 ey2 => ?_)
  refine g_sld F hX hbl hbA ((i0 + 2)).toNat (congrArg Int.toNat (show y2.toInt = (i0 + 2) by omega)) (ti_in rfl (by omega) (by omega)) dL_law_1204 ?_
  refine g_aload_n F 3 dL_law_1205 rfl rfl ?_
  refine g_iload_n F 0 dL_law_1206 rfl rfl ?_
  refine g_iconst F 3 dL_law_1207 (by decide) ?_
  refine u_iadd F dL_law_1208 i0 3 ei rfl (by omega) (by omega) (fun y3 ey3 => ?_)
  refine g_sld F hX hbl hbA ((i0 + 3)).toNat (congrArg Int.toNat (show y3.toInt = (i0 + 3) by omega)) (ti_in rfl (by omega) (by omega)) dL_law_1209 ?_
  refine u2_callVi (k := 139) (n := 10449) (b := a 0) (As := [.int (sx ((i0 + 1)).toNat), .int (sx ((i0 + 2)).toNat), .int (sx ((i0 + 3)).toNat)]) (st := []) (wc := (xW K a G)) (wr := (yW K b G2)) F (fun sz => S_X11_right l D K a G (sx ((i0 + 1)).toNat) (sx ((i0 + 1)).toNat).toInt (sx ((i0 + 2)).toNat) (sx ((i0 + 2)).toNat).toInt (sx ((i0 + 3)).toNat) (sx ((i0 + 3)).toNat).toInt rfl rfl rfl hxI sz) (cwV 3 hts gL_law_X11_right rfl rfl rfl (by decide +kernel) ⟨Nat.le_of_ble_eq_true rfl, Nat.le_of_ble_eq_true rfl⟩) rfl 0 xc_0 rfl (Nat.le_of_ble_eq_true rfl) ⟨Nat.le_of_ble_eq_true rfl, Nat.le_of_ble_eq_true rfl⟩ dL_law_1210 (fun r4 G_5 hw6 => ?_)
  have hI7 : xI G_5 := hw6.1
  have hU8 : gu_un xcd [909, 910, 8500, 8600, 8700] G G_5 := hw6.2
  have f9 : xF3 G_5 := xF3.un hf3 hU8 rfl rfl rfl
  have w_10 : G_5 17 = G 17 := funext fun k_ => hU8 17 k_ (by simp [xcd, ycd])
  have w_11 : G_5 88 = G 88 := funext fun k_ => hU8 88 k_ (by simp [xcd, ycd])
  have t12 : G_5 10 2 = G 10 2 := hU8 10 2 (by decide)
  have t12i := congrArg Int32.toInt t12
  have t13 : G_5 1 1 = G 1 1 := hU8 1 1 (by decide)
  have t13i := congrArg Int32.toInt t13
  have t14 : G_5 0 12 = G 0 12 := hU8 0 12 (by decide)
  have t14i := congrArg Int32.toInt t14
  have t15 : G_5 0 13 = G 0 13 := hU8 0 13 (by decide)
  have t15i := congrArg Int32.toInt t15
  have t16 : G_5 8 3 = G 8 3 := hU8 8 3 (by decide)
  have t16i := congrArg Int32.toInt t16
  have t17 : G_5 6 6 = G 6 6 := hU8 6 6 (by decide)
  have t17i := congrArg Int32.toInt t17
  have lG18 := lG.un hlG hU8 rfl
  have lNu19 := lNu.unx hlN hU8 rfl
  refine g_pop F dL_law_1213 rfl ?_
  refine g_aload_n F 1 dL_law_1214 rfl rfl ?_
  refine g_aload_n F 3 dL_law_1215 rfl rfl ?_
  refine g_iload_n F 0 dL_law_1216 rfl rfl ?_
  refine g_iconst F 1 dL_law_1217 (by decide) ?_
  refine u_iadd F dL_law_1218 i0 1 ei rfl (by omega) (by omega) (fun y20 ey20 => ?_)
  refine g_sld F hX hbl hbA ((i0 + 1)).toNat (congrArg Int.toNat (show y20.toInt = (i0 + 1) by omega)) (ti_in rfl (by omega) (by omega)) dL_law_1219 ?_
  refine g_aload_n F 3 dL_law_1220 rfl rfl ?_
  refine g_iload_n F 0 dL_law_1221 rfl rfl ?_
  refine g_iconst F 2 dL_law_1222 (by decide) ?_
  refine u_iadd F dL_law_1223 i0 2 ei rfl (by omega) (by omega) (fun y21 ey21 => ?_)
  refine g_sld F hX hbl hbA ((i0 + 2)).toNat (congrArg Int.toNat (show y21.toInt = (i0 + 2) by omega)) (ti_in rfl (by omega) (by omega)) dL_law_1224 ?_
  refine g_aload_n F 3 dL_law_1225 rfl rfl ?_
  refine g_iload_n F 0 dL_law_1226 rfl rfl ?_
  refine g_iconst F 3 dL_law_1227 (by decide) ?_
  refine u_iadd F dL_law_1228 i0 3 ei rfl (by omega) (by omega) (fun y22 ey22 => ?_)
  refine g_sld F hX hbl hbA ((i0 + 3)).toNat (congrArg Int.toNat (show y22.toInt = (i0 + 3) by omega)) (ti_in rfl (by omega) (by omega)) dL_law_1229 ?_
  refine u2_callVi (k := 139) (n := 10449) (b := b 0) (As := [.int (sx ((i0 + 1)).toNat), .int (sx ((i0 + 2)).toNat), .int (sx ((i0 + 3)).toNat)]) (st := []) (wc := (yW K b G2)) (wr := (xW K a G_5)) F (fun sz => S_X13_right l D K b G2 (sx ((i0 + 1)).toNat) (sx ((i0 + 1)).toNat).toInt (sx ((i0 + 2)).toNat) (sx ((i0 + 2)).toNat).toInt (sx ((i0 + 3)).toNat) (sx ((i0 + 3)).toNat).toInt rfl rfl rfl hyI sz) (cwV 3 hts gL_law_X13_right rfl rfl rfl (by decide +kernel) ⟨Nat.le_of_ble_eq_true rfl, Nat.le_of_ble_eq_true rfl⟩) rfl 0 yc_0 rfl (Nat.le_of_ble_eq_true rfl) ⟨Nat.le_of_ble_eq_true rfl, Nat.le_of_ble_eq_true rfl⟩ dL_law_1230 (fun r23 G_24 hw25 => ?_)
  have hI26 : yI G_24 := hw25.1
  have hU27 : gu_un ycd [58, 59, 4200, 4300, 4400] G2 G_24 := hw25.2
  have w28 : yW3 G_24 := yW3.un h_w3 hU27 rfl
  have w_29 : G_24 2 = G2 2 := funext fun k_ => hU27 2 k_ (by simp [xcd, ycd])
  have w_30 : G_24 46 = G2 46 := funext fun k_ => hU27 46 k_ (by simp [xcd, ycd])
  have t31 : G_24 0 72 = G2 0 72 := hU27 0 72 (by decide)
  have t31i := congrArg Int32.toInt t31
  have t32 : G_24 0 2 = G2 0 2 := hU27 0 2 (by decide)
  have t32i := congrArg Int32.toInt t32
  have t33 : G_24 0 32 = G2 0 32 := hU27 0 32 (by decide)
  have t33i := congrArg Int32.toInt t33
  have t34 : G_24 0 8 = G2 0 8 := hU27 0 8 (by decide)
  have t34i := congrArg Int32.toInt t34
  have t35 : G_24 0 9 = G2 0 9 := hU27 0 9 (by decide)
  have t35i := congrArg Int32.toInt t35
  have t36 : G_24 0 45 = G2 0 45 := hU27 0 45 (by decide)
  have t36i := congrArg Int32.toInt t36
  have lNu37 := lNu.uny lNu19 hU27 rfl
  have hr0 : (G 18 0).toInt = (G2 3 0).toInt := congrArg Int32.toInt (hlN.1.1 0 (by decide))
  have hr1 : (G 18 1).toInt = (G2 3 1).toInt := congrArg Int32.toInt (hlN.1.1 1 (by decide))
  have hb0 : (4 : Int) ≤ (G 18 0).toInt ∧ (G 18 0).toInt ≤ 16 := hxI 18 0
  have hb1 : (1 : Int) ≤ (G 18 1).toInt ∧ (G 18 1).toInt ≤ 6 := hxI 18 1
  have pB38 : pcB (xPc G_5) (yPc G_24) := pcB.go hpB (pcB.xun hU8 rfl) (pcB.yun hU27 rfl)
  have pK39 : pcK (xPc G_5) (yPc G_24) := pcK.go hpK (pcK.xun hU8 rfl) (pcK.yun hU27 rfl)
  refine g_pop F dL_law_1233 rfl ?_
  refine g_goto F 1385 dL_law_1234 (by decide) ?_
  exact kE G_5 G_24 ⟨hI7, hI26, f9, w28, by omega, by omega, fun i hi => by first | (exfalso; omega) | (rw [w_29, w_10]; exact htb i (by omega)), by omega, fun i hi => by rw [w_30, w_11]; exact hsr i (by omega), by omega, by omega, lNu37, by omega, lG18, by omega, pB38, pK39⟩
