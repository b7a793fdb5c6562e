set_option maxRecDepth 20000 in
theorem ggL_law_X11_fit : GoodIn wsL_law wsX11_fit := goodIn_rn _ [(1313, 1), (44, 1), (1314, 3), (43, 1), (1317, 1), (587, 1), (161, 1), (1269, 4), (163, 1), (1267, 1), (1318, 4), (588, 1), (162, 1), (1322, 4), (160, 1), (1440, 14), (1589, 10), (1533, 4)] rfl (by decide +kernel)
set_option maxRecDepth 20000 in
theorem gL_law_X11_fit : GoodIn wsL_law (wsV RL 128 RX11 yX11_fit wsX11_fit) := goodIn_app (goodIn_of _ (by decide +kernel)) ggL_law_X11_fit
set_option maxRecDepth 20000 in
theorem ggL_law_X13_fit : GoodIn wsL_law wsX13_fit := goodIn_rn _ [(1329, 1), (1293, 1), (280, 2), (5, 1), (282, 1), (1330, 4), (597, 1), (224, 1), (218, 1), (1334, 4), (596, 1), (193, 1), (247, 1), (214, 4), (181, 1), (924, 4), (198, 1), (928, 1), (199, 1), (1338, 4), (929, 4), (200, 1), (933, 2), (185, 1), (935, 2), (361, 1), (937, 1), (919, 1), (360, 1), (362, 1), (915, 4), (777, 3), (938, 5), (659, 1), (364, 2), (943, 8), (183, 1), (194, 4), (951, 4), (726, 4), (191, 1), (190, 1), (189, 1), (192, 1), (730, 3), (955, 8), (1342, 4), (220, 1), (219, 1), (598, 1), (221, 1), (223, 1), (222, 1), (1454, 73)] rfl (by decide +kernel)
set_option maxRecDepth 20000 in
theorem gL_law_X13_fit : GoodIn wsL_law (wsV RL 131 RX13 yX13_fit wsX13_fit) := goodIn_app (goodIn_of _ (by decide +kernel)) ggL_law_X13_fit
set_option maxHeartbeats 4000000 in
set_option maxRecDepth 100000 in
theorem law_c27 {p : Program} {e : Env} {s : State} {m : MethodId} {args : Array Value} {below : List Frame} {meth : Method} {c : Code} {A : Nat → Prop} {Q : State → Prop} (l : Launch) (D : va_G) (F : gF p s m args meth c cL_law RL 4 wsL_law A) (hts0 : ∀ w ∈ wsL_t, w.before args s = true) {zf : Nat → Nat} (hZ : xZ zf A s s.heap) {qs vs : Nat → Nat} (hY : yZ qs vs A s s.heap) {sb L : Nat} {sx : Nat → Int32} (hX : va_X sb L sx s s.heap) (hbl : sb < s.heap.size) (hbA : ¬ A sb) (hL : L ≤ 3584) (K : Nat → ClassId) (a b : Nat → Nat) (G G2 : gS) (hl : lI G G2) (i : Int32) (i0 : Int) (ei : i.toInt = i0) (h0 : 0 ≤ i0) (h7 : i0 + 7 ≤ L) (kE : ∀ G1 G3 : gS, lI G1 G3 → gG p l e (gR 2048 601024 7293033 84000) s m args below meth c D A 4 Q 139 10449 (xW K a G1 ++ yW K b G3) (tK K) [(3, .int i), (2, .ref (b 0)), (1, .ref (a 0)), (0, .ref sb)] 1385 []) : gG p l e (gR 2048 601024 7293033 84000) s m args below meth c D A 4 Q 139 10449 (xW K a G ++ yW K b G2) (tK K) [(3, .int i), (2, .ref (b 0)), (1, .ref (a 0)), (0, .ref sb)] 1237 [] := by
  have hts := F.2.2.2.2.1
  obtain ⟨hxI, hyI, hf3, h_w3, hd0, heq, htb, hsc, hsr, hfk, hfp, hlN, hjm, hlG, h66, hpB, hpK⟩ := hl
  refine g_aload_n F 2 dL_law_1237 rfl rfl ?_
  refine g_aload_n F 3 dL_law_1238 rfl rfl ?_
  refine g_iload_n F 0 dL_law_1239 rfl rfl ?_
  refine g_iconst F 1 dL_law_1240 (by decide) ?_
  refine u_iadd F dL_law_1241 i0 1 ei rfl (by omega) (by omega) (fun y1 ey1 => ?_)
  refine g_sld F hX hbl hbA ((i0 + 1)).toNat (congrArg Int.toNat (show y1.toInt = (i0 + 1) by omega)) (ti_in rfl (by omega) (by omega)) dL_law_1242 ?_
  refine u2_callVi (k := 139) (n := 10449) (b := a 0) (As := [.int (sx ((i0 + 1)).toNat)]) (st := []) (wc := (xW K a G)) (wr := (yW K b G2)) F (fun sz => S_X11_fit l D K a G (sx ((i0 + 1)).toNat) (sx ((i0 + 1)).toNat).toInt rfl hxI sz) (cwV 1 hts gL_law_X11_fit rfl rfl rfl (by decide +kernel) ⟨Nat.le_of_ble_eq_true rfl, Nat.le_of_ble_eq_true rfl⟩) rfl 0 xc_0 rfl (Nat.le_of_ble_eq_true rfl) ⟨Nat.le_of_ble_eq_true rfl, Nat.le_of_ble_eq_true rfl⟩ dL_law_1243 (fun r2 _ hw4 => ?_)
  refine g_pop F dL_law_1246 rfl ?_
  refine g_aload_n F 1 dL_law_1247 rfl rfl ?_
  refine g_aload_n F 3 dL_law_1248 rfl rfl ?_
  refine g_iload_n F 0 dL_law_1249 rfl rfl ?_
  refine g_iconst F 1 dL_law_1250 (by decide) ?_
  refine u_iadd F dL_law_1251 i0 1 ei rfl (by omega) (by omega) (fun y5 ey5 => ?_)
  refine g_sld F hX hbl hbA ((i0 + 1)).toNat (congrArg Int.toNat (show y5.toInt = (i0 + 1) by omega)) (ti_in rfl (by omega) (by omega)) dL_law_1252 ?_
  refine u2_callVi (k := 139) (n := 10449) (b := b 0) (As := [.int (sx ((i0 + 1)).toNat)]) (st := []) (wc := (yW K b G2)) (wr := (xW K a G)) F (fun sz => S_X13_fit l D K b G2 (sx ((i0 + 1)).toNat) (sx ((i0 + 1)).toNat).toInt rfl h_w3 (by omega) hyI sz) (cwV 1 hts gL_law_X13_fit rfl rfl rfl (by decide +kernel) ⟨Nat.le_of_ble_eq_true rfl, Nat.le_of_ble_eq_true rfl⟩) rfl 0 yc_0 rfl (Nat.le_of_ble_eq_true rfl) ⟨Nat.le_of_ble_eq_true rfl, Nat.le_of_ble_eq_true rfl⟩ dL_law_1253 (fun r6 G_7 hw8 => ?_)
  have hI9 : yI G_7 := hw8.1
  have hU10 : gu_un ycd [29, 33, 36, 37, 1300, 1400, 1500, 1600, 1700, 1800, 1900, 2000, 2100, 4500] G2 G_7 := hw8.2.1
  have q11 := hw8.2.2.1
  have q12 := hw8.2.2.2
  have w13 : yW3 G_7 := yW3.un h_w3 hU10 rfl
  have w_14 : G_7 2 = G2 2 := funext fun k_ => hU10 2 k_ (by simp [xcd, ycd])
  have w_15 : G_7 46 = G2 46 := funext fun k_ => hU10 46 k_ (by simp [xcd, ycd])
  have t16 : G_7 0 72 = G2 0 72 := hU10 0 72 (by decide)
  have t16i := congrArg Int32.toInt t16
  have t17 : G_7 0 2 = G2 0 2 := hU10 0 2 (by decide)
  have t17i := congrArg Int32.toInt t17
  have t18 : G_7 0 8 = G2 0 8 := hU10 0 8 (by decide)
  have t18i := congrArg Int32.toInt t18
  have t19 : G_7 0 9 = G2 0 9 := hU10 0 9 (by decide)
  have t19i := congrArg Int32.toInt t19
  have t20 : G_7 0 45 = G2 0 45 := hU10 0 45 (by decide)
  have t20i := congrArg Int32.toInt t20
  have lNu21 := lNu.uny hlN hU10 rfl
  have hr0 : (G 18 0).toInt = (G2 3 0).toInt := congrArg Int32.toInt (hlN.1.1 0 (by decide))
  have hr1 : (G 18 1).toInt = (G2 3 1).toInt := congrArg Int32.toInt (hlN.1.1 1 (by decide))
  have hb0 : (4 : Int) ≤ (G 18 0).toInt ∧ (G 18 0).toInt ≤ 16 := hxI 18 0
  have hb1 : (1 : Int) ≤ (G 18 1).toInt ∧ (G 18 1).toInt ≤ 6 := hxI 18 1
  have pB22 : pcB (xPc G) (yPc G_7) := pcB.go hpB pcB.rf (pcB.nh q11 (hU10 0 29 (by decide)))
  have pK23 : pcK (xPc G) (yPc G_7) := pcK.go hpK pcK.rf (pcK.yun hU10 rfl)
  refine g_pop F dL_law_1256 rfl ?_
  refine g_goto F 1385 dL_law_1257 (by decide) ?_
  exact kE G G_7 ⟨hxI, hI9, hf3, w13, by omega, by omega, fun i hi => by first | (exfalso; omega) | (rw [w_14]; exact htb i (by omega)), by omega, fun i hi => by rw [w_15]; exact hsr i (by omega), by omega, by omega, lNu21, by omega, hlG, by omega, pB22, pK23⟩
set_option maxRecDepth 20000 in
theorem ggL_law_X11_next : GoodIn wsL_law wsX11_next := goodIn_rn _ [(1349, 1), (44, 1), (1350, 3), (43, 1), (1353, 1), (586, 1), (1354, 1), (360, 3), (1355, 1), (1315, 3), (587, 1), (161, 1), (1269, 4), (163, 1), (1267, 1), (1318, 4), (588, 1), (162, 1), (1322, 4), (160, 1), (1356, 1), (1160, 6), (1440, 14), (1589, 10), (1533, 4)] rfl (by decide +kernel)
set_option maxRecDepth 20000 in
theorem gL_law_X11_next : GoodIn wsL_law (wsV RL 132 RX11 yX11_next wsX11_next) := goodIn_app (goodIn_of _ (by decide +kernel)) ggL_law_X11_next
set_option maxRecDepth 20000 in
theorem ggL_law_X13_next : GoodIn wsL_law wsX13_next := goodIn_rn _ [(1360, 1), (596, 1), (224, 1), (919, 1), (360, 3), (1330, 3), (5, 1), (1333, 1), (597, 1), (218, 1), (1334, 4), (193, 1), (247, 1), (214, 4), (181, 1), (924, 4), (198, 1), (928, 1), (199, 1), (1338, 4), (929, 4), (200, 1), (933, 2), (185, 1), (935, 3), (915, 4), (777, 3), (938, 5), (659, 1), (364, 2), (943, 8), (183, 1), (194, 4), (951, 4), (726, 4), (191, 1), (190, 1), (189, 1), (192, 1), (730, 3), (955, 8), (1342, 4), (220, 1), (219, 1), (598, 1), (221, 1), (223, 1), (222, 1), (1180, 3), (1454, 73)] rfl (by decide +kernel)
set_option maxRecDepth 20000 in
theorem gL_law_X13_next : GoodIn wsL_law (wsV RL 135 RX13 yX13_next wsX13_next) := goodIn_app (goodIn_of _ (by decide +kernel)) ggL_law_X13_next
set_option maxHeartbeats 4000000 in
set_option maxRecDepth 100000 in
theorem law_c28 {p : Program} {e : Env} {s : State} {m : MethodId} {args : Array Value} {below : List Frame} {meth : Method} {c : Code} {A : Nat → Prop} {Q : State → Prop} (l : Launch) (D : va_G) (F : gF p s m args meth c cL_law RL 4 wsL_law A) (hts0 : ∀ w ∈ wsL_t, w.before args s = true) {zf : Nat → Nat} (hZ : xZ zf A s s.heap) {qs vs : Nat → Nat} (hY : yZ qs vs A s s.heap) {sb L : Nat} {sx : Nat → Int32} (hX : va_X sb L sx s s.heap) (hbl : sb < s.heap.size) (hbA : ¬ A sb) (hL : L ≤ 3584) (K : Nat → ClassId) (a b : Nat → Nat) (G G2 : gS) (hl : lI G G2) (i : Int32) (i0 : Int) (ei : i.toInt = i0) (h0 : 0 ≤ i0) (h7 : i0 + 7 ≤ L) (kE : ∀ G1 G3 : gS, lI G1 G3 → gG p l e (gR 2048 601024 7293033 84000) s m args below meth c D A 4 Q 139 10449 (xW K a G1 ++ yW K b G3) (tK K) [(3, .int i), (2, .ref (b 0)), (1, .ref (a 0)), (0, .ref sb)] 1385 []) : gG p l e (gR 2048 601024 7293033 84000) s m args below meth c D A 4 Q 139 10449 (xW K a G ++ yW K b G2) (tK K) [(3, .int i), (2, .ref (b 0)), (1, .ref (a 0)), (0, .ref sb)] 1260 [] := by
  have hts := F.2.2.2.2.1
  obtain ⟨hxI, hyI, hf3, h_w3, hd0, heq, htb, hsc, hsr, hfk, hfp, hlN, hjm, hlG, h66, hpB, hpK⟩ := hl
  refine g_aload_n F 2 dL_law_1260 rfl rfl ?_
  refine u2_callVi (k := 139) (n := 10449) (b := a 0) (As := []) (st := []) (wc := (xW K a G)) (wr := (yW K b G2)) F (fun sz => S_X11_next l D K a G  hxI sz) (cwV 0 hts gL_law_X11_next rfl rfl rfl (by decide +kernel) ⟨Nat.le_of_ble_eq_true rfl, Nat.le_of_ble_eq_true rfl⟩) rfl 0 xc_0 rfl (Nat.le_of_ble_eq_true rfl) ⟨Nat.le_of_ble_eq_true rfl, Nat.le_of_ble_eq_true rfl⟩ dL_law_1261 (fun r1 _ hw3 => ?_)
  refine g_pop F dL_law_1264 rfl ?_
  refine g_aload_n F 1 dL_law_1265 rfl rfl ?_
  refine u2_callVi (k := 139) (n := 10449) (b := b 0) (As := []) (st := []) (wc := (yW K b G2)) (wr := (xW K a G)) F (fun sz => S_X13_next l D K b G2  h_w3 (by omega) hyI sz) (cwV 0 hts gL_law_X13_next rfl rfl rfl (by decide +kernel) ⟨Nat.le_of_ble_eq_true rfl, Nat.le_of_ble_eq_true rfl⟩) rfl 0 yc_0 rfl (Nat.le_of_ble_eq_true rfl) ⟨Nat.le_of_ble_eq_true rfl, Nat.le_of_ble_eq_true rfl⟩ dL_law_1266 (fun r4 G_5 hw6 => ?_)
  have hI7 : yI G_5 := hw6.1
  have hU8 : gu_un ycd [29, 33, 36, 37, 1300, 1400, 1500, 1600, 1700, 1800, 1900, 2000, 2100, 4500] G2 G_5 := hw6.2.1
  have q9 := hw6.2.2.2.1
  have q10 := hw6.2.2.2.2
  have w11 : yW3 G_5 := yW3.un h_w3 hU8 rfl
  have w_12 : G_5 2 = G2 2 := funext fun k_ => hU8 2 k_ (by simp [xcd, ycd])
  have w_13 : G_5 46 = G2 46 := funext fun k_ => hU8 46 k_ (by simp [xcd, ycd])
  have t14 : G_5 0 72 = G2 0 72 := hU8 0 72 (by decide)
  have t14i := congrArg Int32.toInt t14
  have t15 : G_5 0 2 = G2 0 2 := hU8 0 2 (by decide)
  have t15i := congrArg Int32.toInt t15
  have t16 : G_5 0 8 = G2 0 8 := hU8 0 8 (by decide)
  have t16i := congrArg Int32.toInt t16
  have t17 : G_5 0 9 = G2 0 9 := hU8 0 9 (by decide)
  have t17i := congrArg Int32.toInt t17
  have t18 : G_5 0 45 = G2 0 45 := hU8 0 45 (by decide)
  have t18i := congrArg Int32.toInt t18
  have lNu19 := lNu.uny hlN hU8 rfl
  have hr0 : (G 18 0).toInt = (G2 3 0).toInt := congrArg Int32.toInt (hlN.1.1 0 (by decide))
  have hr1 : (G 18 1).toInt = (G2 3 1).toInt := congrArg Int32.toInt (hlN.1.1 1 (by decide))
  have hb0 : (4 : Int) ≤ (G 18 0).toInt ∧ (G 18 0).toInt ≤ 16 := hxI 18 0
  have hb1 : (1 : Int) ≤ (G 18 1).toInt ∧ (G 18 1).toInt ≤ 6 := hxI 18 1
  have pB20 : pcB (xPc G) (yPc G_5) := pcB.go hpB pcB.rf (pcB.nh q9 (hU8 0 29 (by decide)))
  have pK21 : pcK (xPc G) (yPc G_5) := pcK.go hpK pcK.rf (pcK.yun hU8 rfl)
  refine g_pop F dL_law_1269 rfl ?_
  refine g_goto F 1385 dL_law_1270 (by decide) ?_
  exact kE G G_5 ⟨hxI, hI7, hf3, w11, by omega, by omega, fun i hi => by first | (exfalso; omega) | (rw [w_12]; exact htb i (by omega)), by omega, fun i hi => by rw [w_13]; exact hsr i (by omega), by omega, by omega, lNu19, by omega, hlG, by omega, pB20, pK21⟩
set_option maxRecDepth 20000 in
theorem ggL_law_X11_sound : GoodIn wsL_law wsX11_sound := goodIn_rn _ [(1364, 1), (48, 1), (15, 1), (287, 1), (1365, 4), (47, 1), (1369, 2), (170, 1), (1371, 2), (299, 2), (14, 1), (301, 2), (1373, 1), (304, 3), (258, 1), (307, 7), (56, 1), (314, 106), (1374, 1), (486, 3), (1375, 5), (169, 1), (1380, 1), (80, 3), (561, 3), (2, 1), (564, 2), (51, 1), (253, 1), (1440, 14), (1599, 3), (1527, 6)] rfl (by decide +kernel)
set_option maxRecDepth 20000 in
theorem gL_law_X11_sound : GoodIn wsL_law (wsV RL 136 RX11 yX11_sound wsX11_sound) := goodIn_app (goodIn_of _ (by decide +kernel)) ggL_law_X11_sound
set_option maxHeartbeats 4000000 in
set_option maxRecDepth 100000 in
theorem law_c29 {p : Program} {e : Env} {s : State} {m : MethodId} {args : Array Value} {below : List Frame} {meth : Method} {c : Code} {A : Nat → Prop} {Q : State → Prop} (l : Launch) (D : va_G) (F : gF p s m args meth c cL_law RL 4 wsL_law A) (hts0 : ∀ w ∈ wsL_t, w.before args s = true) {zf : Nat → Nat} (hZ : xZ zf A s s.heap) {qs vs : Nat → Nat} (hY : yZ qs vs A s s.heap) {sb L : Nat} {sx : Nat → Int32} (hX : va_X sb L sx s s.heap) (hbl : sb < s.heap.size) (hbA : ¬ A sb) (hL : L ≤ 3584) (K : Nat → ClassId) (a b : Nat → Nat) (G G2 : gS) (hl : lI G G2) (i : Int32) (i0 : Int) (ei : i.toInt = i0) (h0 : 0 ≤ i0) (h7 : i0 + 7 ≤ L) (kE : ∀ G1 G3 : gS, lI G1 G3 → gG p l e (gR 2048 601024 7293033 84000) s m args below meth c D A 4 Q 139 10449 (xW K a G1 ++ yW K b G3) (tK K) [(3, .int i), (2, .ref (b 0)), (1, .ref (a 0)), (0, .ref sb)] 1385 []) : gG p l e (gR 2048 601024 7293033 84000) s m args below meth c D A 4 Q 139 10449 (xW K a G ++ yW K b G2) (tK K) [(3, .int i), (2, .ref (b 0)), (1, .ref (a 0)), (0, .ref sb)] 1273 [] := by
  have hts := F.2.2.2.2.1
  obtain ⟨hxI, hyI, hf3, h_w3, hd0, heq, htb, hsc, hsr, hfk, hfp, hlN, hjm, hlG, h66, hpB, hpK⟩ := hl
  refine g_aload_n F 2 dL_law_1273 rfl rfl ?_
  refine u2z_callVi (k := 139) (n := 10449) (b := a 0) (As := []) (st := []) (wc := (xW K a G)) (wr := (yW K b G2)) F xZ_st hZ (fun sz => S_X11_sound l D K a G zf  hxI sz) (cwV 0 hts gL_law_X11_sound rfl rfl rfl (by decide +kernel) ⟨Nat.le_of_ble_eq_true rfl, Nat.le_of_ble_eq_true rfl⟩) rfl 0 xc_0 rfl (Nat.le_of_ble_eq_true rfl) ⟨Nat.le_of_ble_eq_true rfl, Nat.le_of_ble_eq_true rfl⟩ dL_law_1274 (fun r1 G_2 hw3 => ?_)
  have hI4 : xI G_2 := hw3.1
  have hU5 : gu_un xcd [13, 14, 102, 103, 104, 105, 106, 1003, 8800, 8900] G G_2 := hw3.2.1
  have q6 := hw3.2.2.2.1
  have q7 := hw3.2.2.2.2
  have f8 : xF3 G_2 := xF3.un hf3 hU5 rfl rfl rfl
  have w_9 : G_2 17 = G 17 := funext fun k_ => hU5 17 k_ (by simp [xcd, ycd])
  have t10 : G_2 8 3 = G 8 3 := hU5 8 3 (by decide)
  have t10i := congrArg Int32.toInt t10
  have t11 : G_2 6 6 = G 6 6 := hU5 6 6 (by decide)
  have t11i := congrArg Int32.toInt t11
  have lG12 := lG.un hlG hU5 rfl
  have lNu13 := lNu.unx hlN hU5 rfl
  refine g_pop F dL_law_1277 rfl ?_
  refine g_aload_n F 1 dL_law_1278 rfl rfl ?_
  refine u2w_callVi (k := 139) (n := 10449) (b := b 0) (As := []) (st := []) (wc := (yW K b G2)) (wr := (xW K a G_2)) F (fun sz => S_X13_sound l D K b G2  hyI sz) (gw_cwV 0 hts0 gL_Tsound rfl rfl rfl (by decide +kernel) ⟨Nat.le_of_ble_eq_true rfl, Nat.le_of_ble_eq_true rfl⟩) rfl 0 yc_0 rfl (Nat.le_of_ble_eq_true rfl) ⟨Nat.le_of_ble_eq_true rfl, Nat.le_of_ble_eq_true rfl⟩ dL_law_1279 (fun r14 G_15 hw16 => ?_)
  have hI17 : yI G_15 := hw16.1
  have hU18 : gu_un ycd [3, 4, 5, 6, 7, 8, 9, 10, 73, 4600, 4700] G2 G_15 := hw16.2.1
  have q19 := hw16.2.2.2.1
  have q20 := hw16.2.2.2.2
  have w21 : yW3 G_15 := yW3.un h_w3 hU18 rfl
  have w_22 : G_15 2 = G2 2 := funext fun k_ => hU18 2 k_ (by simp [xcd, ycd])
  have t23 : G_15 0 32 = G2 0 32 := hU18 0 32 (by decide)
  have t23i := congrArg Int32.toInt t23
  have t24 : G_15 0 45 = G2 0 45 := hU18 0 45 (by decide)
  have t24i := congrArg Int32.toInt t24
  have lNu25 := lNu.uny lNu13 hU18 rfl
  obtain ⟨m8z, kd8z, pc8z, ct8z, f8z, h8z, x8z⟩ := q7
  obtain ⟨m9z, kd9z, pc9z, ct9z, f9z, h9z, y9z⟩ := q20
  obtain ⟨sn26, sn26f, sn26p, sn26c, sn26r⟩ := snd_eq heq htb h8z h9z x8z y9z hsc hsr
  have hr0 : (G 18 0).toInt = (G2 3 0).toInt := congrArg Int32.toInt (hlN.1.1 0 (by decide))
  have hr1 : (G 18 1).toInt = (G2 3 1).toInt := congrArg Int32.toInt (hlN.1.1 1 (by decide))
  have hb0 : (4 : Int) ≤ (G 18 0).toInt ∧ (G 18 0).toInt ≤ 16 := hxI 18 0
  have hb1 : (1 : Int) ≤ (G 18 1).toInt ∧ (G 18 1).toInt ≤ 6 := hxI 18 1
  have pB27 : pcB (xPc G_2) (yPc G_15) := pcB.go hpB (pcB.xun hU5 rfl) (pcB.yun hU18 rfl)
  have pK28 : pcK (xPc G_2) (yPc G_15) := pcK.go hpK (pcK.xun hU5 rfl) (pcK.yun hU18 rfl)
  refine g_pop F dL_law_1282 rfl ?_
  refine g_goto F 1385 dL_law_1283 (by decide) ?_
  exact kE G_2 G_15 ⟨hI4, hI17, f8, w21, by omega, by omega, fun i hi => by first | (exfalso; omega) | (rw [w_22, w_9]; exact htb i (by omega)), sn26c, sn26r, by omega, by omega, lNu25, by omega, lG12, by omega, pB27, pK28⟩
set_option maxRecDepth 20000 in
theorem ggL_law_X11_ringsOut : GoodIn wsL_law wsX11_ringsOut := goodIn_rn _ [(1393, 1), (48, 1), (1394, 2), (47, 1), (1396, 5), (1379, 1), (1401, 4), (169, 1), (1405, 1), (936, 1), (361, 1), (937, 1), (1440, 14), (1599, 3)] rfl (by decide +kernel)
set_option maxRecDepth 20000 in
theorem gL_law_X11_ringsOut : GoodIn wsL_law (wsV RL 140 RX11 yX11_ringsOut wsX11_ringsOut) := goodIn_app (goodIn_of _ (by decide +kernel)) ggL_law_X11_ringsOut
set_option maxRecDepth 20000 in
theorem ggL_law_X13_ringsOut : GoodIn wsL_law wsX13_ringsOut := goodIn_rn _ [(1409, 3), (1385, 1), (919, 1), (360, 3), (280, 2), (5, 1), (282, 1), (1412, 4), (225, 1), (935, 3), (1454, 73)] rfl (by decide +kernel)
set_option maxRecDepth 20000 in
theorem gL_law_X13_ringsOut : GoodIn wsL_law (wsV RL 143 RX13 yX13_ringsOut wsX13_ringsOut) := goodIn_app (goodIn_of _ (by decide +kernel)) ggL_law_X13_ringsOut
set_option maxHeartbeats 4000000 in
set_option maxRecDepth 100000 in
theorem law_c30 {p : Program} {e : Env} {s : State} {m : MethodId} {args : Array Value} {below : List Frame} {meth : Method} {c : Code} {A : Nat → Prop} {Q : State → Prop} (l : Launch) (D : va_G) (F : gF p s m args meth c cL_law RL 4 wsL_law A) (hts0 : ∀ w ∈ wsL_t, w.before args s = true) {zf : Nat → Nat} (hZ : xZ zf A s s.heap) {qs vs : Nat → Nat} (hY : yZ qs vs A s s.heap) {sb L : Nat} {sx : Nat → Int32} (hX : va_X sb L sx s s.heap) (hbl : sb < s.heap.size) (hbA : ¬ A sb) (hL : L ≤ 3584) (K : Nat → ClassId) (a b : Nat → Nat) (G G2 : gS) (hl : lI G G2) (i : Int32) (i0 : Int) (ei : i.toInt = i0) (h0 : 0 ≤ i0) (h7 : i0 + 7 ≤ L) (kE : ∀ G1 G3 : gS, lI G1 G3 → gG p l e (gR 2048 601024 7293033 84000) s m args below meth c D A 4 Q 139 10449 (xW K a G1 ++ yW K b G3) (tK K) [(3, .int i), (2, .ref (b 0)), (1, .ref (a 0)), (0, .ref sb)] 1385 []) : gG p l e (gR 2048 601024 7293033 84000) s m args below meth c D A 4 Q 139 10449 (xW K a G ++ yW K b G2) (tK K) [(3, .int i), (2, .ref (b 0)), (1, .ref (a 0)), (0, .ref sb)] 1286 [] := by
  have hts := F.2.2.2.2.1
  obtain ⟨hxI, hyI, hf3, h_w3, hd0, heq, htb, hsc, hsr, hfk, hfp, hlN, hjm, hlG, h66, hpB, hpK⟩ := hl
  refine g_aload_n F 2 dL_law_1286 rfl rfl ?_
  refine g_aload_n F 3 dL_law_1287 rfl rfl ?_
  refine g_iload_n F 0 dL_law_1288 rfl rfl ?_
  refine g_iconst F 1 dL_law_1289 (by decide) ?_
  refine u_iadd F dL_law_1290 i0 1 ei rfl (by omega) (by omega) (fun y1 ey1 => ?_)
  refine g_sld F hX hbl hbA ((i0 + 1)).toNat (congrArg Int.toNat (show y1.toInt = (i0 + 1) by omega)) (ti_in rfl (by omega) (by omega)) dL_law_1291 ?_
  refine g_aload_n F 3 dL_law_1292 rfl rfl ?_
  refine g_iload_n F 0 dL_law_1293 rfl rfl ?_
  refine g_iconst F 2 dL_law_1294 (by decide) ?_
  refine u_iadd F dL_law_1295 i0 2 ei rfl (by omega) (by omega) (fun y2 ey2 => ?_)
  refine g_sld F hX hbl hbA ((i0 + 2)).toNat (congrArg Int.toNat (show y2.toInt = (i0 + 2) by omega)) (ti_in rfl (by omega) (by omega)) dL_law_1296 ?_
  refine g_aload_n F 3 dL_law_1297 rfl rfl ?_
  refine g_iload_n F 0 dL_law_1298 rfl rfl ?_
  refine g_iconst F 3 dL_law_1299 (by decide) ?_
  refine u_iadd F dL_law_1300 i0 3 ei rfl (by omega) (by omega) (fun y3 ey3 => ?_)
  refine g_sld F hX hbl hbA ((i0 + 3)).toNat (congrArg Int.toNat (show y3.toInt = (i0 + 3) by omega)) (ti_in rfl (by omega) (by omega)) dL_law_1301 ?_
  refine g_aload_n F 3 dL_law_1302 rfl rfl ?_
  refine g_iload_n F 0 dL_law_1303 rfl rfl ?_
  refine g_iconst F 4 dL_law_1304 (by decide) ?_
  refine u_iadd F dL_law_1305 i0 4 ei rfl (by omega) (by omega) (fun y4 ey4 => ?_)
  refine g_sld F hX hbl hbA ((i0 + 4)).toNat (congrArg Int.toNat (show y4.toInt = (i0 + 4) by omega)) (ti_in rfl (by omega) (by omega)) dL_law_1306 ?_
  refine u2_callVi (k := 139) (n := 10449) (b := a 0) (As := [.int (sx ((i0 + 1)).toNat), .int (sx ((i0 + 2)).toNat), .int (sx ((i0 + 3)).toNat), .int (sx ((i0 + 4)).toNat)]) (st := []) (wc := (xW K a G)) (wr := (yW K b G2)) F (fun sz => S_X11_ringsOut l D K a G (sx ((i0 + 1)).toNat) (sx ((i0 + 1)).toNat).toInt (sx ((i0 + 2)).toNat) (sx ((i0 + 2)).toNat).toInt (sx ((i0 + 3)).toNat) (sx ((i0 + 3)).toNat).toInt (sx ((i0 + 4)).toNat) (sx ((i0 + 4)).toNat).toInt rfl rfl rfl rfl hxI sz) (cwV 4 hts gL_law_X11_ringsOut rfl rfl rfl (by decide +kernel) ⟨Nat.le_of_ble_eq_true rfl, Nat.le_of_ble_eq_true rfl⟩) rfl 0 xc_0 rfl (Nat.le_of_ble_eq_true rfl) ⟨Nat.le_of_ble_eq_true rfl, Nat.le_of_ble_eq_true rfl⟩ dL_law_1307 (fun r5 _ hw7 => ?_)
  have q8 := hw7.2
  refine g_pop F dL_law_1310 rfl ?_
  refine g_aload_n F 1 dL_law_1311 rfl rfl ?_
  refine g_aload_n F 3 dL_law_1312 rfl rfl ?_
  refine g_iload_n F 0 dL_law_1313 rfl rfl ?_
  refine g_iconst F 1 dL_law_1314 (by decide) ?_
  refine u_iadd F dL_law_1315 i0 1 ei rfl (by omega) (by omega) (fun y9 ey9 => ?_)
  refine g_sld F hX hbl hbA ((i0 + 1)).toNat (congrArg Int.toNat (show y9.toInt = (i0 + 1) by omega)) (ti_in rfl (by omega) (by omega)) dL_law_1316 ?_
  refine g_aload_n F 3 dL_law_1317 rfl rfl ?_
  refine g_iload_n F 0 dL_law_1318 rfl rfl ?_
  refine g_iconst F 2 dL_law_1319 (by decide) ?_
  refine u_iadd F dL_law_1320 i0 2 ei rfl (by omega) (by omega) (fun y10 ey10 => ?_)
  refine g_sld F hX hbl hbA ((i0 + 2)).toNat (congrArg Int.toNat (show y10.toInt = (i0 + 2) by omega)) (ti_in rfl (by omega) (by omega)) dL_law_1321 ?_
  refine g_aload_n F 3 dL_law_1322 rfl rfl ?_
  refine g_iload_n F 0 dL_law_1323 rfl rfl ?_
  refine g_iconst F 3 dL_law_1324 (by decide) ?_
  refine u_iadd F dL_law_1325 i0 3 ei rfl (by omega) (by omega) (fun y11 ey11 => ?_)
  refine g_sld F hX hbl hbA ((i0 + 3)).toNat (congrArg Int.toNat (show y11.toInt = (i0 + 3) by omega)) (ti_in rfl (by omega) (by omega)) dL_law_1326 ?_
  refine g_aload_n F 3 dL_law_1327 rfl rfl ?_
  refine g_iload_n F 0 dL_law_1328 rfl rfl ?_
  refine g_iconst F 4 dL_law_1329 (by decide) ?_
  refine u_iadd F dL_law_1330 i0 4 ei rfl (by omega) (by omega) (fun y12 ey12 => ?_)
  refine g_sld F hX hbl hbA ((i0 + 4)).toNat (congrArg Int.toNat (show y12.toInt = (i0 + 4) by omega)) (ti_in rfl (by omega) (by omega)) dL_law_1331 ?_
  refine u2_callVi (k := 139) (n := 10449) (b := b 0) (As := [.int (sx ((i0 + 1)).toNat), .int (sx ((i0 + 2)).toNat), .int (sx ((i0 + 3)).toNat), .int (sx ((i0 + 4)).toNat)]) (st := []) (wc := (yW K b G2)) (wr := (xW K a G)) F (fun sz => S_X13_ringsOut l D K b G2 (sx ((i0 + 1)).toNat) (sx ((i0 + 1)).toNat).toInt (sx ((i0 + 2)).toNat) (sx ((i0 + 2)).toNat).toInt (sx ((i0 + 3)).toNat) (sx ((i0 + 3)).toNat).toInt (sx ((i0 + 4)).toNat) (sx ((i0 + 4)).toNat).toInt rfl rfl rfl rfl hyI sz) (cwV 4 hts gL_law_X13_ringsOut rfl rfl rfl (by decide +kernel) ⟨Nat.le_of_ble_eq_true rfl, Nat.le_of_ble_eq_true rfl⟩) rfl 0 yc_0 rfl (Nat.le_of_ble_eq_true rfl) ⟨Nat.le_of_ble_eq_true rfl, Nat.le_of_ble_eq_true rfl⟩ dL_law_1332 (fun r13 _ hw15 => ?_)
  have q16 := hw15.2
  have hro : r5.toInt = r13.toInt := by rcases q8 with ⟨a1, a2⟩ | ⟨a1, a2⟩ <;> rcases q16 with ⟨b1, b2⟩ | ⟨b1, b2⟩ <;> first | omega | exact rO.uniq (by omega) hsr a2 (by have h9 := b2; rw [← hsc] at h9; exact h9)
  have hr0 : (G 18 0).toInt = (G2 3 0).toInt := congrArg Int32.toInt (hlN.1.1 0 (by decide))
  have hr1 : (G 18 1).toInt = (G2 3 1).toInt := congrArg Int32.toInt (hlN.1.1 1 (by decide))
  have hb0 : (4 : Int) ≤ (G 18 0).toInt ∧ (G 18 0).toInt ≤ 16 := hxI 18 0
  have hb1 : (1 : Int) ≤ (G 18 1).toInt ∧ (G 18 1).toInt ≤ 6 := hxI 18 1
  have pB17 : pcB (xPc G) (yPc G2) := pcB.go hpB pcB.rf pcB.rf
  have pK18 : pcK (xPc G) (yPc G2) := pcK.go hpK pcK.rf pcK.rf
  refine g_pop F dL_law_1335 rfl ?_
  refine g_goto F 1385 dL_law_1336 (by decide) ?_
  exact kE G G2 ⟨hxI, hyI, hf3, h_w3, by omega, by omega, fun i hi => by first | (exfalso; omega) | (exact htb i (by omega)), by omega, fun i hi => by exact hsr i (by omega), by omega, by omega, hlN, by omega, hlG, by omega, pB17, pK18⟩
set_option maxRecDepth 20000 in
theorem ggL_law_X11_forced : GoodIn wsL_law wsX11_forced := goodIn_rn _ [(1419, 1), (48, 1), (1394, 2), (47, 1), (1396, 1), (1420, 4), (1379, 1), (169, 1), (1405, 1), (936, 1), (361, 1), (937, 1), (1401, 4), (1440, 14), (1599, 3)] rfl (by decide +kernel)
set_option maxRecDepth 20000 in
theorem gL_law_X11_forced : GoodIn wsL_law (wsV RL 144 RX11 yX11_forced wsX11_forced) := goodIn_app (goodIn_of _ (by decide +kernel)) ggL_law_X11_forced
set_option maxRecDepth 20000 in
theorem ggL_law_X13_forced : GoodIn wsL_law wsX13_forced := goodIn_rn _ [(1427, 1), (1410, 1), (1385, 1), (225, 1), (935, 2), (361, 1), (937, 1), (280, 2), (5, 1), (282, 1), (1412, 4), (1454, 73)] rfl (by decide +kernel)
set_option maxRecDepth 20000 in
theorem gL_law_X13_forced : GoodIn wsL_law (wsV RL 147 RX13 yX13_forced wsX13_forced) := goodIn_app (goodIn_of _ (by decide +kernel)) ggL_law_X13_forced
set_option maxHeartbeats 4000000 in
set_option maxRecDepth 100000 in
theorem law_c31 {p : Program} {e : Env} {s : State} {m : MethodId} {args : Array Value} {below : List Frame} {meth : Method} {c : Code} {A : Nat → Prop} {Q : State → Prop} (l : Launch) (D : va_G) (F : gF p s m args meth c cL_law RL 4 wsL_law A) (hts0 : ∀ w ∈ wsL_t, w.before args s = true) {zf : Nat → Nat} (hZ : xZ zf A s s.heap) {qs vs : Nat → Nat} (hY : yZ qs vs A s s.heap) {sb L : Nat} {sx : Nat → Int32} (hX : va_X sb L sx s s.heap) (hbl : sb < s.heap.size) (hbA : ¬ A sb) (hL : L ≤ 3584) (K : Nat → ClassId) (a b : Nat → Nat) (G G2 : gS) (hl : lI G G2) (i : Int32) (i0 : Int) (ei : i.toInt = i0) (h0 : 0 ≤ i0) (h7 : i0 + 7 ≤ L) (kE : ∀ G1 G3 : gS, lI G1 G3 → gG p l e (gR 2048 601024 7293033 84000) s m args below meth c D A 4 Q 139 10449 (xW K a G1 ++ yW K b G3) (tK K) [(3, .int i), (2, .ref (b 0)), (1, .ref (a 0)), (0, .ref sb)] 1385 []) : gG p l e (gR 2048 601024 7293033 84000) s m args below meth c D A 4 Q 139 10449 (xW K a G ++ yW K b G2) (tK K) [(3, .int i), (2, .ref (b 0)), (1, .ref (a 0)), (0, .ref sb)] 1339 [] := by
  have hts := F.2.2.2.2.1
  obtain ⟨hxI, hyI, hf3, h_w3, hd0, heq, htb, hsc, hsr, hfk, hfp, hlN, hjm, hlG, h66, hpB, hpK⟩ := hl
  refine g_aload_n F 2 dL_law_1339 rfl rfl ?_
  refine g_aload_n F 3 dL_law_1340 rfl rfl ?_
  refine g_iload_n F 0 dL_law_1341 rfl rfl ?_
  refine g_iconst F 1 dL_law_1342 (by decide) ?_
  refine u_iadd F dL_law_1343 i0 1 ei rfl (by omega) (by omega) (fun y1 ey1 => ?_)
  refine g_sld F hX hbl hbA ((i0 + 1)).toNat (congrArg Int.toNat (show y1.toInt = (i0 + 1) by omega)) (ti_in rfl (by omega) (by omega)) dL_law_1344 ?_
  refine u2_callVi (k := 139) (n := 10449) (b := a 0) (As := [.int (sx ((i0 + 1)).toNat)]) (st := []) (wc := (xW K a G)) (wr := (yW K b G2)) F (fun sz => S_X11_forced l D K a G (sx ((i0 + 1)).toNat) (sx ((i0 + 1)).toNat).toInt rfl hxI sz) (cwV 1 hts gL_law_X11_forced rfl rfl rfl (by decide +kernel) ⟨Nat.le_of_ble_eq_true rfl, Nat.le_of_ble_eq_true rfl⟩) rfl 0 xc_0 rfl (Nat.le_of_ble_eq_true rfl) ⟨Nat.le_of_ble_eq_true rfl, Nat.le_of_ble_eq_true rfl⟩ dL_law_1345 (fun r2 _ hw4 => ?_)
  have q5 := hw4.2
  refine g_pop F dL_law_1348 rfl ?_
  refine g_aload_n F 1 dL_law_1349 rfl rfl ?_
  refine g_aload_n F 3 dL_law_1350 rfl rfl ?_
  refine g_iload_n F 0 dL_law_1351 rfl rfl ?_
  refine g_iconst F 1 dL_law_1352 (by decide) ?_
  refine u_iadd F dL_law_1353 i0 1 ei rfl (by omega) (by omega) (fun y6 ey6 => ?_)
  refine g_sld F hX hbl hbA ((i0 + 1)).toNat (congrArg Int.toNat (show y6.toInt = (i0 + 1) by omega)) (ti_in rfl (by omega) (by omega)) dL_law_1354 ?_
  refine u2_callVi (k := 139) (n := 10449) (b := b 0) (As := [.int (sx ((i0 + 1)).toNat)]) (st := []) (wc := (yW K b G2)) (wr := (xW K a G)) F (fun sz => S_X13_forced l D K b G2 (sx ((i0 + 1)).toNat) (sx ((i0 + 1)).toNat).toInt rfl hyI sz) (cwV 1 hts gL_law_X13_forced rfl rfl rfl (by decide +kernel) ⟨Nat.le_of_ble_eq_true rfl, Nat.le_of_ble_eq_true rfl⟩) rfl 0 yc_0 rfl (Nat.le_of_ble_eq_true rfl) ⟨Nat.le_of_ble_eq_true rfl, Nat.le_of_ble_eq_true rfl⟩ dL_law_1355 (fun r7 _ hw9 => ?_)
  have q10 := hw9.2
  have hff : 0 ≤ (sx ((i0 + 1)).toNat).toInt → fF (G2 46) (G2 0 72).toInt (sx ((i0 + 1)).toNat).toInt = fF (G 88) (G 10 2).toInt (sx ((i0 + 1)).toNat).toInt := fun h9 => by rw [← hsc]; exact fF_eq h9 hsr
  have hr0 : (G 18 0).toInt = (G2 3 0).toInt := congrArg Int32.toInt (hlN.1.1 0 (by decide))
  have hr1 : (G 18 1).toInt = (G2 3 1).toInt := congrArg Int32.toInt (hlN.1.1 1 (by decide))
  have hb0 : (4 : Int) ≤ (G 18 0).toInt ∧ (G 18 0).toInt ≤ 16 := hxI 18 0
  have hb1 : (1 : Int) ≤ (G 18 1).toInt ∧ (G 18 1).toInt ≤ 6 := hxI 18 1
  have pB11 : pcB (xPc G) (yPc G2) := pcB.go hpB pcB.rf pcB.rf
  have pK12 : pcK (xPc G) (yPc G2) := pcK.go hpK pcK.rf pcK.rf
  refine g_pop F dL_law_1358 rfl ?_
  refine g_goto F 1385 dL_law_1359 (by decide) ?_
  exact kE G G2 ⟨hxI, hyI, hf3, h_w3, by omega, by omega, fun i hi => by first | (exfalso; omega) | (exact htb i (by omega)), by omega, fun i hi => by exact hsr i (by omega), by omega, by omega, hlN, by omega, hlG, by omega, pB11, pK12⟩
set_option maxRecDepth 20000 in
theorem ggL_law_X11_count : GoodIn wsL_law wsX11_count := goodIn_rn _ [(1431, 1), (28, 1), (797, 1), (972, 1), (40, 1), (1432, 1), (44, 1), (1433, 3), (48, 1), (1365, 1), (15, 1), (253, 1), (1440, 14), (1544, 5), (1577, 25), (1527, 6)] rfl (by decide +kernel)
set_option maxRecDepth 20000 in
theorem gL_law_X11_count : GoodIn wsL_law (wsV RL 148 RX11 yX11_count wsX11_count) := goodIn_app (goodIn_of _ (by decide +kernel)) ggL_law_X11_count
set_option maxRecDepth 20000 in
theorem ggL_law_X13_count : GoodIn wsL_law wsX13_count := goodIn_rn _ [(1439, 1), (247, 2), (594, 1), (596, 3), (1385, 1), (267, 1), (1454, 73)] rfl (by decide +kernel)
set_option maxRecDepth 20000 in
theorem gL_law_X13_count : GoodIn wsL_law (wsV RL 151 RX13 yX13_count wsX13_count) := goodIn_app (goodIn_of _ (by decide +kernel)) ggL_law_X13_count
set_option maxHeartbeats 4000000 in
set_option maxRecDepth 100000 in
theorem law_c32 {p : Program} {e : Env} {s : State} {m : MethodId} {args : Array Value} {below : List Frame} {meth : Method} {c : Code} {A : Nat → Prop} {Q : State → Prop} (l : Launch) (D : va_G) (F : gF p s m args meth c cL_law RL 4 wsL_law A) (hts0 : ∀ w ∈ wsL_t, w.before args s = true) {zf : Nat → Nat} (hZ : xZ zf A s s.heap) {qs vs : Nat → Nat} (hY : yZ qs vs A s s.heap) {sb L : Nat} {sx : Nat → Int32} (hX : va_X sb L sx s s.heap) (hbl : sb < s.heap.size) (hbA : ¬ A sb) (hL : L ≤ 3584) (K : Nat → ClassId) (a b : Nat → Nat) (G G2 : gS) (hl : lI G G2) (i : Int32) (i0 : Int) (ei : i.toInt = i0) (h0 : 0 ≤ i0) (h7 : i0 + 7 ≤ L) (kE : ∀ G1 G3 : gS, lI G1 G3 → gG p l e (gR 2048 601024 7293033 84000) s m args below meth c D A 4 Q 139 10449 (xW K a G1 ++ yW K b G3) (tK K) [(3, .int i), (2, .ref (b 0)), (1, .ref (a 0)), (0, .ref sb)] 1385 []) : gG p l e (gR 2048 601024 7293033 84000) s m args below meth c D A 4 Q 139 10449 (xW K a G ++ yW K b G2) (tK K) [(3, .int i), (2, .ref (b 0)), (1, .ref (a 0)), (0, .ref sb)] 1362 [] := by
  have hts := F.2.2.2.2.1
  obtain ⟨hxI, hyI, hf3, h_w3, hd0, heq, htb, hsc, hsr, hfk, hfp, hlN, hjm, hlG, h66, hpB, hpK⟩ := hl
  refine g_aload_n F 2 dL_law_1362 rfl rfl ?_
  refine g_aload_n F 3 dL_law_1363 rfl rfl ?_
  refine g_iload_n F 0 dL_law_1364 rfl rfl ?_
  refine g_iconst F 1 dL_law_1365 (by decide) ?_
  refine u_iadd F dL_law_1366 i0 1 ei rfl (by omega) (by omega) (fun y1 ey1 => ?_)
  refine g_sld F hX hbl hbA ((i0 + 1)).toNat (congrArg Int.toNat (show y1.toInt = (i0 + 1) by omega)) (ti_in rfl (by omega) (by omega)) dL_law_1367 ?_
  refine u2_callVi (k := 139) (n := 10449) (b := a 0) (As := [.int (sx ((i0 + 1)).toNat)]) (st := []) (wc := (xW K a G)) (wr := (yW K b G2)) F (fun sz => S_X11_count l D K a G (sx ((i0 + 1)).toNat) (sx ((i0 + 1)).toNat).toInt rfl hxI sz) (cwV 1 hts gL_law_X11_count rfl rfl rfl (by decide +kernel) ⟨Nat.le_of_ble_eq_true rfl, Nat.le_of_ble_eq_true rfl⟩) rfl 0 xc_0 rfl (Nat.le_of_ble_eq_true rfl) ⟨Nat.le_of_ble_eq_true rfl, Nat.le_of_ble_eq_true rfl⟩ dL_law_1368 (fun r2 _ hw4 => ?_)
  refine g_pop F dL_law_1371 rfl ?_
  refine g_aload_n F 1 dL_law_1372 rfl rfl ?_
  refine g_aload_n F 3 dL_law_1373 rfl rfl ?_
  refine g_iload_n F 0 dL_law_1374 rfl rfl ?_
  refine g_iconst F 1 dL_law_1375 (by decide) ?_
  refine u_iadd F dL_law_1376 i0 1 ei rfl (by omega) (by omega) (fun y5 ey5 => ?_)
  refine g_sld F hX hbl hbA ((i0 + 1)).toNat (congrArg Int.toNat (show y5.toInt = (i0 + 1) by omega)) (ti_in rfl (by omega) (by omega)) dL_law_1377 ?_
  refine u2_callVi (k := 139) (n := 10449) (b := b 0) (As := [.int (sx ((i0 + 1)).toNat)]) (st := []) (wc := (yW K b G2)) (wr := (xW K a G)) F (fun sz => S_X13_count l D K b G2 (sx ((i0 + 1)).toNat) (sx ((i0 + 1)).toNat).toInt rfl hyI sz) (cwV 1 hts gL_law_X13_count rfl rfl rfl (by decide +kernel) ⟨Nat.le_of_ble_eq_true rfl, Nat.le_of_ble_eq_true rfl⟩) rfl 0 yc_0 rfl (Nat.le_of_ble_eq_true rfl) ⟨Nat.le_of_ble_eq_true rfl, Nat.le_of_ble_eq_true rfl⟩ dL_law_1378 (fun r6 _ hw8 => ?_)
  have hr0 : (G 18 0).toInt = (G2 3 0).toInt := congrArg Int32.toInt (hlN.1.1 0 (by decide))
  have hr1 : (G 18 1).toInt = (G2 3 1).toInt := congrArg Int32.toInt (hlN.1.1 1 (by decide))
  have hb0 : (4 : Int) ≤ (G 18 0).toInt ∧ (G 18 0).toInt ≤ 16 := hxI 18 0
  have hb1 : (1 : Int) ≤ (G 18 1).toInt ∧ (G 18 1).toInt ≤ 6 := hxI 18 1
  have pB9 : pcB (xPc G) (yPc G2) := pcB.go hpB pcB.rf pcB.rf
  have pK10 : pcK (xPc G) (yPc G2) := pcK.go hpK pcK.rf pcK.rf
  refine g_pop F dL_law_1381 rfl ?_
  refine g_goto F 1385 dL_law_1382 (by decide) ?_
  exact kE G G2 ⟨hxI, hyI, hf3, h_w3, by omega, by omega, fun i hi => by first | (exfalso; omega) | (exact htb i (by omega)), by omega, fun i hi => by exact hsr i (by omega), by omega, by omega, hlN, by omega, hlG, by omega, pB9, pK10⟩
