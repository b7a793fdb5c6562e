set_option maxRecDepth 20000 in
theorem ggL_law_X11_fit : GoodIn wsL_law wsX11_fit := goodIn_r _ [1313, 44, 1314, 1315, 1316, 43, 1317, 587, 161, 1269, 1270, 1271, 1272, 163, 1267, 1318, 1319, 1320, 1321, 588, 162, 1322, 1323, 1324, 1325, 160, 1440, 1441, 1442, 1443, 1444, 1445, 1446, 1447, 1448, 1449, 1450, 1451, 1452, 1453, 1589, 1590, 1591, 1592, 1593, 1594, 1595, 1596, 1597, 1598, 1533, 1534, 1535, 1536] rfl (by decide +kernel)
set_option maxRecDepth 20000 in
theorem gL_law_X11_fit : GoodIn wsL_law (wsV RL 128 RX11 yX11_fit wsX11_fit) := goodIn_app (goodIn_of _ (by decide +kernel)) ggL_law_X11_fit
set_option maxRecDepth 20000 in
theorem ggL_law_X13_fit : GoodIn wsL_law wsX13_fit := goodIn_r _ [1329, 1293, 280, 281, 5, 282, 1330, 1331, 1332, 1333, 597, 224, 218, 1334, 1335, 1336, 1337, 596, 193, 247, 214, 215, 216, 217, 181, 924, 925, 926, 927, 198, 928, 199, 1338, 1339, 1340, 1341, 929, 930, 931, 932, 200, 933, 934, 185, 935, 936, 361, 937, 919, 360, 362, 915, 916, 917, 918, 777, 778, 779, 938, 939, 940, 941, 942, 659, 364, 365, 943, 944, 945, 946, 947, 948, 949, 950, 183, 194, 195, 196, 197, 951, 952, 953, 954, 726, 727, 728, 729, 191, 190, 189, 192, 730, 731, 732, 955, 956, 957, 958, 959, 960, 961, 962, 1342, 1343, 1344, 1345, 220, 219, 598, 221, 223, 222, 1454, 1455, 1456, 1457, 1458, 1459, 1460, 1461, 1462, 1463, 1464, 1465, 1466, 1467, 1468, 1469, 1470, 1471, 1472, 1473, 1474, 1475, 1476, 1477, 1478, 1479, 1480, 1481, 1482, 1483, 1484, 1485, 1486, 1487, 1488, 1489, 1490, 1491, 1492, 1493, 1494, 1495, 1496, 1497, 1498, 1499, 1500, 1501, 1502, 1503, 1504, 1505, 1506, 1507, 1508, 1509, 1510, 1511, 1512, 1513, 1514, 1515, 1516, 1517, 1518, 1519, 1520, 1521, 1522, 1523, 1524, 1525, 1526] rfl (by decide +kernel)
set_option maxRecDepth 20000 in
theorem gL_law_X13_fit : GoodIn wsL_law (wsV RL 131 RX13 yX13_fit wsX13_fit) := goodIn_app (goodIn_of _ (by decide +kernel)) ggL_law_X13_fit
set_option maxHeartbeats 4000000 in
set_option maxRecDepth 100000 in
theorem law_c27 {p : Program} {e : Env} {s : State} {m : MethodId} {args : Array Value} {below : List Frame} {meth : Method} {c : Code} {A : Nat → Prop} {Q : State → Prop} (l : Launch) (D : va_G) (F : gF p s m args meth c cL_law RL 4 wsL_law A) (hts0 : ∀ w ∈ wsL_t, w.before args s = true) {zf : Nat → Nat} (hZ : xZ zf A s s.heap) {qs vs : Nat → Nat} (hY : yZ qs vs A s s.heap) {sb L : Nat} {sx : Nat → Int32} (hX : va_X sb L sx s s.heap) (hbl : sb < s.heap.size) (hbA : ¬ A sb) (hL : L ≤ 3584) (K : Nat → ClassId) (a b : Nat → Nat) (G G2 : gS) (hl : lI G G2) (i : Int32) (i0 : Int) (ei : i.toInt = i0) (h0 : 0 ≤ i0) (h7 : i0 + 7 ≤ L) (kE : ∀ G1 G3 : gS, lI G1 G3 → gG p l e (gR 2048 601024 7293033 84000) s m args below meth c D A 4 Q 139 10449 (xW K a G1 ++ yW K b G3) (tK K) [(3, .int i), (2, .ref (b 0)), (1, .ref (a 0)), (0, .ref sb)] 1385 []) : gG p l e (gR 2048 601024 7293033 84000) s m args below meth c D A 4 Q 139 10449 (xW K a G ++ yW K b G2) (tK K) [(3, .int i), (2, .ref (b 0)), (1, .ref (a 0)), (0, .ref sb)] 1237 [] := by
  have hts := F.2.2.2.2.1
  obtain ⟨hxI, hyI, hf3, h_w3, hd0, heq⟩ := hl
  refine g_aload_n F 2 dL_law_1237 rfl rfl ?_
  refine g_aload_n F 3 dL_law_1238 rfl rfl ?_
  refine g_iload_n F 0 dL_law_1239 rfl rfl ?_
  refine g_iconst F 1 dL_law_1240 (by decide) ?_
  refine u_iadd F dL_law_1241 i0 1 ei rfl (by omega) (by omega) (fun y1 ey1 => ?_)
  refine g_sld F hX hbl hbA ((i0 + 1)).toNat (congrArg Int.toNat (show y1.toInt = (i0 + 1) by omega)) (ti_in rfl (by omega) (by omega)) dL_law_1242 ?_
  refine u2_callVi (k := 139) (n := 10449) (b := a 0) (As := [.int (sx ((i0 + 1)).toNat)]) (st := []) (wc := (xW K a G)) (wr := (yW K b G2)) F (fun sz => S_X11_fit l D K a G (sx ((i0 + 1)).toNat) (sx ((i0 + 1)).toNat).toInt rfl hxI sz) (cwV 1 hts gL_law_X11_fit rfl rfl rfl (by decide +kernel) ⟨Nat.le_of_ble_eq_true rfl, Nat.le_of_ble_eq_true rfl⟩) rfl 0 xc_0 rfl (Nat.le_of_ble_eq_true rfl) ⟨Nat.le_of_ble_eq_true rfl, Nat.le_of_ble_eq_true rfl⟩ dL_law_1243 (fun r2 _ hw4 => ?_)
  refine g_pop F dL_law_1246 rfl ?_
  refine g_aload_n F 1 dL_law_1247 rfl rfl ?_
  refine g_aload_n F 3 dL_law_1248 rfl rfl ?_
  refine g_iload_n F 0 dL_law_1249 rfl rfl ?_
  refine g_iconst F 1 dL_law_1250 (by decide) ?_
  refine u_iadd F dL_law_1251 i0 1 ei rfl (by omega) (by omega) (fun y5 ey5 => ?_)
  refine g_sld F hX hbl hbA ((i0 + 1)).toNat (congrArg Int.toNat (show y5.toInt = (i0 + 1) by omega)) (ti_in rfl (by omega) (by omega)) dL_law_1252 ?_
  refine u2_callVi (k := 139) (n := 10449) (b := b 0) (As := [.int (sx ((i0 + 1)).toNat)]) (st := []) (wc := (yW K b G2)) (wr := (xW K a G)) F (fun sz => S_X13_fit l D K b G2 (sx ((i0 + 1)).toNat) (sx ((i0 + 1)).toNat).toInt rfl h_w3 (by omega) hyI sz) (cwV 1 hts gL_law_X13_fit rfl rfl rfl (by decide +kernel) ⟨Nat.le_of_ble_eq_true rfl, Nat.le_of_ble_eq_true rfl⟩) rfl 0 yc_0 rfl (Nat.le_of_ble_eq_true rfl) ⟨Nat.le_of_ble_eq_true rfl, Nat.le_of_ble_eq_true rfl⟩ dL_law_1253 (fun r6 G_7 hw8 => ?_)
  have hI9 : yI G_7 := hw8.1
  have hU10 : gu_un ycd [29, 33, 36, 37, 1300, 1400, 1500, 1600, 1700, 1800, 1900, 2000, 2100, 4500] G2 G_7 := hw8.2.1
  have q11 := hw8.2.2
  have w12 : yW3 G_7 := yW3.un h_w3 hU10 rfl
  have t13 : G_7 0 2 = G2 0 2 := hU10 0 2 (by decide)
  have t13i := congrArg Int32.toInt t13
  refine g_pop F dL_law_1256 rfl ?_
  refine g_goto F 1385 dL_law_1257 (by decide) ?_
  exact kE G G_7 ⟨hxI, hI9, hf3, w12, by omega, by omega⟩
set_option maxRecDepth 20000 in
theorem ggL_law_X11_next : GoodIn wsL_law wsX11_next := goodIn_r _ [1349, 44, 1350, 1351, 1352, 43, 1353, 586, 1354, 360, 361, 362, 1355, 1315, 1316, 1317, 587, 161, 1269, 1270, 1271, 1272, 163, 1267, 1318, 1319, 1320, 1321, 588, 162, 1322, 1323, 1324, 1325, 160, 1356, 1160, 1161, 1162, 1163, 1164, 1165, 1440, 1441, 1442, 1443, 1444, 1445, 1446, 1447, 1448, 1449, 1450, 1451, 1452, 1453, 1589, 1590, 1591, 1592, 1593, 1594, 1595, 1596, 1597, 1598, 1533, 1534, 1535, 1536] rfl (by decide +kernel)
set_option maxRecDepth 20000 in
theorem gL_law_X11_next : GoodIn wsL_law (wsV RL 132 RX11 yX11_next wsX11_next) := goodIn_app (goodIn_of _ (by decide +kernel)) ggL_law_X11_next
set_option maxRecDepth 20000 in
theorem ggL_law_X13_next : GoodIn wsL_law wsX13_next := goodIn_r _ [1360, 596, 224, 919, 360, 361, 362, 1330, 1331, 1332, 5, 1333, 597, 218, 1334, 1335, 1336, 1337, 193, 247, 214, 215, 216, 217, 181, 924, 925, 926, 927, 198, 928, 199, 1338, 1339, 1340, 1341, 929, 930, 931, 932, 200, 933, 934, 185, 935, 936, 937, 915, 916, 917, 918, 777, 778, 779, 938, 939, 940, 941, 942, 659, 364, 365, 943, 944, 945, 946, 947, 948, 949, 950, 183, 194, 195, 196, 197, 951, 952, 953, 954, 726, 727, 728, 729, 191, 190, 189, 192, 730, 731, 732, 955, 956, 957, 958, 959, 960, 961, 962, 1342, 1343, 1344, 1345, 220, 219, 598, 221, 223, 222, 1180, 1181, 1182, 1454, 1455, 1456, 1457, 1458, 1459, 1460, 1461, 1462, 1463, 1464, 1465, 1466, 1467, 1468, 1469, 1470, 1471, 1472, 1473, 1474, 1475, 1476, 1477, 1478, 1479, 1480, 1481, 1482, 1483, 1484, 1485, 1486, 1487, 1488, 1489, 1490, 1491, 1492, 1493, 1494, 1495, 1496, 1497, 1498, 1499, 1500, 1501, 1502, 1503, 1504, 1505, 1506, 1507, 1508, 1509, 1510, 1511, 1512, 1513, 1514, 1515, 1516, 1517, 1518, 1519, 1520, 1521, 1522, 1523, 1524, 1525, 1526] rfl (by decide +kernel)
set_option maxRecDepth 20000 in
theorem gL_law_X13_next : GoodIn wsL_law (wsV RL 135 RX13 yX13_next wsX13_next) := goodIn_app (goodIn_of _ (by decide +kernel)) ggL_law_X13_next
set_option maxHeartbeats 4000000 in
set_option maxRecDepth 100000 in
theorem law_c28 {p : Program} {e : Env} {s : State} {m : MethodId} {args : Array Value} {below : List Frame} {meth : Method} {c : Code} {A : Nat → Prop} {Q : State → Prop} (l : Launch) (D : va_G) (F : gF p s m args meth c cL_law RL 4 wsL_law A) (hts0 : ∀ w ∈ wsL_t, w.before args s = true) {zf : Nat → Nat} (hZ : xZ zf A s s.heap) {qs vs : Nat → Nat} (hY : yZ qs vs A s s.heap) {sb L : Nat} {sx : Nat → Int32} (hX : va_X sb L sx s s.heap) (hbl : sb < s.heap.size) (hbA : ¬ A sb) (hL : L ≤ 3584) (K : Nat → ClassId) (a b : Nat → Nat) (G G2 : gS) (hl : lI G G2) (i : Int32) (i0 : Int) (ei : i.toInt = i0) (h0 : 0 ≤ i0) (h7 : i0 + 7 ≤ L) (kE : ∀ G1 G3 : gS, lI G1 G3 → gG p l e (gR 2048 601024 7293033 84000) s m args below meth c D A 4 Q 139 10449 (xW K a G1 ++ yW K b G3) (tK K) [(3, .int i), (2, .ref (b 0)), (1, .ref (a 0)), (0, .ref sb)] 1385 []) : gG p l e (gR 2048 601024 7293033 84000) s m args below meth c D A 4 Q 139 10449 (xW K a G ++ yW K b G2) (tK K) [(3, .int i), (2, .ref (b 0)), (1, .ref (a 0)), (0, .ref sb)] 1260 [] := by
  have hts := F.2.2.2.2.1
  obtain ⟨hxI, hyI, hf3, h_w3, hd0, heq⟩ := hl
  refine g_aload_n F 2 dL_law_1260 rfl rfl ?_
  refine u2_callVi (k := 139) (n := 10449) (b := a 0) (As := []) (st := []) (wc := (xW K a G)) (wr := (yW K b G2)) F (fun sz => S_X11_next l D K a G  hxI sz) (cwV 0 hts gL_law_X11_next rfl rfl rfl (by decide +kernel) ⟨Nat.le_of_ble_eq_true rfl, Nat.le_of_ble_eq_true rfl⟩) rfl 0 xc_0 rfl (Nat.le_of_ble_eq_true rfl) ⟨Nat.le_of_ble_eq_true rfl, Nat.le_of_ble_eq_true rfl⟩ dL_law_1261 (fun r1 _ hw3 => ?_)
  refine g_pop F dL_law_1264 rfl ?_
  refine g_aload_n F 1 dL_law_1265 rfl rfl ?_
  refine u2_callVi (k := 139) (n := 10449) (b := b 0) (As := []) (st := []) (wc := (yW K b G2)) (wr := (xW K a G)) F (fun sz => S_X13_next l D K b G2  h_w3 (by omega) hyI sz) (cwV 0 hts gL_law_X13_next rfl rfl rfl (by decide +kernel) ⟨Nat.le_of_ble_eq_true rfl, Nat.le_of_ble_eq_true rfl⟩) rfl 0 yc_0 rfl (Nat.le_of_ble_eq_true rfl) ⟨Nat.le_of_ble_eq_true rfl, Nat.le_of_ble_eq_true rfl⟩ dL_law_1266 (fun r4 G_5 hw6 => ?_)
  have hI7 : yI G_5 := hw6.1
  have hU8 : gu_un ycd [29, 33, 36, 37, 1300, 1400, 1500, 1600, 1700, 1800, 1900, 2000, 2100, 4500] G2 G_5 := hw6.2.1
  have q9 := hw6.2.2.2
  have w10 : yW3 G_5 := yW3.un h_w3 hU8 rfl
  have t11 : G_5 0 2 = G2 0 2 := hU8 0 2 (by decide)
  have t11i := congrArg Int32.toInt t11
  refine g_pop F dL_law_1269 rfl ?_
  refine g_goto F 1385 dL_law_1270 (by decide) ?_
  exact kE G G_5 ⟨hxI, hI7, hf3, w10, by omega, by omega⟩
set_option maxRecDepth 20000 in
theorem ggL_law_X11_sound : GoodIn wsL_law wsX11_sound := goodIn_r _ [1364, 48, 15, 287, 1365, 1366, 1367, 1368, 47, 1369, 1370, 170, 1371, 1372, 299, 300, 14, 301, 302, 1373, 304, 305, 306, 258, 307, 308, 309, 310, 311, 312, 313, 56, 314, 315, 316, 317, 318, 319, 320, 321, 322, 323, 324, 325, 326, 327, 328, 329, 330, 331, 332, 333, 334, 335, 336, 337, 338, 339, 340, 341, 342, 343, 344, 345, 346, 347, 348, 349, 350, 351, 352, 353, 354, 355, 356, 357, 358, 359, 360, 361, 362, 363, 364, 365, 366, 367, 368, 369, 370, 371, 372, 373, 374, 375, 376, 377, 378, 379, 380, 381, 382, 383, 384, 385, 386, 387, 388, 389, 390, 391, 392, 393, 394, 395, 396, 397, 398, 399, 400, 401, 402, 403, 404, 405, 406, 407, 408, 409, 410, 411, 412, 413, 414, 415, 416, 417, 418, 419, 1374, 486, 487, 488, 1375, 1376, 1377, 1378, 1379, 169, 1380, 80, 81, 82, 561, 562, 563, 2, 564, 565, 51, 253, 1440, 1441, 1442, 1443, 1444, 1445, 1446, 1447, 1448, 1449, 1450, 1451, 1452, 1453, 1599, 1600, 1601, 1527, 1528, 1529, 1530, 1531, 1532] rfl (by decide +kernel)
set_option maxRecDepth 20000 in
theorem gL_law_X11_sound : GoodIn wsL_law (wsV RL 136 RX11 yX11_sound wsX11_sound) := goodIn_app (goodIn_of _ (by decide +kernel)) ggL_law_X11_sound
set_option maxHeartbeats 4000000 in
set_option maxRecDepth 100000 in
theorem law_c29 {p : Program} {e : Env} {s : State} {m : MethodId} {args : Array Value} {below : List Frame} {meth : Method} {c : Code} {A : Nat → Prop} {Q : State → Prop} (l : Launch) (D : va_G) (F : gF p s m args meth c cL_law RL 4 wsL_law A) (hts0 : ∀ w ∈ wsL_t, w.before args s = true) {zf : Nat → Nat} (hZ : xZ zf A s s.heap) {qs vs : Nat → Nat} (hY : yZ qs vs A s s.heap) {sb L : Nat} {sx : Nat → Int32} (hX : va_X sb L sx s s.heap) (hbl : sb < s.heap.size) (hbA : ¬ A sb) (hL : L ≤ 3584) (K : Nat → ClassId) (a b : Nat → Nat) (G G2 : gS) (hl : lI G G2) (i : Int32) (i0 : Int) (ei : i.toInt = i0) (h0 : 0 ≤ i0) (h7 : i0 + 7 ≤ L) (kE : ∀ G1 G3 : gS, lI G1 G3 → gG p l e (gR 2048 601024 7293033 84000) s m args below meth c D A 4 Q 139 10449 (xW K a G1 ++ yW K b G3) (tK K) [(3, .int i), (2, .ref (b 0)), (1, .ref (a 0)), (0, .ref sb)] 1385 []) : gG p l e (gR 2048 601024 7293033 84000) s m args below meth c D A 4 Q 139 10449 (xW K a G ++ yW K b G2) (tK K) [(3, .int i), (2, .ref (b 0)), (1, .ref (a 0)), (0, .ref sb)] 1273 [] := by
  have hts := F.2.2.2.2.1
  obtain ⟨hxI, hyI, hf3, h_w3, hd0, heq⟩ := hl
  refine g_aload_n F 2 dL_law_1273 rfl rfl ?_
  refine u2z_callVi (k := 139) (n := 10449) (b := a 0) (As := []) (st := []) (wc := (xW K a G)) (wr := (yW K b G2)) F xZ_st hZ (fun sz => S_X11_sound l D K a G zf  hxI sz) (cwV 0 hts gL_law_X11_sound rfl rfl rfl (by decide +kernel) ⟨Nat.le_of_ble_eq_true rfl, Nat.le_of_ble_eq_true rfl⟩) rfl 0 xc_0 rfl (Nat.le_of_ble_eq_true rfl) ⟨Nat.le_of_ble_eq_true rfl, Nat.le_of_ble_eq_true rfl⟩ dL_law_1274 (fun r1 G_2 hw3 => ?_)
  have hI4 : xI G_2 := hw3.1
  have hU5 : gu_un xcd [13, 14, 102, 103, 104, 105, 106, 1003, 8800, 8900] G G_2 := hw3.2.1
  have q6 := hw3.2.2.2
  have f7 : xF3 G_2 := xF3.un hf3 hU5 rfl rfl rfl
  refine g_pop F dL_law_1277 rfl ?_
  refine g_aload_n F 1 dL_law_1278 rfl rfl ?_
  refine u2w_callVi (k := 139) (n := 10449) (b := b 0) (As := []) (st := []) (wc := (yW K b G2)) (wr := (xW K a G_2)) F (fun sz => S_X13_sound l D K b G2  hyI sz) (gw_cwV 0 hts0 gL_Tsound rfl rfl rfl (by decide +kernel) ⟨Nat.le_of_ble_eq_true rfl, Nat.le_of_ble_eq_true rfl⟩) rfl 0 yc_0 rfl (Nat.le_of_ble_eq_true rfl) ⟨Nat.le_of_ble_eq_true rfl, Nat.le_of_ble_eq_true rfl⟩ dL_law_1279 (fun r8 G_9 hw10 => ?_)
  have hI11 : yI G_9 := hw10.1
  have hU12 : gu_un ycd [3, 4, 5, 6, 7, 8, 9, 10, 73, 4600, 4700] G2 G_9 := hw10.2.1
  have q13 := hw10.2.2.2
  have w14 : yW3 G_9 := yW3.un h_w3 hU12 rfl
  have t15 : G_9 0 32 = G2 0 32 := hU12 0 32 (by decide)
  have t15i := congrArg Int32.toInt t15
  refine g_pop F dL_law_1282 rfl ?_
  refine g_goto F 1385 dL_law_1283 (by decide) ?_
  exact kE G_2 G_9 ⟨hI4, hI11, f7, w14, by omega, by omega⟩
set_option maxRecDepth 20000 in
theorem ggL_law_X11_ringsOut : GoodIn wsL_law wsX11_ringsOut := goodIn_r _ [1393, 48, 1394, 1395, 47, 1396, 1397, 1398, 1399, 1400, 1379, 1401, 1402, 1403, 1404, 169, 1405, 936, 361, 937, 1440, 1441, 1442, 1443, 1444, 1445, 1446, 1447, 1448, 1449, 1450, 1451, 1452, 1453, 1599, 1600, 1601] rfl (by decide +kernel)
set_option maxRecDepth 20000 in
theorem gL_law_X11_ringsOut : GoodIn wsL_law (wsV RL 140 RX11 yX11_ringsOut wsX11_ringsOut) := goodIn_app (goodIn_of _ (by decide +kernel)) ggL_law_X11_ringsOut
set_option maxRecDepth 20000 in
theorem ggL_law_X13_ringsOut : GoodIn wsL_law wsX13_ringsOut := goodIn_r _ [1409, 1410, 1411, 1385, 919, 360, 361, 362, 280, 281, 5, 282, 1412, 1413, 1414, 1415, 225, 935, 936, 937, 1454, 1455, 1456, 1457, 1458, 1459, 1460, 1461, 1462, 1463, 1464, 1465, 1466, 1467, 1468, 1469, 1470, 1471, 1472, 1473, 1474, 1475, 1476, 1477, 1478, 1479, 1480, 1481, 1482, 1483, 1484, 1485, 1486, 1487, 1488, 1489, 1490, 1491, 1492, 1493, 1494, 1495, 1496, 1497, 1498, 1499, 1500, 1501, 1502, 1503, 1504, 1505, 1506, 1507, 1508, 1509, 1510, 1511, 1512, 1513, 1514, 1515, 1516, 1517, 1518, 1519, 1520, 1521, 1522, 1523, 1524, 1525, 1526] rfl (by decide +kernel)
set_option maxRecDepth 20000 in
theorem gL_law_X13_ringsOut : GoodIn wsL_law (wsV RL 143 RX13 yX13_ringsOut wsX13_ringsOut) := goodIn_app (goodIn_of _ (by decide +kernel)) ggL_law_X13_ringsOut
set_option maxHeartbeats 4000000 in
set_option maxRecDepth 100000 in
theorem law_c30 {p : Program} {e : Env} {s : State} {m : MethodId} {args : Array Value} {below : List Frame} {meth : Method} {c : Code} {A : Nat → Prop} {Q : State → Prop} (l : Launch) (D : va_G) (F : gF p s m args meth c cL_law RL 4 wsL_law A) (hts0 : ∀ w ∈ wsL_t, w.before args s = true) {zf : Nat → Nat} (hZ : xZ zf A s s.heap) {qs vs : Nat → Nat} (hY : yZ qs vs A s s.heap) {sb L : Nat} {sx : Nat → Int32} (hX : va_X sb L sx s s.heap) (hbl : sb < s.heap.size) (hbA : ¬ A sb) (hL : L ≤ 3584) (K : Nat → ClassId) (a b : Nat → Nat) (G G2 : gS) (hl : lI G G2) (i : Int32) (i0 : Int) (ei : i.toInt = i0) (h0 : 0 ≤ i0) (h7 : i0 + 7 ≤ L) (kE : ∀ G1 G3 : gS, lI G1 G3 → gG p l e (gR 2048 601024 7293033 84000) s m args below meth c D A 4 Q 139 10449 (xW K a G1 ++ yW K b G3) (tK K) [(3, .int i), (2, .ref (b 0)), (1, .ref (a 0)), (0, .ref sb)] 1385 []) : gG p l e (gR 2048 601024 7293033 84000) s m args below meth c D A 4 Q 139 10449 (xW K a G ++ yW K b G2) (tK K) [(3, .int i), (2, .ref (b 0)), (1, .ref (a 0)), (0, .ref sb)] 1286 [] := by
  have hts := F.2.2.2.2.1
  obtain ⟨hxI, hyI, hf3, h_w3, hd0, heq⟩ := hl
  refine g_aload_n F 2 dL_law_1286 rfl rfl ?_
  refine g_aload_n F 3 dL_law_1287 rfl rfl ?_
  refine g_iload_n F 0 dL_law_1288 rfl rfl ?_
  refine g_iconst F 1 dL_law_1289 (by decide) ?_
  refine u_iadd F dL_law_1290 i0 1 ei rfl (by omega) (by omega) (fun y1 ey1 => ?_)
  refine g_sld F hX hbl hbA ((i0 + 1)).toNat (congrArg Int.toNat (show y1.toInt = (i0 + 1) by omega)) (ti_in rfl (by omega) (by omega)) dL_law_1291 ?_
  refine g_aload_n F 3 dL_law_1292 rfl rfl ?_
  refine g_iload_n F 0 dL_law_1293 rfl rfl ?_
  refine g_iconst F 2 dL_law_1294 (by decide) ?_
  refine u_iadd F dL_law_1295 i0 2 ei rfl (by omega) (by omega) (fun y2 ey2 => ?_)
  refine g_sld F hX hbl hbA ((i0 + 2)).toNat (congrArg Int.toNat (show y2.toInt = (i0 + 2) by omega)) (ti_in rfl (by omega) (by omega)) dL_law_1296 ?_
  refine g_aload_n F 3 dL_law_1297 rfl rfl ?_
  refine g_iload_n F 0 dL_law_1298 rfl rfl ?_
  refine g_iconst F 3 dL_law_1299 (by decide) ?_
  refine u_iadd F dL_law_1300 i0 3 ei rfl (by omega) (by omega) (fun y3 ey3 => ?_)
  refine g_sld F hX hbl hbA ((i0 + 3)).toNat (congrArg Int.toNat (show y3.toInt = (i0 + 3) by omega)) (ti_in rfl (by omega) (by omega)) dL_law_1301 ?_
  refine g_aload_n F 3 dL_law_1302 rfl rfl ?_
  refine g_iload_n F 0 dL_law_1303 rfl rfl ?_
  refine g_iconst F 4 dL_law_1304 (by decide) ?_
  refine u_iadd F dL_law_1305 i0 4 ei rfl (by omega) (by omega) (fun y4 ey4 => ?_)
  refine g_sld F hX hbl hbA ((i0 + 4)).toNat (congrArg Int.toNat (show y4.toInt = (i0 + 4) by omega)) (ti_in rfl (by omega) (by omega)) dL_law_1306 ?_
  refine u2_callVi (k := 139) (n := 10449) (b := a 0) (As := [.int (sx ((i0 + 1)).toNat), .int (sx ((i0 + 2)).toNat), .int (sx ((i0 + 3)).toNat), .int (sx ((i0 + 4)).toNat)]) (st := []) (wc := (xW K a G)) (wr := (yW K b G2)) F (fun sz => S_X11_ringsOut l D K a G (sx ((i0 + 1)).toNat) (sx ((i0 + 1)).toNat).toInt (sx ((i0 + 2)).toNat) (sx ((i0 + 2)).toNat).toInt (sx ((i0 + 3)).toNat) (sx ((i0 + 3)).toNat).toInt (sx ((i0 + 4)).toNat) (sx ((i0 + 4)).toNat).toInt rfl rfl rfl rfl hxI sz) (cwV 4 hts gL_law_X11_ringsOut rfl rfl rfl (by decide +kernel) ⟨Nat.le_of_ble_eq_true rfl, Nat.le_of_ble_eq_true rfl⟩) rfl 0 xc_0 rfl (Nat.le_of_ble_eq_true rfl) ⟨Nat.le_of_ble_eq_true rfl, Nat.le_of_ble_eq_true rfl⟩ dL_law_1307 (fun r5 _ hw7 => ?_)
  refine g_pop F dL_law_1310 rfl ?_
  refine g_aload_n F 1 dL_law_1311 rfl rfl ?_
  refine g_aload_n F 3 dL_law_1312 rfl rfl ?_
  refine g_iload_n F 0 dL_law_1313 rfl rfl ?_
  refine g_iconst F 1 dL_law_1314 (by decide) ?_
  refine u_iadd F dL_law_1315 i0 1 ei rfl (by omega) (by omega) (fun y8 ey8 => ?_)
  refine g_sld F hX hbl hbA ((i0 + 1)).toNat (congrArg Int.toNat (show y8.toInt = (i0 + 1) by omega)) (ti_in rfl (by omega) (by omega)) dL_law_1316 ?_
  refine g_aload_n F 3 dL_law_1317 rfl rfl ?_
  refine g_iload_n F 0 dL_law_1318 rfl rfl ?_
  refine g_iconst F 2 dL_law_1319 (by decide) ?_
  refine u_iadd F dL_law_1320 i0 2 ei rfl (by omega) (by omega) (fun y9 ey9 => ?_)
  refine g_sld F hX hbl hbA ((i0 + 2)).toNat (congrArg Int.toNat (show y9.toInt = (i0 + 2) by omega)) (ti_in rfl (by omega) (by omega)) dL_law_1321 ?_
  refine g_aload_n F 3 dL_law_1322 rfl rfl ?_
  refine g_iload_n F 0 dL_law_1323 rfl rfl ?_
  refine g_iconst F 3 dL_law_1324 (by decide) ?_
  refine u_iadd F dL_law_1325 i0 3 ei rfl (by omega) (by omega) (fun y10 ey10 => ?_)
  refine g_sld F hX hbl hbA ((i0 + 3)).toNat (congrArg Int.toNat (show y10.toInt = (i0 + 3) by omega)) (ti_in rfl (by omega) (by omega)) dL_law_1326 ?_
  refine g_aload_n F 3 dL_law_1327 rfl rfl ?_
  refine g_iload_n F 0 dL_law_1328 rfl rfl ?_
  refine g_iconst F 4 dL_law_1329 (by decide) ?_
  refine u_iadd F dL_law_1330 i0 4 ei rfl (by omega) (by omega) (fun y11 ey11 => ?_)
  refine g_sld F hX hbl hbA ((i0 + 4)).toNat (congrArg Int.toNat (show y11.toInt = (i0 + 4) by omega)) (ti_in rfl (by omega) (by omega)) dL_law_1331 ?_
  refine u2_callVi (k := 139) (n := 10449) (b := b 0) (As := [.int (sx ((i0 + 1)).toNat), .int (sx ((i0 + 2)).toNat), .int (sx ((i0 + 3)).toNat), .int (sx ((i0 + 4)).toNat)]) (st := []) (wc := (yW K b G2)) (wr := (xW K a G)) F (fun sz => S_X13_ringsOut l D K b G2 (sx ((i0 + 1)).toNat) (sx ((i0 + 1)).toNat).toInt (sx ((i0 + 2)).toNat) (sx ((i0 + 2)).toNat).toInt (sx ((i0 + 3)).toNat) (sx ((i0 + 3)).toNat).toInt (sx ((i0 + 4)).toNat) (sx ((i0 + 4)).toNat).toInt rfl rfl rfl rfl hyI sz) (cwV 4 hts gL_law_X13_ringsOut rfl rfl rfl (by decide +kernel) ⟨Nat.le_of_ble_eq_true rfl, Nat.le_of_ble_eq_true rfl⟩) rfl 0 yc_0 rfl (Nat.le_of_ble_eq_true rfl) ⟨Nat.le_of_ble_eq_true rfl, Nat.le_of_ble_eq_true rfl⟩ dL_law_1332 (fun r12 _ hw14 => ?_)
  refine g_pop F dL_law_1335 rfl ?_
  refine g_goto F 1385 dL_law_1336 (by decide) ?_
  exact kE G G2 ⟨hxI, hyI, hf3, h_w3, by omega, by omega⟩
set_option maxRecDepth 20000 in
theorem ggL_law_X11_forced : GoodIn wsL_law wsX11_forced := goodIn_r _ [1419, 48, 1394, 1395, 47, 1396, 1420, 1421, 1422, 1423, 1379, 169, 1405, 936, 361, 937, 1401, 1402, 1403, 1404, 1440, 1441, 1442, 1443, 1444, 1445, 1446, 1447, 1448, 1449, 1450, 1451, 1452, 1453, 1599, 1600, 1601] rfl (by decide +kernel)
set_option maxRecDepth 20000 in
theorem gL_law_X11_forced : GoodIn wsL_law (wsV RL 144 RX11 yX11_forced wsX11_forced) := goodIn_app (goodIn_of _ (by decide +kernel)) ggL_law_X11_forced
set_option maxRecDepth 20000 in
theorem ggL_law_X13_forced : GoodIn wsL_law wsX13_forced := goodIn_r _ [1427, 1410, 1385, 225, 935, 936, 361, 937, 280, 281, 5, 282, 1412, 1413, 1414, 1415, 1454, 1455, 1456, 1457, 1458, 1459, 1460, 1461, 1462, 1463, 1464, 1465, 1466, 1467, 1468, 1469, 1470, 1471, 1472, 1473, 1474, 1475, 1476, 1477, 1478, 1479, 1480, 1481, 1482, 1483, 1484, 1485, 1486, 1487, 1488, 1489, 1490, 1491, 1492, 1493, 1494, 1495, 1496, 1497, 1498, 1499, 1500, 1501, 1502, 1503, 1504, 1505, 1506, 1507, 1508, 1509, 1510, 1511, 1512, 1513, 1514, 1515, 1516, 1517, 1518, 1519, 1520, 1521, 1522, 1523, 1524, 1525, 1526] rfl (by decide +kernel)
set_option maxRecDepth 20000 in
theorem gL_law_X13_forced : GoodIn wsL_law (wsV RL 147 RX13 yX13_forced wsX13_forced) := goodIn_app (goodIn_of _ (by decide +kernel)) ggL_law_X13_forced
set_option maxHeartbeats 4000000 in
set_option maxRecDepth 100000 in
theorem law_c31 {p : Program} {e : Env} {s : State} {m : MethodId} {args : Array Value} {below : List Frame} {meth : Method} {c : Code} {A : Nat → Prop} {Q : State → Prop} (l : Launch) (D : va_G) (F : gF p s m args meth c cL_law RL 4 wsL_law A) (hts0 : ∀ w ∈ wsL_t, w.before args s = true) {zf : Nat → Nat} (hZ : xZ zf A s s.heap) {qs vs : Nat → Nat} (hY : yZ qs vs A s s.heap) {sb L : Nat} {sx : Nat → Int32} (hX : va_X sb L sx s s.heap) (hbl : sb < s.heap.size) (hbA : ¬ A sb) (hL : L ≤ 3584) (K : Nat → ClassId) (a b : Nat → Nat) (G G2 : gS) (hl : lI G G2) (i : Int32) (i0 : Int) (ei : i.toInt = i0) (h0 : 0 ≤ i0) (h7 : i0 + 7 ≤ L) (kE : ∀ G1 G3 : gS, lI G1 G3 → gG p l e (gR 2048 601024 7293033 84000) s m args below meth c D A 4 Q 139 10449 (xW K a G1 ++ yW K b G3) (tK K) [(3, .int i), (2, .ref (b 0)), (1, .ref (a 0)), (0, .ref sb)] 1385 []) : gG p l e (gR 2048 601024 7293033 84000) s m args below meth c D A 4 Q 139 10449 (xW K a G ++ yW K b G2) (tK K) [(3, .int i), (2, .ref (b 0)), (1, .ref (a 0)), (0, .ref sb)] 1339 [] := by
  have hts := F.2.2.2.2.1
  obtain ⟨hxI, hyI, hf3, h_w3, hd0, heq⟩ := hl
  refine g_aload_n F 2 dL_law_1339 rfl rfl ?_
  refine g_aload_n F 3 dL_law_1340 rfl rfl ?_
  refine g_iload_n F 0 dL_law_1341 rfl rfl ?_
  refine g_iconst F 1 dL_law_1342 (by decide) ?_
  refine u_iadd F dL_law_1343 i0 1 ei rfl (by omega) (by omega) (fun y1 ey1 => ?_)
  refine g_sld F hX hbl hbA ((i0 + 1)).toNat (congrArg Int.toNat (show y1.toInt = (i0 + 1) by omega)) (ti_in rfl (by omega) (by omega)) dL_law_1344 ?_
  refine u2_callVi (k := 139) (n := 10449) (b := a 0) (As := [.int (sx ((i0 + 1)).toNat)]) (st := []) (wc := (xW K a G)) (wr := (yW K b G2)) F (fun sz => S_X11_forced l D K a G (sx ((i0 + 1)).toNat) (sx ((i0 + 1)).toNat).toInt rfl hxI sz) (cwV 1 hts gL_law_X11_forced rfl rfl rfl (by decide +kernel) ⟨Nat.le_of_ble_eq_true rfl, Nat.le_of_ble_eq_true rfl⟩) rfl 0 xc_0 rfl (Nat.le_of_ble_eq_true rfl) ⟨Nat.le_of_ble_eq_true rfl, Nat.le_of_ble_eq_true rfl⟩ dL_law_1345 (fun r2 _ hw4 => ?_)
  refine g_pop F dL_law_1348 rfl ?_
  refine g_aload_n F 1 dL_law_1349 rfl rfl ?_
  refine g_aload_n F 3 dL_law_1350 rfl rfl ?_
  refine g_iload_n F 0 dL_law_1351 rfl rfl ?_
  refine g_iconst F 1 dL_law_1352 (by decide) ?_
  refine u_iadd F dL_law_1353 i0 1 ei rfl (by omega) (by omega) (fun y5 ey5 => ?_)
  refine g_sld F hX hbl hbA ((i0 + 1)).toNat (congrArg Int.toNat (show y5.toInt = (i0 + 1) by omega)) (ti_in rfl (by omega) (by omega)) dL_law_1354 ?_
  refine u2_callVi (k := 139) (n := 10449) (b := b 0) (As := [.int (sx ((i0 + 1)).toNat)]) (st := []) (wc := (yW K b G2)) (wr := (xW K a G)) F (fun sz => S_X13_forced l D K b G2 (sx ((i0 + 1)).toNat) (sx ((i0 + 1)).toNat).toInt rfl hyI sz) (cwV 1 hts gL_law_X13_forced rfl rfl rfl (by decide +kernel) ⟨Nat.le_of_ble_eq_true rfl, Nat.le_of_ble_eq_true rfl⟩) rfl 0 yc_0 rfl (Nat.le_of_ble_eq_true rfl) ⟨Nat.le_of_ble_eq_true rfl, Nat.le_of_ble_eq_true rfl⟩ dL_law_1355 (fun r6 _ hw8 => ?_)
  refine g_pop F dL_law_1358 rfl ?_
  refine g_goto F 1385 dL_law_1359 (by decide) ?_
  exact kE G G2 ⟨hxI, hyI, hf3, h_w3, by omega, by omega⟩
set_option maxRecDepth 20000 in
theorem ggL_law_X11_count : GoodIn wsL_law wsX11_count := goodIn_r _ [1431, 28, 797, 972, 40, 1432, 44, 1433, 1434, 1435, 48, 1365, 15, 253, 1440, 1441, 1442, 1443, 1444, 1445, 1446, 1447, 1448, 1449, 1450, 1451, 1452, 1453, 1544, 1545, 1546, 1547, 1548, 1577, 1578, 1579, 1580, 1581, 1582, 1583, 1584, 1585, 1586, 1587, 1588, 1589, 1590, 1591, 1592, 1593, 1594, 1595, 1596, 1597, 1598, 1599, 1600, 1601, 1527, 1528, 1529, 1530, 1531, 1532] rfl (by decide +kernel)
set_option maxRecDepth 20000 in
theorem gL_law_X11_count : GoodIn wsL_law (wsV RL 148 RX11 yX11_count wsX11_count) := goodIn_app (goodIn_of _ (by decide +kernel)) ggL_law_X11_count
set_option maxRecDepth 20000 in
theorem ggL_law_X13_count : GoodIn wsL_law wsX13_count := goodIn_r _ [1439, 247, 248, 594, 596, 597, 598, 1385, 267, 1454, 1455, 1456, 1457, 1458, 1459, 1460, 1461, 1462, 1463, 1464, 1465, 1466, 1467, 1468, 1469, 1470, 1471, 1472, 1473, 1474, 1475, 1476, 1477, 1478, 1479, 1480, 1481, 1482, 1483, 1484, 1485, 1486, 1487, 1488, 1489, 1490, 1491, 1492, 1493, 1494, 1495, 1496, 1497, 1498, 1499, 1500, 1501, 1502, 1503, 1504, 1505, 1506, 1507, 1508, 1509, 1510, 1511, 1512, 1513, 1514, 1515, 1516, 1517, 1518, 1519, 1520, 1521, 1522, 1523, 1524, 1525, 1526] rfl (by decide +kernel)
set_option maxRecDepth 20000 in
theorem gL_law_X13_count : GoodIn wsL_law (wsV RL 151 RX13 yX13_count wsX13_count) := goodIn_app (goodIn_of _ (by decide +kernel)) ggL_law_X13_count
set_option maxHeartbeats 4000000 in
set_option maxRecDepth 100000 in
theorem law_c32 {p : Program} {e : Env} {s : State} {m : MethodId} {args : Array Value} {below : List Frame} {meth : Method} {c : Code} {A : Nat → Prop} {Q : State → Prop} (l : Launch) (D : va_G) (F : gF p s m args meth c cL_law RL 4 wsL_law A) (hts0 : ∀ w ∈ wsL_t, w.before args s = true) {zf : Nat → Nat} (hZ : xZ zf A s s.heap) {qs vs : Nat → Nat} (hY : yZ qs vs A s s.heap) {sb L : Nat} {sx : Nat → Int32} (hX : va_X sb L sx s s.heap) (hbl : sb < s.heap.size) (hbA : ¬ A sb) (hL : L ≤ 3584) (K : Nat → ClassId) (a b : Nat → Nat) (G G2 : gS) (hl : lI G G2) (i : Int32) (i0 : Int) (ei : i.toInt = i0) (h0 : 0 ≤ i0) (h7 : i0 + 7 ≤ L) (kE : ∀ G1 G3 : gS, lI G1 G3 → gG p l e (gR 2048 601024 7293033 84000) s m args below meth c D A 4 Q 139 10449 (xW K a G1 ++ yW K b G3) (tK K) [(3, .int i), (2, .ref (b 0)), (1, .ref (a 0)), (0, .ref sb)] 1385 []) : gG p l e (gR 2048 601024 7293033 84000) s m args below meth c D A 4 Q 139 10449 (xW K a G ++ yW K b G2) (tK K) [(3, .int i), (2, .ref (b 0)), (1, .ref (a 0)), (0, .ref sb)] 1362 [] := by
  have hts := F.2.2.2.2.1
  obtain ⟨hxI, hyI, hf3, h_w3, hd0, heq⟩ := hl
  refine g_aload_n F 2 dL_law_1362 rfl rfl ?_
  refine g_aload_n F 3 dL_law_1363 rfl rfl ?_
  refine g_iload_n F 0 dL_law_1364 rfl rfl ?_
  refine g_iconst F 1 dL_law_1365 (by decide) ?_
  refine u_iadd F dL_law_1366 i0 1 ei rfl (by omega) (by omega) (fun y1 ey1 => ?_)
  refine g_sld F hX hbl hbA ((i0 + 1)).toNat (congrArg Int.toNat (show y1.toInt = (i0 + 1) by omega)) (ti_in rfl (by omega) (by omega)) dL_law_1367 ?_
  refine u2_callVi (k := 139) (n := 10449) (b := a 0) (As := [.int (sx ((i0 + 1)).toNat)]) (st := []) (wc := (xW K a G)) (wr := (yW K b G2)) F (fun sz => S_X11_count l D K a G (sx ((i0 + 1)).toNat) (sx ((i0 + 1)).toNat).toInt rfl hxI sz) (cwV 1 hts gL_law_X11_count rfl rfl rfl (by decide +kernel) ⟨Nat.le_of_ble_eq_true rfl, Nat.le_of_ble_eq_true rfl⟩) rfl 0 xc_0 rfl (Nat.le_of_ble_eq_true rfl) ⟨Nat.le_of_ble_eq_true rfl, Nat.le_of_ble_eq_true rfl⟩ dL_law_1368 (fun r2 _ hw4 => ?_)
  refine g_pop F dL_law_1371 rfl ?_
  refine g_aload_n F 1 dL_law_1372 rfl rfl ?_
  refine g_aload_n F 3 dL_law_1373 rfl rfl ?_
  refine g_iload_n F 0 dL_law_1374 rfl rfl ?_
  refine g_iconst F 1 dL_law_1375 (by decide) ?_
  refine u_iadd F dL_law_1376 i0 1 ei rfl (by omega) (by omega) (fun y5 ey5 => ?_)
  refine g_sld F hX hbl hbA ((i0 + 1)).toNat (congrArg Int.toNat (show y5.toInt = (i0 + 1) by omega)) (ti_in rfl (by omega) (by omega)) dL_law_1377 ?_
  refine u2_callVi (k := 139) (n := 10449) (b := b 0) (As := [.int (sx ((i0 + 1)).toNat)]) (st := []) (wc := (yW K b G2)) (wr := (xW K a G)) F (fun sz => S_X13_count l D K b G2 (sx ((i0 + 1)).toNat) (sx ((i0 + 1)).toNat).toInt rfl hyI sz) (cwV 1 hts gL_law_X13_count rfl rfl rfl (by decide +kernel) ⟨Nat.le_of_ble_eq_true rfl, Nat.le_of_ble_eq_true rfl⟩) rfl 0 yc_0 rfl (Nat.le_of_ble_eq_true rfl) ⟨Nat.le_of_ble_eq_true rfl, Nat.le_of_ble_eq_true rfl⟩ dL_law_1378 (fun r6 _ hw8 => ?_)
  refine g_pop F dL_law_1381 rfl ?_
  refine g_goto F 1385 dL_law_1382 (by decide) ?_
  exact kE G G2 ⟨hxI, hyI, hf3, h_w3, by omega, by omega⟩
