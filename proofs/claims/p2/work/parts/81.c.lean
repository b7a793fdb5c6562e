set_option maxRecDepth 20000 in
theorem ggL_law_X11_sure : GoodIn wsL_law wsX11_sure := goodIn_r _ [1017, 32, 36, 806, 807, 808, 31, 809, 810, 811, 812, 813, 130, 814, 758, 759, 18, 760, 61, 1018, 1019, 1020, 35, 1021, 139, 1022, 141, 140, 1023, 1024, 1025, 819, 820, 821, 822, 126, 823, 80, 81, 82, 824, 825, 826, 827, 762, 27, 763, 828, 829, 830, 831, 832, 360, 361, 362, 833, 834, 835, 836, 837, 364, 365, 838, 839, 840, 841, 842, 843, 844, 845, 127, 846, 847, 848, 849, 850, 851, 852, 853, 854, 855, 856, 857, 125, 858, 84, 85, 86, 859, 860, 861, 862, 863, 864, 128, 129, 865, 866, 867, 868, 869, 715, 716, 64, 717, 91, 71, 72, 718, 719, 720, 870, 871, 872, 873, 874, 875, 876, 877, 878, 879, 880, 881, 882, 883, 884, 1440, 1441, 1442, 1443, 1444, 1445, 1446, 1447, 1448, 1449, 1450, 1451, 1452, 1453, 1549, 1550, 1551, 1552, 1553, 1554, 1555, 1556, 1557, 1558, 1559, 1560, 1561, 1562, 1563, 1564, 1565, 1566, 1567, 1568, 1533, 1534, 1535, 1536, 1569, 1570, 1571, 1572, 1573, 1574, 1575, 1576, 1544, 1545, 1546, 1547, 1548, 1602, 1603, 1604, 1605, 1606, 1607, 1608, 1609, 1610] rfl (by decide +kernel)
set_option maxRecDepth 20000 in
theorem gL_law_X11_sure : GoodIn wsL_law (wsV RL 75 RX11 yX11_sure wsX11_sure) := goodIn_app (goodIn_of _ (by decide +kernel)) ggL_law_X11_sure
set_option maxRecDepth 20000 in
theorem ggL_law_X13_sure : GoodIn wsL_law wsX13_sure := goodIn_r _ [1029, 181, 901, 902, 903, 5, 904, 905, 705, 906, 773, 774, 775, 776, 280, 281, 282, 911, 912, 913, 914, 915, 916, 917, 918, 193, 919, 360, 361, 362, 777, 778, 779, 920, 921, 922, 923, 924, 925, 926, 927, 198, 928, 199, 247, 929, 930, 931, 932, 200, 933, 934, 185, 935, 936, 937, 938, 939, 940, 941, 942, 659, 364, 365, 943, 944, 945, 946, 947, 948, 949, 950, 183, 194, 195, 196, 197, 951, 952, 953, 954, 726, 727, 728, 729, 191, 190, 189, 192, 730, 731, 732, 955, 956, 957, 958, 959, 960, 961, 962, 1454, 1455, 1456, 1457, 1458, 1459, 1460, 1461, 1462, 1463, 1464, 1465, 1466, 1467, 1468, 1469, 1470, 1471, 1472, 1473, 1474, 1475, 1476, 1477, 1478, 1479, 1480, 1481, 1482, 1483, 1484, 1485, 1486, 1487, 1488, 1489, 1490, 1491, 1492, 1493, 1494, 1495, 1496, 1497, 1498, 1499, 1500, 1501, 1502, 1503, 1504, 1505, 1506, 1507, 1508, 1509, 1510, 1511, 1512, 1513, 1514, 1515, 1516, 1517, 1518, 1519, 1520, 1521, 1522, 1523, 1524, 1525, 1526] rfl (by decide +kernel)
set_option maxRecDepth 20000 in
theorem gL_law_X13_sure : GoodIn wsL_law (wsV RL 79 RX13 yX13_sure wsX13_sure) := goodIn_app (goodIn_of _ (by decide +kernel)) ggL_law_X13_sure
set_option maxHeartbeats 4000000 in
set_option maxRecDepth 100000 in
theorem law_c14 {p : Program} {e : Env} {s : State} {m : MethodId} {args : Array Value} {below : List Frame} {meth : Method} {c : Code} {A : Nat → Prop} {Q : State → Prop} (l : Launch) (D : va_G) (F : gF p s m args meth c cL_law RL 4 wsL_law A) (hts0 : ∀ w ∈ wsL_t, w.before args s = true) {zf : Nat → Nat} (hZ : xZ zf A s s.heap) {qs vs : Nat → Nat} (hY : yZ qs vs A s s.heap) {sb L : Nat} {sx : Nat → Int32} (hX : va_X sb L sx s s.heap) (hbl : sb < s.heap.size) (hbA : ¬ A sb) (hL : L ≤ 3584) (K : Nat → ClassId) (a b : Nat → Nat) (G G2 : gS) (hl : lI G G2) (i : Int32) (i0 : Int) (ei : i.toInt = i0) (h0 : 0 ≤ i0) (h7 : i0 + 7 ≤ L) (kE : ∀ G1 G3 : gS, lI G1 G3 → gG p l e (gR 2048 601024 7293033 84000) s m args below meth c D A 4 Q 139 10449 (xW K a G1 ++ yW K b G3) (tK K) [(3, .int i), (2, .ref (b 0)), (1, .ref (a 0)), (0, .ref sb)] 1385 []) : gG p l e (gR 2048 601024 7293033 84000) s m args below meth c D A 4 Q 139 10449 (xW K a G ++ yW K b G2) (tK K) [(3, .int i), (2, .ref (b 0)), (1, .ref (a 0)), (0, .ref sb)] 696 [] := by
  have hts := F.2.2.2.2.1
  obtain ⟨hxI, hyI, hf3, h_w3, hd0, heq⟩ := hl
  refine g_aload_n F 2 dL_law_696 rfl rfl ?_
  refine g_aload_n F 3 dL_law_697 rfl rfl ?_
  refine g_iload_n F 0 dL_law_698 rfl rfl ?_
  refine g_iconst F 1 dL_law_699 (by decide) ?_
  refine u_iadd F dL_law_700 i0 1 ei rfl (by omega) (by omega) (fun y1 ey1 => ?_)
  refine g_sld F hX hbl hbA ((i0 + 1)).toNat (congrArg Int.toNat (show y1.toInt = (i0 + 1) by omega)) (ti_in rfl (by omega) (by omega)) dL_law_701 ?_
  refine g_aload_n F 3 dL_law_702 rfl rfl ?_
  refine g_iload_n F 0 dL_law_703 rfl rfl ?_
  refine g_iconst F 2 dL_law_704 (by decide) ?_
  refine u_iadd F dL_law_705 i0 2 ei rfl (by omega) (by omega) (fun y2 ey2 => ?_)
  refine g_sld F hX hbl hbA ((i0 + 2)).toNat (congrArg Int.toNat (show y2.toInt = (i0 + 2) by omega)) (ti_in rfl (by omega) (by omega)) dL_law_706 ?_
  refine g_aload_n F 3 dL_law_707 rfl rfl ?_
  refine g_iload_n F 0 dL_law_708 rfl rfl ?_
  refine g_iconst F 3 dL_law_709 (by decide) ?_
  refine u_iadd F dL_law_710 i0 3 ei rfl (by omega) (by omega) (fun y3 ey3 => ?_)
  refine g_sld F hX hbl hbA ((i0 + 3)).toNat (congrArg Int.toNat (show y3.toInt = (i0 + 3) by omega)) (ti_in rfl (by omega) (by omega)) dL_law_711 ?_
  refine g_aload_n F 3 dL_law_712 rfl rfl ?_
  refine g_iload_n F 0 dL_law_713 rfl rfl ?_
  refine g_iconst F 4 dL_law_714 (by decide) ?_
  refine u_iadd F dL_law_715 i0 4 ei rfl (by omega) (by omega) (fun y4 ey4 => ?_)
  refine g_sld F hX hbl hbA ((i0 + 4)).toNat (congrArg Int.toNat (show y4.toInt = (i0 + 4) by omega)) (ti_in rfl (by omega) (by omega)) dL_law_716 ?_
  refine u2_callVi (k := 139) (n := 10449) (b := a 0) (As := [.int (sx ((i0 + 1)).toNat), .int (sx ((i0 + 2)).toNat), .int (sx ((i0 + 3)).toNat), .int (sx ((i0 + 4)).toNat)]) (st := []) (wc := (xW K a G)) (wr := (yW K b G2)) F (fun sz => S_X11_sure l D K a G (sx ((i0 + 1)).toNat) (sx ((i0 + 1)).toNat).toInt (sx ((i0 + 2)).toNat) (sx ((i0 + 2)).toNat).toInt (sx ((i0 + 3)).toNat) (sx ((i0 + 3)).toNat).toInt (sx ((i0 + 4)).toNat) (sx ((i0 + 4)).toNat).toInt rfl rfl rfl rfl hxI sz) (cwV 4 hts gL_law_X11_sure rfl rfl rfl (by decide +kernel) ⟨Nat.le_of_ble_eq_true rfl, Nat.le_of_ble_eq_true rfl⟩) rfl 0 xc_0 rfl (Nat.le_of_ble_eq_true rfl) ⟨Nat.le_of_ble_eq_true rfl, Nat.le_of_ble_eq_true rfl⟩ dL_law_717 (fun r5 G_6 hw7 => ?_)
  have hI8 : xI G_6 := hw7.1
  have hU9 : gu_un xcd [602, 603, 604, 605, 608, 613, 614, 615, 616, 617, 618, 619, 620, 2100, 2400, 2700, 4400, 4500, 4600, 4700, 4800] G G_6 := hw7.2.1
  have f10 : xF3 G_6 := xF3.un hf3 hU9 rfl rfl rfl
  have t11 : G_6 1 1 = G 1 1 := hU9 1 1 (by decide)
  have t11i := congrArg Int32.toInt t11
  refine g_pop F dL_law_720 rfl ?_
  refine g_aload_n F 1 dL_law_721 rfl rfl ?_
  refine g_aload_n F 3 dL_law_722 rfl rfl ?_
  refine g_iload_n F 0 dL_law_723 rfl rfl ?_
  refine g_iconst F 1 dL_law_724 (by decide) ?_
  refine u_iadd F dL_law_725 i0 1 ei rfl (by omega) (by omega) (fun y12 ey12 => ?_)
  refine g_sld F hX hbl hbA ((i0 + 1)).toNat (congrArg Int.toNat (show y12.toInt = (i0 + 1) by omega)) (ti_in rfl (by omega) (by omega)) dL_law_726 ?_
  refine g_aload_n F 3 dL_law_727 rfl rfl ?_
  refine g_iload_n F 0 dL_law_728 rfl rfl ?_
  refine g_iconst F 2 dL_law_729 (by decide) ?_
  refine u_iadd F dL_law_730 i0 2 ei rfl (by omega) (by omega) (fun y13 ey13 => ?_)
  refine g_sld F hX hbl hbA ((i0 + 2)).toNat (congrArg Int.toNat (show y13.toInt = (i0 + 2) by omega)) (ti_in rfl (by omega) (by omega)) dL_law_731 ?_
  refine g_aload_n F 3 dL_law_732 rfl rfl ?_
  refine g_iload_n F 0 dL_law_733 rfl rfl ?_
  refine g_iconst F 3 dL_law_734 (by decide) ?_
  refine u_iadd F dL_law_735 i0 3 ei rfl (by omega) (by omega) (fun y14 ey14 => ?_)
  refine g_sld F hX hbl hbA ((i0 + 3)).toNat (congrArg Int.toNat (show y14.toInt = (i0 + 3) by omega)) (ti_in rfl (by omega) (by omega)) dL_law_736 ?_
  refine g_aload_n F 3 dL_law_737 rfl rfl ?_
  refine g_iload_n F 0 dL_law_738 rfl rfl ?_
  refine g_iconst F 4 dL_law_739 (by decide) ?_
  refine u_iadd F dL_law_740 i0 4 ei rfl (by omega) (by omega) (fun y15 ey15 => ?_)
  refine g_sld F hX hbl hbA ((i0 + 4)).toNat (congrArg Int.toNat (show y15.toInt = (i0 + 4) by omega)) (ti_in rfl (by omega) (by omega)) dL_law_741 ?_
  refine u2_callVi (k := 139) (n := 10449) (b := b 0) (As := [.int (sx ((i0 + 1)).toNat), .int (sx ((i0 + 2)).toNat), .int (sx ((i0 + 3)).toNat), .int (sx ((i0 + 4)).toNat)]) (st := []) (wc := (yW K b G2)) (wr := (xW K a G_6)) F (fun sz => S_X13_sure l D K b G2 (sx ((i0 + 1)).toNat) (sx ((i0 + 1)).toNat).toInt (sx ((i0 + 2)).toNat) (sx ((i0 + 2)).toNat).toInt (sx ((i0 + 3)).toNat) (sx ((i0 + 3)).toNat).toInt (sx ((i0 + 4)).toNat) (sx ((i0 + 4)).toNat).toInt rfl rfl rfl rfl h_w3 (by omega) hyI sz) (cwV 4 hts gL_law_X13_sure rfl rfl rfl (by decide +kernel) ⟨Nat.le_of_ble_eq_true rfl, Nat.le_of_ble_eq_true rfl⟩) rfl 0 yc_0 rfl (Nat.le_of_ble_eq_true rfl) ⟨Nat.le_of_ble_eq_true rfl, Nat.le_of_ble_eq_true rfl⟩ dL_law_742 (fun r16 G_17 hw18 => ?_)
  have hI19 : yI G_17 := hw18.1
  have hU20 : gu_un ycd [29, 33, 36, 37, 1300, 1400, 1500, 1600, 1700, 1800, 1900, 2000, 2100] G2 G_17 := hw18.2.1
  have q21 := hw18.2.2.2
  have w22 : yW3 G_17 := yW3.un h_w3 hU20 rfl
  have t23 : G_17 0 2 = G2 0 2 := hU20 0 2 (by decide)
  have t23i := congrArg Int32.toInt t23
  refine g_pop F dL_law_745 rfl ?_
  refine g_goto F 1385 dL_law_746 (by decide) ?_
  exact kE G_6 G_17 ⟨hI8, hI19, f10, w22, by omega, by omega⟩
set_option maxRecDepth 20000 in
theorem ggL_law_X11_deepest : GoodIn wsL_law wsX11_deepest := goodIn_r _ [1033, 32, 36, 806, 807, 808, 31, 809, 810, 811, 812, 813, 130, 814, 758, 759, 18, 760, 61, 1034, 1035, 1036, 35, 1037, 1038, 1039, 1040, 1041, 141, 139, 1022, 140, 1023, 1024, 1042, 1025, 819, 820, 821, 822, 126, 823, 80, 81, 82, 824, 825, 826, 827, 762, 27, 763, 828, 829, 830, 831, 832, 360, 361, 362, 833, 834, 835, 836, 837, 364, 365, 838, 839, 840, 841, 842, 843, 844, 845, 127, 846, 847, 848, 849, 850, 851, 852, 853, 854, 855, 856, 857, 125, 858, 84, 85, 86, 859, 860, 861, 862, 863, 864, 128, 129, 865, 866, 867, 868, 869, 715, 716, 64, 717, 91, 71, 72, 718, 719, 720, 870, 871, 872, 873, 874, 875, 876, 877, 878, 879, 880, 881, 882, 883, 884, 1440, 1441, 1442, 1443, 1444, 1445, 1446, 1447, 1448, 1449, 1450, 1451, 1452, 1453, 1549, 1550, 1551, 1552, 1553, 1554, 1555, 1556, 1557, 1558, 1559, 1560, 1561, 1562, 1563, 1564, 1565, 1566, 1567, 1568, 1533, 1534, 1535, 1536, 1569, 1570, 1571, 1572, 1573, 1574, 1575, 1576, 1544, 1545, 1546, 1547, 1548, 1602, 1603, 1604, 1605, 1606, 1607, 1608, 1609, 1610] rfl (by decide +kernel)
set_option maxRecDepth 20000 in
theorem gL_law_X11_deepest : GoodIn wsL_law (wsV RL 80 RX11 yX11_deepest wsX11_deepest) := goodIn_app (goodIn_of _ (by decide +kernel)) ggL_law_X11_deepest
set_option maxRecDepth 20000 in
theorem ggL_law_X13_deepest : GoodIn wsL_law wsX13_deepest := goodIn_r _ [1046, 905, 773, 774, 775, 5, 776, 181, 280, 281, 282, 1047, 1048, 1049, 1050, 1051, 1052, 1053, 1054, 911, 912, 913, 914, 915, 916, 917, 918, 193, 919, 360, 361, 362, 777, 778, 779, 920, 921, 922, 923, 924, 925, 926, 927, 198, 928, 199, 247, 929, 930, 931, 932, 200, 933, 934, 185, 935, 936, 937, 938, 939, 940, 941, 942, 659, 364, 365, 943, 944, 945, 946, 947, 948, 949, 950, 183, 194, 195, 196, 197, 951, 952, 953, 954, 726, 727, 728, 729, 191, 190, 189, 192, 730, 731, 732, 955, 956, 957, 958, 959, 960, 961, 962, 1454, 1455, 1456, 1457, 1458, 1459, 1460, 1461, 1462, 1463, 1464, 1465, 1466, 1467, 1468, 1469, 1470, 1471, 1472, 1473, 1474, 1475, 1476, 1477, 1478, 1479, 1480, 1481, 1482, 1483, 1484, 1485, 1486, 1487, 1488, 1489, 1490, 1491, 1492, 1493, 1494, 1495, 1496, 1497, 1498, 1499, 1500, 1501, 1502, 1503, 1504, 1505, 1506, 1507, 1508, 1509, 1510, 1511, 1512, 1513, 1514, 1515, 1516, 1517, 1518, 1519, 1520, 1521, 1522, 1523, 1524, 1525, 1526] rfl (by decide +kernel)
set_option maxRecDepth 20000 in
theorem gL_law_X13_deepest : GoodIn wsL_law (wsV RL 83 RX13 yX13_deepest wsX13_deepest) := goodIn_app (goodIn_of _ (by decide +kernel)) ggL_law_X13_deepest
set_option maxHeartbeats 4000000 in
set_option maxRecDepth 100000 in
theorem law_c15 {p : Program} {e : Env} {s : State} {m : MethodId} {args : Array Value} {below : List Frame} {meth : Method} {c : Code} {A : Nat → Prop} {Q : State → Prop} (l : Launch) (D : va_G) (F : gF p s m args meth c cL_law RL 4 wsL_law A) (hts0 : ∀ w ∈ wsL_t, w.before args s = true) {zf : Nat → Nat} (hZ : xZ zf A s s.heap) {qs vs : Nat → Nat} (hY : yZ qs vs A s s.heap) {sb L : Nat} {sx : Nat → Int32} (hX : va_X sb L sx s s.heap) (hbl : sb < s.heap.size) (hbA : ¬ A sb) (hL : L ≤ 3584) (K : Nat → ClassId) (a b : Nat → Nat) (G G2 : gS) (hl : lI G G2) (i : Int32) (i0 : Int) (ei : i.toInt = i0) (h0 : 0 ≤ i0) (h7 : i0 + 7 ≤ L) (kE : ∀ G1 G3 : gS, lI G1 G3 → gG p l e (gR 2048 601024 7293033 84000) s m args below meth c D A 4 Q 139 10449 (xW K a G1 ++ yW K b G3) (tK K) [(3, .int i), (2, .ref (b 0)), (1, .ref (a 0)), (0, .ref sb)] 1385 []) : gG p l e (gR 2048 601024 7293033 84000) s m args below meth c D A 4 Q 139 10449 (xW K a G ++ yW K b G2) (tK K) [(3, .int i), (2, .ref (b 0)), (1, .ref (a 0)), (0, .ref sb)] 749 [] := by
  have hts := F.2.2.2.2.1
  obtain ⟨hxI, hyI, hf3, h_w3, hd0, heq⟩ := hl
  refine g_aload_n F 2 dL_law_749 rfl rfl ?_
  refine g_aload_n F 3 dL_law_750 rfl rfl ?_
  refine g_iload_n F 0 dL_law_751 rfl rfl ?_
  refine g_iconst F 1 dL_law_752 (by decide) ?_
  refine u_iadd F dL_law_753 i0 1 ei rfl (by omega) (by omega) (fun y1 ey1 => ?_)
  refine g_sld F hX hbl hbA ((i0 + 1)).toNat (congrArg Int.toNat (show y1.toInt = (i0 + 1) by omega)) (ti_in rfl (by omega) (by omega)) dL_law_754 ?_
  refine g_aload_n F 3 dL_law_755 rfl rfl ?_
  refine g_iload_n F 0 dL_law_756 rfl rfl ?_
  refine g_iconst F 2 dL_law_757 (by decide) ?_
  refine u_iadd F dL_law_758 i0 2 ei rfl (by omega) (by omega) (fun y2 ey2 => ?_)
  refine g_sld F hX hbl hbA ((i0 + 2)).toNat (congrArg Int.toNat (show y2.toInt = (i0 + 2) by omega)) (ti_in rfl (by omega) (by omega)) dL_law_759 ?_
  refine u2_callVi (k := 139) (n := 10449) (b := a 0) (As := [.int (sx ((i0 + 1)).toNat), .int (sx ((i0 + 2)).toNat)]) (st := []) (wc := (xW K a G)) (wr := (yW K b G2)) F (fun sz => S_X11_deepest l D K a G (sx ((i0 + 1)).toNat) (sx ((i0 + 1)).toNat).toInt (sx ((i0 + 2)).toNat) (sx ((i0 + 2)).toNat).toInt rfl rfl hxI sz) (cwV 2 hts gL_law_X11_deepest rfl rfl rfl (by decide +kernel) ⟨Nat.le_of_ble_eq_true rfl, Nat.le_of_ble_eq_true rfl⟩) rfl 0 xc_0 rfl (Nat.le_of_ble_eq_true rfl) ⟨Nat.le_of_ble_eq_true rfl, Nat.le_of_ble_eq_true rfl⟩ dL_law_760 (fun r3 G_4 hw5 => ?_)
  have hI6 : xI G_4 := hw5.1
  have hU7 : gu_un xcd [602, 603, 604, 605, 608, 613, 614, 615, 616, 617, 618, 619, 620, 2100, 2400, 2700, 4400, 4500, 4600, 4700, 4800] G G_4 := hw5.2.1
  have f8 : xF3 G_4 := xF3.un hf3 hU7 rfl rfl rfl
  have t9 : G_4 1 1 = G 1 1 := hU7 1 1 (by decide)
  have t9i := congrArg Int32.toInt t9
  refine g_pop F dL_law_763 rfl ?_
  refine g_aload_n F 1 dL_law_764 rfl rfl ?_
  refine g_aload_n F 3 dL_law_765 rfl rfl ?_
  refine g_iload_n F 0 dL_law_766 rfl rfl ?_
  refine g_iconst F 1 dL_law_767 (by decide) ?_
  refine u_iadd F dL_law_768 i0 1 ei rfl (by omega) (by omega) (fun y10 ey10 => ?_)
  refine g_sld F hX hbl hbA ((i0 + 1)).toNat (congrArg Int.toNat (show y10.toInt = (i0 + 1) by omega)) (ti_in rfl (by omega) (by omega)) dL_law_769 ?_
  refine g_aload_n F 3 dL_law_770 rfl rfl ?_
  refine g_iload_n F 0 dL_law_771 rfl rfl ?_
  refine g_iconst F 2 dL_law_772 (by decide) ?_
  refine u_iadd F dL_law_773 i0 2 ei rfl (by omega) (by omega) (fun y11 ey11 => ?_)
  refine g_sld F hX hbl hbA ((i0 + 2)).toNat (congrArg Int.toNat (show y11.toInt = (i0 + 2) by omega)) (ti_in rfl (by omega) (by omega)) dL_law_774 ?_
  refine u2_callVi (k := 139) (n := 10449) (b := b 0) (As := [.int (sx ((i0 + 1)).toNat), .int (sx ((i0 + 2)).toNat)]) (st := []) (wc := (yW K b G2)) (wr := (xW K a G_4)) F (fun sz => S_X13_deepest l D K b G2 (sx ((i0 + 1)).toNat) (sx ((i0 + 1)).toNat).toInt (sx ((i0 + 2)).toNat) (sx ((i0 + 2)).toNat).toInt rfl rfl h_w3 (by omega) hyI sz) (cwV 2 hts gL_law_X13_deepest rfl rfl rfl (by decide +kernel) ⟨Nat.le_of_ble_eq_true rfl, Nat.le_of_ble_eq_true rfl⟩) rfl 0 yc_0 rfl (Nat.le_of_ble_eq_true rfl) ⟨Nat.le_of_ble_eq_true rfl, Nat.le_of_ble_eq_true rfl⟩ dL_law_775 (fun r12 G_13 hw14 => ?_)
  have hI15 : yI G_13 := hw14.1
  have hU16 : gu_un ycd [29, 33, 36, 37, 1300, 1400, 1500, 1600, 1700, 1800, 1900, 2000, 2100] G2 G_13 := hw14.2.1
  have q17 := hw14.2.2.2
  have w18 : yW3 G_13 := yW3.un h_w3 hU16 rfl
  have t19 : G_13 0 2 = G2 0 2 := hU16 0 2 (by decide)
  have t19i := congrArg Int32.toInt t19
  refine g_pop F dL_law_778 rfl ?_
  refine g_goto F 1385 dL_law_779 (by decide) ?_
  exact kE G_4 G_13 ⟨hI6, hI15, f8, w18, by omega, by omega⟩
set_option maxRecDepth 20000 in
theorem ggL_law_X11_best : GoodIn wsL_law wsX11_best := goodIn_r _ [1058, 19, 36, 1059, 758, 759, 18, 760, 61, 1060, 1061, 1062, 35, 1063, 139, 1064, 1065, 1066, 1067, 1068, 874, 875, 876, 1069, 882, 883, 884, 1070, 1035, 1036, 1037, 1038, 1039, 1040, 1041, 141, 1022, 140, 1023, 1024, 1042, 807, 808, 31, 809, 810, 811, 812, 813, 130, 814, 1025, 819, 820, 821, 822, 126, 823, 80, 81, 82, 824, 825, 826, 827, 762, 27, 763, 828, 829, 830, 831, 832, 360, 361, 362, 833, 834, 835, 836, 837, 364, 365, 838, 839, 840, 841, 842, 843, 844, 845, 127, 846, 847, 848, 849, 850, 851, 852, 853, 854, 855, 856, 857, 125, 858, 84, 85, 86, 859, 860, 861, 862, 863, 864, 128, 129, 865, 866, 867, 868, 869, 715, 716, 64, 717, 91, 71, 72, 718, 719, 720, 870, 871, 872, 873, 877, 878, 879, 880, 881, 1440, 1441, 1442, 1443, 1444, 1445, 1446, 1447, 1448, 1449, 1450, 1451, 1452, 1453, 1533, 1534, 1535, 1536, 1569, 1570, 1571, 1572, 1573, 1574, 1575, 1576, 1544, 1545, 1546, 1547, 1548, 1549, 1550, 1551, 1552, 1553, 1554, 1555, 1556, 1557, 1558, 1559, 1560, 1561, 1562, 1563, 1564, 1565, 1566, 1567, 1568, 1602, 1603, 1604, 1605, 1606, 1607, 1608, 1609, 1610] rfl (by decide +kernel)
set_option maxRecDepth 20000 in
theorem gL_law_X11_best : GoodIn wsL_law (wsV RL 84 RX11 yX11_best wsX11_best) := goodIn_app (goodIn_of _ (by decide +kernel)) ggL_law_X11_best
set_option maxRecDepth 20000 in
theorem ggL_law_X13_best : GoodIn wsL_law wsX13_best := goodIn_r _ [1074, 773, 774, 775, 5, 776, 181, 280, 281, 282, 1047, 1048, 1049, 1050, 1051, 1052, 1053, 1054, 911, 912, 913, 914, 915, 916, 917, 918, 193, 919, 360, 361, 362, 777, 778, 779, 920, 921, 922, 923, 924, 925, 926, 927, 198, 928, 199, 247, 929, 930, 931, 932, 200, 933, 934, 185, 935, 936, 937, 938, 939, 940, 941, 942, 659, 364, 365, 943, 944, 945, 946, 947, 948, 949, 950, 183, 194, 195, 196, 197, 951, 952, 953, 954, 726, 727, 728, 729, 191, 190, 189, 192, 730, 731, 732, 955, 956, 957, 958, 959, 960, 961, 962, 1075, 1076, 1077, 1078, 1454, 1455, 1456, 1457, 1458, 1459, 1460, 1461, 1462, 1463, 1464, 1465, 1466, 1467, 1468, 1469, 1470, 1471, 1472, 1473, 1474, 1475, 1476, 1477, 1478, 1479, 1480, 1481, 1482, 1483, 1484, 1485, 1486, 1487, 1488, 1489, 1490, 1491, 1492, 1493, 1494, 1495, 1496, 1497, 1498, 1499, 1500, 1501, 1502, 1503, 1504, 1505, 1506, 1507, 1508, 1509, 1510, 1511, 1512, 1513, 1514, 1515, 1516, 1517, 1518, 1519, 1520, 1521, 1522, 1523, 1524, 1525, 1526] rfl (by decide +kernel)
set_option maxRecDepth 20000 in
theorem gL_law_X13_best : GoodIn wsL_law (wsV RL 87 RX13 yX13_best wsX13_best) := goodIn_app (goodIn_of _ (by decide +kernel)) ggL_law_X13_best
set_option maxHeartbeats 4000000 in
set_option maxRecDepth 100000 in
theorem law_c16 {p : Program} {e : Env} {s : State} {m : MethodId} {args : Array Value} {below : List Frame} {meth : Method} {c : Code} {A : Nat → Prop} {Q : State → Prop} (l : Launch) (D : va_G) (F : gF p s m args meth c cL_law RL 4 wsL_law A) (hts0 : ∀ w ∈ wsL_t, w.before args s = true) {zf : Nat → Nat} (hZ : xZ zf A s s.heap) {qs vs : Nat → Nat} (hY : yZ qs vs A s s.heap) {sb L : Nat} {sx : Nat → Int32} (hX : va_X sb L sx s s.heap) (hbl : sb < s.heap.size) (hbA : ¬ A sb) (hL : L ≤ 3584) (K : Nat → ClassId) (a b : Nat → Nat) (G G2 : gS) (hl : lI G G2) (i : Int32) (i0 : Int) (ei : i.toInt = i0) (h0 : 0 ≤ i0) (h7 : i0 + 7 ≤ L) (kE : ∀ G1 G3 : gS, lI G1 G3 → gG p l e (gR 2048 601024 7293033 84000) s m args below meth c D A 4 Q 139 10449 (xW K a G1 ++ yW K b G3) (tK K) [(3, .int i), (2, .ref (b 0)), (1, .ref (a 0)), (0, .ref sb)] 1385 []) : gG p l e (gR 2048 601024 7293033 84000) s m args below meth c D A 4 Q 139 10449 (xW K a G ++ yW K b G2) (tK K) [(3, .int i), (2, .ref (b 0)), (1, .ref (a 0)), (0, .ref sb)] 782 [] := by
  have hts := F.2.2.2.2.1
  obtain ⟨hxI, hyI, hf3, h_w3, hd0, heq⟩ := hl
  refine g_aload_n F 2 dL_law_782 rfl rfl ?_
  refine g_aload_n F 3 dL_law_783 rfl rfl ?_
  refine g_iload_n F 0 dL_law_784 rfl rfl ?_
  refine g_iconst F 1 dL_law_785 (by decide) ?_
  refine u_iadd F dL_law_786 i0 1 ei rfl (by omega) (by omega) (fun y1 ey1 => ?_)
  refine g_sld F hX hbl hbA ((i0 + 1)).toNat (congrArg Int.toNat (show y1.toInt = (i0 + 1) by omega)) (ti_in rfl (by omega) (by omega)) dL_law_787 ?_
  refine u2_callVi (k := 139) (n := 10449) (b := a 0) (As := [.int (sx ((i0 + 1)).toNat)]) (st := []) (wc := (xW K a G)) (wr := (yW K b G2)) F (fun sz => S_X11_best l D K a G (sx ((i0 + 1)).toNat) (sx ((i0 + 1)).toNat).toInt rfl hxI sz) (cwV 1 hts gL_law_X11_best rfl rfl rfl (by decide +kernel) ⟨Nat.le_of_ble_eq_true rfl, Nat.le_of_ble_eq_true rfl⟩) rfl 0 xc_0 rfl (Nat.le_of_ble_eq_true rfl) ⟨Nat.le_of_ble_eq_true rfl, Nat.le_of_ble_eq_true rfl⟩ dL_law_788 (fun r2 G_3 hw4 => ?_)
  have hI5 : xI G_3 := hw4.1
  have hU6 : gu_un xcd [602, 603, 604, 605, 608, 613, 614, 615, 616, 617, 618, 619, 620, 2100, 2400, 2700, 4400, 4500, 4600, 4700, 4800] G G_3 := hw4.2.1
  have f7 : xF3 G_3 := xF3.un hf3 hU6 rfl rfl rfl
  have t8 : G_3 1 1 = G 1 1 := hU6 1 1 (by decide)
  have t8i := congrArg Int32.toInt t8
  refine g_pop F dL_law_791 rfl ?_
  refine g_aload_n F 1 dL_law_792 rfl rfl ?_
  refine g_aload_n F 3 dL_law_793 rfl rfl ?_
  refine g_iload_n F 0 dL_law_794 rfl rfl ?_
  refine g_iconst F 1 dL_law_795 (by decide) ?_
  refine u_iadd F dL_law_796 i0 1 ei rfl (by omega) (by omega) (fun y9 ey9 => ?_)
  refine g_sld F hX hbl hbA ((i0 + 1)).toNat (congrArg Int.toNat (show y9.toInt = (i0 + 1) by omega)) (ti_in rfl (by omega) (by omega)) dL_law_797 ?_
  refine u2_callVi (k := 139) (n := 10449) (b := b 0) (As := [.int (sx ((i0 + 1)).toNat)]) (st := []) (wc := (yW K b G2)) (wr := (xW K a G_3)) F (fun sz => S_X13_best l D K b G2 (sx ((i0 + 1)).toNat) (sx ((i0 + 1)).toNat).toInt rfl h_w3 (by omega) hyI sz) (cwV 1 hts gL_law_X13_best rfl rfl rfl (by decide +kernel) ⟨Nat.le_of_ble_eq_true rfl, Nat.le_of_ble_eq_true rfl⟩) rfl 0 yc_0 rfl (Nat.le_of_ble_eq_true rfl) ⟨Nat.le_of_ble_eq_true rfl, Nat.le_of_ble_eq_true rfl⟩ dL_law_798 (fun r10 G_11 hw12 => ?_)
  have hI13 : yI G_11 := hw12.1
  have hU14 : gu_un ycd [29, 33, 36, 37, 1300, 1400, 1500, 1600, 1700, 1800, 1900, 2000, 2100] G2 G_11 := hw12.2.1
  have q15 := hw12.2.2.2
  have w16 : yW3 G_11 := yW3.un h_w3 hU14 rfl
  have t17 : G_11 0 2 = G2 0 2 := hU14 0 2 (by decide)
  have t17i := congrArg Int32.toInt t17
  refine g_pop F dL_law_801 rfl ?_
  refine g_goto F 1385 dL_law_802 (by decide) ?_
  exact kE G_3 G_11 ⟨hI5, hI13, f7, w16, by omega, by omega⟩
set_option maxRecDepth 20000 in
theorem ggL_law_X11_plan : GoodIn wsL_law wsX11_plan := goodIn_r _ [1082, 19, 36, 1059, 758, 759, 18, 760, 61, 1083, 1084, 1085, 35, 1086, 139, 1022, 1087, 364, 361, 365, 136, 1088, 1089, 1090, 1091, 135, 1092, 84, 85, 86, 1038, 1039, 1040, 1041, 141, 140, 1023, 1024, 1042, 807, 808, 31, 809, 810, 811, 812, 813, 130, 814, 1025, 819, 820, 821, 822, 126, 823, 80, 81, 82, 824, 825, 826, 827, 762, 27, 763, 828, 829, 830, 831, 832, 360, 362, 833, 834, 835, 836, 837, 838, 839, 840, 841, 842, 843, 844, 845, 127, 846, 847, 848, 849, 850, 851, 852, 853, 854, 855, 856, 857, 125, 858, 859, 860, 861, 862, 863, 864, 128, 129, 865, 866, 867, 868, 869, 715, 716, 64, 717, 91, 71, 72, 718, 719, 720, 870, 871, 872, 873, 874, 875, 876, 877, 878, 879, 880, 881, 882, 883, 884, 1093, 1094, 1095, 1096, 137, 1064, 1065, 1066, 1067, 1068, 1069, 1097, 1098, 1099, 1100, 1101, 1102, 1103, 1104, 1105, 1106, 138, 1107, 1108, 1109, 1110, 1111, 1112, 1113, 1440, 1441, 1442, 1443, 1444, 1445, 1446, 1447, 1448, 1449, 1450, 1451, 1452, 1453, 1533, 1534, 1535, 1536, 1569, 1570, 1571, 1572, 1573, 1574, 1575, 1576, 1544, 1545, 1546, 1547, 1548, 1549, 1550, 1551, 1552, 1553, 1554, 1555, 1556, 1557, 1558, 1559, 1560, 1561, 1562, 1563, 1564, 1565, 1566, 1567, 1568, 1602, 1603, 1604, 1605, 1606, 1607, 1608, 1609, 1610] rfl (by decide +kernel)
set_option maxRecDepth 20000 in
theorem gL_law_X11_plan : GoodIn wsL_law (wsV RL 88 RX11 yX11_plan wsX11_plan) := goodIn_app (goodIn_of _ (by decide +kernel)) ggL_law_X11_plan
set_option maxRecDepth 20000 in
theorem ggL_law_X13_plan : GoodIn wsL_law wsX13_plan := goodIn_r _ [1117, 1118, 181, 205, 202, 203, 942, 1119, 204, 1120, 773, 774, 775, 5, 776, 280, 281, 282, 1121, 1122, 1123, 1051, 1052, 1053, 1054, 911, 912, 913, 914, 915, 916, 917, 918, 193, 919, 360, 361, 362, 777, 778, 779, 920, 921, 922, 923, 924, 925, 926, 927, 198, 928, 199, 247, 929, 930, 931, 932, 200, 933, 934, 185, 935, 936, 937, 938, 939, 940, 941, 659, 364, 365, 943, 944, 945, 946, 947, 948, 949, 950, 183, 194, 195, 196, 197, 951, 952, 953, 954, 726, 727, 728, 729, 191, 190, 189, 192, 730, 731, 732, 955, 956, 957, 958, 959, 960, 961, 962, 1124, 1125, 1126, 1127, 1075, 1076, 1077, 1078, 1128, 1129, 1130, 1131, 1132, 1133, 1134, 1135, 1136, 1137, 1454, 1455, 1456, 1457, 1458, 1459, 1460, 1461, 1462, 1463, 1464, 1465, 1466, 1467, 1468, 1469, 1470, 1471, 1472, 1473, 1474, 1475, 1476, 1477, 1478, 1479, 1480, 1481, 1482, 1483, 1484, 1485, 1486, 1487, 1488, 1489, 1490, 1491, 1492, 1493, 1494, 1495, 1496, 1497, 1498, 1499, 1500, 1501, 1502, 1503, 1504, 1505, 1506, 1507, 1508, 1509, 1510, 1511, 1512, 1513, 1514, 1515, 1516, 1517, 1518, 1519, 1520, 1521, 1522, 1523, 1524, 1525, 1526] rfl (by decide +kernel)
set_option maxRecDepth 20000 in
theorem gL_law_X13_plan : GoodIn wsL_law (wsV RL 91 RX13 yX13_plan wsX13_plan) := goodIn_app (goodIn_of _ (by decide +kernel)) ggL_law_X13_plan
set_option maxHeartbeats 4000000 in
set_option maxRecDepth 100000 in
theorem law_c17 {p : Program} {e : Env} {s : State} {m : MethodId} {args : Array Value} {below : List Frame} {meth : Method} {c : Code} {A : Nat → Prop} {Q : State → Prop} (l : Launch) (D : va_G) (F : gF p s m args meth c cL_law RL 4 wsL_law A) (hts0 : ∀ w ∈ wsL_t, w.before args s = true) {zf : Nat → Nat} (hZ : xZ zf A s s.heap) {qs vs : Nat → Nat} (hY : yZ qs vs A s s.heap) {sb L : Nat} {sx : Nat → Int32} (hX : va_X sb L sx s s.heap) (hbl : sb < s.heap.size) (hbA : ¬ A sb) (hL : L ≤ 3584) (K : Nat → ClassId) (a b : Nat → Nat) (G G2 : gS) (hl : lI G G2) (i : Int32) (i0 : Int) (ei : i.toInt = i0) (h0 : 0 ≤ i0) (h7 : i0 + 7 ≤ L) (kE : ∀ G1 G3 : gS, lI G1 G3 → gG p l e (gR 2048 601024 7293033 84000) s m args below meth c D A 4 Q 139 10449 (xW K a G1 ++ yW K b G3) (tK K) [(3, .int i), (2, .ref (b 0)), (1, .ref (a 0)), (0, .ref sb)] 1385 []) : gG p l e (gR 2048 601024 7293033 84000) s m args below meth c D A 4 Q 139 10449 (xW K a G ++ yW K b G2) (tK K) [(3, .int i), (2, .ref (b 0)), (1, .ref (a 0)), (0, .ref sb)] 805 [] := by
  have hts := F.2.2.2.2.1
  obtain ⟨hxI, hyI, hf3, h_w3, hd0, heq⟩ := hl
  refine g_aload_n F 2 dL_law_805 rfl rfl ?_
  refine g_aload_n F 3 dL_law_806 rfl rfl ?_
  refine g_iload_n F 0 dL_law_807 rfl rfl ?_
  refine g_iconst F 1 dL_law_808 (by decide) ?_
  refine u_iadd F dL_law_809 i0 1 ei rfl (by omega) (by omega) (fun y1 ey1 => ?_)
  refine g_sld F hX hbl hbA ((i0 + 1)).toNat (congrArg Int.toNat (show y1.toInt = (i0 + 1) by omega)) (ti_in rfl (by omega) (by omega)) dL_law_810 ?_
  refine g_aload_n F 3 dL_law_811 rfl rfl ?_
  refine g_iload_n F 0 dL_law_812 rfl rfl ?_
  refine g_iconst F 2 dL_law_813 (by decide) ?_
  refine u_iadd F dL_law_814 i0 2 ei rfl (by omega) (by omega) (fun y2 ey2 => ?_)
  refine g_sld F hX hbl hbA ((i0 + 2)).toNat (congrArg Int.toNat (show y2.toInt = (i0 + 2) by omega)) (ti_in rfl (by omega) (by omega)) dL_law_815 ?_
  refine u2_callVi (k := 139) (n := 10449) (b := a 0) (As := [.int (sx ((i0 + 1)).toNat), .int (sx ((i0 + 2)).toNat)]) (st := []) (wc := (xW K a G)) (wr := (yW K b G2)) F (fun sz => S_X11_plan l D K a G (sx ((i0 + 1)).toNat) (sx ((i0 + 1)).toNat).toInt (sx ((i0 + 2)).toNat) (sx ((i0 + 2)).toNat).toInt rfl rfl hxI sz) (cwV 2 hts gL_law_X11_plan rfl rfl rfl (by decide +kernel) ⟨Nat.le_of_ble_eq_true rfl, Nat.le_of_ble_eq_true rfl⟩) rfl 0 xc_0 rfl (Nat.le_of_ble_eq_true rfl) ⟨Nat.le_of_ble_eq_true rfl, Nat.le_of_ble_eq_true rfl⟩ dL_law_816 (fun r3 G_4 hw5 => ?_)
  have hI6 : xI G_4 := hw5.1
  have hU7 : gu_un xcd [602, 603, 604, 605, 608, 613, 614, 615, 616, 617, 618, 619, 620, 708, 2100, 2400, 2700, 4400, 4500, 4600, 4700, 4800, 4900, 5000, 5100, 5200] G G_4 := hw5.2
  have f8 : xF3 G_4 := xF3.un hf3 hU7 rfl rfl rfl
  have t9 : G_4 1 1 = G 1 1 := hU7 1 1 (by decide)
  have t9i := congrArg Int32.toInt t9
  refine g_pop F dL_law_819 rfl ?_
  refine g_aload_n F 1 dL_law_820 rfl rfl ?_
  refine g_aload_n F 3 dL_law_821 rfl rfl ?_
  refine g_iload_n F 0 dL_law_822 rfl rfl ?_
  refine g_iconst F 1 dL_law_823 (by decide) ?_
  refine u_iadd F dL_law_824 i0 1 ei rfl (by omega) (by omega) (fun y10 ey10 => ?_)
  refine g_sld F hX hbl hbA ((i0 + 1)).toNat (congrArg Int.toNat (show y10.toInt = (i0 + 1) by omega)) (ti_in rfl (by omega) (by omega)) dL_law_825 ?_
  refine g_aload_n F 3 dL_law_826 rfl rfl ?_
  refine g_iload_n F 0 dL_law_827 rfl rfl ?_
  refine g_iconst F 2 dL_law_828 (by decide) ?_
  refine u_iadd F dL_law_829 i0 2 ei rfl (by omega) (by omega) (fun y11 ey11 => ?_)
  refine g_sld F hX hbl hbA ((i0 + 2)).toNat (congrArg Int.toNat (show y11.toInt = (i0 + 2) by omega)) (ti_in rfl (by omega) (by omega)) dL_law_830 ?_
  refine u2_callVi (k := 139) (n := 10449) (b := b 0) (As := [.int (sx ((i0 + 1)).toNat), .int (sx ((i0 + 2)).toNat)]) (st := []) (wc := (yW K b G2)) (wr := (xW K a G_4)) F (fun sz => S_X13_plan l D K b G2 (sx ((i0 + 1)).toNat) (sx ((i0 + 1)).toNat).toInt (sx ((i0 + 2)).toNat) (sx ((i0 + 2)).toNat).toInt rfl rfl h_w3 (by omega) hyI sz) (cwV 2 hts gL_law_X13_plan rfl rfl rfl (by decide +kernel) ⟨Nat.le_of_ble_eq_true rfl, Nat.le_of_ble_eq_true rfl⟩) rfl 0 yc_0 rfl (Nat.le_of_ble_eq_true rfl) ⟨Nat.le_of_ble_eq_true rfl, Nat.le_of_ble_eq_true rfl⟩ dL_law_831 (fun r12 G_13 hw14 => ?_)
  have hI15 : yI G_13 := hw14.1
  have hU16 : gu_un ycd [29, 33, 36, 37, 43, 44, 1300, 1400, 1500, 1600, 1700, 1800, 1900, 2000, 2100, 2300, 2400, 2500, 2600] G2 G_13 := hw14.2.1
  have q17 := hw14.2.2
  have w18 : yW3 G_13 := yW3.un h_w3 hU16 rfl
  have t19 : G_13 0 2 = G2 0 2 := hU16 0 2 (by decide)
  have t19i := congrArg Int32.toInt t19
  refine g_pop F dL_law_834 rfl ?_
  refine g_goto F 1385 dL_law_835 (by decide) ?_
  exact kE G_4 G_13 ⟨hI6, hI15, f8, w18, by omega, by omega⟩
set_option maxRecDepth 20000 in
theorem ggL_law_X11_planned : GoodIn wsL_law wsX11_planned := goodIn_r _ [1141, 36, 1142, 1143, 1144, 35, 1145, 1106, 138, 1440, 1441, 1442, 1443, 1444, 1445, 1446, 1447, 1448, 1449, 1450, 1451, 1452, 1453, 1569, 1570, 1571, 1572, 1573, 1574, 1575, 1576] rfl (by decide +kernel)
set_option maxRecDepth 20000 in
theorem gL_law_X11_planned : GoodIn wsL_law (wsV RL 92 RX11 yX11_planned wsX11_planned) := goodIn_app (goodIn_of _ (by decide +kernel)) ggL_law_X11_planned
set_option maxRecDepth 20000 in
theorem ggL_law_X13_planned : GoodIn wsL_law wsX13_planned := goodIn_r _ [1149, 1120, 1119, 1150, 905, 204, 280, 281, 5, 282, 1454, 1455, 1456, 1457, 1458, 1459, 1460, 1461, 1462, 1463, 1464, 1465, 1466, 1467, 1468, 1469, 1470, 1471, 1472, 1473, 1474, 1475, 1476, 1477, 1478, 1479, 1480, 1481, 1482, 1483, 1484, 1485, 1486, 1487, 1488, 1489, 1490, 1491, 1492, 1493, 1494, 1495, 1496, 1497, 1498, 1499, 1500, 1501, 1502, 1503, 1504, 1505, 1506, 1507, 1508, 1509, 1510, 1511, 1512, 1513, 1514, 1515, 1516, 1517, 1518, 1519, 1520, 1521, 1522, 1523, 1524, 1525, 1526] rfl (by decide +kernel)
set_option maxRecDepth 20000 in
theorem gL_law_X13_planned : GoodIn wsL_law (wsV RL 95 RX13 yX13_planned wsX13_planned) := goodIn_app (goodIn_of _ (by decide +kernel)) ggL_law_X13_planned
set_option maxHeartbeats 4000000 in
set_option maxRecDepth 100000 in
theorem law_c18 {p : Program} {e : Env} {s : State} {m : MethodId} {args : Array Value} {below : List Frame} {meth : Method} {c : Code} {A : Nat → Prop} {Q : State → Prop} (l : Launch) (D : va_G) (F : gF p s m args meth c cL_law RL 4 wsL_law A) (hts0 : ∀ w ∈ wsL_t, w.before args s = true) {zf : Nat → Nat} (hZ : xZ zf A s s.heap) {qs vs : Nat → Nat} (hY : yZ qs vs A s s.heap) {sb L : Nat} {sx : Nat → Int32} (hX : va_X sb L sx s s.heap) (hbl : sb < s.heap.size) (hbA : ¬ A sb) (hL : L ≤ 3584) (K : Nat → ClassId) (a b : Nat → Nat) (G G2 : gS) (hl : lI G G2) (i : Int32) (i0 : Int) (ei : i.toInt = i0) (h0 : 0 ≤ i0) (h7 : i0 + 7 ≤ L) (kE : ∀ G1 G3 : gS, lI G1 G3 → gG p l e (gR 2048 601024 7293033 84000) s m args below meth c D A 4 Q 139 10449 (xW K a G1 ++ yW K b G3) (tK K) [(3, .int i), (2, .ref (b 0)), (1, .ref (a 0)), (0, .ref sb)] 1385 []) : gG p l e (gR 2048 601024 7293033 84000) s m args below meth c D A 4 Q 139 10449 (xW K a G ++ yW K b G2) (tK K) [(3, .int i), (2, .ref (b 0)), (1, .ref (a 0)), (0, .ref sb)] 838 [] := by
  have hts := F.2.2.2.2.1
  obtain ⟨hxI, hyI, hf3, h_w3, hd0, heq⟩ := hl
  refine g_aload_n F 2 dL_law_838 rfl rfl ?_
  refine g_aload_n F 3 dL_law_839 rfl rfl ?_
  refine g_iload_n F 0 dL_law_840 rfl rfl ?_
  refine g_iconst F 1 dL_law_841 (by decide) ?_
  refine u_iadd F dL_law_842 i0 1 ei rfl (by omega) (by omega) (fun y1 ey1 => ?_)
  refine g_sld F hX hbl hbA ((i0 + 1)).toNat (congrArg Int.toNat (show y1.toInt = (i0 + 1) by omega)) (ti_in rfl (by omega) (by omega)) dL_law_843 ?_
  refine u2_callVi (k := 139) (n := 10449) (b := a 0) (As := [.int (sx ((i0 + 1)).toNat)]) (st := []) (wc := (xW K a G)) (wr := (yW K b G2)) F (fun sz => S_X11_planned l D K a G (sx ((i0 + 1)).toNat) (sx ((i0 + 1)).toNat).toInt rfl hxI sz) (cwV 1 hts gL_law_X11_planned rfl rfl rfl (by decide +kernel) ⟨Nat.le_of_ble_eq_true rfl, Nat.le_of_ble_eq_true rfl⟩) rfl 0 xc_0 rfl (Nat.le_of_ble_eq_true rfl) ⟨Nat.le_of_ble_eq_true rfl, Nat.le_of_ble_eq_true rfl⟩ dL_law_844 (fun r2 _ hw4 => ?_)
  refine g_pop F dL_law_847 rfl ?_
  refine g_aload_n F 1 dL_law_848 rfl rfl ?_
  refine g_aload_n F 3 dL_law_849 rfl rfl ?_
  refine g_iload_n F 0 dL_law_850 rfl rfl ?_
  refine g_iconst F 1 dL_law_851 (by decide) ?_
  refine u_iadd F dL_law_852 i0 1 ei rfl (by omega) (by omega) (fun y5 ey5 => ?_)
  refine g_sld F hX hbl hbA ((i0 + 1)).toNat (congrArg Int.toNat (show y5.toInt = (i0 + 1) by omega)) (ti_in rfl (by omega) (by omega)) dL_law_853 ?_
  refine u2_callVi (k := 139) (n := 10449) (b := b 0) (As := [.int (sx ((i0 + 1)).toNat)]) (st := []) (wc := (yW K b G2)) (wr := (xW K a G)) F (fun sz => S_X13_planned l D K b G2 (sx ((i0 + 1)).toNat) (sx ((i0 + 1)).toNat).toInt rfl hyI sz) (cwV 1 hts gL_law_X13_planned rfl rfl rfl (by decide +kernel) ⟨Nat.le_of_ble_eq_true rfl, Nat.le_of_ble_eq_true rfl⟩) rfl 0 yc_0 rfl (Nat.le_of_ble_eq_true rfl) ⟨Nat.le_of_ble_eq_true rfl, Nat.le_of_ble_eq_true rfl⟩ dL_law_854 (fun r6 _ hw8 => ?_)
  refine g_pop F dL_law_857 rfl ?_
  refine g_goto F 1385 dL_law_858 (by decide) ?_
  exact kE G G2 ⟨hxI, hyI, hf3, h_w3, by omega, by omega⟩
set_option maxRecDepth 20000 in
theorem ggL_law_X11_bestTeeth : GoodIn wsL_law wsX11_bestTeeth := goodIn_r _ [1154, 32, 36, 806, 807, 808, 31, 809, 810, 811, 812, 813, 130, 814, 758, 759, 18, 760, 61, 1155, 1156, 35, 1157, 1158, 1159, 1160, 1161, 1162, 1163, 1164, 1165, 1166, 1167, 1168, 1169, 141, 1170, 1171, 1172, 1173, 857, 1070, 1035, 1036, 1037, 1038, 1039, 1040, 1041, 139, 1022, 140, 1023, 1024, 1042, 1025, 819, 820, 821, 822, 126, 823, 80, 81, 82, 824, 825, 826, 827, 762, 27, 763, 828, 829, 830, 831, 832, 360, 361, 362, 833, 834, 835, 836, 837, 364, 365, 838, 839, 840, 841, 842, 843, 844, 845, 127, 846, 847, 848, 849, 850, 851, 852, 853, 854, 855, 856, 125, 858, 84, 85, 86, 859, 860, 861, 862, 863, 864, 128, 129, 865, 866, 867, 868, 869, 715, 716, 64, 717, 91, 71, 72, 718, 719, 720, 870, 871, 872, 873, 874, 875, 876, 877, 878, 879, 880, 881, 882, 883, 884, 1440, 1441, 1442, 1443, 1444, 1445, 1446, 1447, 1448, 1449, 1450, 1451, 1452, 1453, 1549, 1550, 1551, 1552, 1553, 1554, 1555, 1556, 1557, 1558, 1559, 1560, 1561, 1562, 1563, 1564, 1565, 1566, 1567, 1568, 1533, 1534, 1535, 1536, 1569, 1570, 1571, 1572, 1573, 1574, 1575, 1576, 1544, 1545, 1546, 1547, 1548, 1602, 1603, 1604, 1605, 1606, 1607, 1608, 1609, 1610] rfl (by decide +kernel)
set_option maxRecDepth 20000 in
theorem gL_law_X11_bestTeeth : GoodIn wsL_law (wsV RL 96 RX11 yX11_bestTeeth wsX11_bestTeeth) := goodIn_app (goodIn_of _ (by decide +kernel)) ggL_law_X11_bestTeeth
set_option maxRecDepth 20000 in
theorem ggL_law_X13_bestTeeth : GoodIn wsL_law wsX13_bestTeeth := goodIn_r _ [1177, 905, 1178, 1179, 181, 206, 183, 773, 774, 775, 5, 776, 280, 281, 282, 1180, 1181, 1182, 1047, 1048, 1049, 1050, 1051, 1052, 1053, 1054, 911, 912, 913, 914, 915, 916, 917, 918, 193, 919, 360, 361, 362, 777, 778, 779, 920, 921, 922, 923, 924, 925, 926, 927, 198, 928, 199, 247, 929, 930, 931, 932, 200, 933, 934, 185, 935, 936, 937, 938, 939, 940, 941, 942, 659, 364, 365, 943, 944, 945, 946, 947, 948, 949, 950, 194, 195, 196, 197, 951, 952, 953, 954, 726, 727, 728, 729, 191, 190, 189, 192, 730, 731, 732, 955, 956, 957, 958, 959, 960, 961, 962, 1454, 1455, 1456, 1457, 1458, 1459, 1460, 1461, 1462, 1463, 1464, 1465, 1466, 1467, 1468, 1469, 1470, 1471, 1472, 1473, 1474, 1475, 1476, 1477, 1478, 1479, 1480, 1481, 1482, 1483, 1484, 1485, 1486, 1487, 1488, 1489, 1490, 1491, 1492, 1493, 1494, 1495, 1496, 1497, 1498, 1499, 1500, 1501, 1502, 1503, 1504, 1505, 1506, 1507, 1508, 1509, 1510, 1511, 1512, 1513, 1514, 1515, 1516, 1517, 1518, 1519, 1520, 1521, 1522, 1523, 1524, 1525, 1526] rfl (by decide +kernel)
set_option maxRecDepth 20000 in
theorem gL_law_X13_bestTeeth : GoodIn wsL_law (wsV RL 99 RX13 yX13_bestTeeth wsX13_bestTeeth) := goodIn_app (goodIn_of _ (by decide +kernel)) ggL_law_X13_bestTeeth
set_option maxHeartbeats 4000000 in
set_option maxRecDepth 100000 in
theorem law_c19 {p : Program} {e : Env} {s : State} {m : MethodId} {args : Array Value} {below : List Frame} {meth : Method} {c : Code} {A : Nat → Prop} {Q : State → Prop} (l : Launch) (D : va_G) (F : gF p s m args meth c cL_law RL 4 wsL_law A) (hts0 : ∀ w ∈ wsL_t, w.before args s = true) {zf : Nat → Nat} (hZ : xZ zf A s s.heap) {qs vs : Nat → Nat} (hY : yZ qs vs A s s.heap) {sb L : Nat} {sx : Nat → Int32} (hX : va_X sb L sx s s.heap) (hbl : sb < s.heap.size) (hbA : ¬ A sb) (hL : L ≤ 3584) (K : Nat → ClassId) (a b : Nat → Nat) (G G2 : gS) (hl : lI G G2) (i : Int32) (i0 : Int) (ei : i.toInt = i0) (h0 : 0 ≤ i0) (h7 : i0 + 7 ≤ L) (kE : ∀ G1 G3 : gS, lI G1 G3 → gG p l e (gR 2048 601024 7293033 84000) s m args below meth c D A 4 Q 139 10449 (xW K a G1 ++ yW K b G3) (tK K) [(3, .int i), (2, .ref (b 0)), (1, .ref (a 0)), (0, .ref sb)] 1385 []) : gG p l e (gR 2048 601024 7293033 84000) s m args below meth c D A 4 Q 139 10449 (xW K a G ++ yW K b G2) (tK K) [(3, .int i), (2, .ref (b 0)), (1, .ref (a 0)), (0, .ref sb)] 861 [] := by
  have hts := F.2.2.2.2.1
  obtain ⟨hxI, hyI, hf3, h_w3, hd0, heq⟩ := hl
  refine g_aload_n F 2 dL_law_861 rfl rfl ?_
  refine g_aload_n F 3 dL_law_862 rfl rfl ?_
  refine g_iload_n F 0 dL_law_863 rfl rfl ?_
  refine g_iconst F 1 dL_law_864 (by decide) ?_
  refine u_iadd F dL_law_865 i0 1 ei rfl (by omega) (by omega) (fun y1 ey1 => ?_)
  refine g_sld F hX hbl hbA ((i0 + 1)).toNat (congrArg Int.toNat (show y1.toInt = (i0 + 1) by omega)) (ti_in rfl (by omega) (by omega)) dL_law_866 ?_
  refine g_aload_n F 3 dL_law_867 rfl rfl ?_
  refine g_iload_n F 0 dL_law_868 rfl rfl ?_
  refine g_iconst F 2 dL_law_869 (by decide) ?_
  refine u_iadd F dL_law_870 i0 2 ei rfl (by omega) (by omega) (fun y2 ey2 => ?_)
  refine g_sld F hX hbl hbA ((i0 + 2)).toNat (congrArg Int.toNat (show y2.toInt = (i0 + 2) by omega)) (ti_in rfl (by omega) (by omega)) dL_law_871 ?_
  refine g_aload_n F 3 dL_law_872 rfl rfl ?_
  refine g_iload_n F 0 dL_law_873 rfl rfl ?_
  refine g_iconst F 3 dL_law_874 (by decide) ?_
  refine u_iadd F dL_law_875 i0 3 ei rfl (by omega) (by omega) (fun y3 ey3 => ?_)
  refine g_sld F hX hbl hbA ((i0 + 3)).toNat (congrArg Int.toNat (show y3.toInt = (i0 + 3) by omega)) (ti_in rfl (by omega) (by omega)) dL_law_876 ?_
  refine g_aload_n F 3 dL_law_877 rfl rfl ?_
  refine g_iload_n F 0 dL_law_878 rfl rfl ?_
  refine g_iconst F 4 dL_law_879 (by decide) ?_
  refine u_iadd F dL_law_880 i0 4 ei rfl (by omega) (by omega) (fun y4 ey4 => ?_)
  refine g_sld F hX hbl hbA ((i0 + 4)).toNat (congrArg Int.toNat (show y4.toInt = (i0 + 4) by omega)) (ti_in rfl (by omega) (by omega)) dL_law_881 ?_
  refine u2_callVi (k := 139) (n := 10449) (b := a 0) (As := [.int (sx ((i0 + 1)).toNat), .int (sx ((i0 + 2)).toNat), .int (sx ((i0 + 3)).toNat), .int (sx ((i0 + 4)).toNat)]) (st := []) (wc := (xW K a G)) (wr := (yW K b G2)) F (fun sz => S_X11_bestTeeth l D K a G (sx ((i0 + 1)).toNat) (sx ((i0 + 1)).toNat).toInt (sx ((i0 + 2)).toNat) (sx ((i0 + 2)).toNat).toInt (sx ((i0 + 3)).toNat) (sx ((i0 + 3)).toNat).toInt (sx ((i0 + 4)).toNat) (sx ((i0 + 4)).toNat).toInt rfl rfl rfl rfl hxI sz) (cwV 4 hts gL_law_X11_bestTeeth rfl rfl rfl (by decide +kernel) ⟨Nat.le_of_ble_eq_true rfl, Nat.le_of_ble_eq_true rfl⟩) rfl 0 xc_0 rfl (Nat.le_of_ble_eq_true rfl) ⟨Nat.le_of_ble_eq_true rfl, Nat.le_of_ble_eq_true rfl⟩ dL_law_882 (fun r5 G_6 hw7 => ?_)
  have hI8 : xI G_6 := hw7.1
  have hU9 : gu_un xcd [602, 603, 604, 605, 607, 608, 613, 614, 615, 616, 617, 618, 619, 620, 2100, 2400, 2700, 4400, 4500, 4600, 4700, 4800] G G_6 := hw7.2
  have f10 : xF3 G_6 := xF3.un hf3 hU9 rfl rfl rfl
  have t11 : G_6 1 1 = G 1 1 := hU9 1 1 (by decide)
  have t11i := congrArg Int32.toInt t11
  refine g_pop F dL_law_885 rfl ?_
  refine g_aload_n F 1 dL_law_886 rfl rfl ?_
  refine g_aload_n F 3 dL_law_887 rfl rfl ?_
  refine g_iload_n F 0 dL_law_888 rfl rfl ?_
  refine g_iconst F 1 dL_law_889 (by decide) ?_
  refine u_iadd F dL_law_890 i0 1 ei rfl (by omega) (by omega) (fun y12 ey12 => ?_)
  refine g_sld F hX hbl hbA ((i0 + 1)).toNat (congrArg Int.toNat (show y12.toInt = (i0 + 1) by omega)) (ti_in rfl (by omega) (by omega)) dL_law_891 ?_
  refine g_aload_n F 3 dL_law_892 rfl rfl ?_
  refine g_iload_n F 0 dL_law_893 rfl rfl ?_
  refine g_iconst F 2 dL_law_894 (by decide) ?_
  refine u_iadd F dL_law_895 i0 2 ei rfl (by omega) (by omega) (fun y13 ey13 => ?_)
  refine g_sld F hX hbl hbA ((i0 + 2)).toNat (congrArg Int.toNat (show y13.toInt = (i0 + 2) by omega)) (ti_in rfl (by omega) (by omega)) dL_law_896 ?_
  refine g_aload_n F 3 dL_law_897 rfl rfl ?_
  refine g_iload_n F 0 dL_law_898 rfl rfl ?_
  refine g_iconst F 3 dL_law_899 (by decide) ?_
  refine u_iadd F dL_law_900 i0 3 ei rfl (by omega) (by omega) (fun y14 ey14 => ?_)
  refine g_sld F hX hbl hbA ((i0 + 3)).toNat (congrArg Int.toNat (show y14.toInt = (i0 + 3) by omega)) (ti_in rfl (by omega) (by omega)) dL_law_901 ?_
  refine g_aload_n F 3 dL_law_902 rfl rfl ?_
  refine g_iload_n F 0 dL_law_903 rfl rfl ?_
  refine g_iconst F 4 dL_law_904 (by decide) ?_
  refine u_iadd F dL_law_905 i0 4 ei rfl (by omega) (by omega) (fun y15 ey15 => ?_)
  refine g_sld F hX hbl hbA ((i0 + 4)).toNat (congrArg Int.toNat (show y15.toInt = (i0 + 4) by omega)) (ti_in rfl (by omega) (by omega)) dL_law_906 ?_
  refine u2_callVi (k := 139) (n := 10449) (b := b 0) (As := [.int (sx ((i0 + 1)).toNat), .int (sx ((i0 + 2)).toNat), .int (sx ((i0 + 3)).toNat), .int (sx ((i0 + 4)).toNat)]) (st := []) (wc := (yW K b G2)) (wr := (xW K a G_6)) F (fun sz => S_X13_bestTeeth l D K b G2 (sx ((i0 + 1)).toNat) (sx ((i0 + 1)).toNat).toInt (sx ((i0 + 2)).toNat) (sx ((i0 + 2)).toNat).toInt (sx ((i0 + 3)).toNat) (sx ((i0 + 3)).toNat).toInt (sx ((i0 + 4)).toNat) (sx ((i0 + 4)).toNat).toInt rfl rfl rfl rfl h_w3 (by omega) hyI sz) (cwV 4 hts gL_law_X13_bestTeeth rfl rfl rfl (by decide +kernel) ⟨Nat.le_of_ble_eq_true rfl, Nat.le_of_ble_eq_true rfl⟩) rfl 0 yc_0 rfl (Nat.le_of_ble_eq_true rfl) ⟨Nat.le_of_ble_eq_true rfl, Nat.le_of_ble_eq_true rfl⟩ dL_law_907 (fun r16 G_17 hw18 => ?_)
  have hI19 : yI G_17 := hw18.1
  have hU20 : gu_un ycd [29, 33, 36, 37, 300, 500, 1300, 1400, 1500, 1600, 1700, 1800, 1900, 2000, 2100, 2700] G2 G_17 := hw18.2.1
  have q21 := hw18.2.2.2
  have w22 : yW3 G_17 := yW3.un h_w3 hU20 rfl
  have t23 : G_17 0 2 = G2 0 2 := hU20 0 2 (by decide)
  have t23i := congrArg Int32.toInt t23
  refine g_pop F dL_law_910 rfl ?_
  refine g_goto F 1385 dL_law_911 (by decide) ?_
  exact kE G_6 G_17 ⟨hI8, hI19, f10, w22, by omega, by omega⟩
