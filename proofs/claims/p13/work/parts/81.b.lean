set_option maxRecDepth 20000 in
theorem ggL_law_X11_height : GoodIn wsL_law wsX11_height := goodIn_rn _ [(749, 1), (28, 1), (750, 5), (27, 1), (755, 1), (113, 1), (756, 4), (18, 1), (760, 1), (61, 1), (761, 3), (1440, 14), (1544, 5), (1533, 4)] rfl (by decide +kernel)
set_option maxRecDepth 20000 in
theorem gL_law_X11_height : GoodIn wsL_law (wsV RL 45 RX11 yX11_height wsX11_height) := goodIn_app (goodIn_of _ (by decide +kernel)) ggL_law_X11_height
set_option maxRecDepth 20000 in
theorem ggL_law_X13_height : GoodIn wsL_law wsX13_height := goodIn_rn _ [(767, 1), (193, 1), (768, 4), (5, 1), (772, 1), (181, 1), (773, 4), (280, 3), (777, 3), (1454, 73)] rfl (by decide +kernel)
set_option maxRecDepth 20000 in
theorem gL_law_X13_height : GoodIn wsL_law (wsV RL 49 RX13 yX13_height wsX13_height) := goodIn_app (goodIn_of _ (by decide +kernel)) ggL_law_X13_height
set_option maxHeartbeats 4000000 in
set_option maxRecDepth 100000 in
theorem law_c7 {p : Program} {e : Env} {s : State} {m : MethodId} {args : Array Value} {below : List Frame} {meth : Method} {c : Code} {A : Nat → Prop} {Q : State → Prop} (l : Launch) (D : va_G) (F : gF p s m args meth c cL_law RL 4 wsL_law A) (hts0 : ∀ w ∈ wsL_t, w.before args s = true) {zf : Nat → Nat} (hZ : xZ zf A s s.heap) {qs vs : Nat → Nat} (hY : yZ qs vs A s s.heap) {sb L : Nat} {sx : Nat → Int32} (hX : va_X sb L sx s s.heap) (hbl : sb < s.heap.size) (hbA : ¬ A sb) (hL : L ≤ 3584) (K : Nat → ClassId) (a b : Nat → Nat) (G G2 : gS) (hl : lI G G2) (i : Int32) (i0 : Int) (ei : i.toInt = i0) (h0 : 0 ≤ i0) (h7 : i0 + 7 ≤ L) (kE : ∀ G1 G3 : gS, lI G1 G3 → gG p l e (gR 2048 601024 7293033 84000) s m args below meth c D A 4 Q 139 10449 (xW K a G1 ++ yW K b G3) (tK K) [(3, .int i), (2, .ref (b 0)), (1, .ref (a 0)), (0, .ref sb)] 1385 []) : gG p l e (gR 2048 601024 7293033 84000) s m args below meth c D A 4 Q 139 10449 (xW K a G ++ yW K b G2) (tK K) [(3, .int i), (2, .ref (b 0)), (1, .ref (a 0)), (0, .ref sb)] 391 [] := by
  have hts := F.2.2.2.2.1
  obtain ⟨hxI, hyI, hf3, h_w3, hd0, heq, htb, hsc, hsr, hfk, hfp, hlN, hjm, hlG, h66, hpB, hpK⟩ := hl
  refine g_aload_n F 2 dL_law_391 rfl rfl ?_
  refine g_aload_n F 3 dL_law_392 rfl rfl ?_
  refine g_iload_n F 0 dL_law_393 rfl rfl ?_
  refine g_iconst F 1 dL_law_394 (by decide) ?_
  refine u_iadd F dL_law_395 i0 1 ei rfl (by omega) (by omega) (fun y1 ey1 => ?_)
  refine g_sld F hX hbl hbA ((i0 + 1)).toNat (congrArg Int.toNat (show y1.toInt = (i0 + 1) by omega)) (ti_in rfl (by omega) (by omega)) dL_law_396 ?_
  refine g_aload_n F 3 dL_law_397 rfl rfl ?_
  refine g_iload_n F 0 dL_law_398 rfl rfl ?_
  refine g_iconst F 2 dL_law_399 (by decide) ?_
  refine u_iadd F dL_law_400 i0 2 ei rfl (by omega) (by omega) (fun y2 ey2 => ?_)
  refine g_sld F hX hbl hbA ((i0 + 2)).toNat (congrArg Int.toNat (show y2.toInt = (i0 + 2) by omega)) (ti_in rfl (by omega) (by omega)) dL_law_401 ?_
  refine u2_callVi (k := 139) (n := 10449) (b := a 0) (As := [.int (sx ((i0 + 1)).toNat), .int (sx ((i0 + 2)).toNat)]) (st := []) (wc := (xW K a G)) (wr := (yW K b G2)) F (fun sz => S_X11_height l D K a G (sx ((i0 + 1)).toNat) (sx ((i0 + 1)).toNat).toInt (sx ((i0 + 2)).toNat) (sx ((i0 + 2)).toNat).toInt rfl rfl hxI sz) (cwV 2 hts gL_law_X11_height rfl rfl rfl (by decide +kernel) ⟨Nat.le_of_ble_eq_true rfl, Nat.le_of_ble_eq_true rfl⟩) rfl 0 xc_0 rfl (Nat.le_of_ble_eq_true rfl) ⟨Nat.le_of_ble_eq_true rfl, Nat.le_of_ble_eq_true rfl⟩ dL_law_402 (fun r3 _ hw5 => ?_)
  have q6 := hw5.2
  refine g_pop F dL_law_405 rfl ?_
  refine g_aload_n F 1 dL_law_406 rfl rfl ?_
  refine g_aload_n F 3 dL_law_407 rfl rfl ?_
  refine g_iload_n F 0 dL_law_408 rfl rfl ?_
  refine g_iconst F 1 dL_law_409 (by decide) ?_
  refine u_iadd F dL_law_410 i0 1 ei rfl (by omega) (by omega) (fun y7 ey7 => ?_)
  refine g_sld F hX hbl hbA ((i0 + 1)).toNat (congrArg Int.toNat (show y7.toInt = (i0 + 1) by omega)) (ti_in rfl (by omega) (by omega)) dL_law_411 ?_
  refine g_aload_n F 3 dL_law_412 rfl rfl ?_
  refine g_iload_n F 0 dL_law_413 rfl rfl ?_
  refine g_iconst F 2 dL_law_414 (by decide) ?_
  refine u_iadd F dL_law_415 i0 2 ei rfl (by omega) (by omega) (fun y8 ey8 => ?_)
  refine g_sld F hX hbl hbA ((i0 + 2)).toNat (congrArg Int.toNat (show y8.toInt = (i0 + 2) by omega)) (ti_in rfl (by omega) (by omega)) dL_law_416 ?_
  refine u2_callVi (k := 139) (n := 10449) (b := b 0) (As := [.int (sx ((i0 + 1)).toNat), .int (sx ((i0 + 2)).toNat)]) (st := []) (wc := (yW K b G2)) (wr := (xW K a G)) F (fun sz => S_X13_height l D K b G2 (sx ((i0 + 1)).toNat) (sx ((i0 + 1)).toNat).toInt (sx ((i0 + 2)).toNat) (sx ((i0 + 2)).toNat).toInt rfl rfl hyI sz) (cwV 2 hts gL_law_X13_height rfl rfl rfl (by decide +kernel) ⟨Nat.le_of_ble_eq_true rfl, Nat.le_of_ble_eq_true rfl⟩) rfl 0 yc_0 rfl (Nat.le_of_ble_eq_true rfl) ⟨Nat.le_of_ble_eq_true rfl, Nat.le_of_ble_eq_true rfl⟩ dL_law_417 (fun r9 _ hw11 => ?_)
  have q12 := hw11.2
  have hr0 : (G 18 0).toInt = (G2 3 0).toInt := congrArg Int32.toInt (hlN.1.1 0 (by decide))
  have hr1 : (G 18 1).toInt = (G2 3 1).toInt := congrArg Int32.toInt (hlN.1.1 1 (by decide))
  have hb0 : (4 : Int) ≤ (G 18 0).toInt ∧ (G 18 0).toInt ≤ 16 := hxI 18 0
  have hb1 : (1 : Int) ≤ (G 18 1).toInt ∧ (G 18 1).toInt ≤ 6 := hxI 18 1
  have pB13 : pcB (xPc G) (yPc G2) := pcB.go hpB pcB.rf pcB.rf
  have pK14 : pcK (xPc G) (yPc G2) := pcK.go hpK pcK.rf pcK.rf
  have rq9 : r3.toInt = r9.toInt := hg_eq hpB (fun h9 => by omega) (by constructor <;> (intro h9; omega)) q6 q12
  refine g_pop F dL_law_420 rfl ?_
  refine g_goto F 1385 dL_law_421 (by decide) ?_
  exact kE G G2 ⟨hxI, hyI, hf3, h_w3, by omega, by omega, fun i hi => by first | (exfalso; omega) | (exact htb i (by omega)), by omega, fun i hi => by exact hsr i (by omega), by omega, by omega, hlN, by omega, hlG, by omega, pB13, pK14⟩
set_option maxRecDepth 20000 in
theorem ggL_law_X11_set : GoodIn wsL_law wsX11_set := goodIn_rn _ [(783, 1), (28, 1), (751, 4), (27, 1), (755, 1), (113, 1), (756, 4), (18, 1), (760, 1), (61, 1), (737, 3), (761, 3), (784, 5), (110, 1), (112, 1), (1440, 14), (1544, 5), (1533, 4)] rfl (by decide +kernel)
set_option maxRecDepth 20000 in
theorem gL_law_X11_set : GoodIn wsL_law (wsV RL 50 RX11 yX11_set wsX11_set) := goodIn_app (goodIn_of _ (by decide +kernel)) ggL_law_X11_set
set_option maxRecDepth 20000 in
theorem ggL_law_X13_set : GoodIn wsL_law wsX13_set := goodIn_rn _ [(792, 1), (744, 2), (768, 1), (193, 2), (769, 3), (5, 1), (772, 1), (181, 1), (773, 4), (280, 3), (777, 3), (1454, 73)] rfl (by decide +kernel)
set_option maxRecDepth 20000 in
theorem gL_law_X13_set : GoodIn wsL_law (wsV RL 53 RX13 yX13_set wsX13_set) := goodIn_app (goodIn_of _ (by decide +kernel)) ggL_law_X13_set
set_option maxHeartbeats 4000000 in
set_option maxRecDepth 100000 in
theorem law_c8 {p : Program} {e : Env} {s : State} {m : MethodId} {args : Array Value} {below : List Frame} {meth : Method} {c : Code} {A : Nat → Prop} {Q : State → Prop} (l : Launch) (D : va_G) (F : gF p s m args meth c cL_law RL 4 wsL_law A) (hts0 : ∀ w ∈ wsL_t, w.before args s = true) {zf : Nat → Nat} (hZ : xZ zf A s s.heap) {qs vs : Nat → Nat} (hY : yZ qs vs A s s.heap) {sb L : Nat} {sx : Nat → Int32} (hX : va_X sb L sx s s.heap) (hbl : sb < s.heap.size) (hbA : ¬ A sb) (hL : L ≤ 3584) (K : Nat → ClassId) (a b : Nat → Nat) (G G2 : gS) (hl : lI G G2) (i : Int32) (i0 : Int) (ei : i.toInt = i0) (h0 : 0 ≤ i0) (h7 : i0 + 7 ≤ L) (kE : ∀ G1 G3 : gS, lI G1 G3 → gG p l e (gR 2048 601024 7293033 84000) s m args below meth c D A 4 Q 139 10449 (xW K a G1 ++ yW K b G3) (tK K) [(3, .int i), (2, .ref (b 0)), (1, .ref (a 0)), (0, .ref sb)] 1385 []) : gG p l e (gR 2048 601024 7293033 84000) s m args below meth c D A 4 Q 139 10449 (xW K a G ++ yW K b G2) (tK K) [(3, .int i), (2, .ref (b 0)), (1, .ref (a 0)), (0, .ref sb)] 424 [] := by
  have hts := F.2.2.2.2.1
  obtain ⟨hxI, hyI, hf3, h_w3, hd0, heq, htb, hsc, hsr, hfk, hfp, hlN, hjm, hlG, h66, hpB, hpK⟩ := hl
  refine g_aload_n F 2 dL_law_424 rfl rfl ?_
  refine g_aload_n F 3 dL_law_425 rfl rfl ?_
  refine g_iload_n F 0 dL_law_426 rfl rfl ?_
  refine g_iconst F 1 dL_law_427 (by decide) ?_
  refine u_iadd F dL_law_428 i0 1 ei rfl (by omega) (by omega) (fun y1 ey1 => ?_)
  refine g_sld F hX hbl hbA ((i0 + 1)).toNat (congrArg Int.toNat (show y1.toInt = (i0 + 1) by omega)) (ti_in rfl (by omega) (by omega)) dL_law_429 ?_
  refine g_aload_n F 3 dL_law_430 rfl rfl ?_
  refine g_iload_n F 0 dL_law_431 rfl rfl ?_
  refine g_iconst F 2 dL_law_432 (by decide) ?_
  refine u_iadd F dL_law_433 i0 2 ei rfl (by omega) (by omega) (fun y2 ey2 => ?_)
  refine g_sld F hX hbl hbA ((i0 + 2)).toNat (congrArg Int.toNat (show y2.toInt = (i0 + 2) by omega)) (ti_in rfl (by omega) (by omega)) dL_law_434 ?_
  refine g_aload_n F 3 dL_law_435 rfl rfl ?_
  refine g_iload_n F 0 dL_law_436 rfl rfl ?_
  refine g_iconst F 3 dL_law_437 (by decide) ?_
  refine u_iadd F dL_law_438 i0 3 ei rfl (by omega) (by omega) (fun y3 ey3 => ?_)
  refine g_sld F hX hbl hbA ((i0 + 3)).toNat (congrArg Int.toNat (show y3.toInt = (i0 + 3) by omega)) (ti_in rfl (by omega) (by omega)) dL_law_439 ?_
  refine u2_callVi (k := 139) (n := 10449) (b := a 0) (As := [.int (sx ((i0 + 1)).toNat), .int (sx ((i0 + 2)).toNat), .int (sx ((i0 + 3)).toNat)]) (st := []) (wc := (xW K a G)) (wr := (yW K b G2)) F (fun sz => S_X11_set l D K a G (sx ((i0 + 1)).toNat) (sx ((i0 + 1)).toNat).toInt (sx ((i0 + 2)).toNat) (sx ((i0 + 2)).toNat).toInt (sx ((i0 + 3)).toNat) (sx ((i0 + 3)).toNat).toInt rfl rfl rfl hxI sz) (cwV 3 hts gL_law_X11_set rfl rfl rfl (by decide +kernel) ⟨Nat.le_of_ble_eq_true rfl, Nat.le_of_ble_eq_true rfl⟩) rfl 0 xc_0 rfl (Nat.le_of_ble_eq_true rfl) ⟨Nat.le_of_ble_eq_true rfl, Nat.le_of_ble_eq_true rfl⟩ dL_law_440 (fun r4 G_5 hw6 => ?_)
  have hI7 : xI G_5 := hw6.1
  have hU8 : gu_un xcd [3800, 4000] G G_5 := hw6.2.1
  have q9 := hw6.2.2.2
  have f10 : xF3 G_5 := xF3.un hf3 hU8 rfl rfl rfl
  have w_11 : G_5 17 = G 17 := funext fun k_ => hU8 17 k_ (by simp [xcd, ycd])
  have w_12 : G_5 88 = G 88 := funext fun k_ => hU8 88 k_ (by simp [xcd, ycd])
  have t13 : G_5 10 2 = G 10 2 := hU8 10 2 (by decide)
  have t13i := congrArg Int32.toInt t13
  have t14 : G_5 1 1 = G 1 1 := hU8 1 1 (by decide)
  have t14i := congrArg Int32.toInt t14
  have t15 : G_5 0 12 = G 0 12 := hU8 0 12 (by decide)
  have t15i := congrArg Int32.toInt t15
  have t16 : G_5 0 13 = G 0 13 := hU8 0 13 (by decide)
  have t16i := congrArg Int32.toInt t16
  have t17 : G_5 8 3 = G 8 3 := hU8 8 3 (by decide)
  have t17i := congrArg Int32.toInt t17
  have t18 : G_5 6 6 = G 6 6 := hU8 6 6 (by decide)
  have t18i := congrArg Int32.toInt t18
  have lG19 := lG.un hlG hU8 rfl
  have lNu20 := lNu.unx hlN hU8 rfl
  refine g_pop F dL_law_443 rfl ?_
  refine g_aload_n F 1 dL_law_444 rfl rfl ?_
  refine g_aload_n F 3 dL_law_445 rfl rfl ?_
  refine g_iload_n F 0 dL_law_446 rfl rfl ?_
  refine g_iconst F 1 dL_law_447 (by decide) ?_
  refine u_iadd F dL_law_448 i0 1 ei rfl (by omega) (by omega) (fun y21 ey21 => ?_)
  refine g_sld F hX hbl hbA ((i0 + 1)).toNat (congrArg Int.toNat (show y21.toInt = (i0 + 1) by omega)) (ti_in rfl (by omega) (by omega)) dL_law_449 ?_
  refine g_aload_n F 3 dL_law_450 rfl rfl ?_
  refine g_iload_n F 0 dL_law_451 rfl rfl ?_
  refine g_iconst F 2 dL_law_452 (by decide) ?_
  refine u_iadd F dL_law_453 i0 2 ei rfl (by omega) (by omega) (fun y22 ey22 => ?_)
  refine g_sld F hX hbl hbA ((i0 + 2)).toNat (congrArg Int.toNat (show y22.toInt = (i0 + 2) by omega)) (ti_in rfl (by omega) (by omega)) dL_law_454 ?_
  refine g_aload_n F 3 dL_law_455 rfl rfl ?_
  refine g_iload_n F 0 dL_law_456 rfl rfl ?_
  refine g_iconst F 3 dL_law_457 (by decide) ?_
  refine u_iadd F dL_law_458 i0 3 ei rfl (by omega) (by omega) (fun y23 ey23 => ?_)
  refine g_sld F hX hbl hbA ((i0 + 3)).toNat (congrArg Int.toNat (show y23.toInt = (i0 + 3) by omega)) (ti_in rfl (by omega) (by omega)) dL_law_459 ?_
  refine u2_callVi (k := 139) (n := 10449) (b := b 0) (As := [.int (sx ((i0 + 1)).toNat), .int (sx ((i0 + 2)).toNat), .int (sx ((i0 + 3)).toNat)]) (st := []) (wc := (yW K b G2)) (wr := (xW K a G_5)) F (fun sz => S_X13_set l D K b G2 (sx ((i0 + 1)).toNat) (sx ((i0 + 1)).toNat).toInt (sx ((i0 + 2)).toNat) (sx ((i0 + 2)).toNat).toInt (sx ((i0 + 3)).toNat) (sx ((i0 + 3)).toNat).toInt rfl rfl rfl hyI sz) (cwV 3 hts gL_law_X13_set rfl rfl rfl (by decide +kernel) ⟨Nat.le_of_ble_eq_true rfl, Nat.le_of_ble_eq_true rfl⟩) rfl 0 yc_0 rfl (Nat.le_of_ble_eq_true rfl) ⟨Nat.le_of_ble_eq_true rfl, Nat.le_of_ble_eq_true rfl⟩ dL_law_460 (fun r24 G_25 hw26 => ?_)
  have hI27 : yI G_25 := hw26.1
  have hU28 : gu_un ycd [1400, 1500] G2 G_25 := hw26.2.1
  have q29 := hw26.2.2.2
  have w30 : yW3 G_25 := yW3.un h_w3 hU28 rfl
  have w_31 : G_25 2 = G2 2 := funext fun k_ => hU28 2 k_ (by simp [xcd, ycd])
  have w_32 : G_25 46 = G2 46 := funext fun k_ => hU28 46 k_ (by simp [xcd, ycd])
  have t33 : G_25 0 72 = G2 0 72 := hU28 0 72 (by decide)
  have t33i := congrArg Int32.toInt t33
  have t34 : G_25 0 2 = G2 0 2 := hU28 0 2 (by decide)
  have t34i := congrArg Int32.toInt t34
  have t35 : G_25 0 32 = G2 0 32 := hU28 0 32 (by decide)
  have t35i := congrArg Int32.toInt t35
  have t36 : G_25 0 8 = G2 0 8 := hU28 0 8 (by decide)
  have t36i := congrArg Int32.toInt t36
  have t37 : G_25 0 9 = G2 0 9 := hU28 0 9 (by decide)
  have t37i := congrArg Int32.toInt t37
  have t38 : G_25 0 45 = G2 0 45 := hU28 0 45 (by decide)
  have t38i := congrArg Int32.toInt t38
  have lNu39 := lNu.uny lNu20 hU28 rfl
  have hr0 : (G 18 0).toInt = (G2 3 0).toInt := congrArg Int32.toInt (hlN.1.1 0 (by decide))
  have hr1 : (G 18 1).toInt = (G2 3 1).toInt := congrArg Int32.toInt (hlN.1.1 1 (by decide))
  have hb0 : (4 : Int) ≤ (G 18 0).toInt ∧ (G 18 0).toInt ≤ 16 := hxI 18 0
  have hb1 : (1 : Int) ≤ (G 18 1).toInt ∧ (G 18 1).toInt ≤ 6 := hxI 18 1
  have sg9 := sg_eq hpB (fun h9 => by omega) (by constructor <;> (intro h9; omega)) q9 q29
  have pB40 : pcB (xPc G_5) (yPc G_25) := sg9.2
  have rq9 : r4.toInt = r24.toInt := sg9.1
  have pK41 : pcK (xPc G_5) (yPc G_25) := pcK.go hpK (pcK.xun hU8 rfl) (pcK.yun hU28 rfl)
  refine g_pop F dL_law_463 rfl ?_
  refine g_goto F 1385 dL_law_464 (by decide) ?_
  exact kE G_5 G_25 ⟨hI7, hI27, f10, w30, by omega, by omega, fun i hi => by first | (exfalso; omega) | (rw [w_31, w_11]; exact htb i (by omega)), by omega, fun i hi => by rw [w_32, w_12]; exact hsr i (by omega), by omega, by omega, lNu39, by omega, lG19, by omega, pB40, pK41⟩
set_option maxRecDepth 20000 in
theorem ggL_law_X11_change : GoodIn wsL_law wsX11_change := goodIn_rn _ [(796, 1), (28, 1), (797, 1), (1440, 14), (1544, 5)] rfl (by decide +kernel)
set_option maxRecDepth 20000 in
theorem gL_law_X11_change : GoodIn wsL_law (wsV RL 54 RX11 yX11_change wsX11_change) := goodIn_app (goodIn_of _ (by decide +kernel)) ggL_law_X11_change
set_option maxRecDepth 20000 in
theorem ggL_law_X13_change : GoodIn wsL_law wsX13_change := goodIn_rn _ [(801, 1), (247, 1), (1454, 73)] rfl (by decide +kernel)
set_option maxRecDepth 20000 in
theorem gL_law_X13_change : GoodIn wsL_law (wsV RL 57 RX13 yX13_change wsX13_change) := goodIn_app (goodIn_of _ (by decide +kernel)) ggL_law_X13_change
set_option maxHeartbeats 4000000 in
set_option maxRecDepth 100000 in
theorem law_c9 {p : Program} {e : Env} {s : State} {m : MethodId} {args : Array Value} {below : List Frame} {meth : Method} {c : Code} {A : Nat → Prop} {Q : State → Prop} (l : Launch) (D : va_G) (F : gF p s m args meth c cL_law RL 4 wsL_law A) (hts0 : ∀ w ∈ wsL_t, w.before args s = true) {zf : Nat → Nat} (hZ : xZ zf A s s.heap) {qs vs : Nat → Nat} (hY : yZ qs vs A s s.heap) {sb L : Nat} {sx : Nat → Int32} (hX : va_X sb L sx s s.heap) (hbl : sb < s.heap.size) (hbA : ¬ A sb) (hL : L ≤ 3584) (K : Nat → ClassId) (a b : Nat → Nat) (G G2 : gS) (hl : lI G G2) (i : Int32) (i0 : Int) (ei : i.toInt = i0) (h0 : 0 ≤ i0) (h7 : i0 + 7 ≤ L) (kE : ∀ G1 G3 : gS, lI G1 G3 → gG p l e (gR 2048 601024 7293033 84000) s m args below meth c D A 4 Q 139 10449 (xW K a G1 ++ yW K b G3) (tK K) [(3, .int i), (2, .ref (b 0)), (1, .ref (a 0)), (0, .ref sb)] 1385 []) : gG p l e (gR 2048 601024 7293033 84000) s m args below meth c D A 4 Q 139 10449 (xW K a G ++ yW K b G2) (tK K) [(3, .int i), (2, .ref (b 0)), (1, .ref (a 0)), (0, .ref sb)] 467 [] := by
  have hts := F.2.2.2.2.1
  obtain ⟨hxI, hyI, hf3, h_w3, hd0, heq, htb, hsc, hsr, hfk, hfp, hlN, hjm, hlG, h66, hpB, hpK⟩ := hl
  refine g_aload_n F 2 dL_law_467 rfl rfl ?_
  refine u2_callVi (k := 139) (n := 10449) (b := a 0) (As := []) (st := []) (wc := (xW K a G)) (wr := (yW K b G2)) F (fun sz => S_X11_change l D K a G  hxI sz) (cwV 0 hts gL_law_X11_change rfl rfl rfl (by decide +kernel) ⟨Nat.le_of_ble_eq_true rfl, Nat.le_of_ble_eq_true rfl⟩) rfl 0 xc_0 rfl (Nat.le_of_ble_eq_true rfl) ⟨Nat.le_of_ble_eq_true rfl, Nat.le_of_ble_eq_true rfl⟩ dL_law_468 (fun r1 G_2 hw3 => ?_)
  have hI4 : xI G_2 := hw3.1
  have hU5 : gu_un xcd [503] G G_2 := hw3.2.1
  have q6 := hw3.2.2.2
  have f7 : xF3 G_2 := xF3.un hf3 hU5 rfl rfl rfl
  have w_8 : G_2 17 = G 17 := funext fun k_ => hU5 17 k_ (by simp [xcd, ycd])
  have w_9 : G_2 88 = G 88 := funext fun k_ => hU5 88 k_ (by simp [xcd, ycd])
  have t10 : G_2 10 2 = G 10 2 := hU5 10 2 (by decide)
  have t10i := congrArg Int32.toInt t10
  have t11 : G_2 1 1 = G 1 1 := hU5 1 1 (by decide)
  have t11i := congrArg Int32.toInt t11
  have t12 : G_2 0 12 = G 0 12 := hU5 0 12 (by decide)
  have t12i := congrArg Int32.toInt t12
  have t13 : G_2 0 13 = G 0 13 := hU5 0 13 (by decide)
  have t13i := congrArg Int32.toInt t13
  have t14 : G_2 8 3 = G 8 3 := hU5 8 3 (by decide)
  have t14i := congrArg Int32.toInt t14
  have t15 : G_2 6 6 = G 6 6 := hU5 6 6 (by decide)
  have t15i := congrArg Int32.toInt t15
  have lG16 := lG.un hlG hU5 rfl
  have lNu17 := lNu.unx hlN hU5 rfl
  refine g_pop F dL_law_471 rfl ?_
  refine g_aload_n F 1 dL_law_472 rfl rfl ?_
  refine u2_callVi (k := 139) (n := 10449) (b := b 0) (As := []) (st := []) (wc := (yW K b G2)) (wr := (xW K a G_2)) F (fun sz => S_X13_change l D K b G2  hyI sz) (cwV 0 hts gL_law_X13_change rfl rfl rfl (by decide +kernel) ⟨Nat.le_of_ble_eq_true rfl, Nat.le_of_ble_eq_true rfl⟩) rfl 0 yc_0 rfl (Nat.le_of_ble_eq_true rfl) ⟨Nat.le_of_ble_eq_true rfl, Nat.le_of_ble_eq_true rfl⟩ dL_law_473 (fun r18 G_19 hw20 => ?_)
  have hI21 : yI G_19 := hw20.1
  have hU22 : gu_un ycd [29] G2 G_19 := hw20.2.1
  have q23 := hw20.2.2.2
  have w24 : yW3 G_19 := yW3.un h_w3 hU22 rfl
  have w_25 : G_19 2 = G2 2 := funext fun k_ => hU22 2 k_ (by simp [xcd, ycd])
  have w_26 : G_19 46 = G2 46 := funext fun k_ => hU22 46 k_ (by simp [xcd, ycd])
  have t27 : G_19 0 72 = G2 0 72 := hU22 0 72 (by decide)
  have t27i := congrArg Int32.toInt t27
  have t28 : G_19 0 2 = G2 0 2 := hU22 0 2 (by decide)
  have t28i := congrArg Int32.toInt t28
  have t29 : G_19 0 32 = G2 0 32 := hU22 0 32 (by decide)
  have t29i := congrArg Int32.toInt t29
  have t30 : G_19 0 8 = G2 0 8 := hU22 0 8 (by decide)
  have t30i := congrArg Int32.toInt t30
  have t31 : G_19 0 9 = G2 0 9 := hU22 0 9 (by decide)
  have t31i := congrArg Int32.toInt t31
  have t32 : G_19 0 45 = G2 0 45 := hU22 0 45 (by decide)
  have t32i := congrArg Int32.toInt t32
  have lNu33 := lNu.uny lNu17 hU22 rfl
  have hr0 : (G 18 0).toInt = (G2 3 0).toInt := congrArg Int32.toInt (hlN.1.1 0 (by decide))
  have hr1 : (G 18 1).toInt = (G2 3 1).toInt := congrArg Int32.toInt (hlN.1.1 1 (by decide))
  have hb0 : (4 : Int) ≤ (G 18 0).toInt ∧ (G 18 0).toInt ≤ 16 := hxI 18 0
  have hb1 : (1 : Int) ≤ (G 18 1).toInt ∧ (G 18 1).toInt ≤ 6 := hxI 18 1
  have cg9 := cg_eq hpB q6 q23
  have pB34 : pcB (xPc G_2) (yPc G_19) := cg9.2
  have rq9 : r1.toInt = r18.toInt := cg9.1
  have pK35 : pcK (xPc G_2) (yPc G_19) := pcK.go hpK (pcK.xun hU5 rfl) (pcK.yun hU22 rfl)
  refine g_pop F dL_law_476 rfl ?_
  refine g_goto F 1385 dL_law_477 (by decide) ?_
  exact kE G_2 G_19 ⟨hI4, hI21, f7, w24, by omega, by omega, fun i hi => by first | (exfalso; omega) | (rw [w_25, w_8]; exact htb i (by omega)), by omega, fun i hi => by rw [w_26, w_9]; exact hsr i (by omega), by omega, by omega, lNu33, by omega, lG16, by omega, pB34, pK35⟩
set_option maxRecDepth 20000 in
theorem ggL_law_X11_attempt : GoodIn wsL_law wsX11_attempt := goodIn_rn _ [(805, 1), (32, 1), (28, 1), (750, 1), (797, 1), (806, 3), (31, 1), (809, 5), (130, 1), (814, 1), (758, 2), (18, 1), (760, 1), (61, 1), (815, 8), (126, 1), (823, 1), (80, 3), (824, 4), (762, 1), (27, 1), (763, 1), (828, 5), (360, 3), (833, 5), (364, 2), (838, 8), (127, 1), (846, 12), (125, 1), (858, 1), (84, 3), (859, 6), (128, 2), (865, 5), (715, 2), (64, 1), (717, 1), (91, 1), (71, 2), (718, 3), (870, 18), (2, 1), (888, 1), (50, 1), (889, 8), (1440, 14), (1544, 25), (1533, 4), (1602, 9)] rfl (by decide +kernel)
set_option maxRecDepth 20000 in
theorem gL_law_X11_attempt : GoodIn wsL_law (wsV RL 58 RX11 yX11_attempt wsX11_attempt) := goodIn_app (goodIn_of _ (by decide +kernel)) ggL_law_X11_attempt
set_option maxRecDepth 20000 in
theorem ggL_law_X13_attempt : GoodIn wsL_law wsX13_attempt := goodIn_rn _ [(900, 4), (5, 1), (904, 2), (705, 1), (906, 1), (773, 4), (181, 1), (280, 3), (907, 12), (193, 1), (919, 1), (360, 3), (777, 3), (920, 8), (198, 1), (928, 1), (199, 1), (247, 1), (929, 4), (200, 1), (933, 2), (185, 1), (935, 8), (659, 1), (364, 2), (943, 8), (183, 1), (194, 4), (951, 4), (726, 4), (191, 1), (190, 1), (189, 1), (192, 1), (730, 3), (955, 12), (201, 1), (967, 1), (1454, 73)] rfl (by decide +kernel)
set_option maxRecDepth 20000 in
theorem gL_law_X13_attempt : GoodIn wsL_law (wsV RL 62 RX13 yX13_attempt wsX13_attempt) := goodIn_app (goodIn_of _ (by decide +kernel)) ggL_law_X13_attempt
set_option maxHeartbeats 4000000 in
set_option maxRecDepth 100000 in
theorem law_c10 {p : Program} {e : Env} {s : State} {m : MethodId} {args : Array Value} {below : List Frame} {meth : Method} {c : Code} {A : Nat → Prop} {Q : State → Prop} (l : Launch) (D : va_G) (F : gF p s m args meth c cL_law RL 4 wsL_law A) (hts0 : ∀ w ∈ wsL_t, w.before args s = true) {zf : Nat → Nat} (hZ : xZ zf A s s.heap) {qs vs : Nat → Nat} (hY : yZ qs vs A s s.heap) {sb L : Nat} {sx : Nat → Int32} (hX : va_X sb L sx s s.heap) (hbl : sb < s.heap.size) (hbA : ¬ A sb) (hL : L ≤ 3584) (K : Nat → ClassId) (a b : Nat → Nat) (G G2 : gS) (hl : lI G G2) (i : Int32) (i0 : Int) (ei : i.toInt = i0) (h0 : 0 ≤ i0) (h7 : i0 + 7 ≤ L) (kE : ∀ G1 G3 : gS, lI G1 G3 → gG p l e (gR 2048 601024 7293033 84000) s m args below meth c D A 4 Q 139 10449 (xW K a G1 ++ yW K b G3) (tK K) [(3, .int i), (2, .ref (b 0)), (1, .ref (a 0)), (0, .ref sb)] 1385 []) : gG p l e (gR 2048 601024 7293033 84000) s m args below meth c D A 4 Q 139 10449 (xW K a G ++ yW K b G2) (tK K) [(3, .int i), (2, .ref (b 0)), (1, .ref (a 0)), (0, .ref sb)] 480 [] := by
  have hts := F.2.2.2.2.1
  obtain ⟨hxI, hyI, hf3, h_w3, hd0, heq, htb, hsc, hsr, hfk, hfp, hlN, hjm, hlG, h66, hpB, hpK⟩ := hl
  refine g_aload_n F 2 dL_law_480 rfl rfl ?_
  refine g_aload_n F 3 dL_law_481 rfl rfl ?_
  refine g_iload_n F 0 dL_law_482 rfl rfl ?_
  refine g_iconst F 1 dL_law_483 (by decide) ?_
  refine u_iadd F dL_law_484 i0 1 ei rfl (by omega) (by omega) (fun y1 ey1 => ?_)
  refine g_sld F hX hbl hbA ((i0 + 1)).toNat (congrArg Int.toNat (show y1.toInt = (i0 + 1) by omega)) (ti_in rfl (by omega) (by omega)) dL_law_485 ?_
  refine g_aload_n F 3 dL_law_486 rfl rfl ?_
  refine g_iload_n F 0 dL_law_487 rfl rfl ?_
  refine g_iconst F 2 dL_law_488 (by decide) ?_
  refine u_iadd F dL_law_489 i0 2 ei rfl (by omega) (by omega) (fun y2 ey2 => ?_)
  refine g_sld F hX hbl hbA ((i0 + 2)).toNat (congrArg Int.toNat (show y2.toInt = (i0 + 2) by omega)) (ti_in rfl (by omega) (by omega)) dL_law_490 ?_
  refine g_aload_n F 3 dL_law_491 rfl rfl ?_
  refine g_iload_n F 0 dL_law_492 rfl rfl ?_
  refine g_iconst F 3 dL_law_493 (by decide) ?_
  refine u_iadd F dL_law_494 i0 3 ei rfl (by omega) (by omega) (fun y3 ey3 => ?_)
  refine g_sld F hX hbl hbA ((i0 + 3)).toNat (congrArg Int.toNat (show y3.toInt = (i0 + 3) by omega)) (ti_in rfl (by omega) (by omega)) dL_law_495 ?_
  refine g_aload_n F 3 dL_law_496 rfl rfl ?_
  refine g_iload_n F 0 dL_law_497 rfl rfl ?_
  refine g_iconst F 4 dL_law_498 (by decide) ?_
  refine u_iadd F dL_law_499 i0 4 ei rfl (by omega) (by omega) (fun y4 ey4 => ?_)
  refine g_sld F hX hbl hbA ((i0 + 4)).toNat (congrArg Int.toNat (show y4.toInt = (i0 + 4) by omega)) (ti_in rfl (by omega) (by omega)) dL_law_500 ?_
  refine g_aload_n F 3 dL_law_501 rfl rfl ?_
  refine g_iload_n F 0 dL_law_502 rfl rfl ?_
  refine g_iconst F 5 dL_law_503 (by decide) ?_
  refine u_iadd F dL_law_504 i0 5 ei rfl (by omega) (by omega) (fun y5 ey5 => ?_)
  refine g_sld F hX hbl hbA ((i0 + 5)).toNat (congrArg Int.toNat (show y5.toInt = (i0 + 5) by omega)) (ti_in rfl (by omega) (by omega)) dL_law_505 ?_
  refine g_aload_n F 3 dL_law_506 rfl rfl ?_
  refine g_iload_n F 0 dL_law_507 rfl rfl ?_
  refine g_bipush F 6 dL_law_508 (by decide) ?_
  refine u_iadd F dL_law_510 i0 6 ei rfl (by omega) (by omega) (fun y6 ey6 => ?_)
  refine g_sld F hX hbl hbA ((i0 + 6)).toNat (congrArg Int.toNat (show y6.toInt = (i0 + 6) by omega)) (ti_in rfl (by omega) (by omega)) dL_law_511 ?_
  refine u2_callVi (k := 139) (n := 10449) (b := a 0) (As := [.int (sx ((i0 + 1)).toNat), .int (sx ((i0 + 2)).toNat), .int (sx ((i0 + 3)).toNat), .int (sx ((i0 + 4)).toNat), .int (sx ((i0 + 5)).toNat), .int (sx ((i0 + 6)).toNat)]) (st := []) (wc := (xW K a G)) (wr := (yW K b G2)) F (fun sz => S_X11_attempt l D K a G (sx ((i0 + 1)).toNat) (sx ((i0 + 1)).toNat).toInt (sx ((i0 + 2)).toNat) (sx ((i0 + 2)).toNat).toInt (sx ((i0 + 3)).toNat) (sx ((i0 + 3)).toNat).toInt (sx ((i0 + 4)).toNat) (sx ((i0 + 4)).toNat).toInt (sx ((i0 + 5)).toNat) (sx ((i0 + 5)).toNat).toInt (sx ((i0 + 6)).toNat) (sx ((i0 + 6)).toNat).toInt rfl rfl rfl rfl rfl rfl hxI sz) (cwV 6 hts gL_law_X11_attempt rfl rfl rfl (by decide +kernel) ⟨Nat.le_of_ble_eq_true rfl, Nat.le_of_ble_eq_true rfl⟩) rfl 0 xc_0 rfl (Nat.le_of_ble_eq_true rfl) ⟨Nat.le_of_ble_eq_true rfl, Nat.le_of_ble_eq_true rfl⟩ dL_law_512 (fun r7 G_8 hw9 => ?_)
  have hI10 : xI G_8 := hw9.1
  have hU11 : gu_un xcd [12, 602, 603, 604, 605, 608, 613, 614, 615, 616, 617, 618, 619, 620, 2100, 2400, 2700, 4400, 4500, 4600, 4700, 4800, 9000] G G_8 := hw9.2.1
  have q12 := hw9.2.2.2
  have f13 : xF3 G_8 := xF3.un hf3 hU11 rfl rfl rfl
  have w_14 : G_8 17 = G 17 := funext fun k_ => hU11 17 k_ (by simp [xcd, ycd])
  have w_15 : G_8 88 = G 88 := funext fun k_ => hU11 88 k_ (by simp [xcd, ycd])
  have t16 : G_8 10 2 = G 10 2 := hU11 10 2 (by decide)
  have t16i := congrArg Int32.toInt t16
  have t17 : G_8 1 1 = G 1 1 := hU11 1 1 (by decide)
  have t17i := congrArg Int32.toInt t17
  have t18 : G_8 0 12 = G 0 12 := hU11 0 12 (by decide)
  have t18i := congrArg Int32.toInt t18
  have t19 : G_8 0 13 = G 0 13 := hU11 0 13 (by decide)
  have t19i := congrArg Int32.toInt t19
  have t20 : G_8 8 3 = G 8 3 := hU11 8 3 (by decide)
  have t20i := congrArg Int32.toInt t20
  have t21 : G_8 6 6 = G 6 6 := hU11 6 6 (by decide)
  have t21i := congrArg Int32.toInt t21
  have lG22 := lG.un hlG hU11 rfl
  have lNu23 := lNu.unx hlN hU11 rfl
  refine g_pop F dL_law_515 rfl ?_
  refine g_aload_n F 1 dL_law_516 rfl rfl ?_
  refine g_aload_n F 3 dL_law_517 rfl rfl ?_
  refine g_iload_n F 0 dL_law_518 rfl rfl ?_
  refine g_iconst F 1 dL_law_519 (by decide) ?_
  refine u_iadd F dL_law_520 i0 1 ei rfl (by omega) (by omega) (fun y24 ey24 => ?_)
  refine g_sld F hX hbl hbA ((i0 + 1)).toNat (congrArg Int.toNat (show y24.toInt = (i0 + 1) by omega)) (ti_in rfl (by omega) (by omega)) dL_law_521 ?_
  refine g_aload_n F 3 dL_law_522 rfl rfl ?_
  refine g_iload_n F 0 dL_law_523 rfl rfl ?_
  refine g_iconst F 2 dL_law_524 (by decide) ?_
  refine u_iadd F dL_law_525 i0 2 ei rfl (by omega) (by omega) (fun y25 ey25 => ?_)
  refine g_sld F hX hbl hbA ((i0 + 2)).toNat (congrArg Int.toNat (show y25.toInt = (i0 + 2) by omega)) (ti_in rfl (by omega) (by omega)) dL_law_526 ?_
  refine g_aload_n F 3 dL_law_527 rfl rfl ?_
  refine g_iload_n F 0 dL_law_528 rfl rfl ?_
  refine g_iconst F 3 dL_law_529 (by decide) ?_
  refine u_iadd F dL_law_530 i0 3 ei rfl (by omega) (by omega) (fun y26 ey26 => ?_)
  refine g_sld F hX hbl hbA ((i0 + 3)).toNat (congrArg Int.toNat (show y26.toInt = (i0 + 3) by omega)) (ti_in rfl (by omega) (by omega)) dL_law_531 ?_
  refine g_aload_n F 3 dL_law_532 rfl rfl ?_
  refine g_iload_n F 0 dL_law_533 rfl rfl ?_
  refine g_iconst F 4 dL_law_534 (by decide) ?_
  refine u_iadd F dL_law_535 i0 4 ei rfl (by omega) (by omega) (fun y27 ey27 => ?_)
  refine g_sld F hX hbl hbA ((i0 + 4)).toNat (congrArg Int.toNat (show y27.toInt = (i0 + 4) by omega)) (ti_in rfl (by omega) (by omega)) dL_law_536 ?_
  refine g_aload_n F 3 dL_law_537 rfl rfl ?_
  refine g_iload_n F 0 dL_law_538 rfl rfl ?_
  refine g_iconst F 5 dL_law_539 (by decide) ?_
  refine u_iadd F dL_law_540 i0 5 ei rfl (by omega) (by omega) (fun y28 ey28 => ?_)
  refine g_sld F hX hbl hbA ((i0 + 5)).toNat (congrArg Int.toNat (show y28.toInt = (i0 + 5) by omega)) (ti_in rfl (by omega) (by omega)) dL_law_541 ?_
  refine g_aload_n F 3 dL_law_542 rfl rfl ?_
  refine g_iload_n F 0 dL_law_543 rfl rfl ?_
  refine g_bipush F 6 dL_law_544 (by decide) ?_
  refine u_iadd F dL_law_546 i0 6 ei rfl (by omega) (by omega) (fun y29 ey29 => ?_)
  refine g_sld F hX hbl hbA ((i0 + 6)).toNat (congrArg Int.toNat (show y29.toInt = (i0 + 6) by omega)) (ti_in rfl (by omega) (by omega)) dL_law_547 ?_
  refine u2_callVi (k := 139) (n := 10449) (b := b 0) (As := [.int (sx ((i0 + 1)).toNat), .int (sx ((i0 + 2)).toNat), .int (sx ((i0 + 3)).toNat), .int (sx ((i0 + 4)).toNat), .int (sx ((i0 + 5)).toNat), .int (sx ((i0 + 6)).toNat)]) (st := []) (wc := (yW K b G2)) (wr := (xW K a G_8)) F (fun sz => S_X13_attempt l D K b G2 (sx ((i0 + 1)).toNat) (sx ((i0 + 1)).toNat).toInt (sx ((i0 + 2)).toNat) (sx ((i0 + 2)).toNat).toInt (sx ((i0 + 3)).toNat) (sx ((i0 + 3)).toNat).toInt (sx ((i0 + 4)).toNat) (sx ((i0 + 4)).toNat).toInt (sx ((i0 + 5)).toNat) (sx ((i0 + 5)).toNat).toInt (sx ((i0 + 6)).toNat) (sx ((i0 + 6)).toNat).toInt rfl rfl rfl rfl rfl rfl h_w3 (by omega) hyI sz) (cwV 6 hts gL_law_X13_attempt rfl rfl rfl (by decide +kernel) ⟨Nat.le_of_ble_eq_true rfl, Nat.le_of_ble_eq_true rfl⟩) rfl 0 yc_0 rfl (Nat.le_of_ble_eq_true rfl) ⟨Nat.le_of_ble_eq_true rfl, Nat.le_of_ble_eq_true rfl⟩ dL_law_548 (fun r30 G_31 hw32 => ?_)
  have hI33 : yI G_31 := hw32.1
  have hU34 : gu_un ycd [29, 33, 36, 37, 38, 1300, 1400, 1500, 1600, 1700, 1800, 1900, 2000, 2100, 2200] G2 G_31 := hw32.2.1
  have q35 := hw32.2.2.2.1
  have q36 := hw32.2.2.2.2.1
  have q37 := hw32.2.2.2.2.2
  have w38 : yW3 G_31 := yW3.un h_w3 hU34 rfl
  have w_39 : G_31 2 = G2 2 := funext fun k_ => hU34 2 k_ (by simp [xcd, ycd])
  have w_40 : G_31 46 = G2 46 := funext fun k_ => hU34 46 k_ (by simp [xcd, ycd])
  have t41 : G_31 0 72 = G2 0 72 := hU34 0 72 (by decide)
  have t41i := congrArg Int32.toInt t41
  have t42 : G_31 0 2 = G2 0 2 := hU34 0 2 (by decide)
  have t42i := congrArg Int32.toInt t42
  have t43 : G_31 0 8 = G2 0 8 := hU34 0 8 (by decide)
  have t43i := congrArg Int32.toInt t43
  have t44 : G_31 0 9 = G2 0 9 := hU34 0 9 (by decide)
  have t44i := congrArg Int32.toInt t44
  have t45 : G_31 0 45 = G2 0 45 := hU34 0 45 (by decide)
  have t45i := congrArg Int32.toInt t45
  have lNu46 := lNu.uny lNu23 hU34 rfl
  have hr0 : (G 18 0).toInt = (G2 3 0).toInt := congrArg Int32.toInt (hlN.1.1 0 (by decide))
  have hr1 : (G 18 1).toInt = (G2 3 1).toInt := congrArg Int32.toInt (hlN.1.1 1 (by decide))
  have hb0 : (4 : Int) ≤ (G 18 0).toInt ∧ (G 18 0).toInt ≤ 16 := hxI 18 0
  have hb1 : (1 : Int) ≤ (G 18 1).toInt ∧ (G 18 1).toInt ≤ 6 := hxI 18 1
  obtain ⟨Q9, C9, x9, y9, n9, s9⟩ := sq_ex hxI hlN hlG h66
  have at9 := atR.eq n9 s9 hpB hpK (q12 Q9 C9 (Or.inl h66) x9) (q36 Q9 C9 y9)
  have pB47 : pcB (xPc G_8) (yPc G_31) := at9.2.1
  have pK48 : pcK (xPc G_8) (yPc G_31) := at9.2.2
  have rq9 : r7.toInt = r30.toInt := at9.1
  refine g_pop F dL_law_551 rfl ?_
  refine g_goto F 1385 dL_law_552 (by decide) ?_
  exact kE G_8 G_31 ⟨hI10, hI33, f13, w38, by omega, by omega, fun i hi => by first | (exfalso; omega) | (rw [w_39, w_14]; exact htb i (by omega)), by omega, fun i hi => by rw [w_40, w_15]; exact hsr i (by omega), by omega, by omega, lNu46, by omega, lG22, by omega, pB47, pK48⟩
set_option maxRecDepth 20000 in
theorem ggL_law_X11_cut : GoodIn wsL_law wsX11_cut := goodIn_rn _ [(971, 1), (32, 1), (28, 1), (750, 1), (797, 1), (972, 1), (806, 3), (31, 1), (809, 5), (130, 1), (814, 1), (758, 2), (18, 1), (760, 1), (61, 1), (815, 8), (126, 1), (823, 1), (80, 3), (824, 4), (762, 1), (27, 1), (763, 1), (828, 5), (360, 3), (833, 5), (364, 2), (838, 8), (127, 1), (846, 12), (125, 1), (858, 1), (84, 3), (859, 6), (128, 2), (865, 5), (715, 2), (64, 1), (717, 1), (91, 1), (71, 2), (718, 3), (870, 15), (973, 4), (110, 1), (977, 1), (118, 1), (113, 1), (756, 1), (978, 2), (112, 1), (119, 1), (980, 7), (885, 3), (2, 1), (888, 1), (50, 1), (889, 8), (1440, 14), (1544, 25), (1533, 4), (1602, 9)] rfl (by decide +kernel)
set_option maxRecDepth 20000 in
theorem gL_law_X11_cut : GoodIn wsL_law (wsV RL 63 RX11 yX11_cut wsX11_cut) := goodIn_app (goodIn_of _ (by decide +kernel)) ggL_law_X11_cut
set_option maxRecDepth 20000 in
theorem ggL_law_X13_cut : GoodIn wsL_law wsX13_cut := goodIn_rn _ [(990, 1), (248, 1), (901, 3), (5, 1), (904, 2), (705, 1), (906, 1), (773, 4), (181, 1), (280, 3), (907, 12), (193, 1), (919, 1), (360, 3), (777, 3), (929, 4), (200, 1), (933, 2), (185, 1), (935, 3), (247, 1), (938, 5), (659, 1), (364, 2), (943, 8), (183, 1), (194, 4), (951, 4), (726, 4), (191, 1), (190, 1), (189, 1), (192, 1), (730, 3), (955, 4), (963, 4), (201, 1), (967, 1), (1454, 73)] rfl (by decide +kernel)
set_option maxRecDepth 20000 in
theorem gL_law_X13_cut : GoodIn wsL_law (wsV RL 66 RX13 yX13_cut wsX13_cut) := goodIn_app (goodIn_of _ (by decide +kernel)) ggL_law_X13_cut
set_option maxHeartbeats 4000000 in
set_option maxRecDepth 100000 in
theorem law_c11 {p : Program} {e : Env} {s : State} {m : MethodId} {args : Array Value} {below : List Frame} {meth : Method} {c : Code} {A : Nat → Prop} {Q : State → Prop} (l : Launch) (D : va_G) (F : gF p s m args meth c cL_law RL 4 wsL_law A) (hts0 : ∀ w ∈ wsL_t, w.before args s = true) {zf : Nat → Nat} (hZ : xZ zf A s s.heap) {qs vs : Nat → Nat} (hY : yZ qs vs A s s.heap) {sb L : Nat} {sx : Nat → Int32} (hX : va_X sb L sx s s.heap) (hbl : sb < s.heap.size) (hbA : ¬ A sb) (hL : L ≤ 3584) (K : Nat → ClassId) (a b : Nat → Nat) (G G2 : gS) (hl : lI G G2) (i : Int32) (i0 : Int) (ei : i.toInt = i0) (h0 : 0 ≤ i0) (h7 : i0 + 7 ≤ L) (kE : ∀ G1 G3 : gS, lI G1 G3 → gG p l e (gR 2048 601024 7293033 84000) s m args below meth c D A 4 Q 139 10449 (xW K a G1 ++ yW K b G3) (tK K) [(3, .int i), (2, .ref (b 0)), (1, .ref (a 0)), (0, .ref sb)] 1385 []) : gG p l e (gR 2048 601024 7293033 84000) s m args below meth c D A 4 Q 139 10449 (xW K a G ++ yW K b G2) (tK K) [(3, .int i), (2, .ref (b 0)), (1, .ref (a 0)), (0, .ref sb)] 555 [] := by
  have hts := F.2.2.2.2.1
  obtain ⟨hxI, hyI, hf3, h_w3, hd0, heq, htb, hsc, hsr, hfk, hfp, hlN, hjm, hlG, h66, hpB, hpK⟩ := hl
  refine g_aload_n F 2 dL_law_555 rfl rfl ?_
  refine g_aload_n F 3 dL_law_556 rfl rfl ?_
  refine g_iload_n F 0 dL_law_557 rfl rfl ?_
  refine g_iconst F 1 dL_law_558 (by decide) ?_
  refine u_iadd F dL_law_559 i0 1 ei rfl (by omega) (by omega) (fun y1 ey1 => ?_)
  refine g_sld F hX hbl hbA ((i0 + 1)).toNat (congrArg Int.toNat (show y1.toInt = (i0 + 1) by omega)) (ti_in rfl (by omega) (by omega)) dL_law_560 ?_
  refine g_aload_n F 3 dL_law_561 rfl rfl ?_
  refine g_iload_n F 0 dL_law_562 rfl rfl ?_
  refine g_iconst F 2 dL_law_563 (by decide) ?_
  refine u_iadd F dL_law_564 i0 2 ei rfl (by omega) (by omega) (fun y2 ey2 => ?_)
  refine g_sld F hX hbl hbA ((i0 + 2)).toNat (congrArg Int.toNat (show y2.toInt = (i0 + 2) by omega)) (ti_in rfl (by omega) (by omega)) dL_law_565 ?_
  refine g_aload_n F 3 dL_law_566 rfl rfl ?_
  refine g_iload_n F 0 dL_law_567 rfl rfl ?_
  refine g_iconst F 3 dL_law_568 (by decide) ?_
  refine u_iadd F dL_law_569 i0 3 ei rfl (by omega) (by omega) (fun y3 ey3 => ?_)
  refine g_sld F hX hbl hbA ((i0 + 3)).toNat (congrArg Int.toNat (show y3.toInt = (i0 + 3) by omega)) (ti_in rfl (by omega) (by omega)) dL_law_570 ?_
  refine g_aload_n F 3 dL_law_571 rfl rfl ?_
  refine g_iload_n F 0 dL_law_572 rfl rfl ?_
  refine g_iconst F 4 dL_law_573 (by decide) ?_
  refine u_iadd F dL_law_574 i0 4 ei rfl (by omega) (by omega) (fun y4 ey4 => ?_)
  refine g_sld F hX hbl hbA ((i0 + 4)).toNat (congrArg Int.toNat (show y4.toInt = (i0 + 4) by omega)) (ti_in rfl (by omega) (by omega)) dL_law_575 ?_
  refine g_aload_n F 3 dL_law_576 rfl rfl ?_
  refine g_iload_n F 0 dL_law_577 rfl rfl ?_
  refine g_iconst F 5 dL_law_578 (by decide) ?_
  refine u_iadd F dL_law_579 i0 5 ei rfl (by omega) (by omega) (fun y5 ey5 => ?_)
  refine g_sld F hX hbl hbA ((i0 + 5)).toNat (congrArg Int.toNat (show y5.toInt = (i0 + 5) by omega)) (ti_in rfl (by omega) (by omega)) dL_law_580 ?_
  refine g_aload_n F 3 dL_law_581 rfl rfl ?_
  refine g_iload_n F 0 dL_law_582 rfl rfl ?_
  refine g_bipush F 6 dL_law_583 (by decide) ?_
  refine u_iadd F dL_law_585 i0 6 ei rfl (by omega) (by omega) (fun y6 ey6 => ?_)
  refine g_sld F hX hbl hbA ((i0 + 6)).toNat (congrArg Int.toNat (show y6.toInt = (i0 + 6) by omega)) (ti_in rfl (by omega) (by omega)) dL_law_586 ?_
  refine u2_callVi (k := 139) (n := 10449) (b := a 0) (As := [.int (sx ((i0 + 1)).toNat), .int (sx ((i0 + 2)).toNat), .int (sx ((i0 + 3)).toNat), .int (sx ((i0 + 4)).toNat), .int (sx ((i0 + 5)).toNat), .int (sx ((i0 + 6)).toNat)]) (st := []) (wc := (xW K a G)) (wr := (yW K b G2)) F (fun sz => S_X11_cut l D K a G (sx ((i0 + 1)).toNat) (sx ((i0 + 1)).toNat).toInt (sx ((i0 + 2)).toNat) (sx ((i0 + 2)).toNat).toInt (sx ((i0 + 3)).toNat) (sx ((i0 + 3)).toNat).toInt (sx ((i0 + 4)).toNat) (sx ((i0 + 4)).toNat).toInt (sx ((i0 + 5)).toNat) (sx ((i0 + 5)).toNat).toInt (sx ((i0 + 6)).toNat) (sx ((i0 + 6)).toNat).toInt rfl rfl rfl rfl rfl rfl hxI sz) (cwV 6 hts gL_law_X11_cut rfl rfl rfl (by decide +kernel) ⟨Nat.le_of_ble_eq_true rfl, Nat.le_of_ble_eq_true rfl⟩) rfl 0 xc_0 rfl (Nat.le_of_ble_eq_true rfl) ⟨Nat.le_of_ble_eq_true rfl, Nat.le_of_ble_eq_true rfl⟩ dL_law_587 (fun r7 G_8 hw9 => ?_)
  have hI10 : xI G_8 := hw9.1
  have hU11 : gu_un xcd [12, 503, 504, 602, 603, 604, 605, 608, 613, 614, 615, 616, 617, 618, 619, 620, 2100, 2400, 2700, 3800, 4000, 4100, 4200, 4300, 4400, 4500, 4600, 4700, 4800, 9000] G G_8 := hw9.2.1
  have q12 := hw9.2.2.2
  have f13 : xF3 G_8 := xF3.un hf3 hU11 rfl rfl rfl
  have w_14 : G_8 17 = G 17 := funext fun k_ => hU11 17 k_ (by simp [xcd, ycd])
  have w_15 : G_8 88 = G 88 := funext fun k_ => hU11 88 k_ (by simp [xcd, ycd])
  have t16 : G_8 10 2 = G 10 2 := hU11 10 2 (by decide)
  have t16i := congrArg Int32.toInt t16
  have t17 : G_8 1 1 = G 1 1 := hU11 1 1 (by decide)
  have t17i := congrArg Int32.toInt t17
  have t18 : G_8 0 12 = G 0 12 := hU11 0 12 (by decide)
  have t18i := congrArg Int32.toInt t18
  have t19 : G_8 0 13 = G 0 13 := hU11 0 13 (by decide)
  have t19i := congrArg Int32.toInt t19
  have t20 : G_8 8 3 = G 8 3 := hU11 8 3 (by decide)
  have t20i := congrArg Int32.toInt t20
  have t21 : G_8 6 6 = G 6 6 := hU11 6 6 (by decide)
  have t21i := congrArg Int32.toInt t21
  have lG22 := lG.un hlG hU11 rfl
  have lNu23 := lNu.unx hlN hU11 rfl
  refine g_aload_n F 1 dL_law_590 rfl rfl ?_
  refine g_aload_n F 3 dL_law_591 rfl rfl ?_
  refine g_iload_n F 0 dL_law_592 rfl rfl ?_
  refine g_iconst F 1 dL_law_593 (by decide) ?_
  refine u_iadd F dL_law_594 i0 1 ei rfl (by omega) (by omega) (fun y24 ey24 => ?_)
  refine g_sld F hX hbl hbA ((i0 + 1)).toNat (congrArg Int.toNat (show y24.toInt = (i0 + 1) by omega)) (ti_in rfl (by omega) (by omega)) dL_law_595 ?_
  refine g_aload_n F 3 dL_law_596 rfl rfl ?_
  refine g_iload_n F 0 dL_law_597 rfl rfl ?_
  refine g_iconst F 2 dL_law_598 (by decide) ?_
  refine u_iadd F dL_law_599 i0 2 ei rfl (by omega) (by omega) (fun y25 ey25 => ?_)
  refine g_sld F hX hbl hbA ((i0 + 2)).toNat (congrArg Int.toNat (show y25.toInt = (i0 + 2) by omega)) (ti_in rfl (by omega) (by omega)) dL_law_600 ?_
  refine g_aload_n F 3 dL_law_601 rfl rfl ?_
  refine g_iload_n F 0 dL_law_602 rfl rfl ?_
  refine g_iconst F 3 dL_law_603 (by decide) ?_
  refine u_iadd F dL_law_604 i0 3 ei rfl (by omega) (by omega) (fun y26 ey26 => ?_)
  refine g_sld F hX hbl hbA ((i0 + 3)).toNat (congrArg Int.toNat (show y26.toInt = (i0 + 3) by omega)) (ti_in rfl (by omega) (by omega)) dL_law_605 ?_
  refine g_aload_n F 3 dL_law_606 rfl rfl ?_
  refine g_iload_n F 0 dL_law_607 rfl rfl ?_
  refine g_iconst F 4 dL_law_608 (by decide) ?_
  refine u_iadd F dL_law_609 i0 4 ei rfl (by omega) (by omega) (fun y27 ey27 => ?_)
  refine g_sld F hX hbl hbA ((i0 + 4)).toNat (congrArg Int.toNat (show y27.toInt = (i0 + 4) by omega)) (ti_in rfl (by omega) (by omega)) dL_law_610 ?_
  refine g_aload_n F 3 dL_law_611 rfl rfl ?_
  refine g_iload_n F 0 dL_law_612 rfl rfl ?_
  refine g_iconst F 5 dL_law_613 (by decide) ?_
  refine u_iadd F dL_law_614 i0 5 ei rfl (by omega) (by omega) (fun y28 ey28 => ?_)
  refine g_sld F hX hbl hbA ((i0 + 5)).toNat (congrArg Int.toNat (show y28.toInt = (i0 + 5) by omega)) (ti_in rfl (by omega) (by omega)) dL_law_615 ?_
  refine g_aload_n F 3 dL_law_616 rfl rfl ?_
  refine g_iload_n F 0 dL_law_617 rfl rfl ?_
  refine g_bipush F 6 dL_law_618 (by decide) ?_
  refine u_iadd F dL_law_620 i0 6 ei rfl (by omega) (by omega) (fun y29 ey29 => ?_)
  refine g_sld F hX hbl hbA ((i0 + 6)).toNat (congrArg Int.toNat (show y29.toInt = (i0 + 6) by omega)) (ti_in rfl (by omega) (by omega)) dL_law_621 ?_
  refine u2_callVi (k := 139) (n := 10449) (b := b 0) (As := [.int (sx ((i0 + 1)).toNat), .int (sx ((i0 + 2)).toNat), .int (sx ((i0 + 3)).toNat), .int (sx ((i0 + 4)).toNat), .int (sx ((i0 + 5)).toNat), .int (sx ((i0 + 6)).toNat)]) (st := [.int r7]) (wc := (yW K b G2)) (wr := (xW K a G_8)) F (fun sz => S_X13_cut l D K b G2 (sx ((i0 + 1)).toNat) (sx ((i0 + 1)).toNat).toInt (sx ((i0 + 2)).toNat) (sx ((i0 + 2)).toNat).toInt (sx ((i0 + 3)).toNat) (sx ((i0 + 3)).toNat).toInt (sx ((i0 + 4)).toNat) (sx ((i0 + 4)).toNat).toInt (sx ((i0 + 5)).toNat) (sx ((i0 + 5)).toNat).toInt (sx ((i0 + 6)).toNat) (sx ((i0 + 6)).toNat).toInt rfl rfl rfl rfl rfl rfl h_w3 hyI sz) (cwV 6 hts gL_law_X13_cut rfl rfl rfl (by decide +kernel) ⟨Nat.le_of_ble_eq_true rfl, Nat.le_of_ble_eq_true rfl⟩) rfl 0 yc_0 rfl (Nat.le_of_ble_eq_true rfl) ⟨Nat.le_of_ble_eq_true rfl, Nat.le_of_ble_eq_true rfl⟩ dL_law_622 (fun r30 G_31 hw32 => ?_)
  have hI33 : yI G_31 := hw32.1
  have hU34 : gu_un ycd [29, 30, 36, 37, 38, 1300, 1400, 1500, 1600, 1700, 1800, 2100, 2200] G2 G_31 := hw32.2.1
  have q35 := hw32.2.2.2
  have w36 : yW3 G_31 := yW3.un h_w3 hU34 rfl
  have w_37 : G_31 2 = G2 2 := funext fun k_ => hU34 2 k_ (by simp [xcd, ycd])
  have w_38 : G_31 46 = G2 46 := funext fun k_ => hU34 46 k_ (by simp [xcd, ycd])
  have t39 : G_31 0 72 = G2 0 72 := hU34 0 72 (by decide)
  have t39i := congrArg Int32.toInt t39
  have t40 : G_31 0 2 = G2 0 2 := hU34 0 2 (by decide)
  have t40i := congrArg Int32.toInt t40
  have t41 : G_31 0 32 = G2 0 32 := hU34 0 32 (by decide)
  have t41i := congrArg Int32.toInt t41
  have t42 : G_31 0 8 = G2 0 8 := hU34 0 8 (by decide)
  have t42i := congrArg Int32.toInt t42
  have t43 : G_31 0 9 = G2 0 9 := hU34 0 9 (by decide)
  have t43i := congrArg Int32.toInt t43
  have t44 : G_31 0 45 = G2 0 45 := hU34 0 45 (by decide)
  have t44i := congrArg Int32.toInt t44
  have lNu45 := lNu.uny lNu23 hU34 rfl
  have hr0 : (G 18 0).toInt = (G2 3 0).toInt := congrArg Int32.toInt (hlN.1.1 0 (by decide))
  have hr1 : (G 18 1).toInt = (G2 3 1).toInt := congrArg Int32.toInt (hlN.1.1 1 (by decide))
  have hb0 : (4 : Int) ≤ (G 18 0).toInt ∧ (G 18 0).toInt ≤ 16 := hxI 18 0
  have hb1 : (1 : Int) ≤ (G 18 1).toInt ∧ (G 18 1).toInt ≤ 6 := hxI 18 1
  obtain ⟨Q9, C9, x9, y9, n9, s9⟩ := sq_ex hxI hlN hlG h66
  have at9 := cuR.eq n9 s9 hpB hpK (q12 Q9 C9 (Or.inl h66) x9) (q35 Q9 C9 y9)
  have pB46 : pcB (xPc G_8) (yPc G_31) := at9.2.1
  have pK47 : pcK (xPc G_8) (yPc G_31) := at9.2.2
  have rq9 : r7.toInt = r30.toInt := at9.1
  refine v_icmp_eq F 1385 dL_law_625 (by decide) r7.toInt r30.toInt rfl rfl (fun c48 => ?_) (fun c48 => absurd (show r7.toInt = r30.toInt by omega) c48)
  exact kE G_8 G_31 ⟨hI10, hI33, f13, w36, by omega, by omega, fun i hi => by first | (exfalso; omega) | (rw [w_37, w_14]; exact htb i (by omega)), by omega, fun i hi => by rw [w_38, w_15]; exact hsr i (by omega), by omega, by omega, lNu45, by omega, lG22, by omega, pB46, pK47⟩
set_option maxRecDepth 20000 in
theorem ggL_law_X11_passed : GoodIn wsL_law wsX11_passed := goodIn_rn _ [(994, 1), (896, 1), (50, 1), (995, 1), (1440, 14)] rfl (by decide +kernel)
set_option maxRecDepth 20000 in
theorem gL_law_X11_passed : GoodIn wsL_law (wsV RL 67 RX11 yX11_passed wsX11_passed) := goodIn_app (goodIn_of _ (by decide +kernel)) ggL_law_X11_passed
set_option maxRecDepth 20000 in
theorem ggL_law_X13_passed : GoodIn wsL_law wsX13_passed := goodIn_rn _ [(999, 1), (967, 1), (1000, 1), (201, 1), (1001, 1), (280, 2), (5, 1), (282, 1), (1454, 73)] rfl (by decide +kernel)
set_option maxRecDepth 20000 in
theorem gL_law_X13_passed : GoodIn wsL_law (wsV RL 70 RX13 yX13_passed wsX13_passed) := goodIn_app (goodIn_of _ (by decide +kernel)) ggL_law_X13_passed
set_option maxHeartbeats 4000000 in
set_option maxRecDepth 100000 in
theorem law_c12 {p : Program} {e : Env} {s : State} {m : MethodId} {args : Array Value} {below : List Frame} {meth : Method} {c : Code} {A : Nat → Prop} {Q : State → Prop} (l : Launch) (D : va_G) (F : gF p s m args meth c cL_law RL 4 wsL_law A) (hts0 : ∀ w ∈ wsL_t, w.before args s = true) {zf : Nat → Nat} (hZ : xZ zf A s s.heap) {qs vs : Nat → Nat} (hY : yZ qs vs A s s.heap) {sb L : Nat} {sx : Nat → Int32} (hX : va_X sb L sx s s.heap) (hbl : sb < s.heap.size) (hbA : ¬ A sb) (hL : L ≤ 3584) (K : Nat → ClassId) (a b : Nat → Nat) (G G2 : gS) (hl : lI G G2) (i : Int32) (i0 : Int) (ei : i.toInt = i0) (h0 : 0 ≤ i0) (h7 : i0 + 7 ≤ L) (kE : ∀ G1 G3 : gS, lI G1 G3 → gG p l e (gR 2048 601024 7293033 84000) s m args below meth c D A 4 Q 139 10449 (xW K a G1 ++ yW K b G3) (tK K) [(3, .int i), (2, .ref (b 0)), (1, .ref (a 0)), (0, .ref sb)] 1385 []) : gG p l e (gR 2048 601024 7293033 84000) s m args below meth c D A 4 Q 139 10449 (xW K a G ++ yW K b G2) (tK K) [(3, .int i), (2, .ref (b 0)), (1, .ref (a 0)), (0, .ref sb)] 630 [] := by
  have hts := F.2.2.2.2.1
  obtain ⟨hxI, hyI, hf3, h_w3, hd0, heq, htb, hsc, hsr, hfk, hfp, hlN, hjm, hlG, h66, hpB, hpK⟩ := hl
  refine g_aload_n F 2 dL_law_630 rfl rfl ?_
  refine g_aload_n F 3 dL_law_631 rfl rfl ?_
  refine g_iload_n F 0 dL_law_632 rfl rfl ?_
  refine g_iconst F 1 dL_law_633 (by decide) ?_
  refine u_iadd F dL_law_634 i0 1 ei rfl (by omega) (by omega) (fun y1 ey1 => ?_)
  refine g_sld F hX hbl hbA ((i0 + 1)).toNat (congrArg Int.toNat (show y1.toInt = (i0 + 1) by omega)) (ti_in rfl (by omega) (by omega)) dL_law_635 ?_
  refine u2_callVi (k := 139) (n := 10449) (b := a 0) (As := [.int (sx ((i0 + 1)).toNat)]) (st := []) (wc := (xW K a G)) (wr := (yW K b G2)) F (fun sz => S_X11_passed l D K a G (sx ((i0 + 1)).toNat) (sx ((i0 + 1)).toNat).toInt rfl hxI sz) (cwV 1 hts gL_law_X11_passed rfl rfl rfl (by decide +kernel) ⟨Nat.le_of_ble_eq_true rfl, Nat.le_of_ble_eq_true rfl⟩) rfl 0 xc_0 rfl (Nat.le_of_ble_eq_true rfl) ⟨Nat.le_of_ble_eq_true rfl, Nat.le_of_ble_eq_true rfl⟩ dL_law_636 (fun r2 _ hw4 => ?_)
  have q5 := hw4
  refine g_pop F dL_law_639 rfl ?_
  refine g_aload_n F 1 dL_law_640 rfl rfl ?_
  refine g_aload_n F 3 dL_law_641 rfl rfl ?_
  refine g_iload_n F 0 dL_law_642 rfl rfl ?_
  refine g_iconst F 1 dL_law_643 (by decide) ?_
  refine u_iadd F dL_law_644 i0 1 ei rfl (by omega) (by omega) (fun y6 ey6 => ?_)
  refine g_sld F hX hbl hbA ((i0 + 1)).toNat (congrArg Int.toNat (show y6.toInt = (i0 + 1) by omega)) (ti_in rfl (by omega) (by omega)) dL_law_645 ?_
  refine u2_callVi (k := 139) (n := 10449) (b := b 0) (As := [.int (sx ((i0 + 1)).toNat)]) (st := []) (wc := (yW K b G2)) (wr := (xW K a G)) F (fun sz => S_X13_passed l D K b G2 (sx ((i0 + 1)).toNat) (sx ((i0 + 1)).toNat).toInt rfl hyI sz) (cwV 1 hts gL_law_X13_passed rfl rfl rfl (by decide +kernel) ⟨Nat.le_of_ble_eq_true rfl, Nat.le_of_ble_eq_true rfl⟩) rfl 0 yc_0 rfl (Nat.le_of_ble_eq_true rfl) ⟨Nat.le_of_ble_eq_true rfl, Nat.le_of_ble_eq_true rfl⟩ dL_law_646 (fun r7 _ hw9 => ?_)
  have q10 := hw9
  have hr0 : (G 18 0).toInt = (G2 3 0).toInt := congrArg Int32.toInt (hlN.1.1 0 (by decide))
  have hr1 : (G 18 1).toInt = (G2 3 1).toInt := congrArg Int32.toInt (hlN.1.1 1 (by decide))
  have hb0 : (4 : Int) ≤ (G 18 0).toInt ∧ (G 18 0).toInt ≤ 16 := hxI 18 0
  have hb1 : (1 : Int) ≤ (G 18 1).toInt ∧ (G 18 1).toInt ≤ 6 := hxI 18 1
  have pB11 : pcB (xPc G) (yPc G2) := pcB.go hpB pcB.rf pcB.rf
  have pK12 : pcK (xPc G) (yPc G2) := pcK.go hpK pcK.rf pcK.rf
  have rq9 : r2.toInt = r7.toInt := pd_eq hpK q5 q10
  refine g_pop F dL_law_649 rfl ?_
  refine g_goto F 1385 dL_law_650 (by decide) ?_
  exact kE G G2 ⟨hxI, hyI, hf3, h_w3, by omega, by omega, fun i hi => by first | (exfalso; omega) | (exact htb i (by omega)), by omega, fun i hi => by exact hsr i (by omega), by omega, by omega, hlN, by omega, hlG, by omega, pB11, pK12⟩
set_option maxRecDepth 20000 in
theorem ggL_law_X11_left : GoodIn wsL_law wsX11_left := goodIn_rn _ [(1005, 1), (28, 1), (752, 3), (27, 1), (755, 1), (113, 1), (756, 4), (18, 1), (760, 1), (61, 1), (761, 3), (1006, 4), (112, 1), (1440, 14), (1544, 5), (1533, 4)] rfl (by decide +kernel)
set_option maxRecDepth 20000 in
theorem gL_law_X11_left : GoodIn wsL_law (wsV RL 71 RX11 yX11_left wsX11_left) := goodIn_app (goodIn_of _ (by decide +kernel)) ggL_law_X11_left
set_option maxRecDepth 20000 in
theorem ggL_law_X13_left : GoodIn wsL_law wsX13_left := goodIn_rn _ [(1013, 1), (194, 4), (769, 3), (5, 1), (772, 1), (181, 1), (773, 4), (280, 3), (777, 3), (1454, 73)] rfl (by decide +kernel)
set_option maxRecDepth 20000 in
theorem gL_law_X13_left : GoodIn wsL_law (wsV RL 74 RX13 yX13_left wsX13_left) := goodIn_app (goodIn_of _ (by decide +kernel)) ggL_law_X13_left
set_option maxHeartbeats 4000000 in
set_option maxRecDepth 100000 in
theorem law_c13 {p : Program} {e : Env} {s : State} {m : MethodId} {args : Array Value} {below : List Frame} {meth : Method} {c : Code} {A : Nat → Prop} {Q : State → Prop} (l : Launch) (D : va_G) (F : gF p s m args meth c cL_law RL 4 wsL_law A) (hts0 : ∀ w ∈ wsL_t, w.before args s = true) {zf : Nat → Nat} (hZ : xZ zf A s s.heap) {qs vs : Nat → Nat} (hY : yZ qs vs A s s.heap) {sb L : Nat} {sx : Nat → Int32} (hX : va_X sb L sx s s.heap) (hbl : sb < s.heap.size) (hbA : ¬ A sb) (hL : L ≤ 3584) (K : Nat → ClassId) (a b : Nat → Nat) (G G2 : gS) (hl : lI G G2) (i : Int32) (i0 : Int) (ei : i.toInt = i0) (h0 : 0 ≤ i0) (h7 : i0 + 7 ≤ L) (kE : ∀ G1 G3 : gS, lI G1 G3 → gG p l e (gR 2048 601024 7293033 84000) s m args below meth c D A 4 Q 139 10449 (xW K a G1 ++ yW K b G3) (tK K) [(3, .int i), (2, .ref (b 0)), (1, .ref (a 0)), (0, .ref sb)] 1385 []) : gG p l e (gR 2048 601024 7293033 84000) s m args below meth c D A 4 Q 139 10449 (xW K a G ++ yW K b G2) (tK K) [(3, .int i), (2, .ref (b 0)), (1, .ref (a 0)), (0, .ref sb)] 653 [] := by
  have hts := F.2.2.2.2.1
  obtain ⟨hxI, hyI, hf3, h_w3, hd0, heq, htb, hsc, hsr, hfk, hfp, hlN, hjm, hlG, h66, hpB, hpK⟩ := hl
  refine g_aload_n F 2 dL_law_653 rfl rfl ?_
  refine g_aload_n F 3 dL_law_654 rfl rfl ?_
  refine g_iload_n F 0 dL_law_655 rfl rfl ?_
  refine g_iconst F 1 dL_law_656 (by decide) ?_
  refine u_iadd F dL_law_657 i0 1 ei rfl (by omega) (by omega) (fun y1 ey1 => ?_)
  refine g_sld F hX hbl hbA ((i0 + 1)).toNat (congrArg Int.toNat (show y1.toInt = (i0 + 1) by omega)) (ti_in rfl (by omega) (by omega)) dL_law_658 ?_
  refine g_aload_n F 3 dL_law_659 rfl rfl ?_
  refine g_iload_n F 0 dL_law_660 rfl rfl ?_
  refine g_iconst F 2 dL_law_661 (by decide) ?_
  refine u_iadd F dL_law_662 i0 2 ei rfl (by omega) (by omega) (fun y2 ey2 => ?_)
  refine g_sld F hX hbl hbA ((i0 + 2)).toNat (congrArg Int.toNat (show y2.toInt = (i0 + 2) by omega)) (ti_in rfl (by omega) (by omega)) dL_law_663 ?_
  refine g_aload_n F 3 dL_law_664 rfl rfl ?_
  refine g_iload_n F 0 dL_law_665 rfl rfl ?_
  refine g_iconst F 3 dL_law_666 (by decide) ?_
  refine u_iadd F dL_law_667 i0 3 ei rfl (by omega) (by omega) (fun y3 ey3 => ?_)
  refine g_sld F hX hbl hbA ((i0 + 3)).toNat (congrArg Int.toNat (show y3.toInt = (i0 + 3) by omega)) (ti_in rfl (by omega) (by omega)) dL_law_668 ?_
  refine u2_callVi (k := 139) (n := 10449) (b := a 0) (As := [.int (sx ((i0 + 1)).toNat), .int (sx ((i0 + 2)).toNat), .int (sx ((i0 + 3)).toNat)]) (st := []) (wc := (xW K a G)) (wr := (yW K b G2)) F (fun sz => S_X11_left l D K a G (sx ((i0 + 1)).toNat) (sx ((i0 + 1)).toNat).toInt (sx ((i0 + 2)).toNat) (sx ((i0 + 2)).toNat).toInt (sx ((i0 + 3)).toNat) (sx ((i0 + 3)).toNat).toInt rfl rfl rfl hxI sz) (cwV 3 hts gL_law_X11_left rfl rfl rfl (by decide +kernel) ⟨Nat.le_of_ble_eq_true rfl, Nat.le_of_ble_eq_true rfl⟩) rfl 0 xc_0 rfl (Nat.le_of_ble_eq_true rfl) ⟨Nat.le_of_ble_eq_true rfl, Nat.le_of_ble_eq_true rfl⟩ dL_law_669 (fun r4 _ hw6 => ?_)
  have q7 := hw6
  refine g_pop F dL_law_672 rfl ?_
  refine g_aload_n F 1 dL_law_673 rfl rfl ?_
  refine g_aload_n F 3 dL_law_674 rfl rfl ?_
  refine g_iload_n F 0 dL_law_675 rfl rfl ?_
  refine g_iconst F 1 dL_law_676 (by decide) ?_
  refine u_iadd F dL_law_677 i0 1 ei rfl (by omega) (by omega) (fun y8 ey8 => ?_)
  refine g_sld F hX hbl hbA ((i0 + 1)).toNat (congrArg Int.toNat (show y8.toInt = (i0 + 1) by omega)) (ti_in rfl (by omega) (by omega)) dL_law_678 ?_
  refine g_aload_n F 3 dL_law_679 rfl rfl ?_
  refine g_iload_n F 0 dL_law_680 rfl rfl ?_
  refine g_iconst F 2 dL_law_681 (by decide) ?_
  refine u_iadd F dL_law_682 i0 2 ei rfl (by omega) (by omega) (fun y9 ey9 => ?_)
  refine g_sld F hX hbl hbA ((i0 + 2)).toNat (congrArg Int.toNat (show y9.toInt = (i0 + 2) by omega)) (ti_in rfl (by omega) (by omega)) dL_law_683 ?_
  refine g_aload_n F 3 dL_law_684 rfl rfl ?_
  refine g_iload_n F 0 dL_law_685 rfl rfl ?_
  refine g_iconst F 3 dL_law_686 (by decide) ?_
  refine u_iadd F dL_law_687 i0 3 ei rfl (by omega) (by omega) (fun y10 ey10 => ?_)
  refine g_sld F hX hbl hbA ((i0 + 3)).toNat (congrArg Int.toNat (show y10.toInt = (i0 + 3) by omega)) (ti_in rfl (by omega) (by omega)) dL_law_688 ?_
  refine u2_callVi (k := 139) (n := 10449) (b := b 0) (As := [.int (sx ((i0 + 1)).toNat), .int (sx ((i0 + 2)).toNat), .int (sx ((i0 + 3)).toNat)]) (st := []) (wc := (yW K b G2)) (wr := (xW K a G)) F (fun sz => S_X13_left l D K b G2 (sx ((i0 + 1)).toNat) (sx ((i0 + 1)).toNat).toInt (sx ((i0 + 2)).toNat) (sx ((i0 + 2)).toNat).toInt (sx ((i0 + 3)).toNat) (sx ((i0 + 3)).toNat).toInt rfl rfl rfl hyI sz) (cwV 3 hts gL_law_X13_left rfl rfl rfl (by decide +kernel) ⟨Nat.le_of_ble_eq_true rfl, Nat.le_of_ble_eq_true rfl⟩) rfl 0 yc_0 rfl (Nat.le_of_ble_eq_true rfl) ⟨Nat.le_of_ble_eq_true rfl, Nat.le_of_ble_eq_true rfl⟩ dL_law_689 (fun r11 _ hw13 => ?_)
  have q14 := hw13
  have hr0 : (G 18 0).toInt = (G2 3 0).toInt := congrArg Int32.toInt (hlN.1.1 0 (by decide))
  have hr1 : (G 18 1).toInt = (G2 3 1).toInt := congrArg Int32.toInt (hlN.1.1 1 (by decide))
  have hb0 : (4 : Int) ≤ (G 18 0).toInt ∧ (G 18 0).toInt ≤ 16 := hxI 18 0
  have hb1 : (1 : Int) ≤ (G 18 1).toInt ∧ (G 18 1).toInt ≤ 6 := hxI 18 1
  have pB15 : pcB (xPc G) (yPc G2) := pcB.go hpB pcB.rf pcB.rf
  have pK16 : pcK (xPc G) (yPc G2) := pcK.go hpK pcK.rf pcK.rf
  have rq9 : r4.toInt = r11.toInt := lf_eq hpB (fun h9 => by omega) (by constructor <;> (intro h9; omega)) q7 q14
  refine g_pop F dL_law_692 rfl ?_
  refine g_goto F 1385 dL_law_693 (by decide) ?_
  exact kE G G2 ⟨hxI, hyI, hf3, h_w3, by omega, by omega, fun i hi => by first | (exfalso; omega) | (exact htb i (by omega)), by omega, fun i hi => by exact hsr i (by omega), by omega, by omega, hlN, by omega, hlG, by omega, pB15, pK16⟩
