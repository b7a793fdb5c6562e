
set_option maxHeartbeats 4000000 in
set_option maxRecDepth 100000 in
theorem S_isEmpty_1 (l : Launch) (D : va_G) (q v n : Nat) (bs : Nat → Int32) (hn : n ≤ 1000) (pn : n = 0) (sz : Nat) : KiZ (zS q v n bs) l yJ0_isEmpty_aae02 wsJ0_isEmpty_aae02 1 40 D [.ref q] [] [] sz (fun (r : Int32) (_ : Unit) => r.toInt = 1) (fun (_ : Unit) => []) := by
  unfold KiZ
  refine gz_ofW (cc := cJ0_isEmpty_aae02) (lv := [(0, .ref q)]) (by decide +kernel) rfl (Nat.le_of_ble_eq_true rfl) rfl ?_
  intro p e s m args below meth c A Q hA hQ hZ F hr hnm
  have hts := F.2.2.2.2.1
  have w_0 : (Cond.fieldLink RJ0 9 "java/lang/String" "value" "[B").before args s = true := hts _ (List.mem_of_getElem? (i := 1) rfl)
  refine g_aload_n F 0 dJ0_isEmpty_aae02_0 rfl rfl ?_
  refine uz_getf F hZ.2.2.1 w_0 dJ0_isEmpty_aae02_1 ?_
  refine uz_tlen F hZ.2.2.2.1 (Int32.ofNat n) rfl dJ0_isEmpty_aae02_4 ?_
  refine v_if_ne F 12 dJ0_isEmpty_aae02_5 (by decide) (n : Int) (ti_nat hn) (fun c1 => absurd c1 (by omega)) (fun c1 => ?_)
  refine g_iconst F 1 dJ0_isEmpty_aae02_8 (by decide) ?_
  refine g_goto F 13 dJ0_isEmpty_aae02_9 (by decide) ?_
  exact u_zret F hA hQ hr rfl () (by decide) rfl rfl dJ0_isEmpty_aae02_13


set_option maxHeartbeats 4000000 in
set_option maxRecDepth 100000 in
theorem S_isEmpty_0 (l : Launch) (D : va_G) (q v n : Nat) (bs : Nat → Int32) (hn : n ≤ 1000) (pn : 1 ≤ n) (sz : Nat) : KiZ (zS q v n bs) l yJ0_isEmpty_aae02 wsJ0_isEmpty_aae02 1 40 D [.ref q] [] [] sz (fun (r : Int32) (_ : Unit) => r.toInt = 0) (fun (_ : Unit) => []) := by
  unfold KiZ
  refine gz_ofW (cc := cJ0_isEmpty_aae02) (lv := [(0, .ref q)]) (by decide +kernel) rfl (Nat.le_of_ble_eq_true rfl) rfl ?_
  intro p e s m args below meth c A Q hA hQ hZ F hr hnm
  have hts := F.2.2.2.2.1
  have w_0 : (Cond.fieldLink RJ0 9 "java/lang/String" "value" "[B").before args s = true := hts _ (List.mem_of_getElem? (i := 1) rfl)
  refine g_aload_n F 0 dJ0_isEmpty_aae02_0 rfl rfl ?_
  refine uz_getf F hZ.2.2.1 w_0 dJ0_isEmpty_aae02_1 ?_
  refine uz_tlen F hZ.2.2.2.1 (Int32.ofNat n) rfl dJ0_isEmpty_aae02_4 ?_
  refine v_if_ne F 12 dJ0_isEmpty_aae02_5 (by decide) (n : Int) (ti_nat hn) (fun c1 => ?_) (fun c1 => absurd c1 (by omega))
  refine g_iconst F 0 dJ0_isEmpty_aae02_12 (by decide) ?_
  exact u_zret F hA hQ hr rfl () (by decide) rfl rfl dJ0_isEmpty_aae02_13

theorem dX1_isSum_0 : decode cX1_isSum 0 = .ok (.aload_n 0, 1) := by decide +kernel
theorem dX1_isSum_1 : decode cX1_isSum 1 = .ok (.getfield 83, 3) := by decide +kernel
theorem dX1_isSum_4 : decode cX1_isSum 4 = .ok (.invokevirtual 86, 3) := by decide +kernel
theorem dX1_isSum_7 : decode cX1_isSum 7 = .ok (.ifCond .ne 7, 3) := by decide +kernel
theorem dX1_isSum_10 : decode cX1_isSum 10 = .ok (.iconst 1, 1) := by decide +kernel
theorem dX1_isSum_11 : decode cX1_isSum 11 = .ok (.goto 4, 3) := by decide +kernel
theorem dX1_isSum_14 : decode cX1_isSum 14 = .ok (.iconst 0, 1) := by decide +kernel
theorem dX1_isSum_15 : decode cX1_isSum 15 = .ok (.ireturn, 1) := by decide +kernel
set_option maxRecDepth 20000 in
theorem ggX1_isSum_J0_isEmpty_aae02 : GoodIn wsX1_isSum wsJ0_isEmpty_aae02 := goodIn_r _ [6, 7] rfl (by decide +kernel)
set_option maxRecDepth 20000 in
theorem gX1_isSum_J0_isEmpty_aae02 : GoodIn wsX1_isSum (wsV RX1 86 RJ0 yJ0_isEmpty_aae02 wsJ0_isEmpty_aae02) := goodIn_app (goodIn_of _ (by decide +kernel)) ggX1_isSum_J0_isEmpty_aae02
set_option maxHeartbeats 4000000 in
set_option maxRecDepth 100000 in
theorem S_X1_isSum_c0 (l : Launch) (D : va_G) (zf : Nat → Nat) (sz : Nat) : KiZ (xZ zf) l yX1_isSum wsX1_isSum 2 60 D [.ref (zf 10)] [] [] sz (fun (r : Int32) (_ : Unit) => r.toInt = 0) (fun (_ : Unit) => []) := by
  unfold KiZ
  refine gz_ofW (cc := cX1_isSum) (lv := [(0, .ref (zf 10))]) (by decide) rfl (Nat.le_of_ble_eq_true rfl) rfl ?_
  intro p e s m args below meth c A Q hA hQ hZ F hr hnm
  have hts := F.2.2.2.2.1
  have w_0 : (Cond.fieldLink RX1 83 "QuietCut$Clause" "letters" "Ljava/lang/String;").before args s = true := hts _ (List.mem_of_getElem? (i := 1) rfl)
  refine g_aload_n F 0 dX1_isSum_0 rfl rfl ?_
  refine uz_getf F (show va_OF "QuietCut$Clause" "letters" "Ljava/lang/String;" (.ref (zf 70)) (zf 10) A s s.heap from (hZ.2.2.2.2.2 0 (by decide)).2.2.2.2.2.2.1) w_0 dX1_isSum_1 ?_
  refine uz_call0Vi (k := 0) (n := 0) (b := (zf 70)) (As := []) (st := []) F zS_st (hZ.2.2.2.2.2 0 (by decide)).2.2.2.2.2.2.2.2 (fun sz => S_isEmpty_1 l D (zf 70) (zf 90) _ _ (by decide)  (by decide) sz) (cwV 0 hts gX1_isSum_J0_isEmpty_aae02 rfl rfl rfl (by decide +kernel) ⟨Nat.le_of_ble_eq_true rfl, Nat.le_of_ble_eq_true rfl⟩) (hZ.2.2.2.2.2 0 (by decide)).2.2.2.2.2.2.2.2.1 rfl (Nat.le_of_ble_eq_true rfl) ⟨Nat.zero_le _, Nat.zero_le _⟩ dX1_isSum_4 (fun r1 _ hw2 => ?_)
  have hw2 : r1.toInt = 1 := hw2
  refine g_fold 1 ((ti_eq rfl (show (1 : Int32).toInt = 1 from rfl)).mpr hw2) ?_
  refine v_if_ne F 14 dX1_isSum_7 (by decide) 1 rfl (fun c3 => ?_) (fun c3 => absurd c3 (by decide))
  refine g_iconst F 0 dX1_isSum_14 (by decide) ?_
  exact u_zret F hA hQ hr rfl () (by decide) rfl rfl dX1_isSum_15


set_option maxHeartbeats 4000000 in
set_option maxRecDepth 100000 in
theorem S_X1_isSum_c1 (l : Launch) (D : va_G) (zf : Nat → Nat) (sz : Nat) : KiZ (xZ zf) l yX1_isSum wsX1_isSum 2 60 D [.ref (zf 11)] [] [] sz (fun (r : Int32) (_ : Unit) => r.toInt = 0) (fun (_ : Unit) => []) := by
  unfold KiZ
  refine gz_ofW (cc := cX1_isSum) (lv := [(0, .ref (zf 11))]) (by decide) rfl (Nat.le_of_ble_eq_true rfl) rfl ?_
  intro p e s m args below meth c A Q hA hQ hZ F hr hnm
  have hts := F.2.2.2.2.1
  have w_0 : (Cond.fieldLink RX1 83 "QuietCut$Clause" "letters" "Ljava/lang/String;").before args s = true := hts _ (List.mem_of_getElem? (i := 1) rfl)
  refine g_aload_n F 0 dX1_isSum_0 rfl rfl ?_
  refine uz_getf F (show va_OF "QuietCut$Clause" "letters" "Ljava/lang/String;" (.ref (zf 71)) (zf 11) A s s.heap from (hZ.2.2.2.2.2 1 (by decide)).2.2.2.2.2.2.1) w_0 dX1_isSum_1 ?_
  refine uz_call0Vi (k := 0) (n := 0) (b := (zf 71)) (As := []) (st := []) F zS_st (hZ.2.2.2.2.2 1 (by decide)).2.2.2.2.2.2.2.2 (fun sz => S_isEmpty_1 l D (zf 71) (zf 91) _ _ (by decide)  (by decide) sz) (cwV 0 hts gX1_isSum_J0_isEmpty_aae02 rfl rfl rfl (by decide +kernel) ⟨Nat.le_of_ble_eq_true rfl, Nat.le_of_ble_eq_true rfl⟩) (hZ.2.2.2.2.2 1 (by decide)).2.2.2.2.2.2.2.2.1 rfl (Nat.le_of_ble_eq_true rfl) ⟨Nat.zero_le _, Nat.zero_le _⟩ dX1_isSum_4 (fun r1 _ hw2 => ?_)
  have hw2 : r1.toInt = 1 := hw2
  refine g_fold 1 ((ti_eq rfl (show (1 : Int32).toInt = 1 from rfl)).mpr hw2) ?_
  refine v_if_ne F 14 dX1_isSum_7 (by decide) 1 rfl (fun c3 => ?_) (fun c3 => absurd c3 (by decide))
  refine g_iconst F 0 dX1_isSum_14 (by decide) ?_
  exact u_zret F hA hQ hr rfl () (by decide) rfl rfl dX1_isSum_15


set_option maxHeartbeats 4000000 in
set_option maxRecDepth 100000 in
theorem S_X1_isSum_c2 (l : Launch) (D : va_G) (zf : Nat → Nat) (sz : Nat) : KiZ (xZ zf) l yX1_isSum wsX1_isSum 2 60 D [.ref (zf 12)] [] [] sz (fun (r : Int32) (_ : Unit) => r.toInt = 0) (fun (_ : Unit) => []) := by
  unfold KiZ
  refine gz_ofW (cc := cX1_isSum) (lv := [(0, .ref (zf 12))]) (by decide) rfl (Nat.le_of_ble_eq_true rfl) rfl ?_
  intro p e s m args below meth c A Q hA hQ hZ F hr hnm
  have hts := F.2.2.2.2.1
  have w_0 : (Cond.fieldLink RX1 83 "QuietCut$Clause" "letters" "Ljava/lang/String;").before args s = true := hts _ (List.mem_of_getElem? (i := 1) rfl)
  refine g_aload_n F 0 dX1_isSum_0 rfl rfl ?_
  refine uz_getf F (show va_OF "QuietCut$Clause" "letters" "Ljava/lang/String;" (.ref (zf 72)) (zf 12) A s s.heap from (hZ.2.2.2.2.2 2 (by decide)).2.2.2.2.2.2.1) w_0 dX1_isSum_1 ?_
  refine uz_call0Vi (k := 0) (n := 0) (b := (zf 72)) (As := []) (st := []) F zS_st (hZ.2.2.2.2.2 2 (by decide)).2.2.2.2.2.2.2.2 (fun sz => S_isEmpty_1 l D (zf 72) (zf 92) _ _ (by decide)  (by decide) sz) (cwV 0 hts gX1_isSum_J0_isEmpty_aae02 rfl rfl rfl (by decide +kernel) ⟨Nat.le_of_ble_eq_true rfl, Nat.le_of_ble_eq_true rfl⟩) (hZ.2.2.2.2.2 2 (by decide)).2.2.2.2.2.2.2.2.1 rfl (Nat.le_of_ble_eq_true rfl) ⟨Nat.zero_le _, Nat.zero_le _⟩ dX1_isSum_4 (fun r1 _ hw2 => ?_)
  have hw2 : r1.toInt = 1 := hw2
  refine g_fold 1 ((ti_eq rfl (show (1 : Int32).toInt = 1 from rfl)).mpr hw2) ?_
  refine v_if_ne F 14 dX1_isSum_7 (by decide) 1 rfl (fun c3 => ?_) (fun c3 => absurd c3 (by decide))
  refine g_iconst F 0 dX1_isSum_14 (by decide) ?_
  exact u_zret F hA hQ hr rfl () (by decide) rfl rfl dX1_isSum_15


set_option maxHeartbeats 4000000 in
set_option maxRecDepth 100000 in
theorem S_X1_isSum_c3 (l : Launch) (D : va_G) (zf : Nat → Nat) (sz : Nat) : KiZ (xZ zf) l yX1_isSum wsX1_isSum 2 60 D [.ref (zf 13)] [] [] sz (fun (r : Int32) (_ : Unit) => r.toInt = 0) (fun (_ : Unit) => []) := by
  unfold KiZ
  refine gz_ofW (cc := cX1_isSum) (lv := [(0, .ref (zf 13))]) (by decide) rfl (Nat.le_of_ble_eq_true rfl) rfl ?_
  intro p e s m args below meth c A Q hA hQ hZ F hr hnm
  have hts := F.2.2.2.2.1
  have w_0 : (Cond.fieldLink RX1 83 "QuietCut$Clause" "letters" "Ljava/lang/String;").before args s = true := hts _ (List.mem_of_getElem? (i := 1) rfl)
  refine g_aload_n F 0 dX1_isSum_0 rfl rfl ?_
  refine uz_getf F (show va_OF "QuietCut$Clause" "letters" "Ljava/lang/String;" (.ref (zf 73)) (zf 13) A s s.heap from (hZ.2.2.2.2.2 3 (by decide)).2.2.2.2.2.2.1) w_0 dX1_isSum_1 ?_
  refine uz_call0Vi (k := 0) (n := 0) (b := (zf 73)) (As := []) (st := []) F zS_st (hZ.2.2.2.2.2 3 (by decide)).2.2.2.2.2.2.2.2 (fun sz => S_isEmpty_1 l D (zf 73) (zf 93) _ _ (by decide)  (by decide) sz) (cwV 0 hts gX1_isSum_J0_isEmpty_aae02 rfl rfl rfl (by decide +kernel) ⟨Nat.le_of_ble_eq_true rfl, Nat.le_of_ble_eq_true rfl⟩) (hZ.2.2.2.2.2 3 (by decide)).2.2.2.2.2.2.2.2.1 rfl (Nat.le_of_ble_eq_true rfl) ⟨Nat.zero_le _, Nat.zero_le _⟩ dX1_isSum_4 (fun r1 _ hw2 => ?_)
  have hw2 : r1.toInt = 1 := hw2
  refine g_fold 1 ((ti_eq rfl (show (1 : Int32).toInt = 1 from rfl)).mpr hw2) ?_
  refine v_if_ne F 14 dX1_isSum_7 (by decide) 1 rfl (fun c3 => ?_) (fun c3 => absurd c3 (by decide))
  refine g_iconst F 0 dX1_isSum_14 (by decide) ?_
  exact u_zret F hA hQ hr rfl () (by decide) rfl rfl dX1_isSum_15


set_option maxHeartbeats 4000000 in
set_option maxRecDepth 100000 in
theorem S_X1_isSum_c4 (l : Launch) (D : va_G) (zf : Nat → Nat) (sz : Nat) : KiZ (xZ zf) l yX1_isSum wsX1_isSum 2 60 D [.ref (zf 14)] [] [] sz (fun (r : Int32) (_ : Unit) => r.toInt = 0) (fun (_ : Unit) => []) := by
  unfold KiZ
  refine gz_ofW (cc := cX1_isSum) (lv := [(0, .ref (zf 14))]) (by decide) rfl (Nat.le_of_ble_eq_true rfl) rfl ?_
  intro p e s m args below meth c A Q hA hQ hZ F hr hnm
  have hts := F.2.2.2.2.1
  have w_0 : (Cond.fieldLink RX1 83 "QuietCut$Clause" "letters" "Ljava/lang/String;").before args s = true := hts _ (List.mem_of_getElem? (i := 1) rfl)
  refine g_aload_n F 0 dX1_isSum_0 rfl rfl ?_
  refine uz_getf F (show va_OF "QuietCut$Clause" "letters" "Ljava/lang/String;" (.ref (zf 74)) (zf 14) A s s.heap from (hZ.2.2.2.2.2 4 (by decide)).2.2.2.2.2.2.1) w_0 dX1_isSum_1 ?_
  refine uz_call0Vi (k := 0) (n := 0) (b := (zf 74)) (As := []) (st := []) F zS_st (hZ.2.2.2.2.2 4 (by decide)).2.2.2.2.2.2.2.2 (fun sz => S_isEmpty_1 l D (zf 74) (zf 94) _ _ (by decide)  (by decide) sz) (cwV 0 hts gX1_isSum_J0_isEmpty_aae02 rfl rfl rfl (by decide +kernel) ⟨Nat.le_of_ble_eq_true rfl, Nat.le_of_ble_eq_true rfl⟩) (hZ.2.2.2.2.2 4 (by decide)).2.2.2.2.2.2.2.2.1 rfl (Nat.le_of_ble_eq_true rfl) ⟨Nat.zero_le _, Nat.zero_le _⟩ dX1_isSum_4 (fun r1 _ hw2 => ?_)
  have hw2 : r1.toInt = 1 := hw2
  refine g_fold 1 ((ti_eq rfl (show (1 : Int32).toInt = 1 from rfl)).mpr hw2) ?_
  refine v_if_ne F 14 dX1_isSum_7 (by decide) 1 rfl (fun c3 => ?_) (fun c3 => absurd c3 (by decide))
  refine g_iconst F 0 dX1_isSum_14 (by decide) ?_
  exact u_zret F hA hQ hr rfl () (by decide) rfl rfl dX1_isSum_15


set_option maxHeartbeats 4000000 in
set_option maxRecDepth 100000 in
theorem S_X1_isSum_c5 (l : Launch) (D : va_G) (zf : Nat → Nat) (sz : Nat) : KiZ (xZ zf) l yX1_isSum wsX1_isSum 2 60 D [.ref (zf 15)] [] [] sz (fun (r : Int32) (_ : Unit) => r.toInt = 0) (fun (_ : Unit) => []) := by
  unfold KiZ
  refine gz_ofW (cc := cX1_isSum) (lv := [(0, .ref (zf 15))]) (by decide) rfl (Nat.le_of_ble_eq_true rfl) rfl ?_
  intro p e s m args below meth c A Q hA hQ hZ F hr hnm
  have hts := F.2.2.2.2.1
  have w_0 : (Cond.fieldLink RX1 83 "QuietCut$Clause" "letters" "Ljava/lang/String;").before args s = true := hts _ (List.mem_of_getElem? (i := 1) rfl)
  refine g_aload_n F 0 dX1_isSum_0 rfl rfl ?_
  refine uz_getf F (show va_OF "QuietCut$Clause" "letters" "Ljava/lang/String;" (.ref (zf 75)) (zf 15) A s s.heap from (hZ.2.2.2.2.2 5 (by decide)).2.2.2.2.2.2.1) w_0 dX1_isSum_1 ?_
  refine uz_call0Vi (k := 0) (n := 0) (b := (zf 75)) (As := []) (st := []) F zS_st (hZ.2.2.2.2.2 5 (by decide)).2.2.2.2.2.2.2.2 (fun sz => S_isEmpty_1 l D (zf 75) (zf 95) _ _ (by decide)  (by decide) sz) (cwV 0 hts gX1_isSum_J0_isEmpty_aae02 rfl rfl rfl (by decide +kernel) ⟨Nat.le_of_ble_eq_true rfl, Nat.le_of_ble_eq_true rfl⟩) (hZ.2.2.2.2.2 5 (by decide)).2.2.2.2.2.2.2.2.1 rfl (Nat.le_of_ble_eq_true rfl) ⟨Nat.zero_le _, Nat.zero_le _⟩ dX1_isSum_4 (fun r1 _ hw2 => ?_)
  have hw2 : r1.toInt = 1 := hw2
  refine g_fold 1 ((ti_eq rfl (show (1 : Int32).toInt = 1 from rfl)).mpr hw2) ?_
  refine v_if_ne F 14 dX1_isSum_7 (by decide) 1 rfl (fun c3 => ?_) (fun c3 => absurd c3 (by decide))
  refine g_iconst F 0 dX1_isSum_14 (by decide) ?_
  exact u_zret F hA hQ hr rfl () (by decide) rfl rfl dX1_isSum_15


set_option maxHeartbeats 4000000 in
set_option maxRecDepth 100000 in
theorem S_X1_isSum_c6 (l : Launch) (D : va_G) (zf : Nat → Nat) (sz : Nat) : KiZ (xZ zf) l yX1_isSum wsX1_isSum 2 60 D [.ref (zf 16)] [] [] sz (fun (r : Int32) (_ : Unit) => r.toInt = 0) (fun (_ : Unit) => []) := by
  unfold KiZ
  refine gz_ofW (cc := cX1_isSum) (lv := [(0, .ref (zf 16))]) (by decide) rfl (Nat.le_of_ble_eq_true rfl) rfl ?_
  intro p e s m args below meth c A Q hA hQ hZ F hr hnm
  have hts := F.2.2.2.2.1
  have w_0 : (Cond.fieldLink RX1 83 "QuietCut$Clause" "letters" "Ljava/lang/String;").before args s = true := hts _ (List.mem_of_getElem? (i := 1) rfl)
  refine g_aload_n F 0 dX1_isSum_0 rfl rfl ?_
  refine uz_getf F (show va_OF "QuietCut$Clause" "letters" "Ljava/lang/String;" (.ref (zf 76)) (zf 16) A s s.heap from (hZ.2.2.2.2.2 6 (by decide)).2.2.2.2.2.2.1) w_0 dX1_isSum_1 ?_
  refine uz_call0Vi (k := 0) (n := 0) (b := (zf 76)) (As := []) (st := []) F zS_st (hZ.2.2.2.2.2 6 (by decide)).2.2.2.2.2.2.2.2 (fun sz => S_isEmpty_1 l D (zf 76) (zf 96) _ _ (by decide)  (by decide) sz) (cwV 0 hts gX1_isSum_J0_isEmpty_aae02 rfl rfl rfl (by decide +kernel) ⟨Nat.le_of_ble_eq_true rfl, Nat.le_of_ble_eq_true rfl⟩) (hZ.2.2.2.2.2 6 (by decide)).2.2.2.2.2.2.2.2.1 rfl (Nat.le_of_ble_eq_true rfl) ⟨Nat.zero_le _, Nat.zero_le _⟩ dX1_isSum_4 (fun r1 _ hw2 => ?_)
  have hw2 : r1.toInt = 1 := hw2
  refine g_fold 1 ((ti_eq rfl (show (1 : Int32).toInt = 1 from rfl)).mpr hw2) ?_
  refine v_if_ne F 14 dX1_isSum_7 (by decide) 1 rfl (fun c3 => ?_) (fun c3 => absurd c3 (by decide))
  refine g_iconst F 0 dX1_isSum_14 (by decide) ?_
  exact u_zret F hA hQ hr rfl () (by decide) rfl rfl dX1_isSum_15


set_option maxHeartbeats 4000000 in
set_option maxRecDepth 100000 in
theorem S_X1_isSum_c7 (l : Launch) (D : va_G) (zf : Nat → Nat) (sz : Nat) : KiZ (xZ zf) l yX1_isSum wsX1_isSum 2 60 D [.ref (zf 17)] [] [] sz (fun (r : Int32) (_ : Unit) => r.toInt = 0) (fun (_ : Unit) => []) := by
  unfold KiZ
  refine gz_ofW (cc := cX1_isSum) (lv := [(0, .ref (zf 17))]) (by decide) rfl (Nat.le_of_ble_eq_true rfl) rfl ?_
  intro p e s m args below meth c A Q hA hQ hZ F hr hnm
  have hts := F.2.2.2.2.1
  have w_0 : (Cond.fieldLink RX1 83 "QuietCut$Clause" "letters" "Ljava/lang/String;").before args s = true := hts _ (List.mem_of_getElem? (i := 1) rfl)
  refine g_aload_n F 0 dX1_isSum_0 rfl rfl ?_
  refine uz_getf F (show va_OF "QuietCut$Clause" "letters" "Ljava/lang/String;" (.ref (zf 77)) (zf 17) A s s.heap from (hZ.2.2.2.2.2 7 (by decide)).2.2.2.2.2.2.1) w_0 dX1_isSum_1 ?_
  refine uz_call0Vi (k := 0) (n := 0) (b := (zf 77)) (As := []) (st := []) F zS_st (hZ.2.2.2.2.2 7 (by decide)).2.2.2.2.2.2.2.2 (fun sz => S_isEmpty_1 l D (zf 77) (zf 97) _ _ (by decide)  (by decide) sz) (cwV 0 hts gX1_isSum_J0_isEmpty_aae02 rfl rfl rfl (by decide +kernel) ⟨Nat.le_of_ble_eq_true rfl, Nat.le_of_ble_eq_true rfl⟩) (hZ.2.2.2.2.2 7 (by decide)).2.2.2.2.2.2.2.2.1 rfl (Nat.le_of_ble_eq_true rfl) ⟨Nat.zero_le _, Nat.zero_le _⟩ dX1_isSum_4 (fun r1 _ hw2 => ?_)
  have hw2 : r1.toInt = 1 := hw2
  refine g_fold 1 ((ti_eq rfl (show (1 : Int32).toInt = 1 from rfl)).mpr hw2) ?_
  refine v_if_ne F 14 dX1_isSum_7 (by decide) 1 rfl (fun c3 => ?_) (fun c3 => absurd c3 (by decide))
  refine g_iconst F 0 dX1_isSum_14 (by decide) ?_
  exact u_zret F hA hQ hr rfl () (by decide) rfl rfl dX1_isSum_15


set_option maxHeartbeats 4000000 in
set_option maxRecDepth 100000 in
theorem S_X1_isSum_c8 (l : Launch) (D : va_G) (zf : Nat → Nat) (sz : Nat) : KiZ (xZ zf) l yX1_isSum wsX1_isSum 2 60 D [.ref (zf 18)] [] [] sz (fun (r : Int32) (_ : Unit) => r.toInt = 0) (fun (_ : Unit) => []) := by
  unfold KiZ
  refine gz_ofW (cc := cX1_isSum) (lv := [(0, .ref (zf 18))]) (by decide) rfl (Nat.le_of_ble_eq_true rfl) rfl ?_
  intro p e s m args below meth c A Q hA hQ hZ F hr hnm
  have hts := F.2.2.2.2.1
  have w_0 : (Cond.fieldLink RX1 83 "QuietCut$Clause" "letters" "Ljava/lang/String;").before args s = true := hts _ (List.mem_of_getElem? (i := 1) rfl)
  refine g_aload_n F 0 dX1_isSum_0 rfl rfl ?_
  refine uz_getf F (show va_OF "QuietCut$Clause" "letters" "Ljava/lang/String;" (.ref (zf 78)) (zf 18) A s s.heap from (hZ.2.2.2.2.2 8 (by decide)).2.2.2.2.2.2.1) w_0 dX1_isSum_1 ?_
  refine uz_call0Vi (k := 0) (n := 0) (b := (zf 78)) (As := []) (st := []) F zS_st (hZ.2.2.2.2.2 8 (by decide)).2.2.2.2.2.2.2.2 (fun sz => S_isEmpty_1 l D (zf 78) (zf 98) _ _ (by decide)  (by decide) sz) (cwV 0 hts gX1_isSum_J0_isEmpty_aae02 rfl rfl rfl (by decide +kernel) ⟨Nat.le_of_ble_eq_true rfl, Nat.le_of_ble_eq_true rfl⟩) (hZ.2.2.2.2.2 8 (by decide)).2.2.2.2.2.2.2.2.1 rfl (Nat.le_of_ble_eq_true rfl) ⟨Nat.zero_le _, Nat.zero_le _⟩ dX1_isSum_4 (fun r1 _ hw2 => ?_)
  have hw2 : r1.toInt = 1 := hw2
  refine g_fold 1 ((ti_eq rfl (show (1 : Int32).toInt = 1 from rfl)).mpr hw2) ?_
  refine v_if_ne F 14 dX1_isSum_7 (by decide) 1 rfl (fun c3 => ?_) (fun c3 => absurd c3 (by decide))
  refine g_iconst F 0 dX1_isSum_14 (by decide) ?_
  exact u_zret F hA hQ hr rfl () (by decide) rfl rfl dX1_isSum_15


set_option maxHeartbeats 4000000 in
set_option maxRecDepth 100000 in
theorem S_X1_isSum_c9 (l : Launch) (D : va_G) (zf : Nat → Nat) (sz : Nat) : KiZ (xZ zf) l yX1_isSum wsX1_isSum 2 60 D [.ref (zf 19)] [] [] sz (fun (r : Int32) (_ : Unit) => r.toInt = 0) (fun (_ : Unit) => []) := by
  unfold KiZ
  refine gz_ofW (cc := cX1_isSum) (lv := [(0, .ref (zf 19))]) (by decide) rfl (Nat.le_of_ble_eq_true rfl) rfl ?_
  intro p e s m args below meth c A Q hA hQ hZ F hr hnm
  have hts := F.2.2.2.2.1
  have w_0 : (Cond.fieldLink RX1 83 "QuietCut$Clause" "letters" "Ljava/lang/String;").before args s = true := hts _ (List.mem_of_getElem? (i := 1) rfl)
  refine g_aload_n F 0 dX1_isSum_0 rfl rfl ?_
  refine uz_getf F (show va_OF "QuietCut$Clause" "letters" "Ljava/lang/String;" (.ref (zf 79)) (zf 19) A s s.heap from (hZ.2.2.2.2.2 9 (by decide)).2.2.2.2.2.2.1) w_0 dX1_isSum_1 ?_
  refine uz_call0Vi (k := 0) (n := 0) (b := (zf 79)) (As := []) (st := []) F zS_st (hZ.2.2.2.2.2 9 (by decide)).2.2.2.2.2.2.2.2 (fun sz => S_isEmpty_1 l D (zf 79) (zf 99) _ _ (by decide)  (by decide) sz) (cwV 0 hts gX1_isSum_J0_isEmpty_aae02 rfl rfl rfl (by decide +kernel) ⟨Nat.le_of_ble_eq_true rfl, Nat.le_of_ble_eq_true rfl⟩) (hZ.2.2.2.2.2 9 (by decide)).2.2.2.2.2.2.2.2.1 rfl (Nat.le_of_ble_eq_true rfl) ⟨Nat.zero_le _, Nat.zero_le _⟩ dX1_isSum_4 (fun r1 _ hw2 => ?_)
  have hw2 : r1.toInt = 1 := hw2
  refine g_fold 1 ((ti_eq rfl (show (1 : Int32).toInt = 1 from rfl)).mpr hw2) ?_
  refine v_if_ne F 14 dX1_isSum_7 (by decide) 1 rfl (fun c3 => ?_) (fun c3 => absurd c3 (by decide))
  refine g_iconst F 0 dX1_isSum_14 (by decide) ?_
  exact u_zret F hA hQ hr rfl () (by decide) rfl rfl dX1_isSum_15


set_option maxHeartbeats 4000000 in
set_option maxRecDepth 100000 in
theorem S_X1_isSum_c10 (l : Launch) (D : va_G) (zf : Nat → Nat) (sz : Nat) : KiZ (xZ zf) l yX1_isSum wsX1_isSum 2 60 D [.ref (zf 20)] [] [] sz (fun (r : Int32) (_ : Unit) => r.toInt = 1) (fun (_ : Unit) => []) := by
  unfold KiZ
  refine gz_ofW (cc := cX1_isSum) (lv := [(0, .ref (zf 20))]) (by decide) rfl (Nat.le_of_ble_eq_true rfl) rfl ?_
  intro p e s m args below meth c A Q hA hQ hZ F hr hnm
  have hts := F.2.2.2.2.1
  have w_0 : (Cond.fieldLink RX1 83 "QuietCut$Clause" "letters" "Ljava/lang/String;").before args s = true := hts _ (List.mem_of_getElem? (i := 1) rfl)
  refine g_aload_n F 0 dX1_isSum_0 rfl rfl ?_
  refine uz_getf F (show va_OF "QuietCut$Clause" "letters" "Ljava/lang/String;" (.ref (zf 80)) (zf 20) A s s.heap from (hZ.2.2.2.2.2 10 (by decide)).2.2.2.2.2.2.1) w_0 dX1_isSum_1 ?_
  refine uz_call0Vi (k := 0) (n := 0) (b := (zf 80)) (As := []) (st := []) F zS_st (hZ.2.2.2.2.2 10 (by decide)).2.2.2.2.2.2.2.2 (fun sz => S_isEmpty_0 l D (zf 80) (zf 100) _ _ (by decide)  (by decide) sz) (cwV 0 hts gX1_isSum_J0_isEmpty_aae02 rfl rfl rfl (by decide +kernel) ⟨Nat.le_of_ble_eq_true rfl, Nat.le_of_ble_eq_true rfl⟩) (hZ.2.2.2.2.2 10 (by decide)).2.2.2.2.2.2.2.2.1 rfl (Nat.le_of_ble_eq_true rfl) ⟨Nat.zero_le _, Nat.zero_le _⟩ dX1_isSum_4 (fun r1 _ hw2 => ?_)
  have hw2 : r1.toInt = 0 := hw2
  refine g_fold 0 ((ti_eq rfl (show (0 : Int32).toInt = 0 from rfl)).mpr hw2) ?_
  refine v_if_ne F 14 dX1_isSum_7 (by decide) 0 rfl (fun c3 => absurd c3 (by decide)) (fun c3 => ?_)
  refine g_iconst F 1 dX1_isSum_10 (by decide) ?_
  refine g_goto F 15 dX1_isSum_11 (by decide) ?_
  exact u_zret F hA hQ hr rfl () (by decide) rfl rfl dX1_isSum_15


set_option maxHeartbeats 4000000 in
set_option maxRecDepth 100000 in
theorem S_X1_isSum_c11 (l : Launch) (D : va_G) (zf : Nat → Nat) (sz : Nat) : KiZ (xZ zf) l yX1_isSum wsX1_isSum 2 60 D [.ref (zf 21)] [] [] sz (fun (r : Int32) (_ : Unit) => r.toInt = 1) (fun (_ : Unit) => []) := by
  unfold KiZ
  refine gz_ofW (cc := cX1_isSum) (lv := [(0, .ref (zf 21))]) (by decide) rfl (Nat.le_of_ble_eq_true rfl) rfl ?_
  intro p e s m args below meth c A Q hA hQ hZ F hr hnm
  have hts := F.2.2.2.2.1
  have w_0 : (Cond.fieldLink RX1 83 "QuietCut$Clause" "letters" "Ljava/lang/String;").before args s = true := hts _ (List.mem_of_getElem? (i := 1) rfl)
  refine g_aload_n F 0 dX1_isSum_0 rfl rfl ?_
  refine uz_getf F (show va_OF "QuietCut$Clause" "letters" "Ljava/lang/String;" (.ref (zf 81)) (zf 21) A s s.heap from (hZ.2.2.2.2.2 11 (by decide)).2.2.2.2.2.2.1) w_0 dX1_isSum_1 ?_
  refine uz_call0Vi (k := 0) (n := 0) (b := (zf 81)) (As := []) (st := []) F zS_st (hZ.2.2.2.2.2 11 (by decide)).2.2.2.2.2.2.2.2 (fun sz => S_isEmpty_0 l D (zf 81) (zf 101) _ _ (by decide)  (by decide) sz) (cwV 0 hts gX1_isSum_J0_isEmpty_aae02 rfl rfl rfl (by decide +kernel) ⟨Nat.le_of_ble_eq_true rfl, Nat.le_of_ble_eq_true rfl⟩) (hZ.2.2.2.2.2 11 (by decide)).2.2.2.2.2.2.2.2.1 rfl (Nat.le_of_ble_eq_true rfl) ⟨Nat.zero_le _, Nat.zero_le _⟩ dX1_isSum_4 (fun r1 _ hw2 => ?_)
  have hw2 : r1.toInt = 0 := hw2
  refine g_fold 0 ((ti_eq rfl (show (0 : Int32).toInt = 0 from rfl)).mpr hw2) ?_
  refine v_if_ne F 14 dX1_isSum_7 (by decide) 0 rfl (fun c3 => absurd c3 (by decide)) (fun c3 => ?_)
  refine g_iconst F 1 dX1_isSum_10 (by decide) ?_
  refine g_goto F 15 dX1_isSum_11 (by decide) ?_
  exact u_zret F hA hQ hr rfl () (by decide) rfl rfl dX1_isSum_15


set_option maxHeartbeats 4000000 in
set_option maxRecDepth 100000 in
theorem S_X1_isSum_c12 (l : Launch) (D : va_G) (zf : Nat → Nat) (sz : Nat) : KiZ (xZ zf) l yX1_isSum wsX1_isSum 2 60 D [.ref (zf 22)] [] [] sz (fun (r : Int32) (_ : Unit) => r.toInt = 1) (fun (_ : Unit) => []) := by
  unfold KiZ
  refine gz_ofW (cc := cX1_isSum) (lv := [(0, .ref (zf 22))]) (by decide) rfl (Nat.le_of_ble_eq_true rfl) rfl ?_
  intro p e s m args below meth c A Q hA hQ hZ F hr hnm
  have hts := F.2.2.2.2.1
  have w_0 : (Cond.fieldLink RX1 83 "QuietCut$Clause" "letters" "Ljava/lang/String;").before args s = true := hts _ (List.mem_of_getElem? (i := 1) rfl)
  refine g_aload_n F 0 dX1_isSum_0 rfl rfl ?_
  refine uz_getf F (show va_OF "QuietCut$Clause" "letters" "Ljava/lang/String;" (.ref (zf 82)) (zf 22) A s s.heap from (hZ.2.2.2.2.2 12 (by decide)).2.2.2.2.2.2.1) w_0 dX1_isSum_1 ?_
  refine uz_call0Vi (k := 0) (n := 0) (b := (zf 82)) (As := []) (st := []) F zS_st (hZ.2.2.2.2.2 12 (by decide)).2.2.2.2.2.2.2.2 (fun sz => S_isEmpty_0 l D (zf 82) (zf 102) _ _ (by decide)  (by decide) sz) (cwV 0 hts gX1_isSum_J0_isEmpty_aae02 rfl rfl rfl (by decide +kernel) ⟨Nat.le_of_ble_eq_true rfl, Nat.le_of_ble_eq_true rfl⟩) (hZ.2.2.2.2.2 12 (by decide)).2.2.2.2.2.2.2.2.1 rfl (Nat.le_of_ble_eq_true rfl) ⟨Nat.zero_le _, Nat.zero_le _⟩ dX1_isSum_4 (fun r1 _ hw2 => ?_)
  have hw2 : r1.toInt = 0 := hw2
  refine g_fold 0 ((ti_eq rfl (show (0 : Int32).toInt = 0 from rfl)).mpr hw2) ?_
  refine v_if_ne F 14 dX1_isSum_7 (by decide) 0 rfl (fun c3 => absurd c3 (by decide)) (fun c3 => ?_)
  refine g_iconst F 1 dX1_isSum_10 (by decide) ?_
  refine g_goto F 15 dX1_isSum_11 (by decide) ?_
  exact u_zret F hA hQ hr rfl () (by decide) rfl rfl dX1_isSum_15

theorem dX1_manySlot_0 : decode cX1_manySlot 0 = .ok (.aload_n 0, 1) := by decide +kernel
theorem dX1_manySlot_1 : decode cX1_manySlot 1 = .ok (.getfield 68, 3) := by decide +kernel
theorem dX1_manySlot_4 : decode cX1_manySlot 4 = .ok (.bipush 20, 2) := by decide +kernel
theorem dX1_manySlot_6 : decode cX1_manySlot 6 = .ok (.if_icmp .ne 6, 3) := by decide +kernel
theorem dX1_manySlot_9 : decode cX1_manySlot 9 = .ok (.bipush 10, 2) := by decide +kernel
theorem dX1_manySlot_11 : decode cX1_manySlot 11 = .ok (.ireturn, 1) := by decide +kernel
theorem dX1_manySlot_12 : decode cX1_manySlot 12 = .ok (.aload_n 0, 1) := by decide +kernel
theorem dX1_manySlot_13 : decode cX1_manySlot 13 = .ok (.getfield 68, 3) := by decide +kernel
theorem dX1_manySlot_16 : decode cX1_manySlot 16 = .ok (.bipush 30, 2) := by decide +kernel
theorem dX1_manySlot_18 : decode cX1_manySlot 18 = .ok (.if_icmp .ne 8, 3) := by decide +kernel
theorem dX1_manySlot_21 : decode cX1_manySlot 21 = .ok (.bipush 11, 2) := by decide +kernel
theorem dX1_manySlot_23 : decode cX1_manySlot 23 = .ok (.goto 4, 3) := by decide +kernel
theorem dX1_manySlot_26 : decode cX1_manySlot 26 = .ok (.iconst (-1), 1) := by decide +kernel
theorem dX1_manySlot_27 : decode cX1_manySlot 27 = .ok (.ireturn, 1) := by decide +kernel
set_option maxHeartbeats 4000000 in
set_option maxRecDepth 100000 in
theorem S_X1_manySlot_c0 (l : Launch) (D : va_G) (zf : Nat → Nat) (sz : Nat) : KiZ (xZ zf) l yX1_manySlot wsX1_manySlot 1 40 D [.ref (zf 10)] [] [] sz (fun (r : Int32) (_ : Unit) => r.toInt = -1) (fun (_ : Unit) => []) := by
  unfold KiZ
  refine gz_ofW (cc := cX1_manySlot) (lv := [(0, .ref (zf 10))]) (by decide) rfl (Nat.le_of_ble_eq_true rfl) rfl ?_
  intro p e s m args below meth c A Q hA hQ hZ F hr hnm
  have hts := F.2.2.2.2.1
  have w_0 : (Cond.fieldLink RX1 68 "QuietCut$Clause" "slot" "I").before args s = true := hts _ (List.mem_of_getElem? (i := 1) rfl)
  refine g_aload_n F 0 dX1_manySlot_0 rfl rfl ?_
  refine uz_getf F (show va_OF "QuietCut$Clause" "slot" "I" (.int 0) (zf 10) A s s.heap from (hZ.2.2.2.2.2 0 (by decide)).2.2.1) w_0 dX1_manySlot_1 ?_
  refine g_bipush F 20 dX1_manySlot_4 (by decide) ?_
  refine v_icmp_ne F 12 dX1_manySlot_6 (by decide) 0 20 rfl rfl (fun c1 => ?_) (fun c1 => absurd c1 (by decide))
  refine g_aload_n F 0 dX1_manySlot_12 rfl rfl ?_
  refine uz_getf F (show va_OF "QuietCut$Clause" "slot" "I" (.int 0) (zf 10) A s s.heap from (hZ.2.2.2.2.2 0 (by decide)).2.2.1) w_0 dX1_manySlot_13 ?_
  refine g_bipush F 30 dX1_manySlot_16 (by decide) ?_
  refine v_icmp_ne F 26 dX1_manySlot_18 (by decide) 0 30 rfl rfl (fun c2 => ?_) (fun c2 => absurd c2 (by decide))
  refine g_iconst F (-1) dX1_manySlot_26 (by decide) ?_
  exact u_iret F hA hQ hr () (by decide) rfl rfl dX1_manySlot_27


set_option maxHeartbeats 4000000 in
set_option maxRecDepth 100000 in
theorem S_X1_manySlot_c1 (l : Launch) (D : va_G) (zf : Nat → Nat) (sz : Nat) : KiZ (xZ zf) l yX1_manySlot wsX1_manySlot 1 40 D [.ref (zf 11)] [] [] sz (fun (r : Int32) (_ : Unit) => r.toInt = -1) (fun (_ : Unit) => []) := by
  unfold KiZ
  refine gz_ofW (cc := cX1_manySlot) (lv := [(0, .ref (zf 11))]) (by decide) rfl (Nat.le_of_ble_eq_true rfl) rfl ?_
  intro p e s m args below meth c A Q hA hQ hZ F hr hnm
  have hts := F.2.2.2.2.1
  have w_0 : (Cond.fieldLink RX1 68 "QuietCut$Clause" "slot" "I").before args s = true := hts _ (List.mem_of_getElem? (i := 1) rfl)
  refine g_aload_n F 0 dX1_manySlot_0 rfl rfl ?_
  refine uz_getf F (show va_OF "QuietCut$Clause" "slot" "I" (.int 1) (zf 11) A s s.heap from (hZ.2.2.2.2.2 1 (by decide)).2.2.1) w_0 dX1_manySlot_1 ?_
  refine g_bipush F 20 dX1_manySlot_4 (by decide) ?_
  refine v_icmp_ne F 12 dX1_manySlot_6 (by decide) 1 20 rfl rfl (fun c1 => ?_) (fun c1 => absurd c1 (by decide))
  refine g_aload_n F 0 dX1_manySlot_12 rfl rfl ?_
  refine uz_getf F (show va_OF "QuietCut$Clause" "slot" "I" (.int 1) (zf 11) A s s.heap from (hZ.2.2.2.2.2 1 (by decide)).2.2.1) w_0 dX1_manySlot_13 ?_
  refine g_bipush F 30 dX1_manySlot_16 (by decide) ?_
  refine v_icmp_ne F 26 dX1_manySlot_18 (by decide) 1 30 rfl rfl (fun c2 => ?_) (fun c2 => absurd c2 (by decide))
  refine g_iconst F (-1) dX1_manySlot_26 (by decide) ?_
  exact u_iret F hA hQ hr () (by decide) rfl rfl dX1_manySlot_27


set_option maxHeartbeats 4000000 in
set_option maxRecDepth 100000 in
theorem S_X1_manySlot_c2 (l : Launch) (D : va_G) (zf : Nat → Nat) (sz : Nat) : KiZ (xZ zf) l yX1_manySlot wsX1_manySlot 1 40 D [.ref (zf 12)] [] [] sz (fun (r : Int32) (_ : Unit) => r.toInt = -1) (fun (_ : Unit) => []) := by
  unfold KiZ
  refine gz_ofW (cc := cX1_manySlot) (lv := [(0, .ref (zf 12))]) (by decide) rfl (Nat.le_of_ble_eq_true rfl) rfl ?_
  intro p e s m args below meth c A Q hA hQ hZ F hr hnm
  have hts := F.2.2.2.2.1
  have w_0 : (Cond.fieldLink RX1 68 "QuietCut$Clause" "slot" "I").before args s = true := hts _ (List.mem_of_getElem? (i := 1) rfl)
  refine g_aload_n F 0 dX1_manySlot_0 rfl rfl ?_
  refine uz_getf F (show va_OF "QuietCut$Clause" "slot" "I" (.int 2) (zf 12) A s s.heap from (hZ.2.2.2.2.2 2 (by decide)).2.2.1) w_0 dX1_manySlot_1 ?_
  refine g_bipush F 20 dX1_manySlot_4 (by decide) ?_
  refine v_icmp_ne F 12 dX1_manySlot_6 (by decide) 2 20 rfl rfl (fun c1 => ?_) (fun c1 => absurd c1 (by decide))
  refine g_aload_n F 0 dX1_manySlot_12 rfl rfl ?_
  refine uz_getf F (show va_OF "QuietCut$Clause" "slot" "I" (.int 2) (zf 12) A s s.heap from (hZ.2.2.2.2.2 2 (by decide)).2.2.1) w_0 dX1_manySlot_13 ?_
  refine g_bipush F 30 dX1_manySlot_16 (by decide) ?_
  refine v_icmp_ne F 26 dX1_manySlot_18 (by decide) 2 30 rfl rfl (fun c2 => ?_) (fun c2 => absurd c2 (by decide))
  refine g_iconst F (-1) dX1_manySlot_26 (by decide) ?_
  exact u_iret F hA hQ hr () (by decide) rfl rfl dX1_manySlot_27


set_option maxHeartbeats 4000000 in
set_option maxRecDepth 100000 in
theorem S_X1_manySlot_c3 (l : Launch) (D : va_G) (zf : Nat → Nat) (sz : Nat) : KiZ (xZ zf) l yX1_manySlot wsX1_manySlot 1 40 D [.ref (zf 13)] [] [] sz (fun (r : Int32) (_ : Unit) => r.toInt = -1) (fun (_ : Unit) => []) := by
  unfold KiZ
  refine gz_ofW (cc := cX1_manySlot) (lv := [(0, .ref (zf 13))]) (by decide) rfl (Nat.le_of_ble_eq_true rfl) rfl ?_
  intro p e s m args below meth c A Q hA hQ hZ F hr hnm
  have hts := F.2.2.2.2.1
  have w_0 : (Cond.fieldLink RX1 68 "QuietCut$Clause" "slot" "I").before args s = true := hts _ (List.mem_of_getElem? (i := 1) rfl)
  refine g_aload_n F 0 dX1_manySlot_0 rfl rfl ?_
  refine uz_getf F (show va_OF "QuietCut$Clause" "slot" "I" (.int 3) (zf 13) A s s.heap from (hZ.2.2.2.2.2 3 (by decide)).2.2.1) w_0 dX1_manySlot_1 ?_
  refine g_bipush F 20 dX1_manySlot_4 (by decide) ?_
  refine v_icmp_ne F 12 dX1_manySlot_6 (by decide) 3 20 rfl rfl (fun c1 => ?_) (fun c1 => absurd c1 (by decide))
  refine g_aload_n F 0 dX1_manySlot_12 rfl rfl ?_
  refine uz_getf F (show va_OF "QuietCut$Clause" "slot" "I" (.int 3) (zf 13) A s s.heap from (hZ.2.2.2.2.2 3 (by decide)).2.2.1) w_0 dX1_manySlot_13 ?_
  refine g_bipush F 30 dX1_manySlot_16 (by decide) ?_
  refine v_icmp_ne F 26 dX1_manySlot_18 (by decide) 3 30 rfl rfl (fun c2 => ?_) (fun c2 => absurd c2 (by decide))
  refine g_iconst F (-1) dX1_manySlot_26 (by decide) ?_
  exact u_iret F hA hQ hr () (by decide) rfl rfl dX1_manySlot_27


set_option maxHeartbeats 4000000 in
set_option maxRecDepth 100000 in
theorem S_X1_manySlot_c4 (l : Launch) (D : va_G) (zf : Nat → Nat) (sz : Nat) : KiZ (xZ zf) l yX1_manySlot wsX1_manySlot 1 40 D [.ref (zf 14)] [] [] sz (fun (r : Int32) (_ : Unit) => r.toInt = -1) (fun (_ : Unit) => []) := by
  unfold KiZ
  refine gz_ofW (cc := cX1_manySlot) (lv := [(0, .ref (zf 14))]) (by decide) rfl (Nat.le_of_ble_eq_true rfl) rfl ?_
  intro p e s m args below meth c A Q hA hQ hZ F hr hnm
  have hts := F.2.2.2.2.1
  have w_0 : (Cond.fieldLink RX1 68 "QuietCut$Clause" "slot" "I").before args s = true := hts _ (List.mem_of_getElem? (i := 1) rfl)
  refine g_aload_n F 0 dX1_manySlot_0 rfl rfl ?_
  refine uz_getf F (show va_OF "QuietCut$Clause" "slot" "I" (.int 5) (zf 14) A s s.heap from (hZ.2.2.2.2.2 4 (by decide)).2.2.1) w_0 dX1_manySlot_1 ?_
  refine g_bipush F 20 dX1_manySlot_4 (by decide) ?_
  refine v_icmp_ne F 12 dX1_manySlot_6 (by decide) 5 20 rfl rfl (fun c1 => ?_) (fun c1 => absurd c1 (by decide))
  refine g_aload_n F 0 dX1_manySlot_12 rfl rfl ?_
  refine uz_getf F (show va_OF "QuietCut$Clause" "slot" "I" (.int 5) (zf 14) A s s.heap from (hZ.2.2.2.2.2 4 (by decide)).2.2.1) w_0 dX1_manySlot_13 ?_
  refine g_bipush F 30 dX1_manySlot_16 (by decide) ?_
  refine v_icmp_ne F 26 dX1_manySlot_18 (by decide) 5 30 rfl rfl (fun c2 => ?_) (fun c2 => absurd c2 (by decide))
  refine g_iconst F (-1) dX1_manySlot_26 (by decide) ?_
  exact u_iret F hA hQ hr () (by decide) rfl rfl dX1_manySlot_27


set_option maxHeartbeats 4000000 in
set_option maxRecDepth 100000 in
theorem S_X1_manySlot_c5 (l : Launch) (D : va_G) (zf : Nat → Nat) (sz : Nat) : KiZ (xZ zf) l yX1_manySlot wsX1_manySlot 1 40 D [.ref (zf 15)] [] [] sz (fun (r : Int32) (_ : Unit) => r.toInt = -1) (fun (_ : Unit) => []) := by
  unfold KiZ
  refine gz_ofW (cc := cX1_manySlot) (lv := [(0, .ref (zf 15))]) (by decide) rfl (Nat.le_of_ble_eq_true rfl) rfl ?_
  intro p e s m args below meth c A Q hA hQ hZ F hr hnm
  have hts := F.2.2.2.2.1
  have w_0 : (Cond.fieldLink RX1 68 "QuietCut$Clause" "slot" "I").before args s = true := hts _ (List.mem_of_getElem? (i := 1) rfl)
  refine g_aload_n F 0 dX1_manySlot_0 rfl rfl ?_
  refine uz_getf F (show va_OF "QuietCut$Clause" "slot" "I" (.int 7) (zf 15) A s s.heap from (hZ.2.2.2.2.2 5 (by decide)).2.2.1) w_0 dX1_manySlot_1 ?_
  refine g_bipush F 20 dX1_manySlot_4 (by decide) ?_
  refine v_icmp_ne F 12 dX1_manySlot_6 (by decide) 7 20 rfl rfl (fun c1 => ?_) (fun c1 => absurd c1 (by decide))
  refine g_aload_n F 0 dX1_manySlot_12 rfl rfl ?_
  refine uz_getf F (show va_OF "QuietCut$Clause" "slot" "I" (.int 7) (zf 15) A s s.heap from (hZ.2.2.2.2.2 5 (by decide)).2.2.1) w_0 dX1_manySlot_13 ?_
  refine g_bipush F 30 dX1_manySlot_16 (by decide) ?_
  refine v_icmp_ne F 26 dX1_manySlot_18 (by decide) 7 30 rfl rfl (fun c2 => ?_) (fun c2 => absurd c2 (by decide))
  refine g_iconst F (-1) dX1_manySlot_26 (by decide) ?_
  exact u_iret F hA hQ hr () (by decide) rfl rfl dX1_manySlot_27


set_option maxHeartbeats 4000000 in
set_option maxRecDepth 100000 in
theorem S_X1_manySlot_c6 (l : Launch) (D : va_G) (zf : Nat → Nat) (sz : Nat) : KiZ (xZ zf) l yX1_manySlot wsX1_manySlot 1 40 D [.ref (zf 16)] [] [] sz (fun (r : Int32) (_ : Unit) => r.toInt = -1) (fun (_ : Unit) => []) := by
  unfold KiZ
  refine gz_ofW (cc := cX1_manySlot) (lv := [(0, .ref (zf 16))]) (by decide) rfl (Nat.le_of_ble_eq_true rfl) rfl ?_
  intro p e s m args below meth c A Q hA hQ hZ F hr hnm
  have hts := F.2.2.2.2.1
  have w_0 : (Cond.fieldLink RX1 68 "QuietCut$Clause" "slot" "I").before args s = true := hts _ (List.mem_of_getElem? (i := 1) rfl)
  refine g_aload_n F 0 dX1_manySlot_0 rfl rfl ?_
  refine uz_getf F (show va_OF "QuietCut$Clause" "slot" "I" (.int 8) (zf 16) A s s.heap from (hZ.2.2.2.2.2 6 (by decide)).2.2.1) w_0 dX1_manySlot_1 ?_
  refine g_bipush F 20 dX1_manySlot_4 (by decide) ?_
  refine v_icmp_ne F 12 dX1_manySlot_6 (by decide) 8 20 rfl rfl (fun c1 => ?_) (fun c1 => absurd c1 (by decide))
  refine g_aload_n F 0 dX1_manySlot_12 rfl rfl ?_
  refine uz_getf F (show va_OF "QuietCut$Clause" "slot" "I" (.int 8) (zf 16) A s s.heap from (hZ.2.2.2.2.2 6 (by decide)).2.2.1) w_0 dX1_manySlot_13 ?_
  refine g_bipush F 30 dX1_manySlot_16 (by decide) ?_
  refine v_icmp_ne F 26 dX1_manySlot_18 (by decide) 8 30 rfl rfl (fun c2 => ?_) (fun c2 => absurd c2 (by decide))
  refine g_iconst F (-1) dX1_manySlot_26 (by decide) ?_
  exact u_iret F hA hQ hr () (by decide) rfl rfl dX1_manySlot_27


set_option maxHeartbeats 4000000 in
set_option maxRecDepth 100000 in
theorem S_X1_manySlot_c7 (l : Launch) (D : va_G) (zf : Nat → Nat) (sz : Nat) : KiZ (xZ zf) l yX1_manySlot wsX1_manySlot 1 40 D [.ref (zf 17)] [] [] sz (fun (r : Int32) (_ : Unit) => r.toInt = -1) (fun (_ : Unit) => []) := by
  unfold KiZ
  refine gz_ofW (cc := cX1_manySlot) (lv := [(0, .ref (zf 17))]) (by decide) rfl (Nat.le_of_ble_eq_true rfl) rfl ?_
  intro p e s m args below meth c A Q hA hQ hZ F hr hnm
  have hts := F.2.2.2.2.1
  have w_0 : (Cond.fieldLink RX1 68 "QuietCut$Clause" "slot" "I").before args s = true := hts _ (List.mem_of_getElem? (i := 1) rfl)
  refine g_aload_n F 0 dX1_manySlot_0 rfl rfl ?_
  refine uz_getf F (show va_OF "QuietCut$Clause" "slot" "I" (.int 9) (zf 17) A s s.heap from (hZ.2.2.2.2.2 7 (by decide)).2.2.1) w_0 dX1_manySlot_1 ?_
  refine g_bipush F 20 dX1_manySlot_4 (by decide) ?_
  refine v_icmp_ne F 12 dX1_manySlot_6 (by decide) 9 20 rfl rfl (fun c1 => ?_) (fun c1 => absurd c1 (by decide))
  refine g_aload_n F 0 dX1_manySlot_12 rfl rfl ?_
  refine uz_getf F (show va_OF "QuietCut$Clause" "slot" "I" (.int 9) (zf 17) A s s.heap from (hZ.2.2.2.2.2 7 (by decide)).2.2.1) w_0 dX1_manySlot_13 ?_
  refine g_bipush F 30 dX1_manySlot_16 (by decide) ?_
  refine v_icmp_ne F 26 dX1_manySlot_18 (by decide) 9 30 rfl rfl (fun c2 => ?_) (fun c2 => absurd c2 (by decide))
  refine g_iconst F (-1) dX1_manySlot_26 (by decide) ?_
  exact u_iret F hA hQ hr () (by decide) rfl rfl dX1_manySlot_27


set_option maxHeartbeats 4000000 in
set_option maxRecDepth 100000 in
theorem S_X1_manySlot_c8 (l : Launch) (D : va_G) (zf : Nat → Nat) (sz : Nat) : KiZ (xZ zf) l yX1_manySlot wsX1_manySlot 1 40 D [.ref (zf 18)] [] [] sz (fun (r : Int32) (_ : Unit) => r.toInt = 10) (fun (_ : Unit) => []) := by
  unfold KiZ
  refine gz_ofW (cc := cX1_manySlot) (lv := [(0, .ref (zf 18))]) (by decide) rfl (Nat.le_of_ble_eq_true rfl) rfl ?_
  intro p e s m args below meth c A Q hA hQ hZ F hr hnm
  have hts := F.2.2.2.2.1
  have w_0 : (Cond.fieldLink RX1 68 "QuietCut$Clause" "slot" "I").before args s = true := hts _ (List.mem_of_getElem? (i := 1) rfl)
  refine g_aload_n F 0 dX1_manySlot_0 rfl rfl ?_
  refine uz_getf F (show va_OF "QuietCut$Clause" "slot" "I" (.int 20) (zf 18) A s s.heap from (hZ.2.2.2.2.2 8 (by decide)).2.2.1) w_0 dX1_manySlot_1 ?_
  refine g_bipush F 20 dX1_manySlot_4 (by decide) ?_
  refine v_icmp_ne F 12 dX1_manySlot_6 (by decide) 20 20 rfl rfl (fun c1 => absurd c1 (by decide)) (fun c1 => ?_)
  refine g_bipush F 10 dX1_manySlot_9 (by decide) ?_
  exact u_iret F hA hQ hr () (by decide) rfl rfl dX1_manySlot_11


set_option maxHeartbeats 4000000 in
set_option maxRecDepth 100000 in
theorem S_X1_manySlot_c9 (l : Launch) (D : va_G) (zf : Nat → Nat) (sz : Nat) : KiZ (xZ zf) l yX1_manySlot wsX1_manySlot 1 40 D [.ref (zf 19)] [] [] sz (fun (r : Int32) (_ : Unit) => r.toInt = 11) (fun (_ : Unit) => []) := by
  unfold KiZ
  refine gz_ofW (cc := cX1_manySlot) (lv := [(0, .ref (zf 19))]) (by decide) rfl (Nat.le_of_ble_eq_true rfl) rfl ?_
  intro p e s m args below meth c A Q hA hQ hZ F hr hnm
  have hts := F.2.2.2.2.1
  have w_0 : (Cond.fieldLink RX1 68 "QuietCut$Clause" "slot" "I").before args s = true := hts _ (List.mem_of_getElem? (i := 1) rfl)
  refine g_aload_n F 0 dX1_manySlot_0 rfl rfl ?_
  refine uz_getf F (show va_OF "QuietCut$Clause" "slot" "I" (.int 30) (zf 19) A s s.heap from (hZ.2.2.2.2.2 9 (by decide)).2.2.1) w_0 dX1_manySlot_1 ?_
  refine g_bipush F 20 dX1_manySlot_4 (by decide) ?_
  refine v_icmp_ne F 12 dX1_manySlot_6 (by decide) 30 20 rfl rfl (fun c1 => ?_) (fun c1 => absurd c1 (by decide))
  refine g_aload_n F 0 dX1_manySlot_12 rfl rfl ?_
  refine uz_getf F (show va_OF "QuietCut$Clause" "slot" "I" (.int 30) (zf 19) A s s.heap from (hZ.2.2.2.2.2 9 (by decide)).2.2.1) w_0 dX1_manySlot_13 ?_
  refine g_bipush F 30 dX1_manySlot_16 (by decide) ?_
  refine v_icmp_ne F 26 dX1_manySlot_18 (by decide) 30 30 rfl rfl (fun c2 => absurd c2 (by decide)) (fun c2 => ?_)
  refine g_bipush F 11 dX1_manySlot_21 (by decide) ?_
  refine g_goto F 27 dX1_manySlot_23 (by decide) ?_
  exact u_iret F hA hQ hr () (by decide) rfl rfl dX1_manySlot_27


set_option maxHeartbeats 4000000 in
set_option maxRecDepth 100000 in
theorem S_X1_manySlot_c10 (l : Launch) (D : va_G) (zf : Nat → Nat) (sz : Nat) : KiZ (xZ zf) l yX1_manySlot wsX1_manySlot 1 40 D [.ref (zf 20)] [] [] sz (fun (r : Int32) (_ : Unit) => r.toInt = -1) (fun (_ : Unit) => []) := by
  unfold KiZ
  refine gz_ofW (cc := cX1_manySlot) (lv := [(0, .ref (zf 20))]) (by decide) rfl (Nat.le_of_ble_eq_true rfl) rfl ?_
  intro p e s m args below meth c A Q hA hQ hZ F hr hnm
  have hts := F.2.2.2.2.1
  have w_0 : (Cond.fieldLink RX1 68 "QuietCut$Clause" "slot" "I").before args s = true := hts _ (List.mem_of_getElem? (i := 1) rfl)
  refine g_aload_n F 0 dX1_manySlot_0 rfl rfl ?_
  refine uz_getf F (show va_OF "QuietCut$Clause" "slot" "I" (.int 0) (zf 20) A s s.heap from (hZ.2.2.2.2.2 10 (by decide)).2.2.1) w_0 dX1_manySlot_1 ?_
  refine g_bipush F 20 dX1_manySlot_4 (by decide) ?_
  refine v_icmp_ne F 12 dX1_manySlot_6 (by decide) 0 20 rfl rfl (fun c1 => ?_) (fun c1 => absurd c1 (by decide))
  refine g_aload_n F 0 dX1_manySlot_12 rfl rfl ?_
  refine uz_getf F (show va_OF "QuietCut$Clause" "slot" "I" (.int 0) (zf 20) A s s.heap from (hZ.2.2.2.2.2 10 (by decide)).2.2.1) w_0 dX1_manySlot_13 ?_
  refine g_bipush F 30 dX1_manySlot_16 (by decide) ?_
  refine v_icmp_ne F 26 dX1_manySlot_18 (by decide) 0 30 rfl rfl (fun c2 => ?_) (fun c2 => absurd c2 (by decide))
  refine g_iconst F (-1) dX1_manySlot_26 (by decide) ?_
  exact u_iret F hA hQ hr () (by decide) rfl rfl dX1_manySlot_27


set_option maxHeartbeats 4000000 in
set_option maxRecDepth 100000 in
theorem S_X1_manySlot_c11 (l : Launch) (D : va_G) (zf : Nat → Nat) (sz : Nat) : KiZ (xZ zf) l yX1_manySlot wsX1_manySlot 1 40 D [.ref (zf 21)] [] [] sz (fun (r : Int32) (_ : Unit) => r.toInt = -1) (fun (_ : Unit) => []) := by
  unfold KiZ
  refine gz_ofW (cc := cX1_manySlot) (lv := [(0, .ref (zf 21))]) (by decide) rfl (Nat.le_of_ble_eq_true rfl) rfl ?_
  intro p e s m args below meth c A Q hA hQ hZ F hr hnm
  have hts := F.2.2.2.2.1
  have w_0 : (Cond.fieldLink RX1 68 "QuietCut$Clause" "slot" "I").before args s = true := hts _ (List.mem_of_getElem? (i := 1) rfl)
  refine g_aload_n F 0 dX1_manySlot_0 rfl rfl ?_
  refine uz_getf F (show va_OF "QuietCut$Clause" "slot" "I" (.int 1) (zf 21) A s s.heap from (hZ.2.2.2.2.2 11 (by decide)).2.2.1) w_0 dX1_manySlot_1 ?_
  refine g_bipush F 20 dX1_manySlot_4 (by decide) ?_
  refine v_icmp_ne F 12 dX1_manySlot_6 (by decide) 1 20 rfl rfl (fun c1 => ?_) (fun c1 => absurd c1 (by decide))
  refine g_aload_n F 0 dX1_manySlot_12 rfl rfl ?_
  refine uz_getf F (show va_OF "QuietCut$Clause" "slot" "I" (.int 1) (zf 21) A s s.heap from (hZ.2.2.2.2.2 11 (by decide)).2.2.1) w_0 dX1_manySlot_13 ?_
  refine g_bipush F 30 dX1_manySlot_16 (by decide) ?_
  refine v_icmp_ne F 26 dX1_manySlot_18 (by decide) 1 30 rfl rfl (fun c2 => ?_) (fun c2 => absurd c2 (by decide))
  refine g_iconst F (-1) dX1_manySlot_26 (by decide) ?_
  exact u_iret F hA hQ hr () (by decide) rfl rfl dX1_manySlot_27


set_option maxHeartbeats 4000000 in
set_option maxRecDepth 100000 in
theorem S_X1_manySlot_c12 (l : Launch) (D : va_G) (zf : Nat → Nat) (sz : Nat) : KiZ (xZ zf) l yX1_manySlot wsX1_manySlot 1 40 D [.ref (zf 22)] [] [] sz (fun (r : Int32) (_ : Unit) => r.toInt = -1) (fun (_ : Unit) => []) := by
  unfold KiZ
  refine gz_ofW (cc := cX1_manySlot) (lv := [(0, .ref (zf 22))]) (by decide) rfl (Nat.le_of_ble_eq_true rfl) rfl ?_
  intro p e s m args below meth c A Q hA hQ hZ F hr hnm
  have hts := F.2.2.2.2.1
  have w_0 : (Cond.fieldLink RX1 68 "QuietCut$Clause" "slot" "I").before args s = true := hts _ (List.mem_of_getElem? (i := 1) rfl)
  refine g_aload_n F 0 dX1_manySlot_0 rfl rfl ?_
  refine uz_getf F (show va_OF "QuietCut$Clause" "slot" "I" (.int 2) (zf 22) A s s.heap from (hZ.2.2.2.2.2 12 (by decide)).2.2.1) w_0 dX1_manySlot_1 ?_
  refine g_bipush F 20 dX1_manySlot_4 (by decide) ?_
  refine v_icmp_ne F 12 dX1_manySlot_6 (by decide) 2 20 rfl rfl (fun c1 => ?_) (fun c1 => absurd c1 (by decide))
  refine g_aload_n F 0 dX1_manySlot_12 rfl rfl ?_
  refine uz_getf F (show va_OF "QuietCut$Clause" "slot" "I" (.int 2) (zf 22) A s s.heap from (hZ.2.2.2.2.2 12 (by decide)).2.2.1) w_0 dX1_manySlot_13 ?_
  refine g_bipush F 30 dX1_manySlot_16 (by decide) ?_
  refine v_icmp_ne F 26 dX1_manySlot_18 (by decide) 2 30 rfl rfl (fun c2 => ?_) (fun c2 => absurd c2 (by decide))
  refine g_iconst F (-1) dX1_manySlot_26 (by decide) ?_
  exact u_iret F hA hQ hr () (by decide) rfl rfl dX1_manySlot_27
