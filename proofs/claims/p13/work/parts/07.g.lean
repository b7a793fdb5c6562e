theorem dX11_attempt_0 : decode cX11_attempt 0 = .ok (.aload_n 0, 1) := by decide +kernel
theorem dX11_attempt_1 : decode cX11_attempt 1 = .ok (.getfield 47, 3) := by decide +kernel
theorem dX11_attempt_4 : decode cX11_attempt 4 = .ok (.iload_n 1, 1) := by decide +kernel
theorem dX11_attempt_5 : decode cX11_attempt 5 = .ok (.iload_n 2, 1) := by decide +kernel
theorem dX11_attempt_6 : decode cX11_attempt 6 = .ok (.iload_n 3, 1) := by decide +kernel
theorem dX11_attempt_7 : decode cX11_attempt 7 = .ok (.iload 4, 2) := by decide +kernel
theorem dX11_attempt_9 : decode cX11_attempt 9 = .ok (.invokevirtual 164, 3) := by decide +kernel
theorem dX11_attempt_12 : decode cX11_attempt 12 = .ok (.ifCond .eq 13, 3) := by decide +kernel
theorem dX11_attempt_15 : decode cX11_attempt 15 = .ok (.iload 5, 2) := by decide +kernel
theorem dX11_attempt_17 : decode cX11_attempt 17 = .ok (.iload 6, 2) := by decide +kernel
theorem dX11_attempt_19 : decode cX11_attempt 19 = .ok (.invokestatic 168, 3) := by decide +kernel
theorem dX11_attempt_22 : decode cX11_attempt 22 = .ok (.ifCond .ne 6, 3) := by decide +kernel
theorem dX11_attempt_25 : decode cX11_attempt 25 = .ok (.bipush (-2), 2) := by decide +kernel
theorem dX11_attempt_27 : decode cX11_attempt 27 = .ok (.ireturn, 1) := by decide +kernel
theorem dX11_attempt_28 : decode cX11_attempt 28 = .ok (.aload_n 0, 1) := by decide +kernel
theorem dX11_attempt_29 : decode cX11_attempt 29 = .ok (.getfield 47, 3) := by decide +kernel
theorem dX11_attempt_32 : decode cX11_attempt 32 = .ok (.aload_n 0, 1) := by decide +kernel
theorem dX11_attempt_33 : decode cX11_attempt 33 = .ok (.getfield 40, 3) := by decide +kernel
theorem dX11_attempt_36 : decode cX11_attempt 36 = .ok (.getfield 151, 3) := by decide +kernel
theorem dX11_attempt_39 : decode cX11_attempt 39 = .ok (.aload_n 0, 1) := by decide +kernel
theorem dX11_attempt_40 : decode cX11_attempt 40 = .ok (.getfield 40, 3) := by decide +kernel
theorem dX11_attempt_43 : decode cX11_attempt 43 = .ok (.getfield 161, 3) := by decide +kernel
theorem dX11_attempt_46 : decode cX11_attempt 46 = .ok (.iload 5, 2) := by decide +kernel
theorem dX11_attempt_48 : decode cX11_attempt 48 = .ok (.iload 6, 2) := by decide +kernel
theorem dX11_attempt_50 : decode cX11_attempt 50 = .ok (.invokevirtual 171, 3) := by decide +kernel
theorem dX11_attempt_53 : decode cX11_attempt 53 = .ok (.istore 7, 2) := by decide +kernel
theorem dX11_attempt_55 : decode cX11_attempt 55 = .ok (.iload 7, 2) := by decide +kernel
theorem dX11_attempt_57 : decode cX11_attempt 57 = .ok (.ifCond .lt 7, 3) := by decide +kernel
theorem dX11_attempt_60 : decode cX11_attempt 60 = .ok (.aload_n 0, 1) := by decide +kernel
theorem dX11_attempt_61 : decode cX11_attempt 61 = .ok (.invokevirtual 175, 3) := by decide +kernel
theorem dX11_attempt_64 : decode cX11_attempt 64 = .ok (.iload 7, 2) := by decide +kernel
theorem dX11_attempt_66 : decode cX11_attempt 66 = .ok (.ireturn, 1) := by decide +kernel
set_option maxRecDepth 20000 in
theorem ggX11_attempt_X11_notePassed : GoodIn wsX11_attempt wsX11_notePassed := goodIn_r _ [124, 125, 1, 126, 127, 128, 129, 130, 131, 132, 133, 134, 135, 136, 137, 138, 139, 140, 141, 142, 143, 144, 145, 146, 147, 153, 154, 155, 156, 157, 158, 159, 160, 161, 162, 163, 164, 165, 166, 167, 168, 169, 170, 171, 172] rfl (by decide +kernel)
set_option maxRecDepth 20000 in
theorem gX11_attempt_X11_notePassed : GoodIn wsX11_attempt (wsV RX11 175 RX11 yX11_notePassed wsX11_notePassed) := goodIn_app (goodIn_of _ (by decide +kernel)) ggX11_attempt_X11_notePassed
set_option maxRecDepth 20000 in
theorem ggX11_attempt_X5_mayHold : GoodIn wsX11_attempt wsX5_mayHold := goodIn_r _ [23] rfl (by decide +kernel)
set_option maxRecDepth 20000 in
theorem gX11_attempt_X5_mayHold : GoodIn wsX11_attempt (va_wsS RX11 168 yX5_mayHold wsX5_mayHold) := goodIn_app (goodIn_of _ (by decide +kernel)) ggX11_attempt_X5_mayHold
set_option maxRecDepth 20000 in
theorem ggX11_attempt_X5_run : GoodIn wsX11_attempt wsX5_run := goodIn_r _ [27, 14, 28, 10, 29, 30, 31, 32, 33, 12, 13, 34, 35, 11, 36, 15, 16, 17, 18, 19, 20, 37, 38, 39, 40, 41, 42, 8, 43, 44, 45, 46, 47, 48, 49, 50, 51, 52, 53, 54, 55, 56, 57, 58, 59, 60, 61, 62, 63, 64, 65, 66, 67, 68, 69, 70, 71, 72, 73, 74, 75, 76, 77, 78, 79, 80, 81, 82, 83, 84, 85, 86, 87, 88, 89, 90, 91, 92, 93, 94, 95, 96, 97, 98, 99, 100, 101, 102, 103, 104, 105, 106, 107, 108, 109, 110, 111, 112, 113, 114, 115, 116, 117, 118, 119, 153, 154, 155, 156, 157, 158, 159, 160, 161, 162, 163, 164, 165, 166, 167, 168, 169, 170, 171, 172, 173, 174, 175, 176, 177, 178, 179, 180, 181, 182, 183, 184, 185] rfl (by decide +kernel)
set_option maxRecDepth 20000 in
theorem gX11_attempt_X5_run : GoodIn wsX11_attempt (wsV RX11 171 RX5 yX5_run wsX5_run) := goodIn_app (goodIn_of _ (by decide +kernel)) ggX11_attempt_X5_run
set_option maxRecDepth 20000 in
theorem ggX11_attempt_X5_takes : GoodIn wsX11_attempt wsX5_takes := goodIn_r _ [9, 10, 11, 12, 13, 14, 15, 16, 17, 18, 19, 20, 153, 154, 155, 156, 157, 158, 159, 160, 161, 162, 163, 164, 165, 166, 167, 168, 169, 170, 171, 172, 173, 174, 175, 176] rfl (by decide +kernel)
set_option maxRecDepth 20000 in
theorem gX11_attempt_X5_takes : GoodIn wsX11_attempt (wsV RX11 164 RX5 yX5_takes wsX5_takes) := goodIn_app (goodIn_of _ (by decide +kernel)) ggX11_attempt_X5_takes
set_option maxHeartbeats 4000000 in
set_option maxRecDepth 100000 in
theorem S_X11_attempt (l : Launch) (D : va_G) (K : Nat → ClassId) (a : Nat → Nat) (G : gS) (p0 : Int32) (s0 : Int) (p1 : Int32) (s1 : Int) (p2 : Int32) (s2 : Int) (p3 : Int32) (s3 : Int) (p4 : Int32) (s4 : Int) (p5 : Int32) (s5 : Int) (e0 : p0.toInt = s0) (e1 : p1.toInt = s1) (e2 : p2.toInt = s2) (e3 : p3.toInt = s3) (e4 : p4.toInt = s4) (e5 : p5.toInt = s5) (hI : xI G) (sz : Nat) : Ki l yX11_attempt wsX11_attempt 5 148 0 0 D [.ref (a 0), .int p0, .int p1, .int p2, .int p3, .int p4, .int p5] (xW K a G) (tK K) sz (fun (r : Int32) (G' : gS) => (xI G') ∧ (gu_un xcd [12, 602, 603, 604, 605, 608, 613, 614, 615, 616, 617, 618, 619, 620, 2100, 2400, 2700, 4400, 4500, 4600, 4700, 4800, 9000] G G') ∧ ((-4) ≤ r.toInt ∧ r.toInt ≤ 2) ∧ ((∀ (Q : gS) (C : Nat → List Int), xTok G → xSq G Q C → atR Q C (xPc G) (xPc G') s0 p1 p2 p3 p4 p5 r.toInt))) (fun (G' : gS) => (xW K a G')) (fun _ => (tK K)) := by
  unfold Ki
  refine g_ofW (cc := cX11_attempt) (lv := [(0, .ref (a 0)), (1, .int p0), (2, .int p1), (3, .int p2), (4, .int p3), (5, .int p4), (6, .int p5)]) (by decide) rfl (Nat.le_of_ble_eq_true rfl) rfl ?_
  intro p e s m args below meth c A Q hA hQ F hr hnm
  have hts := F.2.2.2.2.1
  have w_0 : (Cond.fieldLink RX11 47 "QuietCut" "lathe" "LQuietCut$Lathe;").before args s = true := hts _ (List.mem_of_getElem? (i := 1) rfl)
  have i_X11 : ∀ w ∈ u_ws RX11 TX11 14, w ∈ wsX11_attempt := fun _ h => List.mem_cons_of_mem _ (List.mem_append_left _ (List.mem_append_left _ (List.mem_append_left _ (List.mem_append_left _ (List.mem_append_right _ h)))))
  have w_1 : (Cond.fieldLink RX11 40 "QuietCut" "piece" "LQuietCut$Piece;").before args s = true := hts _ (List.mem_of_getElem? (i := 2) rfl)
  have w_2 : (Cond.fieldLink RX11 151 "QuietCut$Piece" "heights" "[I").before args s = true := hts _ (List.mem_of_getElem? (i := 3) rfl)
  have i_X6 : ∀ w ∈ u_ws RX6 TX6 5, w ∈ wsX11_attempt := fun _ h => List.mem_cons_of_mem _ (List.mem_append_left _ (List.mem_append_left _ (List.mem_append_left _ (List.mem_append_right _ h))))
  have w_3 : (Cond.fieldLink RX11 161 "QuietCut$Piece" "wear" "I").before args s = true := hts _ (List.mem_of_getElem? (i := 4) rfl)
  have rg0 : -2147483648 ≤ s0 ∧ s0 ≤ 2147483647 := e0 ▸ ti_rng p0
  have rg1 : -2147483648 ≤ s1 ∧ s1 ≤ 2147483647 := e1 ▸ ti_rng p1
  have rg2 : -2147483648 ≤ s2 ∧ s2 ≤ 2147483647 := e2 ▸ ti_rng p2
  have rg3 : -2147483648 ≤ s3 ∧ s3 ≤ 2147483647 := e3 ▸ ti_rng p3
  have rg4 : -2147483648 ≤ s4 ∧ s4 ≤ 2147483647 := e4 ▸ ti_rng p4
  have rg5 : -2147483648 ≤ s5 ∧ s5 ≤ 2147483647 := e5 ▸ ti_rng p5
  have b1 : (4 : Int) ≤ (G 18 0).toInt ∧ (G 18 0).toInt ≤ 16 := hI 18 0
  have b2 : (1 : Int) ≤ (G 18 1).toInt ∧ (G 18 1).toInt ≤ 6 := hI 18 1
  have b3 : (0 : Int) ≤ (G 5 2).toInt ∧ (G 5 2).toInt ≤ 30000 := hI 5 2
  have b4 : (0 : Int) ≤ (G 5 3).toInt ∧ (G 5 3).toInt ≤ 200 := hI 5 3
  refine g_aload_n F 0 dX11_attempt_0 rfl rfl ?_
  refine xg_0_5 F i_X11 w_0 dX11_attempt_1 ?_
  refine g_iload_n F 1 dX11_attempt_4 rfl rfl ?_
  refine g_iload_n F 2 dX11_attempt_5 rfl rfl ?_
  refine g_iload_n F 3 dX11_attempt_6 rfl rfl ?_
  refine g_iload F 4 dX11_attempt_7 rfl ?_
  refine u_callVi (k := 0) (n := 0) (b := a 6) (As := [.int p0, .int p1, .int p2, .int p3]) (st := []) F (fun sz => S_X5_takes l D K a G p0 s0 p1 s1 p2 s2 p3 s3 e0 e1 e2 e3 hI sz) (cwV 4 hts gX11_attempt_X5_takes rfl rfl rfl (by decide +kernel) ⟨Nat.le_of_ble_eq_true rfl, Nat.le_of_ble_eq_true rfl⟩) rfl 6 xc_6 rfl (Nat.le_of_ble_eq_true rfl) ⟨Nat.zero_le _, Nat.zero_le _⟩ dX11_attempt_9 (fun r5 G7 hw6 => ?_)
  have hI8 : xI G7 := hw6.1
  have hU9 : gu_un xcd [602, 603, 604, 605] G G7 := hw6.2.1
  have hp10 := hw6.2.2
  have q11 : ((G7 6 1).toInt = s0 ∧ (G7 6 2).toInt = s1 ∧ (G7 6 3).toInt = s2 ∧ (G7 6 4).toInt = s3) := hp10.2
  rcases hp10.1 with ⟨rfl, q12⟩ | ⟨rfl, q13⟩
  · have q12 : (0 ≤ s0 ∧ s0 < (G 18 1).toInt ∧ 1 ≤ s1 ∧ s1 ≤ 9 ∧ 1 ≤ s2 ∧ s2 ≤ 20 ∧ 1 ≤ s3 ∧ s3 ≤ 12) := by have h9 := q12; (try simp only [(show G7 18 1 = (G 18 1) from hU9 18 1 (by decide))] at h9); exact h9
    refine v_if_eq F 25 dX11_attempt_12 (by decide) 1 rfl (fun c14 => absurd c14 (by decide)) (fun c14 => ?_)
    refine g_iload F 5 dX11_attempt_15 rfl ?_
    refine g_iload F 6 dX11_attempt_17 rfl ?_
    refine u_call0 (k := 0) (n := 0) (As := [.int p4, .int p5]) (st := []) F (fun sz => S_X5_mayHold l D p4 s4 p5 s5 e4 e5 sz) (va_cwS 2 hts gX11_attempt_X5_mayHold rfl rfl rfl (by decide +kernel) ⟨Nat.le_of_ble_eq_true rfl, Nat.le_of_ble_eq_true rfl⟩) rfl (Nat.le_of_ble_eq_true rfl) ⟨Nat.zero_le _, Nat.zero_le _⟩ dX11_attempt_19 (fun r15 _ hw16 => ?_)
    rcases hw16 with ⟨rfl, q18⟩ | ⟨rfl, q19⟩
    · refine v_if_ne F 28 dX11_attempt_22 (by decide) 1 rfl (fun c20 => ?_) (fun c20 => absurd c20 (by decide))
      refine g_aload_n F 0 dX11_attempt_28 rfl rfl ?_
      refine xg_0_5 F i_X11 w_0 dX11_attempt_29 ?_
      refine g_aload_n F 0 dX11_attempt_32 rfl rfl ?_
      refine xg_0_4 F i_X11 w_1 dX11_attempt_33 ?_
      refine xg_5_1 F i_X6 w_2 dX11_attempt_36 ?_
      refine g_aload_n F 0 dX11_attempt_39 rfl rfl ?_
      refine xg_0_4 F i_X11 w_1 dX11_attempt_40 ?_
      refine xg_5_2 F i_X6 w_3 dX11_attempt_43 (G 5 2) (hU9 5 2 (by decide)) ?_
      refine g_iload F 5 dX11_attempt_46 rfl ?_
      refine g_iload F 6 dX11_attempt_48 rfl ?_
      refine u_callVi (k := 0) (n := 0) (b := a 6) (As := [.ref (a 38), .int (G 5 2), .int p4, .int p5]) (st := []) F (fun sz => S_X5_run_38 l D K a G7 (G 5 2) (G 5 2).toInt p4 s4 p5 s5 rfl (by omega) e4 (by omega) e5 (by omega) (by have e9_18_1 : G7 18 1 = (G 18 1) := hU9 18 1 (by decide); (try simp only [e9_18_1, true_and, and_true]) <;> (first | omega | (simp only [Int32.reduceToInt, true_and, and_true, ne_eq, not_true_eq_false, false_and, or_false, false_or, true_or, or_true, false_implies] <;> omega))) hI8 sz) (cwV 4 hts gX11_attempt_X5_run rfl rfl rfl (by decide +kernel) ⟨Nat.le_of_ble_eq_true rfl, Nat.le_of_ble_eq_true rfl⟩) rfl 6 xc_6 rfl (Nat.le_of_ble_eq_true rfl) ⟨Nat.zero_le _, Nat.zero_le _⟩ dX11_attempt_50 (fun r21 G23 hw22 => ?_)
      have hI24 : xI G23 := hw22.1
      have hU25 : gu_un xcd [608, 613, 614, 615, 616, 617, 618, 619, 620, 2100, 2400, 2700, 4400, 4500, 4600, 4700, 4800] G7 G23 := hw22.2.1
      have hp26 := hw22.2.2
      have q27 : (r21.toInt = -4 ∨ (0 ≤ r21.toInt ∧ r21.toInt ≤ 2)) := hp26.2.1
      have q28 : ((xTok G7 ∧ r21.toInt ≠ -4) → xOut G7 (G7 38) (G 5 2) p4 p5 G23 r21.toInt) := hp26.2.2.1
      have q29 : ((r21.toInt = -4 ∧ psMx (psHr (G 38) (G7 6 1).toInt (G 18 0).toInt) ((G 18 0).toInt - 1).toNat - (G7 6 3).toInt * (G7 6 4).toInt < 1) ∨ (r21.toInt ≠ -4 ∧ 1 ≤ psMx (psHr (G 38) (G7 6 1).toInt (G 18 0).toInt) ((G 18 0).toInt - 1).toNat - (G7 6 3).toInt * (G7 6 4).toInt)) := by have h9 := hp26.2.2.2; (try simp only [(show G7 18 0 = (G 18 0) from hU9 18 0 (by decide)), (show G7 18 0 = (G 18 0) from hU9 18 0 (by decide)), (show G7 18 0 = (G 18 0) from hU9 18 0 (by decide)), (show G7 18 0 = (G 18 0) from hU9 18 0 (by decide)), (show G7 38 = (G 38) from (show G7 38 = G 38 from funext fun k_ => hU9 38 k_ (show (3800 : Nat) ∉ ([602, 603, 604, 605] : List Nat) by decide))), (show G7 38 = (G 38) from (show G7 38 = G 38 from funext fun k_ => hU9 38 k_ (show (3800 : Nat) ∉ ([602, 603, 604, 605] : List Nat) by decide)))] at h9); first | exact h9 | omega
      have rg30 := hp26.1
      clear hp26 hw22
      refine g_istore F [(7, .int r21), (0, .ref (a 0)), (1, .int p0), (2, .int p1), (3, .int p2), (4, .int p3), (5, .int p4), (6, .int p5)] dX11_attempt_53 (by decide) rfl ?_
      refine g_iload F 0 dX11_attempt_55 rfl ?_
      refine v_if_lt F 64 dX11_attempt_57 (by decide) r21.toInt rfl (fun c31 => ?_) (fun c31 => ?_)
      · refine g_iload F 0 dX11_attempt_64 rfl ?_
        exact u_iret F hA hQ hr G23 (⟨hI24, (gu_un.tr (gu_un.tr gu_un.rf (gu_un.su hU9 rfl)) (gu_un.su hU25 rfl)), (by have h9 := ti_rng r21; omega), (fun Q C hk hq => Or.inr (Or.inl ⟨(by unfold pvArg; rw [hq.1 1 (by decide) (by decide)]; omega), (fun ho => by unfold pvOk at ho; rw [hq.1 0 (by decide) (by decide)] at ho; have ho2 : 1 ≤ psMx (psHr (G 38) s0 (G 18 0).toInt) ((G 18 0).toInt - 1).toNat - p2.toInt * p3.toInt := ho; have hsc := q29; rw [show (G7 6 1).toInt = s0 by omega, show (G7 6 3).toInt = p2.toInt by omega, show (G7 6 4).toInt = p3.toInt by omega] at hsc; omega), by omega, pcB.xun (show gu_un xcd [602, 603, 604, 605, 608, 613, 614, 615, 616, 617, 618, 619, 620, 2100, 2400, 2700, 4400, 4500, 4600, 4700, 4800] G G23 from (gu_un.tr (gu_un.tr gu_un.rf (gu_un.su hU9 rfl)) (gu_un.su hU25 rfl))) rfl, pcK.xun (show gu_un xcd [602, 603, 604, 605, 608, 613, 614, 615, 616, 617, 618, 619, 620, 2100, 2400, 2700, 4400, 4500, 4600, 4700, 4800] G G23 from (gu_un.tr (gu_un.tr gu_un.rf (gu_un.su hU9 rfl)) (gu_un.su hU25 rfl))) rfl⟩))⟩) rfl rfl dX11_attempt_66
      · refine g_aload_n F 1 dX11_attempt_60 rfl rfl ?_
        refine u_callVv (k := 0) (n := 0) (b := a 0) (As := []) (st := []) F (fun sz => S_X11_notePassed l D K a G23  hI24 sz) (cwV 0 hts gX11_attempt_X11_notePassed rfl rfl rfl (by decide +kernel) ⟨Nat.le_of_ble_eq_true rfl, Nat.le_of_ble_eq_true rfl⟩) rfl 0 xc_0 rfl (Nat.le_of_ble_eq_true rfl) ⟨Nat.zero_le _, Nat.zero_le _⟩ dX11_attempt_61 (fun G34 hw33 => ?_)
        have hI35 : xI G34 := hw33.1
        have hU36 : gu_un xcd [12, 9000] G23 G34 := hw33.2.1
        have hp37 := hw33.2.2
        have q38 : (G34 0 11 = 1 ∧ G34 90 0 = G23 6 15 ∧ G34 90 1 = G23 6 16 ∧ G34 90 2 = G23 6 17 ∧ G34 90 3 = G23 6 18 ∧ G34 90 4 = G23 6 13 ∧ G34 90 5 = G23 6 12 ∧ G34 90 6 = G23 6 19) := hp37
        clear hp37 hw33
        refine g_iload F 0 dX11_attempt_64 rfl ?_
        exact u_iret F hA hQ hr G34 (⟨hI35, (gu_un.tr (gu_un.tr (gu_un.tr gu_un.rf (gu_un.su hU9 rfl)) (gu_un.su hU25 rfl)) (gu_un.su hU36 rfl)), (by have h9 := ti_rng r21; omega), (fun Q C hk hq => by have hp := xOut.pv (Q := Q) (C := C) (a0 := s0) (a1 := p1) (a2 := p2) (a3 := p3) (h0 := G 38) (q28 ⟨xTok.un hk (show gu_un xcd [602, 603, 604, 605] G G7 from (gu_un.tr gu_un.rf (gu_un.su hU9 rfl))) rfl, by omega⟩) (xSq.un hq (show gu_un xcd [602, 603, 604, 605] G G7 from (gu_un.tr gu_un.rf (gu_un.su hU9 rfl))) rfl) (by omega) (by rw [(show G7 18 0 = G 18 0 from (show gu_un xcd [602, 603, 604, 605] G G7 from (gu_un.tr gu_un.rf (gu_un.su hU9 rfl))) 18 0 (by decide))]; omega) (show G7 38 = G 38 from funext fun k_ => (show gu_un xcd [602, 603, 604, 605] G G7 from (gu_un.tr gu_un.rf (gu_un.su hU9 rfl))) 38 k_ (by simp [xcd])) (by omega) (Int32.toInt_inj.mp (by omega)) (Int32.toInt_inj.mp (by omega)) (Int32.toInt_inj.mp (by omega)); exact Or.inr (Or.inr ⟨(by unfold pvArg; rw [hq.1 1 (by decide) (by decide)]; omega), (by unfold pvOk; rw [hq.1 0 (by decide) (by decide)]; show 1 ≤ psMx (psHr (G 38) s0 (G 18 0).toInt) ((G 18 0).toInt - 1).toNat - p2.toInt * p3.toInt; have hsc := q29; rw [show (G7 6 1).toInt = s0 by omega, show (G7 6 3).toInt = p2.toInt by omega, show (G7 6 4).toInt = p3.toInt by omega] at hsc; omega), hp.1, pcB.xun (show gu_un xcd [12, 602, 603, 604, 605, 608, 613, 614, 615, 616, 617, 618, 619, 620, 2100, 2400, 2700, 4400, 4500, 4600, 4700, 4800, 9000] G G34 from (gu_un.tr (gu_un.tr (gu_un.tr gu_un.rf (gu_un.su hU9 rfl)) (gu_un.su hU25 rfl)) (gu_un.su hU36 rfl))) rfl, ⟨q38.1, pvN.at hp.2.2.2 (q38.2.1.trans (rfl : G23 6 15 = G23 6 15)) (q38.2.2.1.trans (rfl : G23 6 16 = G23 6 16)) (q38.2.2.2.1.trans (rfl : G23 6 17 = G23 6 17)) (q38.2.2.2.2.1.trans (rfl : G23 6 18 = G23 6 18)) (q38.2.2.2.2.2.1.trans (rfl : G23 6 13 = G23 6 13)) (q38.2.2.2.2.2.2.1.trans (rfl : G23 6 12 = G23 6 12)) (q38.2.2.2.2.2.2.2.trans (rfl : G23 6 19 = G23 6 19))⟩⟩))⟩) rfl rfl dX11_attempt_66
    · refine v_if_ne F 28 dX11_attempt_22 (by decide) 0 rfl (fun c39 => absurd c39 (by decide)) (fun c39 => ?_)
      refine g_bipush F (-2) dX11_attempt_25 (by decide) ?_
      exact u_iret F hA hQ hr G7 (⟨hI8, (gu_un.tr gu_un.rf (gu_un.su hU9 rfl)), (by decide), (fun Q C hk hq => Or.inl ⟨fun ha => by obtain ⟨b0, b1, b2, b3, b4, b5, b6, b7, b8, b9, b10, b11⟩ := ha; rw [hq.1 1 (by decide) (by decide)] at b1; omega, by decide, pcB.xun (show gu_un xcd [602, 603, 604, 605] G G7 from (gu_un.tr gu_un.rf (gu_un.su hU9 rfl))) rfl, pcK.xun (show gu_un xcd [602, 603, 604, 605] G G7 from (gu_un.tr gu_un.rf (gu_un.su hU9 rfl))) rfl⟩)⟩) rfl rfl dX11_attempt_27
  · have q13 : ¬ (0 ≤ s0 ∧ s0 < (G 18 1).toInt ∧ 1 ≤ s1 ∧ s1 ≤ 9 ∧ 1 ≤ s2 ∧ s2 ≤ 20 ∧ 1 ≤ s3 ∧ s3 ≤ 12) := by have h9 := q13; (try simp only [(show G7 18 1 = (G 18 1) from hU9 18 1 (by decide))] at h9); exact h9
    refine v_if_eq F 25 dX11_attempt_12 (by decide) 0 rfl (fun c40 => ?_) (fun c40 => absurd c40 (by decide))
    refine g_bipush F (-2) dX11_attempt_25 (by decide) ?_
    exact u_iret F hA hQ hr G7 (⟨hI8, (gu_un.tr gu_un.rf (gu_un.su hU9 rfl)), (by decide), (fun Q C hk hq => Or.inl ⟨fun ha => by obtain ⟨b0, b1, b2, b3, b4, b5, b6, b7, b8, b9, b10, b11⟩ := ha; rw [hq.1 1 (by decide) (by decide)] at b1; omega, by decide, pcB.xun (show gu_un xcd [602, 603, 604, 605] G G7 from (gu_un.tr gu_un.rf (gu_un.su hU9 rfl))) rfl, pcK.xun (show gu_un xcd [602, 603, 604, 605] G G7 from (gu_un.tr gu_un.rf (gu_un.su hU9 rfl))) rfl⟩)⟩) rfl rfl dX11_attempt_27

theorem dX11_cut_0 : decode cX11_cut 0 = .ok (.aload_n 0, 1) := by decide +kernel
theorem dX11_cut_1 : decode cX11_cut 1 = .ok (.getfield 47, 3) := by decide +kernel
theorem dX11_cut_4 : decode cX11_cut 4 = .ok (.iload_n 1, 1) := by decide +kernel
theorem dX11_cut_5 : decode cX11_cut 5 = .ok (.iload_n 2, 1) := by decide +kernel
theorem dX11_cut_6 : decode cX11_cut 6 = .ok (.iload_n 3, 1) := by decide +kernel
theorem dX11_cut_7 : decode cX11_cut 7 = .ok (.iload 4, 2) := by decide +kernel
theorem dX11_cut_9 : decode cX11_cut 9 = .ok (.invokevirtual 164, 3) := by decide +kernel
theorem dX11_cut_12 : decode cX11_cut 12 = .ok (.ifCond .eq 13, 3) := by decide +kernel
theorem dX11_cut_15 : decode cX11_cut 15 = .ok (.iload 5, 2) := by decide +kernel
theorem dX11_cut_17 : decode cX11_cut 17 = .ok (.iload 6, 2) := by decide +kernel
theorem dX11_cut_19 : decode cX11_cut 19 = .ok (.invokestatic 168, 3) := by decide +kernel
theorem dX11_cut_22 : decode cX11_cut 22 = .ok (.ifCond .ne 6, 3) := by decide +kernel
theorem dX11_cut_25 : decode cX11_cut 25 = .ok (.bipush (-2), 2) := by decide +kernel
theorem dX11_cut_27 : decode cX11_cut 27 = .ok (.ireturn, 1) := by decide +kernel
theorem dX11_cut_28 : decode cX11_cut 28 = .ok (.aload_n 0, 1) := by decide +kernel
theorem dX11_cut_29 : decode cX11_cut 29 = .ok (.getfield 47, 3) := by decide +kernel
theorem dX11_cut_32 : decode cX11_cut 32 = .ok (.aload_n 0, 1) := by decide +kernel
theorem dX11_cut_33 : decode cX11_cut 33 = .ok (.getfield 40, 3) := by decide +kernel
theorem dX11_cut_36 : decode cX11_cut 36 = .ok (.getfield 151, 3) := by decide +kernel
theorem dX11_cut_39 : decode cX11_cut 39 = .ok (.aload_n 0, 1) := by decide +kernel
theorem dX11_cut_40 : decode cX11_cut 40 = .ok (.getfield 40, 3) := by decide +kernel
theorem dX11_cut_43 : decode cX11_cut 43 = .ok (.getfield 161, 3) := by decide +kernel
theorem dX11_cut_46 : decode cX11_cut 46 = .ok (.iload 5, 2) := by decide +kernel
theorem dX11_cut_48 : decode cX11_cut 48 = .ok (.iload 6, 2) := by decide +kernel
theorem dX11_cut_50 : decode cX11_cut 50 = .ok (.invokevirtual 171, 3) := by decide +kernel
theorem dX11_cut_53 : decode cX11_cut 53 = .ok (.istore 7, 2) := by decide +kernel
theorem dX11_cut_55 : decode cX11_cut 55 = .ok (.iload 7, 2) := by decide +kernel
theorem dX11_cut_57 : decode cX11_cut 57 = .ok (.ifCond .ge 6, 3) := by decide +kernel
theorem dX11_cut_60 : decode cX11_cut 60 = .ok (.iload 7, 2) := by decide +kernel
theorem dX11_cut_62 : decode cX11_cut 62 = .ok (.ireturn, 1) := by decide +kernel
theorem dX11_cut_63 : decode cX11_cut 63 = .ok (.aload_n 0, 1) := by decide +kernel
theorem dX11_cut_64 : decode cX11_cut 64 = .ok (.getfield 40, 3) := by decide +kernel
theorem dX11_cut_67 : decode cX11_cut 67 = .ok (.getfield 178, 3) := by decide +kernel
theorem dX11_cut_70 : decode cX11_cut 70 = .ok (.sipush 200, 3) := by decide +kernel
theorem dX11_cut_73 : decode cX11_cut 73 = .ok (.if_icmp .lt 6, 3) := by decide +kernel
theorem dX11_cut_76 : decode cX11_cut 76 = .ok (.bipush (-3), 2) := by decide +kernel
theorem dX11_cut_78 : decode cX11_cut 78 = .ok (.ireturn, 1) := by decide +kernel
theorem dX11_cut_79 : decode cX11_cut 79 = .ok (.aload_n 0, 1) := by decide +kernel
theorem dX11_cut_80 : decode cX11_cut 80 = .ok (.getfield 40, 3) := by decide +kernel
theorem dX11_cut_83 : decode cX11_cut 83 = .ok (.aload_n 0, 1) := by decide +kernel
theorem dX11_cut_84 : decode cX11_cut 84 = .ok (.getfield 47, 3) := by decide +kernel
theorem dX11_cut_87 : decode cX11_cut 87 = .ok (.invokevirtual 181, 3) := by decide +kernel
theorem dX11_cut_90 : decode cX11_cut 90 = .ok (.aload_n 0, 1) := by decide +kernel
theorem dX11_cut_91 : decode cX11_cut 91 = .ok (.invokevirtual 175, 3) := by decide +kernel
theorem dX11_cut_94 : decode cX11_cut 94 = .ok (.iload 7, 2) := by decide +kernel
theorem dX11_cut_96 : decode cX11_cut 96 = .ok (.ireturn, 1) := by decide +kernel
set_option maxRecDepth 20000 in
theorem ggX11_cut_X11_notePassed : GoodIn wsX11_cut wsX11_notePassed := goodIn_r _ [145, 146, 1, 147, 148, 149, 150, 151, 152, 153, 154, 155, 156, 157, 158, 159, 160, 161, 162, 163, 164, 165, 166, 167, 168, 174, 175, 176, 177, 178, 179, 180, 181, 182, 183, 184, 185, 186, 187, 188, 189, 190, 191, 192, 193] rfl (by decide +kernel)
set_option maxRecDepth 20000 in
theorem gX11_cut_X11_notePassed : GoodIn wsX11_cut (wsV RX11 175 RX11 yX11_notePassed wsX11_notePassed) := goodIn_app (goodIn_of _ (by decide +kernel)) ggX11_cut_X11_notePassed
set_option maxRecDepth 20000 in
theorem ggX11_cut_X5_mayHold : GoodIn wsX11_cut wsX5_mayHold := goodIn_r _ [24] rfl (by decide +kernel)
set_option maxRecDepth 20000 in
theorem gX11_cut_X5_mayHold : GoodIn wsX11_cut (va_wsS RX11 168 yX5_mayHold wsX5_mayHold) := goodIn_app (goodIn_of _ (by decide +kernel)) ggX11_cut_X5_mayHold
set_option maxRecDepth 20000 in
theorem ggX11_cut_X5_run : GoodIn wsX11_cut wsX5_run := goodIn_r _ [28, 15, 29, 11, 30, 31, 32, 33, 34, 13, 14, 35, 36, 12, 37, 16, 17, 18, 19, 20, 21, 38, 39, 40, 41, 42, 43, 9, 44, 45, 46, 47, 48, 49, 50, 51, 52, 53, 54, 55, 56, 57, 58, 59, 60, 61, 62, 63, 64, 65, 66, 67, 68, 69, 70, 71, 72, 73, 74, 75, 76, 77, 78, 79, 80, 81, 82, 83, 84, 85, 86, 87, 88, 89, 90, 91, 92, 93, 94, 95, 96, 97, 98, 99, 100, 101, 102, 103, 104, 105, 106, 107, 108, 109, 110, 111, 112, 113, 114, 115, 116, 117, 118, 119, 120, 174, 175, 176, 177, 178, 179, 180, 181, 182, 183, 184, 185, 186, 187, 188, 189, 190, 191, 192, 193, 194, 195, 196, 197, 198, 199, 200, 201, 202, 203, 204, 205, 206] rfl (by decide +kernel)
set_option maxRecDepth 20000 in
theorem gX11_cut_X5_run : GoodIn wsX11_cut (wsV RX11 171 RX5 yX5_run wsX5_run) := goodIn_app (goodIn_of _ (by decide +kernel)) ggX11_cut_X5_run
set_option maxRecDepth 20000 in
theorem ggX11_cut_X5_takes : GoodIn wsX11_cut wsX5_takes := goodIn_r _ [10, 11, 12, 13, 14, 15, 16, 17, 18, 19, 20, 21, 174, 175, 176, 177, 178, 179, 180, 181, 182, 183, 184, 185, 186, 187, 188, 189, 190, 191, 192, 193, 194, 195, 196, 197] rfl (by decide +kernel)
set_option maxRecDepth 20000 in
theorem gX11_cut_X5_takes : GoodIn wsX11_cut (wsV RX11 164 RX5 yX5_takes wsX5_takes) := goodIn_app (goodIn_of _ (by decide +kernel)) ggX11_cut_X5_takes
set_option maxRecDepth 20000 in
theorem ggX11_cut_X6_takePass : GoodIn wsX11_cut wsX6_takePass := goodIn_r _ [124, 125, 126, 127, 128, 129, 130, 131, 132, 133, 134, 135, 136, 137, 138, 9, 139, 15, 29, 11, 30, 38, 39, 40, 41, 140, 169, 170, 171, 172, 173, 174, 175, 176, 177, 178, 179, 180, 181, 182, 183, 184, 185, 186, 187, 188, 189, 190, 191, 192, 193, 194, 195, 196, 197] rfl (by decide +kernel)
set_option maxRecDepth 20000 in
theorem gX11_cut_X6_takePass : GoodIn wsX11_cut (wsV RX11 181 RX6 yX6_takePass wsX6_takePass) := goodIn_app (goodIn_of _ (by decide +kernel)) ggX11_cut_X6_takePass
set_option maxHeartbeats 4000000 in
set_option maxRecDepth 100000 in
theorem S_X11_cut (l : Launch) (D : va_G) (K : Nat → ClassId) (a : Nat → Nat) (G : gS) (p0 : Int32) (s0 : Int) (p1 : Int32) (s1 : Int) (p2 : Int32) (s2 : Int) (p3 : Int32) (s3 : Int) (p4 : Int32) (s4 : Int) (p5 : Int32) (s5 : Int) (e0 : p0.toInt = s0) (e1 : p1.toInt = s1) (e2 : p2.toInt = s2) (e3 : p3.toInt = s3) (e4 : p4.toInt = s4) (e5 : p5.toInt = s5) (hI : xI G) (sz : Nat) : Ki l yX11_cut wsX11_cut 5 148 0 0 D [.ref (a 0), .int p0, .int p1, .int p2, .int p3, .int p4, .int p5] (xW K a G) (tK K) sz (fun (r : Int32) (G' : gS) => (xI G') ∧ (gu_un xcd [12, 503, 504, 602, 603, 604, 605, 608, 613, 614, 615, 616, 617, 618, 619, 620, 2100, 2400, 2700, 3800, 4000, 4100, 4200, 4300, 4400, 4500, 4600, 4700, 4800, 9000] G G') ∧ ((-4) ≤ r.toInt ∧ r.toInt ≤ 2) ∧ ((∀ (Q : gS) (C : Nat → List Int), xTok G → xSq G Q C → cuR Q C (xPc G) (xPc G') s0 p1 p2 p3 p4 p5 r.toInt))) (fun (G' : gS) => (xW K a G')) (fun _ => (tK K)) := by
  unfold Ki
  refine g_ofW (cc := cX11_cut) (lv := [(0, .ref (a 0)), (1, .int p0), (2, .int p1), (3, .int p2), (4, .int p3), (5, .int p4), (6, .int p5)]) (by decide) rfl (Nat.le_of_ble_eq_true rfl) rfl ?_
  intro p e s m args below meth c A Q hA hQ F hr hnm
  have hts := F.2.2.2.2.1
  have w_0 : (Cond.fieldLink RX11 47 "QuietCut" "lathe" "LQuietCut$Lathe;").before args s = true := hts _ (List.mem_of_getElem? (i := 1) rfl)
  have i_X11 : ∀ w ∈ u_ws RX11 TX11 14, w ∈ wsX11_cut := fun _ h => List.mem_cons_of_mem _ (List.mem_append_left _ (List.mem_append_left _ (List.mem_append_left _ (List.mem_append_left _ (List.mem_append_right _ h)))))
  have w_1 : (Cond.fieldLink RX11 40 "QuietCut" "piece" "LQuietCut$Piece;").before args s = true := hts _ (List.mem_of_getElem? (i := 2) rfl)
  have w_2 : (Cond.fieldLink RX11 151 "QuietCut$Piece" "heights" "[I").before args s = true := hts _ (List.mem_of_getElem? (i := 3) rfl)
  have i_X6 : ∀ w ∈ u_ws RX6 TX6 5, w ∈ wsX11_cut := fun _ h => List.mem_cons_of_mem _ (List.mem_append_left _ (List.mem_append_left _ (List.mem_append_left _ (List.mem_append_right _ h))))
  have w_3 : (Cond.fieldLink RX11 161 "QuietCut$Piece" "wear" "I").before args s = true := hts _ (List.mem_of_getElem? (i := 4) rfl)
  have w_4 : (Cond.fieldLink RX11 178 "QuietCut$Piece" "passes" "I").before args s = true := hts _ (List.mem_of_getElem? (i := 5) rfl)
  have rg0 : -2147483648 ≤ s0 ∧ s0 ≤ 2147483647 := e0 ▸ ti_rng p0
  have rg1 : -2147483648 ≤ s1 ∧ s1 ≤ 2147483647 := e1 ▸ ti_rng p1
  have rg2 : -2147483648 ≤ s2 ∧ s2 ≤ 2147483647 := e2 ▸ ti_rng p2
  have rg3 : -2147483648 ≤ s3 ∧ s3 ≤ 2147483647 := e3 ▸ ti_rng p3
  have rg4 : -2147483648 ≤ s4 ∧ s4 ≤ 2147483647 := e4 ▸ ti_rng p4
  have rg5 : -2147483648 ≤ s5 ∧ s5 ≤ 2147483647 := e5 ▸ ti_rng p5
  have b1 : (4 : Int) ≤ (G 18 0).toInt ∧ (G 18 0).toInt ≤ 16 := hI 18 0
  have b2 : (1 : Int) ≤ (G 18 1).toInt ∧ (G 18 1).toInt ≤ 6 := hI 18 1
  have b3 : (0 : Int) ≤ (G 5 2).toInt ∧ (G 5 2).toInt ≤ 30000 := hI 5 2
  have b4 : (0 : Int) ≤ (G 5 3).toInt ∧ (G 5 3).toInt ≤ 200 := hI 5 3
  refine g_aload_n F 0 dX11_cut_0 rfl rfl ?_
  refine xg_0_5 F i_X11 w_0 dX11_cut_1 ?_
  refine g_iload_n F 1 dX11_cut_4 rfl rfl ?_
  refine g_iload_n F 2 dX11_cut_5 rfl rfl ?_
  refine g_iload_n F 3 dX11_cut_6 rfl rfl ?_
  refine g_iload F 4 dX11_cut_7 rfl ?_
  refine u_callVi (k := 0) (n := 0) (b := a 6) (As := [.int p0, .int p1, .int p2, .int p3]) (st := []) F (fun sz => S_X5_takes l D K a G p0 s0 p1 s1 p2 s2 p3 s3 e0 e1 e2 e3 hI sz) (cwV 4 hts gX11_cut_X5_takes rfl rfl rfl (by decide +kernel) ⟨Nat.le_of_ble_eq_true rfl, Nat.le_of_ble_eq_true rfl⟩) rfl 6 xc_6 rfl (Nat.le_of_ble_eq_true rfl) ⟨Nat.zero_le _, Nat.zero_le _⟩ dX11_cut_9 (fun r5 G7 hw6 => ?_)
  have hI8 : xI G7 := hw6.1
  have hU9 : gu_un xcd [602, 603, 604, 605] G G7 := hw6.2.1
  have hp10 := hw6.2.2
  have q11 : ((G7 6 1).toInt = s0 ∧ (G7 6 2).toInt = s1 ∧ (G7 6 3).toInt = s2 ∧ (G7 6 4).toInt = s3) := hp10.2
  rcases hp10.1 with ⟨rfl, q12⟩ | ⟨rfl, q13⟩
  · have q12 : (0 ≤ s0 ∧ s0 < (G 18 1).toInt ∧ 1 ≤ s1 ∧ s1 ≤ 9 ∧ 1 ≤ s2 ∧ s2 ≤ 20 ∧ 1 ≤ s3 ∧ s3 ≤ 12) := by have h9 := q12; (try simp only [(show G7 18 1 = (G 18 1) from hU9 18 1 (by decide))] at h9); exact h9
    refine v_if_eq F 25 dX11_cut_12 (by decide) 1 rfl (fun c14 => absurd c14 (by decide)) (fun c14 => ?_)
    refine g_iload F 5 dX11_cut_15 rfl ?_
    refine g_iload F 6 dX11_cut_17 rfl ?_
    refine u_call0 (k := 0) (n := 0) (As := [.int p4, .int p5]) (st := []) F (fun sz => S_X5_mayHold l D p4 s4 p5 s5 e4 e5 sz) (va_cwS 2 hts gX11_cut_X5_mayHold rfl rfl rfl (by decide +kernel) ⟨Nat.le_of_ble_eq_true rfl, Nat.le_of_ble_eq_true rfl⟩) rfl (Nat.le_of_ble_eq_true rfl) ⟨Nat.zero_le _, Nat.zero_le _⟩ dX11_cut_19 (fun r15 _ hw16 => ?_)
    rcases hw16 with ⟨rfl, q18⟩ | ⟨rfl, q19⟩
    · refine v_if_ne F 28 dX11_cut_22 (by decide) 1 rfl (fun c20 => ?_) (fun c20 => absurd c20 (by decide))
      refine g_aload_n F 0 dX11_cut_28 rfl rfl ?_
      refine xg_0_5 F i_X11 w_0 dX11_cut_29 ?_
      refine g_aload_n F 0 dX11_cut_32 rfl rfl ?_
      refine xg_0_4 F i_X11 w_1 dX11_cut_33 ?_
      refine xg_5_1 F i_X6 w_2 dX11_cut_36 ?_
      refine g_aload_n F 0 dX11_cut_39 rfl rfl ?_
      refine xg_0_4 F i_X11 w_1 dX11_cut_40 ?_
      refine xg_5_2 F i_X6 w_3 dX11_cut_43 (G 5 2) (hU9 5 2 (by decide)) ?_
      refine g_iload F 5 dX11_cut_46 rfl ?_
      refine g_iload F 6 dX11_cut_48 rfl ?_
      refine u_callVi (k := 0) (n := 0) (b := a 6) (As := [.ref (a 38), .int (G 5 2), .int p4, .int p5]) (st := []) F (fun sz => S_X5_run_38 l D K a G7 (G 5 2) (G 5 2).toInt p4 s4 p5 s5 rfl (by omega) e4 (by omega) e5 (by omega) (by have e9_18_1 : G7 18 1 = (G 18 1) := hU9 18 1 (by decide); (try simp only [e9_18_1, true_and, and_true]) <;> (first | omega | (simp only [Int32.reduceToInt, true_and, and_true, ne_eq, not_true_eq_false, false_and, or_false, false_or, true_or, or_true, false_implies] <;> omega))) hI8 sz) (cwV 4 hts gX11_cut_X5_run rfl rfl rfl (by decide +kernel) ⟨Nat.le_of_ble_eq_true rfl, Nat.le_of_ble_eq_true rfl⟩) rfl 6 xc_6 rfl (Nat.le_of_ble_eq_true rfl) ⟨Nat.zero_le _, Nat.zero_le _⟩ dX11_cut_50 (fun r21 G23 hw22 => ?_)
      have hI24 : xI G23 := hw22.1
      have hU25 : gu_un xcd [608, 613, 614, 615, 616, 617, 618, 619, 620, 2100, 2400, 2700, 4400, 4500, 4600, 4700, 4800] G7 G23 := hw22.2.1
      have hp26 := hw22.2.2
      have q27 : (r21.toInt = -4 ∨ (0 ≤ r21.toInt ∧ r21.toInt ≤ 2)) := hp26.2.1
      have q28 : ((xTok G7 ∧ r21.toInt ≠ -4) → xOut G7 (G7 38) (G 5 2) p4 p5 G23 r21.toInt) := hp26.2.2.1
      have q29 : ((r21.toInt = -4 ∧ psMx (psHr (G 38) (G7 6 1).toInt (G 18 0).toInt) ((G 18 0).toInt - 1).toNat - (G7 6 3).toInt * (G7 6 4).toInt < 1) ∨ (r21.toInt ≠ -4 ∧ 1 ≤ psMx (psHr (G 38) (G7 6 1).toInt (G 18 0).toInt) ((G 18 0).toInt - 1).toNat - (G7 6 3).toInt * (G7 6 4).toInt)) := by have h9 := hp26.2.2.2; (try simp only [(show G7 18 0 = (G 18 0) from hU9 18 0 (by decide)), (show G7 18 0 = (G 18 0) from hU9 18 0 (by decide)), (show G7 18 0 = (G 18 0) from hU9 18 0 (by decide)), (show G7 18 0 = (G 18 0) from hU9 18 0 (by decide)), (show G7 38 = (G 38) from (show G7 38 = G 38 from funext fun k_ => hU9 38 k_ (show (3800 : Nat) ∉ ([602, 603, 604, 605] : List Nat) by decide))), (show G7 38 = (G 38) from (show G7 38 = G 38 from funext fun k_ => hU9 38 k_ (show (3800 : Nat) ∉ ([602, 603, 604, 605] : List Nat) by decide)))] at h9); first | exact h9 | omega
      have rg30 := hp26.1
      clear hp26 hw22
      refine g_istore F [(7, .int r21), (0, .ref (a 0)), (1, .int p0), (2, .int p1), (3, .int p2), (4, .int p3), (5, .int p4), (6, .int p5)] dX11_cut_53 (by decide) rfl ?_
      refine g_iload F 0 dX11_cut_55 rfl ?_
      refine v_if_ge F 63 dX11_cut_57 (by decide) r21.toInt rfl (fun c31 => ?_) (fun c31 => ?_)
      · refine g_aload_n F 1 dX11_cut_63 rfl rfl ?_
        refine xg_0_4 F i_X11 w_1 dX11_cut_64 ?_
        refine xg_5_3 F i_X6 w_4 dX11_cut_67 (G 5 3) ((hU25 5 3 (by decide)).trans (hU9 5 3 (by decide))) ?_
        refine g_sipush F 200 dX11_cut_70 (by decide) ?_
        refine v_icmp_lt F 79 dX11_cut_73 (by decide) (G 5 3).toInt 200 rfl rfl (fun c32 => ?_) (fun c32 => ?_)
        · refine g_aload_n F 1 dX11_cut_79 rfl rfl ?_
          refine xg_0_4 F i_X11 w_1 dX11_cut_80 ?_
          refine g_aload_n F 1 dX11_cut_83 rfl rfl ?_
          refine xg_0_5 F i_X11 w_0 dX11_cut_84 ?_
          refine u_callVv (k := 0) (n := 0) (b := a 5) (As := [.ref (a 6)]) (st := []) F (fun sz => S_X6_takePass_6 l D K a G23  (by have e9_6_1 : G23 6 1 = (G7 6 1) := hU25 6 1 (by decide); (try simp only [e9_6_1, true_and, and_true]) <;> (first | omega | (simp only [Int32.reduceToInt, true_and, and_true, ne_eq, not_true_eq_false, false_and, or_false, false_or, true_or, or_true, false_implies] <;> omega))) (by have e9_5_3 : G23 5 3 = (G 5 3) := (hU25 5 3 (by decide)).trans (hU9 5 3 (by decide)); (try simp only [e9_5_3, true_and, and_true]) <;> (first | omega | (simp only [Int32.reduceToInt, true_and, and_true, ne_eq, not_true_eq_false, false_and, or_false, false_or, true_or, or_true, false_implies] <;> omega))) hI24 sz) (cwV 1 hts gX11_cut_X6_takePass rfl rfl rfl (by decide +kernel) ⟨Nat.le_of_ble_eq_true rfl, Nat.le_of_ble_eq_true rfl⟩) rfl 5 xc_5 rfl (Nat.le_of_ble_eq_true rfl) ⟨Nat.zero_le _, Nat.zero_le _⟩ dX11_cut_87 (fun G35 hw34 => ?_)
          have hI36 : xI G35 := hw34.1
          have hU37 : gu_un xcd [503, 504, 3800, 4000, 4100, 4200, 4300] G23 G35 := hw34.2.1
          have hp38 := hw34.2.2
          have q39 : pcT (G 18 0).toInt (G7 6 1).toInt (G23 45) (G23 46) (G23 47) (G23 48) (G23 6 12) (xPc G23) (xPc G35) := by have h9 := hp38; (try simp only [(show G23 18 0 = (G 18 0) from (hU25 18 0 (by decide)).trans (hU9 18 0 (by decide))), (show G23 6 1 = (G7 6 1) from hU25 6 1 (by decide))] at h9); first | exact h9 | omega
          clear hp38 hw34
          refine g_aload_n F 1 dX11_cut_90 rfl rfl ?_
          refine u_callVv (k := 0) (n := 0) (b := a 0) (As := []) (st := []) F (fun sz => S_X11_notePassed l D K a G35  hI36 sz) (cwV 0 hts gX11_cut_X11_notePassed rfl rfl rfl (by decide +kernel) ⟨Nat.le_of_ble_eq_true rfl, Nat.le_of_ble_eq_true rfl⟩) rfl 0 xc_0 rfl (Nat.le_of_ble_eq_true rfl) ⟨Nat.zero_le _, Nat.zero_le _⟩ dX11_cut_91 (fun G42 hw41 => ?_)
          have hI43 : xI G42 := hw41.1
          have hU44 : gu_un xcd [12, 9000] G35 G42 := hw41.2.1
          have hp45 := hw41.2.2
          have q46 : (G42 0 11 = 1 ∧ G42 90 0 = G35 6 15 ∧ G42 90 1 = G35 6 16 ∧ G42 90 2 = G35 6 17 ∧ G42 90 3 = G35 6 18 ∧ G42 90 4 = G35 6 13 ∧ G42 90 5 = G35 6 12 ∧ G42 90 6 = G35 6 19) := hp45
          clear hp45 hw41
          refine g_iload F 0 dX11_cut_94 rfl ?_
          exact u_iret F hA hQ hr G42 (⟨hI43, (gu_un.tr (gu_un.tr (gu_un.tr (gu_un.tr gu_un.rf (gu_un.su hU9 rfl)) (gu_un.su hU25 rfl)) (gu_un.su hU37 rfl)) (gu_un.su hU44 rfl)), (by have h9 := ti_rng r21; omega), (fun Q C hk hq => by have hp := xOut.pv (Q := Q) (C := C) (a0 := s0) (a1 := p1) (a2 := p2) (a3 := p3) (h0 := G 38) (q28 ⟨xTok.un hk (show gu_un xcd [602, 603, 604, 605] G G7 from (gu_un.tr gu_un.rf (gu_un.su hU9 rfl))) rfl, by omega⟩) (xSq.un hq (show gu_un xcd [602, 603, 604, 605] G G7 from (gu_un.tr gu_un.rf (gu_un.su hU9 rfl))) rfl) (by omega) (by rw [(show G7 18 0 = G 18 0 from (show gu_un xcd [602, 603, 604, 605] G G7 from (gu_un.tr gu_un.rf (gu_un.su hU9 rfl))) 18 0 (by decide))]; omega) (show G7 38 = G 38 from funext fun k_ => (show gu_un xcd [602, 603, 604, 605] G G7 from (gu_un.tr gu_un.rf (gu_un.su hU9 rfl))) 38 k_ (by simp [xcd])) (by omega) (Int32.toInt_inj.mp (by omega)) (Int32.toInt_inj.mp (by omega)) (Int32.toInt_inj.mp (by omega)); exact Or.inr (Or.inr (Or.inr ⟨(by unfold pvArg; rw [hq.1 1 (by decide) (by decide)]; omega), (by unfold pvOk; rw [hq.1 0 (by decide) (by decide)]; show 1 ≤ psMx (psHr (G 38) s0 (G 18 0).toInt) ((G 18 0).toInt - 1).toNat - p2.toInt * p3.toInt; have hsc := q29; rw [show (G7 6 1).toInt = s0 by omega, show (G7 6 3).toInt = p2.toInt by omega, show (G7 6 4).toInt = p3.toInt by omega] at hsc; omega), by show (G 5 3).toInt < 200; omega, hp.1, cu_x hp q39 (by rw [hq.1 0 (by decide) (by decide)]) (by omega) (show gu_un xcd [602, 603, 604, 605, 608, 613, 614, 615, 616, 617, 618, 619, 620, 2100, 2400, 2700, 4400, 4500, 4600, 4700, 4800] G G23 from (gu_un.tr (gu_un.tr gu_un.rf (gu_un.su hU9 rfl)) (gu_un.su hU25 rfl))) rfl (show gu_un xcd [12, 9000] G35 G42 from (gu_un.tr gu_un.rf (gu_un.su hU44 rfl))) rfl, ⟨q46.1, pvN.at hp.2.2.2 (q46.2.1.trans (show G35 6 15 = G23 6 15 from (show gu_un xcd [503, 504, 3800, 4000, 4100, 4200, 4300] G23 G35 from (gu_un.tr gu_un.rf (gu_un.su hU37 rfl))) 6 15 (by decide))) (q46.2.2.1.trans (show G35 6 16 = G23 6 16 from (show gu_un xcd [503, 504, 3800, 4000, 4100, 4200, 4300] G23 G35 from (gu_un.tr gu_un.rf (gu_un.su hU37 rfl))) 6 16 (by decide))) (q46.2.2.2.1.trans (show G35 6 17 = G23 6 17 from (show gu_un xcd [503, 504, 3800, 4000, 4100, 4200, 4300] G23 G35 from (gu_un.tr gu_un.rf (gu_un.su hU37 rfl))) 6 17 (by decide))) (q46.2.2.2.2.1.trans (show G35 6 18 = G23 6 18 from (show gu_un xcd [503, 504, 3800, 4000, 4100, 4200, 4300] G23 G35 from (gu_un.tr gu_un.rf (gu_un.su hU37 rfl))) 6 18 (by decide))) (q46.2.2.2.2.2.1.trans (show G35 6 13 = G23 6 13 from (show gu_un xcd [503, 504, 3800, 4000, 4100, 4200, 4300] G23 G35 from (gu_un.tr gu_un.rf (gu_un.su hU37 rfl))) 6 13 (by decide))) (q46.2.2.2.2.2.2.1.trans (show G35 6 12 = G23 6 12 from (show gu_un xcd [503, 504, 3800, 4000, 4100, 4200, 4300] G23 G35 from (gu_un.tr gu_un.rf (gu_un.su hU37 rfl))) 6 12 (by decide))) (q46.2.2.2.2.2.2.2.trans (show G35 6 19 = G23 6 19 from (show gu_un xcd [503, 504, 3800, 4000, 4100, 4200, 4300] G23 G35 from (gu_un.tr gu_un.rf (gu_un.su hU37 rfl))) 6 19 (by decide)))⟩⟩)))⟩) rfl rfl dX11_cut_96
        · refine g_bipush F (-3) dX11_cut_76 (by decide) ?_
          exact u_iret F hA hQ hr G23 (⟨hI24, (gu_un.tr (gu_un.tr gu_un.rf (gu_un.su hU9 rfl)) (gu_un.su hU25 rfl)), (by decide), (fun Q C hk hq => Or.inr (Or.inr (Or.inl ⟨(by unfold pvArg; rw [hq.1 1 (by decide) (by decide)]; omega), (by unfold pvOk; rw [hq.1 0 (by decide) (by decide)]; show 1 ≤ psMx (psHr (G 38) s0 (G 18 0).toInt) ((G 18 0).toInt - 1).toNat - p2.toInt * p3.toInt; have hsc := q29; rw [show (G7 6 1).toInt = s0 by omega, show (G7 6 3).toInt = p2.toInt by omega, show (G7 6 4).toInt = p3.toInt by omega] at hsc; omega), by show 200 ≤ (G 5 3).toInt; omega, by decide, pcB.xun (show gu_un xcd [602, 603, 604, 605, 608, 613, 614, 615, 616, 617, 618, 619, 620, 2100, 2400, 2700, 4400, 4500, 4600, 4700, 4800] G G23 from (gu_un.tr (gu_un.tr gu_un.rf (gu_un.su hU9 rfl)) (gu_un.su hU25 rfl))) rfl, pcK.xun (show gu_un xcd [602, 603, 604, 605, 608, 613, 614, 615, 616, 617, 618, 619, 620, 2100, 2400, 2700, 4400, 4500, 4600, 4700, 4800] G G23 from (gu_un.tr (gu_un.tr gu_un.rf (gu_un.su hU9 rfl)) (gu_un.su hU25 rfl))) rfl⟩)))⟩) rfl rfl dX11_cut_78
      · refine g_iload F 0 dX11_cut_60 rfl ?_
        exact u_iret F hA hQ hr G23 (⟨hI24, (gu_un.tr (gu_un.tr gu_un.rf (gu_un.su hU9 rfl)) (gu_un.su hU25 rfl)), (by have h9 := ti_rng r21; omega), (fun Q C hk hq => Or.inr (Or.inl ⟨(by unfold pvArg; rw [hq.1 1 (by decide) (by decide)]; omega), (fun ho => by unfold pvOk at ho; rw [hq.1 0 (by decide) (by decide)] at ho; have ho2 : 1 ≤ psMx (psHr (G 38) s0 (G 18 0).toInt) ((G 18 0).toInt - 1).toNat - p2.toInt * p3.toInt := ho; have hsc := q29; rw [show (G7 6 1).toInt = s0 by omega, show (G7 6 3).toInt = p2.toInt by omega, show (G7 6 4).toInt = p3.toInt by omega] at hsc; omega), by omega, pcB.xun (show gu_un xcd [602, 603, 604, 605, 608, 613, 614, 615, 616, 617, 618, 619, 620, 2100, 2400, 2700, 4400, 4500, 4600, 4700, 4800] G G23 from (gu_un.tr (gu_un.tr gu_un.rf (gu_un.su hU9 rfl)) (gu_un.su hU25 rfl))) rfl, pcK.xun (show gu_un xcd [602, 603, 604, 605, 608, 613, 614, 615, 616, 617, 618, 619, 620, 2100, 2400, 2700, 4400, 4500, 4600, 4700, 4800] G G23 from (gu_un.tr (gu_un.tr gu_un.rf (gu_un.su hU9 rfl)) (gu_un.su hU25 rfl))) rfl⟩))⟩) rfl rfl dX11_cut_62
    · refine v_if_ne F 28 dX11_cut_22 (by decide) 0 rfl (fun c47 => absurd c47 (by decide)) (fun c47 => ?_)
      refine g_bipush F (-2) dX11_cut_25 (by decide) ?_
      exact u_iret F hA hQ hr G7 (⟨hI8, (gu_un.tr gu_un.rf (gu_un.su hU9 rfl)), (by decide), (fun Q C hk hq => Or.inl ⟨fun ha => by obtain ⟨b0, b1, b2, b3, b4, b5, b6, b7, b8, b9, b10, b11⟩ := ha; rw [hq.1 1 (by decide) (by decide)] at b1; omega, by decide, pcB.xun (show gu_un xcd [602, 603, 604, 605] G G7 from (gu_un.tr gu_un.rf (gu_un.su hU9 rfl))) rfl, pcK.xun (show gu_un xcd [602, 603, 604, 605] G G7 from (gu_un.tr gu_un.rf (gu_un.su hU9 rfl))) rfl⟩)⟩) rfl rfl dX11_cut_27
  · have q13 : ¬ (0 ≤ s0 ∧ s0 < (G 18 1).toInt ∧ 1 ≤ s1 ∧ s1 ≤ 9 ∧ 1 ≤ s2 ∧ s2 ≤ 20 ∧ 1 ≤ s3 ∧ s3 ≤ 12) := by have h9 := q13; (try simp only [(show G7 18 1 = (G 18 1) from hU9 18 1 (by decide))] at h9); exact h9
    refine v_if_eq F 25 dX11_cut_12 (by decide) 0 rfl (fun c48 => ?_) (fun c48 => absurd c48 (by decide))
    refine g_bipush F (-2) dX11_cut_25 (by decide) ?_
    exact u_iret F hA hQ hr G7 (⟨hI8, (gu_un.tr gu_un.rf (gu_un.su hU9 rfl)), (by decide), (fun Q C hk hq => Or.inl ⟨fun ha => by obtain ⟨b0, b1, b2, b3, b4, b5, b6, b7, b8, b9, b10, b11⟩ := ha; rw [hq.1 1 (by decide) (by decide)] at b1; omega, by decide, pcB.xun (show gu_un xcd [602, 603, 604, 605] G G7 from (gu_un.tr gu_un.rf (gu_un.su hU9 rfl))) rfl, pcK.xun (show gu_un xcd [602, 603, 604, 605] G G7 from (gu_un.tr gu_un.rf (gu_un.su hU9 rfl))) rfl⟩)⟩) rfl rfl dX11_cut_27

theorem dX11_sure_0 : decode cX11_sure 0 = .ok (.aload_n 0, 1) := by decide +kernel
theorem dX11_sure_1 : decode cX11_sure 1 = .ok (.getfield 47, 3) := by decide +kernel
theorem dX11_sure_4 : decode cX11_sure 4 = .ok (.iload_n 1, 1) := by decide +kernel
theorem dX11_sure_5 : decode cX11_sure 5 = .ok (.iload_n 2, 1) := by decide +kernel
theorem dX11_sure_6 : decode cX11_sure 6 = .ok (.iload_n 3, 1) := by decide +kernel
theorem dX11_sure_7 : decode cX11_sure 7 = .ok (.iload 4, 2) := by decide +kernel
theorem dX11_sure_9 : decode cX11_sure 9 = .ok (.invokevirtual 164, 3) := by decide +kernel
theorem dX11_sure_12 : decode cX11_sure 12 = .ok (.ifCond .eq 13, 3) := by decide +kernel
theorem dX11_sure_15 : decode cX11_sure 15 = .ok (.aload_n 0, 1) := by decide +kernel
theorem dX11_sure_16 : decode cX11_sure 16 = .ok (.getfield 56, 3) := by decide +kernel
theorem dX11_sure_19 : decode cX11_sure 19 = .ok (.invokevirtual 212, 3) := by decide +kernel
theorem dX11_sure_22 : decode cX11_sure 22 = .ok (.goto 5, 3) := by decide +kernel
theorem dX11_sure_25 : decode cX11_sure 25 = .ok (.bipush (-2), 2) := by decide +kernel
theorem dX11_sure_27 : decode cX11_sure 27 = .ok (.ireturn, 1) := by decide +kernel
set_option maxRecDepth 20000 in
theorem ggX11_sure_X0_sureness : GoodIn wsX11_sure wsX0_sureness := goodIn_r _ [23, 24, 25, 26, 27, 28, 29, 30, 31, 32, 6, 33, 12, 34, 8, 35, 36, 37, 38, 39, 10, 11, 40, 41, 9, 42, 13, 14, 15, 16, 17, 18, 43, 44, 45, 46, 47, 48, 49, 50, 51, 52, 53, 54, 55, 56, 57, 58, 59, 60, 61, 62, 63, 64, 65, 66, 67, 68, 69, 70, 71, 72, 73, 74, 75, 76, 77, 78, 79, 80, 81, 82, 83, 84, 85, 86, 87, 88, 89, 90, 91, 92, 93, 94, 95, 96, 97, 98, 99, 100, 101, 102, 103, 104, 105, 106, 107, 108, 109, 110, 111, 112, 113, 114, 115, 116, 117, 118, 119, 120, 121, 122, 123, 124, 125, 164, 165, 166, 167, 168, 169, 170, 171, 160, 161, 162, 163, 172, 173, 174, 175, 176, 140, 141, 142, 143, 144, 145, 146, 147, 148, 149, 150, 151, 152, 153, 154, 155, 156, 157, 158, 159, 177, 178, 179, 180, 181, 182, 183, 184, 185] rfl (by decide +kernel)
set_option maxRecDepth 20000 in
theorem gX11_sure_X0_sureness : GoodIn wsX11_sure (wsV RX11 212 RX0 yX0_sureness wsX0_sureness) := goodIn_app (goodIn_of _ (by decide +kernel)) ggX11_sure_X0_sureness
set_option maxRecDepth 20000 in
theorem ggX11_sure_X5_takes : GoodIn wsX11_sure wsX5_takes := goodIn_r _ [7, 8, 9, 10, 11, 12, 13, 14, 15, 16, 17, 18, 140, 141, 142, 143, 144, 145, 146, 147, 148, 149, 150, 151, 152, 153, 154, 155, 156, 157, 158, 159, 160, 161, 162, 163] rfl (by decide +kernel)
set_option maxRecDepth 20000 in
theorem gX11_sure_X5_takes : GoodIn wsX11_sure (wsV RX11 164 RX5 yX5_takes wsX5_takes) := goodIn_app (goodIn_of _ (by decide +kernel)) ggX11_sure_X5_takes
set_option maxHeartbeats 4000000 in
set_option maxRecDepth 100000 in
theorem S_X11_sure (l : Launch) (D : va_G) (K : Nat → ClassId) (a : Nat → Nat) (G : gS) (p0 : Int32) (s0 : Int) (p1 : Int32) (s1 : Int) (p2 : Int32) (s2 : Int) (p3 : Int32) (s3 : Int) (e0 : p0.toInt = s0) (e1 : p1.toInt = s1) (e2 : p2.toInt = s2) (e3 : p3.toInt = s3) (hI : xI G) (sz : Nat) : Ki l yX11_sure wsX11_sure 6 173 0 0 D [.ref (a 0), .int p0, .int p1, .int p2, .int p3] (xW K a G) (tK K) sz (fun (r : Int32) (G' : gS) => (xI G') ∧ (gu_un xcd [602, 603, 604, 605, 608, 613, 614, 615, 616, 617, 618, 619, 620, 2100, 2400, 2700, 4400, 4500, 4600, 4700, 4800] G G') ∧ ((-4) ≤ r.toInt ∧ r.toInt ≤ 2)) (fun (G' : gS) => (xW K a G')) (fun _ => (tK K)) := by
  unfold Ki
  refine g_ofW (cc := cX11_sure) (lv := [(0, .ref (a 0)), (1, .int p0), (2, .int p1), (3, .int p2), (4, .int p3)]) (by decide) rfl (Nat.le_of_ble_eq_true rfl) rfl ?_
  intro p e s m args below meth c A Q hA hQ F hr hnm
  have hts := F.2.2.2.2.1
  have w_0 : (Cond.fieldLink RX11 47 "QuietCut" "lathe" "LQuietCut$Lathe;").before args s = true := hts _ (List.mem_of_getElem? (i := 1) rfl)
  have i_X11 : ∀ w ∈ u_ws RX11 TX11 14, w ∈ wsX11_sure := fun _ h => List.mem_cons_of_mem _ (List.mem_append_left _ (List.mem_append_left _ (List.mem_append_left _ (List.mem_append_left _ (List.mem_append_left _ (List.mem_append_right _ h))))))
  have w_1 : (Cond.fieldLink RX11 56 "QuietCut" "chooser" "LQuietCut$Chooser;").before args s = true := hts _ (List.mem_of_getElem? (i := 2) rfl)
  have rg0 : -2147483648 ≤ s0 ∧ s0 ≤ 2147483647 := e0 ▸ ti_rng p0
  have rg1 : -2147483648 ≤ s1 ∧ s1 ≤ 2147483647 := e1 ▸ ti_rng p1
  have rg2 : -2147483648 ≤ s2 ∧ s2 ≤ 2147483647 := e2 ▸ ti_rng p2
  have rg3 : -2147483648 ≤ s3 ∧ s3 ≤ 2147483647 := e3 ▸ ti_rng p3
  refine g_aload_n F 0 dX11_sure_0 rfl rfl ?_
  refine xg_0_5 F i_X11 w_0 dX11_sure_1 ?_
  refine g_iload_n F 1 dX11_sure_4 rfl rfl ?_
  refine g_iload_n F 2 dX11_sure_5 rfl rfl ?_
  refine g_iload_n F 3 dX11_sure_6 rfl rfl ?_
  refine g_iload F 4 dX11_sure_7 rfl ?_
  refine u_callVi (k := 0) (n := 0) (b := a 6) (As := [.int p0, .int p1, .int p2, .int p3]) (st := []) F (fun sz => S_X5_takes l D K a G p0 s0 p1 s1 p2 s2 p3 s3 e0 e1 e2 e3 hI sz) (cwV 4 hts gX11_sure_X5_takes rfl rfl rfl (by decide +kernel) ⟨Nat.le_of_ble_eq_true rfl, Nat.le_of_ble_eq_true rfl⟩) rfl 6 xc_6 rfl (Nat.le_of_ble_eq_true rfl) ⟨Nat.zero_le _, Nat.zero_le _⟩ dX11_sure_9 (fun r1 G3 hw2 => ?_)
  have hI4 : xI G3 := hw2.1
  have hU5 : gu_un xcd [602, 603, 604, 605] G G3 := hw2.2.1
  have hp6 := hw2.2.2
  have q7 : ((G3 6 1).toInt = s0 ∧ (G3 6 2).toInt = s1 ∧ (G3 6 3).toInt = s2 ∧ (G3 6 4).toInt = s3) := hp6.2
  rcases hp6.1 with ⟨rfl, q8⟩ | ⟨rfl, q9⟩
  · have b10 : (1 : Int) ≤ (G 18 1).toInt ∧ (G 18 1).toInt ≤ 6 := hI 18 1
    have q8 : (0 ≤ s0 ∧ s0 < (G 18 1).toInt ∧ 1 ≤ s1 ∧ s1 ≤ 9 ∧ 1 ≤ s2 ∧ s2 ≤ 20 ∧ 1 ≤ s3 ∧ s3 ≤ 12) := by have h9 := q8; (try simp only [(show G3 18 1 = (G 18 1) from hU5 18 1 (by decide))] at h9); exact h9
    refine v_if_eq F 25 dX11_sure_12 (by decide) 1 rfl (fun c11 => absurd c11 (by decide)) (fun c11 => ?_)
    refine g_aload_n F 0 dX11_sure_15 rfl rfl ?_
    refine xg_0_6 F i_X11 w_1 dX11_sure_16 ?_
    refine u_callVi (k := 0) (n := 0) (b := a 7) (As := []) (st := []) F (fun sz => S_X0_sureness l D K a G3  (by have e9_18_1 : G3 18 1 = (G 18 1) := hU5 18 1 (by decide); (try simp only [e9_18_1, true_and, and_true]) <;> (first | omega | (simp only [Int32.reduceToInt, true_and, and_true, ne_eq, not_true_eq_false, false_and, or_false, false_or, true_or, or_true, false_implies] <;> omega))) hI4 sz) (cwV 0 hts gX11_sure_X0_sureness rfl rfl rfl (by decide +kernel) ⟨Nat.le_of_ble_eq_true rfl, Nat.le_of_ble_eq_true rfl⟩) rfl 7 xc_7 rfl (Nat.le_of_ble_eq_true rfl) ⟨Nat.zero_le _, Nat.zero_le _⟩ dX11_sure_19 (fun r12 G14 hw13 => ?_)
    have hI15 : xI G14 := hw13.1
    have hU16 : gu_un xcd [608, 613, 614, 615, 616, 617, 618, 619, 620, 2100, 2400, 2700, 4400, 4500, 4600, 4700, 4800] G3 G14 := hw13.2.1
    have hp17 := hw13.2.2
    have rg18 := hp17
    clear hp17 hw13
    refine g_goto F 27 dX11_sure_22 (by decide) ?_
    exact u_iret F hA hQ hr G14 (⟨hI15, (gu_un.tr (gu_un.tr gu_un.rf (gu_un.su hU5 rfl)) (gu_un.su hU16 rfl)), (by have h9 := ti_rng r12; omega)⟩) rfl rfl dX11_sure_27
  · have b19 : (1 : Int) ≤ (G 18 1).toInt ∧ (G 18 1).toInt ≤ 6 := hI 18 1
    have q9 : ¬ (0 ≤ s0 ∧ s0 < (G 18 1).toInt ∧ 1 ≤ s1 ∧ s1 ≤ 9 ∧ 1 ≤ s2 ∧ s2 ≤ 20 ∧ 1 ≤ s3 ∧ s3 ≤ 12) := by have h9 := q9; (try simp only [(show G3 18 1 = (G 18 1) from hU5 18 1 (by decide))] at h9); exact h9
    refine v_if_eq F 25 dX11_sure_12 (by decide) 0 rfl (fun c20 => ?_) (fun c20 => absurd c20 (by decide))
    refine g_bipush F (-2) dX11_sure_25 (by decide) ?_
    exact u_iret F hA hQ hr G3 (⟨hI4, (gu_un.tr gu_un.rf (gu_un.su hU5 rfl)), (by decide)⟩) rfl rfl dX11_sure_27

theorem dX11_deepest_0 : decode cX11_deepest 0 = .ok (.aload_n 0, 1) := by decide +kernel
theorem dX11_deepest_1 : decode cX11_deepest 1 = .ok (.getfield 47, 3) := by decide +kernel
theorem dX11_deepest_4 : decode cX11_deepest 4 = .ok (.iload_n 1, 1) := by decide +kernel
theorem dX11_deepest_5 : decode cX11_deepest 5 = .ok (.iload_n 2, 1) := by decide +kernel
theorem dX11_deepest_6 : decode cX11_deepest 6 = .ok (.iconst 1, 1) := by decide +kernel
theorem dX11_deepest_7 : decode cX11_deepest 7 = .ok (.iconst 1, 1) := by decide +kernel
theorem dX11_deepest_8 : decode cX11_deepest 8 = .ok (.invokevirtual 164, 3) := by decide +kernel
theorem dX11_deepest_11 : decode cX11_deepest 11 = .ok (.ifCond .eq 16, 3) := by decide +kernel
theorem dX11_deepest_14 : decode cX11_deepest 14 = .ok (.aload_n 0, 1) := by decide +kernel
theorem dX11_deepest_15 : decode cX11_deepest 15 = .ok (.getfield 56, 3) := by decide +kernel
theorem dX11_deepest_18 : decode cX11_deepest 18 = .ok (.iload_n 1, 1) := by decide +kernel
theorem dX11_deepest_19 : decode cX11_deepest 19 = .ok (.iload_n 2, 1) := by decide +kernel
theorem dX11_deepest_20 : decode cX11_deepest 20 = .ok (.iconst 0, 1) := by decide +kernel
theorem dX11_deepest_21 : decode cX11_deepest 21 = .ok (.invokevirtual 215, 3) := by decide +kernel
theorem dX11_deepest_24 : decode cX11_deepest 24 = .ok (.goto 5, 3) := by decide +kernel
theorem dX11_deepest_27 : decode cX11_deepest 27 = .ok (.bipush (-2), 2) := by decide +kernel
theorem dX11_deepest_29 : decode cX11_deepest 29 = .ok (.ireturn, 1) := by decide +kernel
set_option maxRecDepth 20000 in
theorem ggX11_deepest_X0_deepestFeed : GoodIn wsX11_deepest wsX0_deepestFeed := goodIn_r _ [23, 24, 25, 26, 22, 27, 28, 29, 30, 31, 32, 33, 34, 4, 5, 6, 7, 8, 9, 10, 11, 12, 13, 14, 15, 16, 17, 18, 35, 36, 37, 38, 39, 40, 41, 42, 43, 44, 45, 46, 47, 48, 49, 50, 51, 52, 53, 54, 55, 56, 57, 58, 59, 60, 61, 62, 63, 64, 65, 66, 67, 68, 69, 70, 71, 72, 73, 74, 75, 76, 77, 78, 79, 80, 81, 82, 83, 84, 85, 86, 87, 88, 89, 90, 91, 92, 93, 94, 95, 96, 97, 98, 99, 100, 101, 102, 103, 104, 105, 106, 107, 108, 109, 110, 111, 112, 113, 114, 115, 116, 117, 118, 119, 120, 121, 122, 123, 124, 125, 126, 127, 128, 129, 130, 169, 170, 171, 172, 173, 174, 175, 176, 165, 166, 167, 168, 177, 178, 179, 180, 181, 145, 146, 147, 148, 149, 150, 151, 152, 153, 154, 155, 156, 157, 158, 159, 160, 161, 162, 163, 164, 182, 183, 184, 185, 186, 187, 188, 189, 190] rfl (by decide +kernel)
set_option maxRecDepth 20000 in
theorem gX11_deepest_X0_deepestFeed : GoodIn wsX11_deepest (wsV RX11 215 RX0 yX0_deepestFeed wsX0_deepestFeed) := goodIn_app (goodIn_of _ (by decide +kernel)) ggX11_deepest_X0_deepestFeed
set_option maxRecDepth 20000 in
theorem ggX11_deepest_X5_takes : GoodIn wsX11_deepest wsX5_takes := goodIn_r _ [7, 8, 9, 10, 11, 12, 13, 14, 15, 16, 17, 18, 145, 146, 147, 148, 149, 150, 151, 152, 153, 154, 155, 156, 157, 158, 159, 160, 161, 162, 163, 164, 165, 166, 167, 168] rfl (by decide +kernel)
set_option maxRecDepth 20000 in
theorem gX11_deepest_X5_takes : GoodIn wsX11_deepest (wsV RX11 164 RX5 yX5_takes wsX5_takes) := goodIn_app (goodIn_of _ (by decide +kernel)) ggX11_deepest_X5_takes
set_option maxHeartbeats 4000000 in
set_option maxRecDepth 100000 in
theorem S_X11_deepest (l : Launch) (D : va_G) (K : Nat → ClassId) (a : Nat → Nat) (G : gS) (p0 : Int32) (s0 : Int) (p1 : Int32) (s1 : Int) (e0 : p0.toInt = s0) (e1 : p1.toInt = s1) (hI : xI G) (sz : Nat) : Ki l yX11_deepest wsX11_deepest 7 197 0 0 D [.ref (a 0), .int p0, .int p1] (xW K a G) (tK K) sz (fun (r : Int32) (G' : gS) => (xI G') ∧ (gu_un xcd [602, 603, 604, 605, 608, 613, 614, 615, 616, 617, 618, 619, 620, 2100, 2400, 2700, 4400, 4500, 4600, 4700, 4800] G G') ∧ ((-2) ≤ r.toInt ∧ r.toInt ≤ 20)) (fun (G' : gS) => (xW K a G')) (fun _ => (tK K)) := by
  unfold Ki
  refine g_ofW (cc := cX11_deepest) (lv := [(0, .ref (a 0)), (1, .int p0), (2, .int p1)]) (by decide) rfl (Nat.le_of_ble_eq_true rfl) rfl ?_
  intro p e s m args below meth c A Q hA hQ F hr hnm
  have hts := F.2.2.2.2.1
  have w_0 : (Cond.fieldLink RX11 47 "QuietCut" "lathe" "LQuietCut$Lathe;").before args s = true := hts _ (List.mem_of_getElem? (i := 1) rfl)
  have i_X11 : ∀ w ∈ u_ws RX11 TX11 14, w ∈ wsX11_deepest := fun _ h => List.mem_cons_of_mem _ (List.mem_append_left _ (List.mem_append_left _ (List.mem_append_left _ (List.mem_append_left _ (List.mem_append_left _ (List.mem_append_right _ h))))))
  have w_1 : (Cond.fieldLink RX11 56 "QuietCut" "chooser" "LQuietCut$Chooser;").before args s = true := hts _ (List.mem_of_getElem? (i := 2) rfl)
  have rg0 : -2147483648 ≤ s0 ∧ s0 ≤ 2147483647 := e0 ▸ ti_rng p0
  have rg1 : -2147483648 ≤ s1 ∧ s1 ≤ 2147483647 := e1 ▸ ti_rng p1
  refine g_aload_n F 0 dX11_deepest_0 rfl rfl ?_
  refine xg_0_5 F i_X11 w_0 dX11_deepest_1 ?_
  refine g_iload_n F 1 dX11_deepest_4 rfl rfl ?_
  refine g_iload_n F 2 dX11_deepest_5 rfl rfl ?_
  refine g_iconst F 1 dX11_deepest_6 (by decide) ?_
  refine g_iconst F 1 dX11_deepest_7 (by decide) ?_
  refine u_callVi (k := 0) (n := 0) (b := a 6) (As := [.int p0, .int p1, .int 1, .int 1]) (st := []) F (fun sz => S_X5_takes l D K a G p0 s0 p1 s1 1 1 1 1 e0 e1 rfl rfl hI sz) (cwV 4 hts gX11_deepest_X5_takes rfl rfl rfl (by decide +kernel) ⟨Nat.le_of_ble_eq_true rfl, Nat.le_of_ble_eq_true rfl⟩) rfl 6 xc_6 rfl (Nat.le_of_ble_eq_true rfl) ⟨Nat.zero_le _, Nat.zero_le _⟩ dX11_deepest_8 (fun r1 G3 hw2 => ?_)
  have hI4 : xI G3 := hw2.1
  have hU5 : gu_un xcd [602, 603, 604, 605] G G3 := hw2.2.1
  have hp6 := hw2.2.2
  have q7 : ((G3 6 1).toInt = s0 ∧ (G3 6 2).toInt = s1 ∧ (G3 6 3).toInt = (1 : Int) ∧ (G3 6 4).toInt = (1 : Int)) := hp6.2
  rcases hp6.1 with ⟨rfl, q8⟩ | ⟨rfl, q9⟩
  · have b10 : (1 : Int) ≤ (G 18 1).toInt ∧ (G 18 1).toInt ≤ 6 := hI 18 1
    have q8 : (0 ≤ s0 ∧ s0 < (G 18 1).toInt ∧ 1 ≤ s1 ∧ s1 ≤ 9 ∧ 1 ≤ (1 : Int) ∧ (1 : Int) ≤ 20 ∧ 1 ≤ (1 : Int) ∧ (1 : Int) ≤ 12) := by have h9 := q8; (try simp only [(show G3 18 1 = (G 18 1) from hU5 18 1 (by decide))] at h9); exact h9
    refine v_if_eq F 27 dX11_deepest_11 (by decide) 1 rfl (fun c11 => absurd c11 (by decide)) (fun c11 => ?_)
    refine g_aload_n F 0 dX11_deepest_14 rfl rfl ?_
    refine xg_0_6 F i_X11 w_1 dX11_deepest_15 ?_
    refine g_iload_n F 1 dX11_deepest_18 rfl rfl ?_
    refine g_iload_n F 2 dX11_deepest_19 rfl rfl ?_
    refine g_iconst F 0 dX11_deepest_20 (by decide) ?_
    refine u_callVi (k := 0) (n := 0) (b := a 7) (As := [.int p0, .int p1, .int 0]) (st := []) F (fun sz => S_X0_deepestFeed l D K a G3 p0 s0 p1 s1 0 0 e0 e1 rfl hI4 sz) (cwV 3 hts gX11_deepest_X0_deepestFeed rfl rfl rfl (by decide +kernel) ⟨Nat.le_of_ble_eq_true rfl, Nat.le_of_ble_eq_true rfl⟩) rfl 7 xc_7 rfl (Nat.le_of_ble_eq_true rfl) ⟨Nat.zero_le _, Nat.zero_le _⟩ dX11_deepest_21 (fun r12 G14 hw13 => ?_)
    have hI15 : xI G14 := hw13.1
    have hU16 : gu_un xcd [602, 603, 604, 605, 608, 613, 614, 615, 616, 617, 618, 619, 620, 2100, 2400, 2700, 4400, 4500, 4600, 4700, 4800] G3 G14 := hw13.2.1
    have hp17 := hw13.2.2
    have rg18 := hp17
    clear hp17 hw13
    refine g_goto F 29 dX11_deepest_24 (by decide) ?_
    exact u_iret F hA hQ hr G14 (⟨hI15, (gu_un.tr (gu_un.tr gu_un.rf (gu_un.su hU5 rfl)) (gu_un.su hU16 rfl)), (by have h9 := ti_rng r12; omega)⟩) rfl rfl dX11_deepest_29
  · have b19 : (1 : Int) ≤ (G 18 1).toInt ∧ (G 18 1).toInt ≤ 6 := hI 18 1
    have q9 : ¬ (0 ≤ s0 ∧ s0 < (G 18 1).toInt ∧ 1 ≤ s1 ∧ s1 ≤ 9 ∧ 1 ≤ (1 : Int) ∧ (1 : Int) ≤ 20 ∧ 1 ≤ (1 : Int) ∧ (1 : Int) ≤ 12) := by have h9 := q9; (try simp only [(show G3 18 1 = (G 18 1) from hU5 18 1 (by decide))] at h9); exact h9
    refine v_if_eq F 27 dX11_deepest_11 (by decide) 0 rfl (fun c20 => ?_) (fun c20 => absurd c20 (by decide))
    refine g_bipush F (-2) dX11_deepest_27 (by decide) ?_
    exact u_iret F hA hQ hr G3 (⟨hI4, (gu_un.tr gu_un.rf (gu_un.su hU5 rfl)), (by decide)⟩) rfl rfl dX11_deepest_29

theorem dX11_best_0 : decode cX11_best 0 = .ok (.aload_n 0, 1) := by decide +kernel
theorem dX11_best_1 : decode cX11_best 1 = .ok (.getfield 19, 3) := by decide +kernel
theorem dX11_best_4 : decode cX11_best 4 = .ok (.iload_n 1, 1) := by decide +kernel
theorem dX11_best_5 : decode cX11_best 5 = .ok (.invokevirtual 219, 3) := by decide +kernel
theorem dX11_best_8 : decode cX11_best 8 = .ok (.ifCond .eq 14, 3) := by decide +kernel
theorem dX11_best_11 : decode cX11_best 11 = .ok (.aload_n 0, 1) := by decide +kernel
theorem dX11_best_12 : decode cX11_best 12 = .ok (.getfield 56, 3) := by decide +kernel
theorem dX11_best_15 : decode cX11_best 15 = .ok (.iload_n 1, 1) := by decide +kernel
theorem dX11_best_16 : decode cX11_best 16 = .ok (.invokevirtual 222, 3) := by decide +kernel
theorem dX11_best_19 : decode cX11_best 19 = .ok (.goto 5, 3) := by decide +kernel
theorem dX11_best_22 : decode cX11_best 22 = .ok (.bipush (-2), 2) := by decide +kernel
theorem dX11_best_24 : decode cX11_best 24 = .ok (.ireturn, 1) := by decide +kernel
set_option maxRecDepth 20000 in
theorem ggX11_best_X0_bestSpeed : GoodIn wsX11_best wsX0_bestSpeed := goodIn_r _ [13, 14, 15, 16, 17, 6, 18, 8, 19, 20, 21, 22, 23, 24, 25, 26, 27, 28, 29, 12, 30, 31, 32, 33, 34, 35, 36, 37, 38, 39, 40, 41, 42, 43, 44, 45, 46, 47, 48, 49, 50, 4, 5, 7, 51, 52, 53, 54, 55, 56, 57, 58, 59, 60, 61, 62, 63, 64, 65, 66, 67, 68, 69, 70, 71, 72, 73, 74, 75, 76, 77, 78, 79, 80, 81, 82, 83, 84, 85, 86, 87, 88, 89, 90, 91, 92, 93, 94, 95, 96, 97, 98, 99, 100, 101, 102, 103, 104, 105, 106, 107, 108, 109, 110, 111, 112, 113, 114, 115, 116, 117, 118, 119, 120, 121, 122, 123, 124, 125, 126, 127, 128, 129, 130, 131, 132, 133, 134, 135, 136, 137, 138, 139, 140, 159, 160, 161, 162, 163, 164, 165, 166, 155, 156, 157, 158, 167, 168, 169, 170, 171, 172, 173, 174, 175, 176, 177, 178, 179, 180, 181, 182, 183, 184, 185, 186, 187, 188, 189, 190, 191, 192, 193, 194, 195, 196, 197, 198, 199, 200] rfl (by decide +kernel)
set_option maxRecDepth 20000 in
theorem gX11_best_X0_bestSpeed : GoodIn wsX11_best (wsV RX11 222 RX0 yX0_bestSpeed wsX0_bestSpeed) := goodIn_app (goodIn_of _ (by decide +kernel)) ggX11_best_X0_bestSpeed
set_option maxRecDepth 20000 in
theorem ggX11_best_X7_hasRing : GoodIn wsX11_best wsX7_hasRing := goodIn_r _ [7, 8, 155, 156, 157, 158] rfl (by decide +kernel)
set_option maxRecDepth 20000 in
theorem gX11_best_X7_hasRing : GoodIn wsX11_best (wsV RX11 219 RX7 yX7_hasRing wsX7_hasRing) := goodIn_app (goodIn_of _ (by decide +kernel)) ggX11_best_X7_hasRing
set_option maxHeartbeats 4000000 in
set_option maxRecDepth 100000 in
theorem S_X11_best (l : Launch) (D : va_G) (K : Nat → ClassId) (a : Nat → Nat) (G : gS) (p0 : Int32) (s0 : Int) (e0 : p0.toInt = s0) (hI : xI G) (sz : Nat) : Ki l yX11_best wsX11_best 8 225 0 0 D [.ref (a 0), .int p0] (xW K a G) (tK K) sz (fun (r : Int32) (G' : gS) => (xI G') ∧ (gu_un xcd [602, 603, 604, 605, 608, 613, 614, 615, 616, 617, 618, 619, 620, 2100, 2400, 2700, 4400, 4500, 4600, 4700, 4800] G G') ∧ ((-2) ≤ r.toInt ∧ r.toInt ≤ 9)) (fun (G' : gS) => (xW K a G')) (fun _ => (tK K)) := by
  unfold Ki
  refine g_ofW (cc := cX11_best) (lv := [(0, .ref (a 0)), (1, .int p0)]) (by decide) rfl (Nat.le_of_ble_eq_true rfl) rfl ?_
  intro p e s m args below meth c A Q hA hQ F hr hnm
  have hts := F.2.2.2.2.1
  have w_0 : (Cond.fieldLink RX11 19 "QuietCut" "shop" "LQuietCut$Shop;").before args s = true := hts _ (List.mem_of_getElem? (i := 1) rfl)
  have i_X11 : ∀ w ∈ u_ws RX11 TX11 14, w ∈ wsX11_best := fun _ h => List.mem_cons_of_mem _ (List.mem_append_left _ (List.mem_append_left _ (List.mem_append_left _ (List.mem_append_left _ (List.mem_append_left _ (List.mem_append_right _ h))))))
  have w_1 : (Cond.fieldLink RX11 56 "QuietCut" "chooser" "LQuietCut$Chooser;").before args s = true := hts _ (List.mem_of_getElem? (i := 2) rfl)
  have rg0 : -2147483648 ≤ s0 ∧ s0 ≤ 2147483647 := e0 ▸ ti_rng p0
  refine g_aload_n F 0 dX11_best_0 rfl rfl ?_
  refine xg_0_1 F i_X11 w_0 dX11_best_1 ?_
  refine g_iload_n F 1 dX11_best_4 rfl rfl ?_
  refine u_callVi (k := 0) (n := 0) (b := a 2) (As := [.int p0]) (st := []) F (fun sz => S_X7_hasRing_2 l D K a G p0 s0 e0 hI sz) (cwV 1 hts gX11_best_X7_hasRing rfl rfl rfl (by decide +kernel) ⟨Nat.le_of_ble_eq_true rfl, Nat.le_of_ble_eq_true rfl⟩) rfl 2 xc_2 rfl (Nat.le_of_ble_eq_true rfl) ⟨Nat.zero_le _, Nat.zero_le _⟩ dX11_best_5 (fun r1 _ hw2 => ?_)
  rcases hw2 with ⟨rfl, q4⟩ | ⟨rfl, q5⟩
  · have b6 : (1 : Int) ≤ (G 18 1).toInt ∧ (G 18 1).toInt ≤ 6 := hI 18 1
    have q4 : (0 ≤ s0 ∧ s0 < (G 18 1).toInt) := q4
    refine v_if_eq F 22 dX11_best_8 (by decide) 1 rfl (fun c7 => absurd c7 (by decide)) (fun c7 => ?_)
    refine g_aload_n F 0 dX11_best_11 rfl rfl ?_
    refine xg_0_6 F i_X11 w_1 dX11_best_12 ?_
    refine g_iload_n F 1 dX11_best_15 rfl rfl ?_
    refine u_callVi (k := 0) (n := 0) (b := a 7) (As := [.int p0]) (st := []) F (fun sz => S_X0_bestSpeed l D K a G p0 s0 e0 hI sz) (cwV 1 hts gX11_best_X0_bestSpeed rfl rfl rfl (by decide +kernel) ⟨Nat.le_of_ble_eq_true rfl, Nat.le_of_ble_eq_true rfl⟩) rfl 7 xc_7 rfl (Nat.le_of_ble_eq_true rfl) ⟨Nat.zero_le _, Nat.zero_le _⟩ dX11_best_16 (fun r8 G10 hw9 => ?_)
    have hI11 : xI G10 := hw9.1
    have hU12 : gu_un xcd [602, 603, 604, 605, 608, 613, 614, 615, 616, 617, 618, 619, 620, 2100, 2400, 2700, 4400, 4500, 4600, 4700, 4800] G G10 := hw9.2.1
    have hp13 := hw9.2.2
    have rg14 := hp13
    clear hp13 hw9
    refine g_goto F 24 dX11_best_19 (by decide) ?_
    exact u_iret F hA hQ hr G10 (⟨hI11, (gu_un.tr gu_un.rf (gu_un.su hU12 rfl)), (by have h9 := ti_rng r8; omega)⟩) rfl rfl dX11_best_24
  · have b15 : (1 : Int) ≤ (G 18 1).toInt ∧ (G 18 1).toInt ≤ 6 := hI 18 1
    have q5 : (s0 < 0 ∨ (G 18 1).toInt ≤ s0) := q5
    refine v_if_eq F 22 dX11_best_8 (by decide) 0 rfl (fun c16 => ?_) (fun c16 => absurd c16 (by decide))
    refine g_bipush F (-2) dX11_best_22 (by decide) ?_
    exact u_iret F hA hQ hr G (⟨hI, gu_un.rf, (by decide)⟩) rfl rfl dX11_best_24

theorem dX11_plan_0 : decode cX11_plan 0 = .ok (.aload_n 0, 1) := by decide +kernel
theorem dX11_plan_1 : decode cX11_plan 1 = .ok (.getfield 19, 3) := by decide +kernel
theorem dX11_plan_4 : decode cX11_plan 4 = .ok (.iload_n 1, 1) := by decide +kernel
theorem dX11_plan_5 : decode cX11_plan 5 = .ok (.invokevirtual 219, 3) := by decide +kernel
theorem dX11_plan_8 : decode cX11_plan 8 = .ok (.ifCond .eq 15, 3) := by decide +kernel
theorem dX11_plan_11 : decode cX11_plan 11 = .ok (.iload_n 2, 1) := by decide +kernel
theorem dX11_plan_12 : decode cX11_plan 12 = .ok (.iconst 1, 1) := by decide +kernel
theorem dX11_plan_13 : decode cX11_plan 13 = .ok (.if_icmp .lt 10, 3) := by decide +kernel
theorem dX11_plan_16 : decode cX11_plan 16 = .ok (.iload_n 2, 1) := by decide +kernel
theorem dX11_plan_17 : decode cX11_plan 17 = .ok (.sipush 400, 3) := by decide +kernel
theorem dX11_plan_20 : decode cX11_plan 20 = .ok (.if_icmp .le 6, 3) := by decide +kernel
theorem dX11_plan_23 : decode cX11_plan 23 = .ok (.bipush (-2), 2) := by decide +kernel
theorem dX11_plan_25 : decode cX11_plan 25 = .ok (.ireturn, 1) := by decide +kernel
theorem dX11_plan_26 : decode cX11_plan 26 = .ok (.aload_n 0, 1) := by decide +kernel
theorem dX11_plan_27 : decode cX11_plan 27 = .ok (.getfield 56, 3) := by decide +kernel
theorem dX11_plan_30 : decode cX11_plan 30 = .ok (.iload_n 1, 1) := by decide +kernel
theorem dX11_plan_31 : decode cX11_plan 31 = .ok (.iload_n 2, 1) := by decide +kernel
theorem dX11_plan_32 : decode cX11_plan 32 = .ok (.invokevirtual 225, 3) := by decide +kernel
theorem dX11_plan_35 : decode cX11_plan 35 = .ok (.ireturn, 1) := by decide +kernel
set_option maxRecDepth 20000 in
theorem ggX11_plan_X0_planTime : GoodIn wsX11_plan wsX0_planTime := goodIn_r _ [13, 14, 15, 16, 17, 18, 19, 20, 21, 22, 23, 12, 24, 25, 26, 27, 28, 29, 30, 31, 32, 33, 34, 35, 36, 37, 38, 39, 40, 41, 42, 43, 44, 45, 46, 47, 48, 4, 5, 6, 7, 8, 49, 50, 51, 52, 53, 54, 55, 56, 57, 58, 59, 60, 61, 62, 63, 64, 65, 66, 67, 68, 69, 70, 71, 72, 73, 74, 75, 76, 77, 78, 79, 80, 81, 82, 83, 84, 85, 86, 87, 88, 89, 90, 91, 92, 93, 94, 95, 96, 97, 98, 99, 100, 101, 102, 103, 104, 105, 106, 107, 108, 109, 110, 111, 112, 113, 114, 115, 116, 117, 118, 119, 120, 121, 122, 123, 124, 125, 126, 127, 128, 129, 130, 131, 132, 133, 134, 135, 136, 137, 138, 139, 140, 141, 142, 143, 144, 145, 146, 147, 148, 149, 150, 151, 152, 153, 154, 155, 156, 157, 158, 159, 160, 161, 162, 163, 164, 165, 166, 167, 186, 187, 188, 189, 190, 191, 192, 193, 182, 183, 184, 185, 194, 195, 196, 197, 198, 199, 200, 201, 202, 203, 204, 205, 206, 207, 208, 209, 210, 211, 212, 213, 214, 215, 216, 217, 218, 219, 220, 221, 222, 223, 224, 225, 226, 227] rfl (by decide +kernel)
set_option maxRecDepth 20000 in
theorem gX11_plan_X0_planTime : GoodIn wsX11_plan (wsV RX11 225 RX0 yX0_planTime wsX0_planTime) := goodIn_app (goodIn_of _ (by decide +kernel)) ggX11_plan_X0_planTime
set_option maxRecDepth 20000 in
theorem ggX11_plan_X7_hasRing : GoodIn wsX11_plan wsX7_hasRing := goodIn_r _ [7, 8, 182, 183, 184, 185] rfl (by decide +kernel)
set_option maxRecDepth 20000 in
theorem gX11_plan_X7_hasRing : GoodIn wsX11_plan (wsV RX11 219 RX7 yX7_hasRing wsX7_hasRing) := goodIn_app (goodIn_of _ (by decide +kernel)) ggX11_plan_X7_hasRing
set_option maxHeartbeats 4000000 in
set_option maxRecDepth 100000 in
theorem S_X11_plan (l : Launch) (D : va_G) (K : Nat → ClassId) (a : Nat → Nat) (G : gS) (p0 : Int32) (s0 : Int) (p1 : Int32) (s1 : Int) (e0 : p0.toInt = s0) (e1 : p1.toInt = s1) (hI : xI G) (sz : Nat) : Ki l yX11_plan wsX11_plan 8 221 0 0 D [.ref (a 0), .int p0, .int p1] (xW K a G) (tK K) sz (fun (r : Int32) (G' : gS) => (xI G') ∧ (gu_un xcd [602, 603, 604, 605, 608, 613, 614, 615, 616, 617, 618, 619, 620, 708, 2100, 2400, 2700, 4400, 4500, 4600, 4700, 4800, 4900, 5000, 5100, 5200] G G')) (fun (G' : gS) => (xW K a G')) (fun _ => (tK K)) := by
  unfold Ki
  refine g_ofW (cc := cX11_plan) (lv := [(0, .ref (a 0)), (1, .int p0), (2, .int p1)]) (by decide) rfl (Nat.le_of_ble_eq_true rfl) rfl ?_
  intro p e s m args below meth c A Q hA hQ F hr hnm
  have hts := F.2.2.2.2.1
  have w_0 : (Cond.fieldLink RX11 19 "QuietCut" "shop" "LQuietCut$Shop;").before args s = true := hts _ (List.mem_of_getElem? (i := 1) rfl)
  have i_X11 : ∀ w ∈ u_ws RX11 TX11 14, w ∈ wsX11_plan := fun _ h => List.mem_cons_of_mem _ (List.mem_append_left _ (List.mem_append_left _ (List.mem_append_left _ (List.mem_append_left _ (List.mem_append_left _ (List.mem_append_right _ h))))))
  have w_1 : (Cond.fieldLink RX11 56 "QuietCut" "chooser" "LQuietCut$Chooser;").before args s = true := hts _ (List.mem_of_getElem? (i := 2) rfl)
  have rg0 : -2147483648 ≤ s0 ∧ s0 ≤ 2147483647 := e0 ▸ ti_rng p0
  have rg1 : -2147483648 ≤ s1 ∧ s1 ≤ 2147483647 := e1 ▸ ti_rng p1
  refine g_aload_n F 0 dX11_plan_0 rfl rfl ?_
  refine xg_0_1 F i_X11 w_0 dX11_plan_1 ?_
  refine g_iload_n F 1 dX11_plan_4 rfl rfl ?_
  refine u_callVi (k := 0) (n := 0) (b := a 2) (As := [.int p0]) (st := []) F (fun sz => S_X7_hasRing_2 l D K a G p0 s0 e0 hI sz) (cwV 1 hts gX11_plan_X7_hasRing rfl rfl rfl (by decide +kernel) ⟨Nat.le_of_ble_eq_true rfl, Nat.le_of_ble_eq_true rfl⟩) rfl 2 xc_2 rfl (Nat.le_of_ble_eq_true rfl) ⟨Nat.zero_le _, Nat.zero_le _⟩ dX11_plan_5 (fun r1 _ hw2 => ?_)
  rcases hw2 with ⟨rfl, q4⟩ | ⟨rfl, q5⟩
  · have b6 : (1 : Int) ≤ (G 18 1).toInt ∧ (G 18 1).toInt ≤ 6 := hI 18 1
    have q4 : (0 ≤ s0 ∧ s0 < (G 18 1).toInt) := q4
    refine v_if_eq F 23 dX11_plan_8 (by decide) 1 rfl (fun c7 => absurd c7 (by decide)) (fun c7 => ?_)
    refine g_iload_n F 2 dX11_plan_11 rfl rfl ?_
    refine g_iconst F 1 dX11_plan_12 (by decide) ?_
    refine v_icmp_lt F 23 dX11_plan_13 (by decide) s1 1 e1 rfl (fun c8 => ?_) (fun c8 => ?_)
    · refine g_bipush F (-2) dX11_plan_23 (by decide) ?_
      exact u_iret F hA hQ hr G (⟨hI, gu_un.rf⟩) rfl rfl dX11_plan_25
    · refine g_iload_n F 2 dX11_plan_16 rfl rfl ?_
      refine g_sipush F 400 dX11_plan_17 (by decide) ?_
      refine v_icmp_le F 26 dX11_plan_20 (by decide) s1 400 e1 rfl (fun c9 => ?_) (fun c9 => ?_)
      · refine g_aload_n F 0 dX11_plan_26 rfl rfl ?_
        refine xg_0_6 F i_X11 w_1 dX11_plan_27 ?_
        refine g_iload_n F 1 dX11_plan_30 rfl rfl ?_
        refine g_iload_n F 2 dX11_plan_31 rfl rfl ?_
        refine u_callVi (k := 0) (n := 0) (b := a 7) (As := [.int p0, .int p1]) (st := []) F (fun sz => S_X0_planTime l D K a G p0 s0 p1 s1 e0 e1 (by omega) hI sz) (cwV 2 hts gX11_plan_X0_planTime rfl rfl rfl (by decide +kernel) ⟨Nat.le_of_ble_eq_true rfl, Nat.le_of_ble_eq_true rfl⟩) rfl 7 xc_7 rfl (Nat.le_of_ble_eq_true rfl) ⟨Nat.zero_le _, Nat.zero_le _⟩ dX11_plan_32 (fun r10 G12 hw11 => ?_)
        have hI13 : xI G12 := hw11.1
        have hU14 : gu_un xcd [602, 603, 604, 605, 608, 613, 614, 615, 616, 617, 618, 619, 620, 708, 2100, 2400, 2700, 4400, 4500, 4600, 4700, 4800, 4900, 5000, 5100, 5200] G G12 := hw11.2
        exact u_iret F hA hQ hr G12 (⟨hI13, (gu_un.tr gu_un.rf (gu_un.su hU14 rfl))⟩) rfl rfl dX11_plan_35
      · refine g_bipush F (-2) dX11_plan_23 (by decide) ?_
        exact u_iret F hA hQ hr G (⟨hI, gu_un.rf⟩) rfl rfl dX11_plan_25
  · have b16 : (1 : Int) ≤ (G 18 1).toInt ∧ (G 18 1).toInt ≤ 6 := hI 18 1
    have q5 : (s0 < 0 ∨ (G 18 1).toInt ≤ s0) := q5
    refine v_if_eq F 23 dX11_plan_8 (by decide) 0 rfl (fun c17 => ?_) (fun c17 => absurd c17 (by decide))
    refine g_bipush F (-2) dX11_plan_23 (by decide) ?_
    exact u_iret F hA hQ hr G (⟨hI, gu_un.rf⟩) rfl rfl dX11_plan_25

theorem dX11_planned_0 : decode cX11_planned 0 = .ok (.aload_n 0, 1) := by decide +kernel
theorem dX11_planned_1 : decode cX11_planned 1 = .ok (.getfield 56, 3) := by decide +kernel
theorem dX11_planned_4 : decode cX11_planned 4 = .ok (.iload_n 1, 1) := by decide +kernel
theorem dX11_planned_5 : decode cX11_planned 5 = .ok (.invokevirtual 228, 3) := by decide +kernel
theorem dX11_planned_8 : decode cX11_planned 8 = .ok (.ireturn, 1) := by decide +kernel
set_option maxRecDepth 20000 in
theorem ggX11_planned_X0_plannedPass : GoodIn wsX11_planned wsX0_plannedPass := goodIn_r _ [6, 7, 8, 23, 24, 25, 26, 27, 28, 29, 30] rfl (by decide +kernel)
set_option maxRecDepth 20000 in
theorem gX11_planned_X0_plannedPass : GoodIn wsX11_planned (wsV RX11 228 RX0 yX0_plannedPass wsX0_plannedPass) := goodIn_app (goodIn_of _ (by decide +kernel)) ggX11_planned_X0_plannedPass
set_option maxHeartbeats 4000000 in
set_option maxRecDepth 100000 in
theorem S_X11_planned (l : Launch) (D : va_G) (K : Nat → ClassId) (a : Nat → Nat) (G : gS) (p0 : Int32) (s0 : Int) (e0 : p0.toInt = s0) (hI : xI G) (sz : Nat) : Ki l yX11_planned wsX11_planned 2 62 0 0 D [.ref (a 0), .int p0] (xW K a G) (tK K) sz (fun (r : Int32) (_ : Unit) => True) (fun (_ : Unit) => (xW K a G)) (fun _ => (tK K)) := by
  unfold Ki
  refine g_ofW (cc := cX11_planned) (lv := [(0, .ref (a 0)), (1, .int p0)]) (by decide) rfl (Nat.le_of_ble_eq_true rfl) rfl ?_
  intro p e s m args below meth c A Q hA hQ F hr hnm
  have hts := F.2.2.2.2.1
  have w_0 : (Cond.fieldLink RX11 56 "QuietCut" "chooser" "LQuietCut$Chooser;").before args s = true := hts _ (List.mem_of_getElem? (i := 1) rfl)
  have i_X11 : ∀ w ∈ u_ws RX11 TX11 14, w ∈ wsX11_planned := fun _ h => List.mem_cons_of_mem _ (List.mem_append_left _ (List.mem_append_right _ h))
  have rg0 : -2147483648 ≤ s0 ∧ s0 ≤ 2147483647 := e0 ▸ ti_rng p0
  refine g_aload_n F 0 dX11_planned_0 rfl rfl ?_
  refine xg_0_6 F i_X11 w_0 dX11_planned_1 ?_
  refine g_iload_n F 1 dX11_planned_4 rfl rfl ?_
  refine u_callVi (k := 0) (n := 0) (b := a 7) (As := [.int p0]) (st := []) F (fun sz => S_X0_plannedPass l D K a G p0 s0 e0 hI sz) (cwV 1 hts gX11_planned_X0_plannedPass rfl rfl rfl (by decide +kernel) ⟨Nat.le_of_ble_eq_true rfl, Nat.le_of_ble_eq_true rfl⟩) rfl 7 xc_7 rfl (Nat.le_of_ble_eq_true rfl) ⟨Nat.zero_le _, Nat.zero_le _⟩ dX11_planned_5 (fun r1 _ hw2 => ?_)
  exact u_iret F hA hQ hr () (trivial) rfl rfl dX11_planned_8

theorem dX11_bestTeeth_0 : decode cX11_bestTeeth 0 = .ok (.aload_n 0, 1) := by decide +kernel
theorem dX11_bestTeeth_1 : decode cX11_bestTeeth 1 = .ok (.getfield 47, 3) := by decide +kernel
theorem dX11_bestTeeth_4 : decode cX11_bestTeeth 4 = .ok (.iload_n 1, 1) := by decide +kernel
theorem dX11_bestTeeth_5 : decode cX11_bestTeeth 5 = .ok (.iload_n 2, 1) := by decide +kernel
theorem dX11_bestTeeth_6 : decode cX11_bestTeeth 6 = .ok (.iconst 1, 1) := by decide +kernel
theorem dX11_bestTeeth_7 : decode cX11_bestTeeth 7 = .ok (.iconst 1, 1) := by decide +kernel
theorem dX11_bestTeeth_8 : decode cX11_bestTeeth 8 = .ok (.invokevirtual 164, 3) := by decide +kernel
theorem dX11_bestTeeth_11 : decode cX11_bestTeeth 11 = .ok (.ifCond .eq 12, 3) := by decide +kernel
theorem dX11_bestTeeth_14 : decode cX11_bestTeeth 14 = .ok (.iload_n 3, 1) := by decide +kernel
theorem dX11_bestTeeth_15 : decode cX11_bestTeeth 15 = .ok (.iload 4, 2) := by decide +kernel
theorem dX11_bestTeeth_17 : decode cX11_bestTeeth 17 = .ok (.invokestatic 231, 3) := by decide +kernel
theorem dX11_bestTeeth_20 : decode cX11_bestTeeth 20 = .ok (.ifCond .ne 6, 3) := by decide +kernel
theorem dX11_bestTeeth_23 : decode cX11_bestTeeth 23 = .ok (.bipush (-2), 2) := by decide +kernel
theorem dX11_bestTeeth_25 : decode cX11_bestTeeth 25 = .ok (.ireturn, 1) := by decide +kernel
theorem dX11_bestTeeth_26 : decode cX11_bestTeeth 26 = .ok (.aload_n 0, 1) := by decide +kernel
theorem dX11_bestTeeth_27 : decode cX11_bestTeeth 27 = .ok (.getfield 56, 3) := by decide +kernel
theorem dX11_bestTeeth_30 : decode cX11_bestTeeth 30 = .ok (.iload_n 1, 1) := by decide +kernel
theorem dX11_bestTeeth_31 : decode cX11_bestTeeth 31 = .ok (.iload_n 2, 1) := by decide +kernel
theorem dX11_bestTeeth_32 : decode cX11_bestTeeth 32 = .ok (.iload_n 3, 1) := by decide +kernel
theorem dX11_bestTeeth_33 : decode cX11_bestTeeth 33 = .ok (.iload 4, 2) := by decide +kernel
theorem dX11_bestTeeth_35 : decode cX11_bestTeeth 35 = .ok (.invokevirtual 234, 3) := by decide +kernel
theorem dX11_bestTeeth_38 : decode cX11_bestTeeth 38 = .ok (.ireturn, 1) := by decide +kernel
set_option maxRecDepth 20000 in
theorem ggX11_bestTeeth_X0_bestSet : GoodIn wsX11_bestTeeth wsX0_bestSet := goodIn_r _ [34, 35, 24, 25, 26, 27, 28, 29, 30, 36, 37, 38, 6, 39, 40, 41, 42, 43, 21, 44, 45, 46, 47, 48, 49, 50, 51, 52, 53, 54, 4, 5, 7, 8, 9, 10, 11, 12, 13, 14, 15, 16, 17, 18, 55, 56, 57, 58, 59, 60, 61, 62, 63, 64, 65, 66, 67, 68, 69, 70, 71, 72, 73, 74, 75, 76, 77, 78, 79, 80, 81, 82, 83, 84, 85, 86, 87, 88, 89, 90, 91, 92, 93, 94, 95, 96, 97, 98, 99, 100, 101, 102, 103, 104, 105, 106, 107, 108, 109, 110, 111, 112, 113, 114, 115, 116, 117, 118, 119, 120, 121, 122, 123, 124, 125, 126, 127, 128, 129, 130, 131, 132, 133, 134, 135, 136, 137, 138, 139, 140, 141, 142, 143, 144, 145, 146, 147, 148, 149, 188, 189, 190, 191, 192, 193, 194, 195, 164, 165, 166, 167, 168, 169, 170, 171, 172, 173, 174, 175, 176, 177, 178, 179, 180, 181, 182, 183, 184, 185, 186, 187, 196, 197, 198, 199, 200, 201, 202, 203, 204, 205, 206, 207, 208, 209] rfl (by decide +kernel)
set_option maxRecDepth 20000 in
theorem gX11_bestTeeth_X0_bestSet : GoodIn wsX11_bestTeeth (wsV RX11 234 RX0 yX0_bestSet wsX0_bestSet) := goodIn_app (goodIn_of _ (by decide +kernel)) ggX11_bestTeeth_X0_bestSet
set_option maxRecDepth 20000 in
theorem ggX11_bestTeeth_X0_mayChoose : GoodIn wsX11_bestTeeth wsX0_mayChoose := goodIn_r _ [22, 23, 24, 25, 26, 27, 28, 29, 30] rfl (by decide +kernel)
set_option maxRecDepth 20000 in
theorem gX11_bestTeeth_X0_mayChoose : GoodIn wsX11_bestTeeth (va_wsS RX11 231 yX0_mayChoose wsX0_mayChoose) := goodIn_app (goodIn_of _ (by decide +kernel)) ggX11_bestTeeth_X0_mayChoose
set_option maxRecDepth 20000 in
theorem ggX11_bestTeeth_X5_takes : GoodIn wsX11_bestTeeth wsX5_takes := goodIn_r _ [7, 8, 9, 10, 11, 12, 13, 14, 15, 16, 17, 18, 164, 165, 166, 167, 168, 169, 170, 171, 172, 173, 174, 175, 176, 177, 178, 179, 180, 181, 182, 183, 184, 185, 186, 187] rfl (by decide +kernel)
set_option maxRecDepth 20000 in
theorem gX11_bestTeeth_X5_takes : GoodIn wsX11_bestTeeth (wsV RX11 164 RX5 yX5_takes wsX5_takes) := goodIn_app (goodIn_of _ (by decide +kernel)) ggX11_bestTeeth_X5_takes
set_option maxHeartbeats 4000000 in
set_option maxRecDepth 100000 in
theorem S_X11_bestTeeth (l : Launch) (D : va_G) (K : Nat → ClassId) (a : Nat → Nat) (G : gS) (p0 : Int32) (s0 : Int) (p1 : Int32) (s1 : Int) (p2 : Int32) (s2 : Int) (p3 : Int32) (s3 : Int) (e0 : p0.toInt = s0) (e1 : p1.toInt = s1) (e2 : p2.toInt = s2) (e3 : p3.toInt = s3) (hI : xI G) (sz : Nat) : Ki l yX11_bestTeeth wsX11_bestTeeth 8 226 0 0 D [.ref (a 0), .int p0, .int p1, .int p2, .int p3] (xW K a G) (tK K) sz (fun (r : Int32) (G' : gS) => (xI G') ∧ (gu_un xcd [602, 603, 604, 605, 607, 608, 613, 614, 615, 616, 617, 618, 619, 620, 2100, 2400, 2700, 4400, 4500, 4600, 4700, 4800] G G') ∧ (((G' 6 6).toInt = 0 ∨ (G' 6 6).toInt = (G 6 6).toInt))) (fun (G' : gS) => (xW K a G')) (fun _ => (tK K)) := by
  unfold Ki
  refine g_ofW (cc := cX11_bestTeeth) (lv := [(0, .ref (a 0)), (1, .int p0), (2, .int p1), (3, .int p2), (4, .int p3)]) (by decide) rfl (Nat.le_of_ble_eq_true rfl) rfl ?_
  intro p e s m args below meth c A Q hA hQ F hr hnm
  have hts := F.2.2.2.2.1
  have w_0 : (Cond.fieldLink RX11 47 "QuietCut" "lathe" "LQuietCut$Lathe;").before args s = true := hts _ (List.mem_of_getElem? (i := 1) rfl)
  have i_X11 : ∀ w ∈ u_ws RX11 TX11 14, w ∈ wsX11_bestTeeth := fun _ h => List.mem_cons_of_mem _ (List.mem_append_left _ (List.mem_append_left _ (List.mem_append_left _ (List.mem_append_left _ (List.mem_append_left _ (List.mem_append_right _ h))))))
  have w_1 : (Cond.fieldLink RX11 56 "QuietCut" "chooser" "LQuietCut$Chooser;").before args s = true := hts _ (List.mem_of_getElem? (i := 2) rfl)
  have rg0 : -2147483648 ≤ s0 ∧ s0 ≤ 2147483647 := e0 ▸ ti_rng p0
  have rg1 : -2147483648 ≤ s1 ∧ s1 ≤ 2147483647 := e1 ▸ ti_rng p1
  have rg2 : -2147483648 ≤ s2 ∧ s2 ≤ 2147483647 := e2 ▸ ti_rng p2
  have rg3 : -2147483648 ≤ s3 ∧ s3 ≤ 2147483647 := e3 ▸ ti_rng p3
  refine g_aload_n F 0 dX11_bestTeeth_0 rfl rfl ?_
  refine xg_0_5 F i_X11 w_0 dX11_bestTeeth_1 ?_
  refine g_iload_n F 1 dX11_bestTeeth_4 rfl rfl ?_
  refine g_iload_n F 2 dX11_bestTeeth_5 rfl rfl ?_
  refine g_iconst F 1 dX11_bestTeeth_6 (by decide) ?_
  refine g_iconst F 1 dX11_bestTeeth_7 (by decide) ?_
  refine u_callVi (k := 0) (n := 0) (b := a 6) (As := [.int p0, .int p1, .int 1, .int 1]) (st := []) F (fun sz => S_X5_takes l D K a G p0 s0 p1 s1 1 1 1 1 e0 e1 rfl rfl hI sz) (cwV 4 hts gX11_bestTeeth_X5_takes rfl rfl rfl (by decide +kernel) ⟨Nat.le_of_ble_eq_true rfl, Nat.le_of_ble_eq_true rfl⟩) rfl 6 xc_6 rfl (Nat.le_of_ble_eq_true rfl) ⟨Nat.zero_le _, Nat.zero_le _⟩ dX11_bestTeeth_8 (fun r1 G3 hw2 => ?_)
  have hI4 : xI G3 := hw2.1
  have hU5 : gu_un xcd [602, 603, 604, 605] G G3 := hw2.2.1
  have hp6 := hw2.2.2
  have q7 : ((G3 6 1).toInt = s0 ∧ (G3 6 2).toInt = s1 ∧ (G3 6 3).toInt = (1 : Int) ∧ (G3 6 4).toInt = (1 : Int)) := hp6.2
  rcases hp6.1 with ⟨rfl, q8⟩ | ⟨rfl, q9⟩
  · have b10 : (1 : Int) ≤ (G 18 1).toInt ∧ (G 18 1).toInt ≤ 6 := hI 18 1
    have q8 : (0 ≤ s0 ∧ s0 < (G 18 1).toInt ∧ 1 ≤ s1 ∧ s1 ≤ 9 ∧ 1 ≤ (1 : Int) ∧ (1 : Int) ≤ 20 ∧ 1 ≤ (1 : Int) ∧ (1 : Int) ≤ 12) := by have h9 := q8; (try simp only [(show G3 18 1 = (G 18 1) from hU5 18 1 (by decide))] at h9); exact h9
    refine v_if_eq F 23 dX11_bestTeeth_11 (by decide) 1 rfl (fun c11 => absurd c11 (by decide)) (fun c11 => ?_)
    refine g_iload_n F 3 dX11_bestTeeth_14 rfl rfl ?_
    refine g_iload F 4 dX11_bestTeeth_15 rfl ?_
    refine u_call0 (k := 0) (n := 0) (As := [.int p2, .int p3]) (st := []) F (fun sz => S_X0_mayChoose l D p2 s2 p3 s3 e2 e3 sz) (va_cwS 2 hts gX11_bestTeeth_X0_mayChoose rfl rfl rfl (by decide +kernel) ⟨Nat.le_of_ble_eq_true rfl, Nat.le_of_ble_eq_true rfl⟩) rfl (Nat.le_of_ble_eq_true rfl) ⟨Nat.zero_le _, Nat.zero_le _⟩ dX11_bestTeeth_17 (fun r12 _ hw13 => ?_)
    have rg15 := hw13
    clear hw13
    refine v_if_ne F 26 dX11_bestTeeth_20 (by decide) r12.toInt rfl (fun c16 => ?_) (fun c16 => ?_)
    · refine g_aload_n F 0 dX11_bestTeeth_26 rfl rfl ?_
      refine xg_0_6 F i_X11 w_1 dX11_bestTeeth_27 ?_
      refine g_iload_n F 1 dX11_bestTeeth_30 rfl rfl ?_
      refine g_iload_n F 2 dX11_bestTeeth_31 rfl rfl ?_
      refine g_iload_n F 3 dX11_bestTeeth_32 rfl rfl ?_
      refine g_iload F 4 dX11_bestTeeth_33 rfl ?_
      refine u_callVi (k := 0) (n := 0) (b := a 7) (As := [.int p0, .int p1, .int p2, .int p3]) (st := []) F (fun sz => S_X0_bestSet l D K a G3 p0 s0 p1 s1 p2 s2 p3 s3 e0 e1 e2 e3 hI4 sz) (cwV 4 hts gX11_bestTeeth_X0_bestSet rfl rfl rfl (by decide +kernel) ⟨Nat.le_of_ble_eq_true rfl, Nat.le_of_ble_eq_true rfl⟩) rfl 7 xc_7 rfl (Nat.le_of_ble_eq_true rfl) ⟨Nat.zero_le _, Nat.zero_le _⟩ dX11_bestTeeth_35 (fun r17 G19 hw18 => ?_)
      have hI20 : xI G19 := hw18.1
      have hU21 : gu_un xcd [602, 603, 604, 605, 607, 608, 613, 614, 615, 616, 617, 618, 619, 620, 2100, 2400, 2700, 4400, 4500, 4600, 4700, 4800] G3 G19 := hw18.2.1
      have hp22 := hw18.2.2
      have q23 : ((G19 6 6).toInt = 0) := hp22
      clear hp22 hw18
      exact u_iret F hA hQ hr G19 (⟨hI20, (gu_un.tr (gu_un.tr gu_un.rf (gu_un.su hU5 rfl)) (gu_un.su hU21 rfl)), (by show ((G19 6 6).toInt = 0 ∨ (G19 6 6).toInt = (G 6 6).toInt); (first | omega | (simp only [Int32.reduceToInt, true_and, and_true, ne_eq, not_true_eq_false, false_and, or_false, false_or, true_or, or_true, false_implies] <;> omega)))⟩) rfl rfl dX11_bestTeeth_38
    · refine g_bipush F (-2) dX11_bestTeeth_23 (by decide) ?_
      exact u_iret F hA hQ hr G3 (⟨hI4, (gu_un.tr gu_un.rf (gu_un.su hU5 rfl)), (by show ((G3 6 6).toInt = 0 ∨ (G3 6 6).toInt = (G 6 6).toInt); have e9_6_6 : G3 6 6 = (G 6 6) := hU5 6 6 (by decide); (try simp only [e9_6_6, true_and, and_true]) <;> (first | omega | (simp only [Int32.reduceToInt, true_and, and_true, ne_eq, not_true_eq_false, false_and, or_false, false_or, true_or, or_true, false_implies] <;> omega)))⟩) rfl rfl dX11_bestTeeth_25
  · have b24 : (1 : Int) ≤ (G 18 1).toInt ∧ (G 18 1).toInt ≤ 6 := hI 18 1
    have q9 : ¬ (0 ≤ s0 ∧ s0 < (G 18 1).toInt ∧ 1 ≤ s1 ∧ s1 ≤ 9 ∧ 1 ≤ (1 : Int) ∧ (1 : Int) ≤ 20 ∧ 1 ≤ (1 : Int) ∧ (1 : Int) ≤ 12) := by have h9 := q9; (try simp only [(show G3 18 1 = (G 18 1) from hU5 18 1 (by decide))] at h9); exact h9
    refine v_if_eq F 23 dX11_bestTeeth_11 (by decide) 0 rfl (fun c25 => ?_) (fun c25 => absurd c25 (by decide))
    refine g_bipush F (-2) dX11_bestTeeth_23 (by decide) ?_
    exact u_iret F hA hQ hr G3 (⟨hI4, (gu_un.tr gu_un.rf (gu_un.su hU5 rfl)), (by show ((G3 6 6).toInt = 0 ∨ (G3 6 6).toInt = (G 6 6).toInt); have e9_6_6 : G3 6 6 = (G 6 6) := hU5 6 6 (by decide); (try simp only [e9_6_6, true_and, and_true]) <;> (first | omega | (simp only [Int32.reduceToInt, true_and, and_true, ne_eq, not_true_eq_false, false_and, or_false, false_or, true_or, or_true, false_implies] <;> omega)))⟩) rfl rfl dX11_bestTeeth_25

theorem dX11_job_0 : decode cX11_job 0 = .ok (.aload_n 0, 1) := by decide +kernel
theorem dX11_job_1 : decode cX11_job 1 = .ok (.getfield 47, 3) := by decide +kernel
theorem dX11_job_4 : decode cX11_job 4 = .ok (.iload_n 1, 1) := by decide +kernel
theorem dX11_job_5 : decode cX11_job 5 = .ok (.iload_n 2, 1) := by decide +kernel
theorem dX11_job_6 : decode cX11_job 6 = .ok (.iload_n 3, 1) := by decide +kernel
theorem dX11_job_7 : decode cX11_job 7 = .ok (.iload 4, 2) := by decide +kernel
theorem dX11_job_9 : decode cX11_job 9 = .ok (.invokevirtual 164, 3) := by decide +kernel
theorem dX11_job_12 : decode cX11_job 12 = .ok (.ifCond .eq 18, 3) := by decide +kernel
theorem dX11_job_15 : decode cX11_job 15 = .ok (.aload_n 0, 1) := by decide +kernel
theorem dX11_job_16 : decode cX11_job 16 = .ok (.getfield 65, 3) := by decide +kernel
theorem dX11_job_19 : decode cX11_job 19 = .ok (.iload_n 1, 1) := by decide +kernel
theorem dX11_job_20 : decode cX11_job 20 = .ok (.iload_n 2, 1) := by decide +kernel
theorem dX11_job_21 : decode cX11_job 21 = .ok (.iload_n 3, 1) := by decide +kernel
theorem dX11_job_22 : decode cX11_job 22 = .ok (.iload 4, 2) := by decide +kernel
theorem dX11_job_24 : decode cX11_job 24 = .ok (.invokevirtual 238, 3) := by decide +kernel
theorem dX11_job_27 : decode cX11_job 27 = .ok (.goto 5, 3) := by decide +kernel
theorem dX11_job_30 : decode cX11_job 30 = .ok (.bipush (-2), 2) := by decide +kernel
theorem dX11_job_32 : decode cX11_job 32 = .ok (.ireturn, 1) := by decide +kernel
set_option maxRecDepth 20000 in
theorem ggX11_job_X4_add : GoodIn wsX11_job wsX4_add := goodIn_r _ [23, 24, 25, 26, 65, 66, 67, 68, 69, 70, 71, 72, 73, 74, 75, 76] rfl (by decide +kernel)
set_option maxRecDepth 20000 in
theorem gX11_job_X4_add : GoodIn wsX11_job (wsV RX11 238 RX4 yX4_add wsX4_add) := goodIn_app (goodIn_of _ (by decide +kernel)) ggX11_job_X4_add
set_option maxRecDepth 20000 in
theorem ggX11_job_X5_takes : GoodIn wsX11_job wsX5_takes := goodIn_r _ [7, 8, 9, 10, 11, 12, 13, 14, 15, 16, 17, 18, 41, 42, 43, 44, 45, 46, 47, 48, 49, 50, 51, 52, 53, 54, 55, 56, 57, 58, 59, 60, 61, 62, 63, 64] rfl (by decide +kernel)
set_option maxRecDepth 20000 in
theorem gX11_job_X5_takes : GoodIn wsX11_job (wsV RX11 164 RX5 yX5_takes wsX5_takes) := goodIn_app (goodIn_of _ (by decide +kernel)) ggX11_job_X5_takes
set_option maxHeartbeats 4000000 in
set_option maxRecDepth 100000 in
theorem S_X11_job (l : Launch) (D : va_G) (K : Nat → ClassId) (a : Nat → Nat) (G : gS) (p0 : Int32) (s0 : Int) (p1 : Int32) (s1 : Int) (p2 : Int32) (s2 : Int) (p3 : Int32) (s3 : Int) (e0 : p0.toInt = s0) (e1 : p1.toInt = s1) (e2 : p2.toInt = s2) (e3 : p3.toInt = s3) (hI : xI G) (sz : Nat) : Ki l yX11_job wsX11_job 3 85 0 0 D [.ref (a 0), .int p0, .int p1, .int p2, .int p3] (xW K a G) (tK K) sz (fun (r : Int32) (G' : gS) => (xI G') ∧ (gu_un xcd [602, 603, 604, 605, 804, 809, 5400, 5500, 5600, 5700] G G') ∧ ((-3) ≤ r.toInt ∧ r.toInt ≤ 4) ∧ (((¬ (0 ≤ s0 ∧ s0 < (G 18 1).toInt ∧ 1 ≤ s1 ∧ s1 ≤ 9 ∧ 1 ≤ s2 ∧ s2 ≤ 20 ∧ 1 ≤ s3 ∧ s3 ≤ 12) ∧ r.toInt = -2 ∧ (G' 8 3).toInt = (G 8 3).toInt) ∨ ((0 ≤ s0 ∧ s0 < (G 18 1).toInt ∧ 1 ≤ s1 ∧ s1 ≤ 9 ∧ 1 ≤ s2 ∧ s2 ≤ 20 ∧ 1 ≤ s3 ∧ s3 ≤ 12) ∧ 5 ≤ (G 8 3).toInt ∧ r.toInt = -3 ∧ (G' 8 3).toInt = (G 8 3).toInt) ∨ ((0 ≤ s0 ∧ s0 < (G 18 1).toInt ∧ 1 ≤ s1 ∧ s1 ≤ 9 ∧ 1 ≤ s2 ∧ s2 ≤ 20 ∧ 1 ≤ s3 ∧ s3 ≤ 12) ∧ (G 8 3).toInt < 5 ∧ r.toInt = (G 8 3).toInt ∧ (G' 8 3).toInt = (G 8 3).toInt + 1)))) (fun (G' : gS) => (xW K a G')) (fun _ => (tK K)) := by
  unfold Ki
  refine g_ofW (cc := cX11_job) (lv := [(0, .ref (a 0)), (1, .int p0), (2, .int p1), (3, .int p2), (4, .int p3)]) (by decide) rfl (Nat.le_of_ble_eq_true rfl) rfl ?_
  intro p e s m args below meth c A Q hA hQ F hr hnm
  have hts := F.2.2.2.2.1
  have w_0 : (Cond.fieldLink RX11 47 "QuietCut" "lathe" "LQuietCut$Lathe;").before args s = true := hts _ (List.mem_of_getElem? (i := 1) rfl)
  have i_X11 : ∀ w ∈ u_ws RX11 TX11 14, w ∈ wsX11_job := fun _ h => List.mem_cons_of_mem _ (List.mem_append_left _ (List.mem_append_left _ (List.mem_append_left _ (List.mem_append_right _ h))))
  have w_1 : (Cond.fieldLink RX11 65 "QuietCut" "jobs" "LQuietCut$Jobs;").before args s = true := hts _ (List.mem_of_getElem? (i := 2) rfl)
  have rg0 : -2147483648 ≤ s0 ∧ s0 ≤ 2147483647 := e0 ▸ ti_rng p0
  have rg1 : -2147483648 ≤ s1 ∧ s1 ≤ 2147483647 := e1 ▸ ti_rng p1
  have rg2 : -2147483648 ≤ s2 ∧ s2 ≤ 2147483647 := e2 ▸ ti_rng p2
  have rg3 : -2147483648 ≤ s3 ∧ s3 ≤ 2147483647 := e3 ▸ ti_rng p3
  have b1 : (0 : Int) ≤ (G 8 3).toInt ∧ (G 8 3).toInt ≤ 5 := hI 8 3
  have b2 : (1 : Int) ≤ (G 18 1).toInt ∧ (G 18 1).toInt ≤ 6 := hI 18 1
  refine g_aload_n F 0 dX11_job_0 rfl rfl ?_
  refine xg_0_5 F i_X11 w_0 dX11_job_1 ?_
  refine g_iload_n F 1 dX11_job_4 rfl rfl ?_
  refine g_iload_n F 2 dX11_job_5 rfl rfl ?_
  refine g_iload_n F 3 dX11_job_6 rfl rfl ?_
  refine g_iload F 4 dX11_job_7 rfl ?_
  refine u_callVi (k := 0) (n := 0) (b := a 6) (As := [.int p0, .int p1, .int p2, .int p3]) (st := []) F (fun sz => S_X5_takes l D K a G p0 s0 p1 s1 p2 s2 p3 s3 e0 e1 e2 e3 hI sz) (cwV 4 hts gX11_job_X5_takes rfl rfl rfl (by decide +kernel) ⟨Nat.le_of_ble_eq_true rfl, Nat.le_of_ble_eq_true rfl⟩) rfl 6 xc_6 rfl (Nat.le_of_ble_eq_true rfl) ⟨Nat.zero_le _, Nat.zero_le _⟩ dX11_job_9 (fun r3 G5 hw4 => ?_)
  have hI6 : xI G5 := hw4.1
  have hU7 : gu_un xcd [602, 603, 604, 605] G G5 := hw4.2.1
  have hp8 := hw4.2.2
  have q9 : ((G5 6 1).toInt = s0 ∧ (G5 6 2).toInt = s1 ∧ (G5 6 3).toInt = s2 ∧ (G5 6 4).toInt = s3) := hp8.2
  rcases hp8.1 with ⟨rfl, q10⟩ | ⟨rfl, q11⟩
  · have q10 : (0 ≤ s0 ∧ s0 < (G 18 1).toInt ∧ 1 ≤ s1 ∧ s1 ≤ 9 ∧ 1 ≤ s2 ∧ s2 ≤ 20 ∧ 1 ≤ s3 ∧ s3 ≤ 12) := by have h9 := q10; (try simp only [(show G5 18 1 = (G 18 1) from hU7 18 1 (by decide))] at h9); exact h9
    refine v_if_eq F 30 dX11_job_12 (by decide) 1 rfl (fun c12 => absurd c12 (by decide)) (fun c12 => ?_)
    refine g_aload_n F 0 dX11_job_15 rfl rfl ?_
    refine xg_0_7 F i_X11 w_1 dX11_job_16 ?_
    refine g_iload_n F 1 dX11_job_19 rfl rfl ?_
    refine g_iload_n F 2 dX11_job_20 rfl rfl ?_
    refine g_iload_n F 3 dX11_job_21 rfl rfl ?_
    refine g_iload F 4 dX11_job_22 rfl ?_
    refine u_callVi (k := 0) (n := 0) (b := a 8) (As := [.int p0, .int p1, .int p2, .int p3]) (st := []) F (fun sz => S_X4_add l D K a G5 p0 s0 p1 s1 p2 s2 p3 s3 e0 e1 e2 e3 hI6 sz) (cwV 4 hts gX11_job_X4_add rfl rfl rfl (by decide +kernel) ⟨Nat.le_of_ble_eq_true rfl, Nat.le_of_ble_eq_true rfl⟩) rfl 8 xc_8 rfl (Nat.le_of_ble_eq_true rfl) ⟨Nat.zero_le _, Nat.zero_le _⟩ dX11_job_24 (fun r13 G15 hw14 => ?_)
    have hI16 : xI G15 := hw14.1
    have hU17 : gu_un xcd [804, 809, 5400, 5500, 5600, 5700] G5 G15 := hw14.2.1
    have hp18 := hw14.2.2
    have b19 : (0 : Int) ≤ (G15 8 3).toInt ∧ (G15 8 3).toInt ≤ 5 := hI16 8 3
    have q20 : ((5 ≤ (G 8 3).toInt ∧ r13.toInt = -3 ∧ (G15 8 3).toInt = (G 8 3).toInt) ∨ ((G 8 3).toInt < 5 ∧ r13.toInt = (G 8 3).toInt ∧ (G15 8 3).toInt = (G 8 3).toInt + 1)) := by have h9 := hp18.2; (try simp only [(show G5 8 3 = (G 8 3) from hU7 8 3 (by decide)), (show G5 8 3 = (G 8 3) from hU7 8 3 (by decide)), (show G5 8 3 = (G 8 3) from hU7 8 3 (by decide)), (show G5 8 3 = (G 8 3) from hU7 8 3 (by decide)), (show G5 8 3 = (G 8 3) from hU7 8 3 (by decide))] at h9); first | exact h9 | omega
    have rg21 := hp18.1
    clear hp18 hw14
    refine g_goto F 32 dX11_job_27 (by decide) ?_
    exact u_iret F hA hQ hr G15 (⟨hI16, (gu_un.tr (gu_un.tr gu_un.rf (gu_un.su hU7 rfl)) (gu_un.su hU17 rfl)), (by have h9 := ti_rng r13; omega), (by show ((¬ (0 ≤ s0 ∧ s0 < (G 18 1).toInt ∧ 1 ≤ s1 ∧ s1 ≤ 9 ∧ 1 ≤ s2 ∧ s2 ≤ 20 ∧ 1 ≤ s3 ∧ s3 ≤ 12) ∧ r13.toInt = -2 ∧ (G15 8 3).toInt = (G 8 3).toInt) ∨ ((0 ≤ s0 ∧ s0 < (G 18 1).toInt ∧ 1 ≤ s1 ∧ s1 ≤ 9 ∧ 1 ≤ s2 ∧ s2 ≤ 20 ∧ 1 ≤ s3 ∧ s3 ≤ 12) ∧ 5 ≤ (G 8 3).toInt ∧ r13.toInt = -3 ∧ (G15 8 3).toInt = (G 8 3).toInt) ∨ ((0 ≤ s0 ∧ s0 < (G 18 1).toInt ∧ 1 ≤ s1 ∧ s1 ≤ 9 ∧ 1 ≤ s2 ∧ s2 ≤ 20 ∧ 1 ≤ s3 ∧ s3 ≤ 12) ∧ (G 8 3).toInt < 5 ∧ r13.toInt = (G 8 3).toInt ∧ (G15 8 3).toInt = (G 8 3).toInt + 1)); (first | omega | (simp only [Int32.reduceToInt, true_and, and_true, ne_eq, not_true_eq_false, false_and, or_false, false_or, true_or, or_true, false_implies] <;> omega)))⟩) rfl rfl dX11_job_32
  · have q11 : ¬ (0 ≤ s0 ∧ s0 < (G 18 1).toInt ∧ 1 ≤ s1 ∧ s1 ≤ 9 ∧ 1 ≤ s2 ∧ s2 ≤ 20 ∧ 1 ≤ s3 ∧ s3 ≤ 12) := by have h9 := q11; (try simp only [(show G5 18 1 = (G 18 1) from hU7 18 1 (by decide))] at h9); exact h9
    refine v_if_eq F 30 dX11_job_12 (by decide) 0 rfl (fun c22 => ?_) (fun c22 => absurd c22 (by decide))
    refine g_bipush F (-2) dX11_job_30 (by decide) ?_
    exact u_iret F hA hQ hr G5 (⟨hI6, (gu_un.tr gu_un.rf (gu_un.su hU7 rfl)), (by decide), (by show ((¬ (0 ≤ s0 ∧ s0 < (G 18 1).toInt ∧ 1 ≤ s1 ∧ s1 ≤ 9 ∧ 1 ≤ s2 ∧ s2 ≤ 20 ∧ 1 ≤ s3 ∧ s3 ≤ 12) ∧ (-2) = -2 ∧ (G5 8 3).toInt = (G 8 3).toInt) ∨ ((0 ≤ s0 ∧ s0 < (G 18 1).toInt ∧ 1 ≤ s1 ∧ s1 ≤ 9 ∧ 1 ≤ s2 ∧ s2 ≤ 20 ∧ 1 ≤ s3 ∧ s3 ≤ 12) ∧ 5 ≤ (G 8 3).toInt ∧ (-2) = -3 ∧ (G5 8 3).toInt = (G 8 3).toInt) ∨ ((0 ≤ s0 ∧ s0 < (G 18 1).toInt ∧ 1 ≤ s1 ∧ s1 ≤ 9 ∧ 1 ≤ s2 ∧ s2 ≤ 20 ∧ 1 ≤ s3 ∧ s3 ≤ 12) ∧ (G 8 3).toInt < 5 ∧ (-2) = (G 8 3).toInt ∧ (G5 8 3).toInt = (G 8 3).toInt + 1)); have e9_8_3 : G5 8 3 = (G 8 3) := hU7 8 3 (by decide); (try simp only [e9_8_3, true_and, and_true]) <;> (first | omega | (simp only [Int32.reduceToInt, true_and, and_true, ne_eq, not_true_eq_false, false_and, or_false, false_or, true_or, or_true, false_implies] <;> omega)))⟩) rfl rfl dX11_job_32

theorem dX11_order_0 : decode cX11_order 0 = .ok (.iload_n 1, 1) := by decide +kernel
theorem dX11_order_1 : decode cX11_order 1 = .ok (.iload_n 2, 1) := by decide +kernel
theorem dX11_order_2 : decode cX11_order 2 = .ok (.invokestatic 168, 3) := by decide +kernel
theorem dX11_order_5 : decode cX11_order 5 = .ok (.ifCond .eq 15, 3) := by decide +kernel
theorem dX11_order_8 : decode cX11_order 8 = .ok (.aload_n 0, 1) := by decide +kernel
theorem dX11_order_9 : decode cX11_order 9 = .ok (.getfield 65, 3) := by decide +kernel
theorem dX11_order_12 : decode cX11_order 12 = .ok (.iload_n 1, 1) := by decide +kernel
theorem dX11_order_13 : decode cX11_order 13 = .ok (.iload_n 2, 1) := by decide +kernel
theorem dX11_order_14 : decode cX11_order 14 = .ok (.invokevirtual 240, 3) := by decide +kernel
theorem dX11_order_17 : decode cX11_order 17 = .ok (.goto 5, 3) := by decide +kernel
theorem dX11_order_20 : decode cX11_order 20 = .ok (.bipush (-2), 2) := by decide +kernel
theorem dX11_order_22 : decode cX11_order 22 = .ok (.ireturn, 1) := by decide +kernel
set_option maxRecDepth 20000 in
theorem ggX11_order_X4_leastWaves : GoodIn wsX11_order wsX4_leastWaves := goodIn_r _ [10, 11, 12, 13, 14, 15, 16, 17, 9, 18, 19, 20, 21, 22, 23, 24, 25, 26, 27, 28, 29, 30, 31, 32, 33, 34, 35, 36, 37, 38, 39, 40, 41, 42, 43, 44, 45, 4, 46, 47, 48, 49, 50, 51, 52, 53, 54, 55, 56, 57, 58, 59, 60, 61, 62, 63, 64, 65, 66, 67, 68, 69, 70, 71, 72, 73, 74, 75, 76, 77, 78, 79, 80, 81, 82, 83, 84, 85, 86, 87, 88, 89, 90, 91, 92, 93, 94, 95, 96, 97, 98, 99, 100, 101, 102, 103, 104, 105, 106, 107, 108, 109, 110, 111, 112, 113, 114, 115, 116, 117, 118, 119, 120, 121, 122, 123, 124, 125, 126, 127, 128, 129, 130, 131, 132, 133, 134, 135, 136, 137, 138, 139, 140, 141, 142, 143, 144, 145, 146, 147, 148, 149, 150, 151, 152, 153, 154, 169, 170, 171, 172, 173, 174, 175, 176, 177, 178, 179, 180, 181, 182, 183, 184, 185, 186, 187, 188, 189, 190, 191, 192, 193, 194, 195, 196, 197, 198, 199, 200, 201, 202, 203, 204, 205, 206, 207, 208, 209, 210, 211, 212, 213, 214, 215, 216, 217, 218] rfl (by decide +kernel)
set_option maxRecDepth 20000 in
theorem gX11_order_X4_leastWaves : GoodIn wsX11_order (wsV RX11 240 RX4 yX4_leastWaves wsX4_leastWaves) := goodIn_app (goodIn_of _ (by decide +kernel)) ggX11_order_X4_leastWaves
set_option maxRecDepth 20000 in
theorem ggX11_order_X5_mayHold : GoodIn wsX11_order wsX5_mayHold := goodIn_r _ [5] rfl (by decide +kernel)
set_option maxRecDepth 20000 in
theorem gX11_order_X5_mayHold : GoodIn wsX11_order (va_wsS RX11 168 yX5_mayHold wsX5_mayHold) := goodIn_app (goodIn_of _ (by decide +kernel)) ggX11_order_X5_mayHold
set_option maxHeartbeats 4000000 in
set_option maxRecDepth 100000 in
theorem S_X11_order (l : Launch) (D : va_G) (K : Nat → ClassId) (a : Nat → Nat) (G : gS) (p0 : Int32) (s0 : Int) (p1 : Int32) (s1 : Int) (e0 : p0.toInt = s0) (e1 : p1.toInt = s1) (hI : xI G) (sz : Nat) : Ki l yX11_order wsX11_order 12 317 0 0 D [.ref (a 0), .int p0, .int p1] (xW K a G) (tK K) sz (fun (r : Int32) (G' : gS) => (xI G') ∧ (gu_un xcd [602, 603, 604, 605, 608, 613, 614, 615, 616, 617, 618, 619, 620, 809, 810, 811, 812, 2100, 2400, 2700, 4400, 4500, 4600, 4700, 4800, 5900, 6000, 6100, 6200, 6300, 6400, 6500, 6600, 6700] G G')) (fun (G' : gS) => (xW K a G')) (fun _ => (tK K)) := by
  unfold Ki
  refine g_ofW (cc := cX11_order) (lv := [(0, .ref (a 0)), (1, .int p0), (2, .int p1)]) (by decide) rfl (Nat.le_of_ble_eq_true rfl) rfl ?_
  intro p e s m args below meth c A Q hA hQ F hr hnm
  have hts := F.2.2.2.2.1
  have w_0 : (Cond.fieldLink RX11 65 "QuietCut" "jobs" "LQuietCut$Jobs;").before args s = true := hts _ (List.mem_of_getElem? (i := 1) rfl)
  have i_X11 : ∀ w ∈ u_ws RX11 TX11 14, w ∈ wsX11_order := fun _ h => List.mem_cons_of_mem _ (List.mem_append_left _ (List.mem_append_left _ (List.mem_append_left _ (List.mem_append_left _ (List.mem_append_left _ (List.mem_append_right _ h))))))
  have rg0 : -2147483648 ≤ s0 ∧ s0 ≤ 2147483647 := e0 ▸ ti_rng p0
  have rg1 : -2147483648 ≤ s1 ∧ s1 ≤ 2147483647 := e1 ▸ ti_rng p1
  refine g_iload_n F 1 dX11_order_0 rfl rfl ?_
  refine g_iload_n F 2 dX11_order_1 rfl rfl ?_
  refine u_call0 (k := 0) (n := 0) (As := [.int p0, .int p1]) (st := []) F (fun sz => S_X5_mayHold l D p0 s0 p1 s1 e0 e1 sz) (va_cwS 2 hts gX11_order_X5_mayHold rfl rfl rfl (by decide +kernel) ⟨Nat.le_of_ble_eq_true rfl, Nat.le_of_ble_eq_true rfl⟩) rfl (Nat.le_of_ble_eq_true rfl) ⟨Nat.zero_le _, Nat.zero_le _⟩ dX11_order_2 (fun r1 _ hw2 => ?_)
  rcases hw2 with ⟨rfl, q4⟩ | ⟨rfl, q5⟩
  · refine v_if_eq F 20 dX11_order_5 (by decide) 1 rfl (fun c6 => absurd c6 (by decide)) (fun c6 => ?_)
    refine g_aload_n F 0 dX11_order_8 rfl rfl ?_
    refine xg_0_7 F i_X11 w_0 dX11_order_9 ?_
    refine g_iload_n F 1 dX11_order_12 rfl rfl ?_
    refine g_iload_n F 2 dX11_order_13 rfl rfl ?_
    refine u_callVi (k := 0) (n := 0) (b := a 8) (As := [.int p0, .int p1]) (st := []) F (fun sz => S_X4_leastWaves l D K a G p0 s0 p1 s1 e0 (by omega) e1 (by omega) hI sz) (cwV 2 hts gX11_order_X4_leastWaves rfl rfl rfl (by decide +kernel) ⟨Nat.le_of_ble_eq_true rfl, Nat.le_of_ble_eq_true rfl⟩) rfl 8 xc_8 rfl (Nat.le_of_ble_eq_true rfl) ⟨Nat.zero_le _, Nat.zero_le _⟩ dX11_order_14 (fun r7 G9 hw8 => ?_)
    have hI10 : xI G9 := hw8.1
    have hU11 : gu_un xcd [602, 603, 604, 605, 608, 613, 614, 615, 616, 617, 618, 619, 620, 809, 810, 811, 812, 2100, 2400, 2700, 4400, 4500, 4600, 4700, 4800, 5900, 6000, 6100, 6200, 6300, 6400, 6500, 6600, 6700] G G9 := hw8.2
    refine g_goto F 22 dX11_order_17 (by decide) ?_
    exact u_iret F hA hQ hr G9 (⟨hI10, (gu_un.tr gu_un.rf (gu_un.su hU11 rfl))⟩) rfl rfl dX11_order_22
  · refine v_if_eq F 20 dX11_order_5 (by decide) 0 rfl (fun c13 => ?_) (fun c13 => absurd c13 (by decide))
    refine g_bipush F (-2) dX11_order_20 (by decide) ?_
    exact u_iret F hA hQ hr G (⟨hI, gu_un.rf⟩) rfl rfl dX11_order_22

theorem dX11_ordered_0 : decode cX11_ordered 0 = .ok (.aload_n 0, 1) := by decide +kernel
theorem dX11_ordered_1 : decode cX11_ordered 1 = .ok (.getfield 65, 3) := by decide +kernel
theorem dX11_ordered_4 : decode cX11_ordered 4 = .ok (.iload_n 1, 1) := by decide +kernel
theorem dX11_ordered_5 : decode cX11_ordered 5 = .ok (.invokevirtual 243, 3) := by decide +kernel
theorem dX11_ordered_8 : decode cX11_ordered 8 = .ok (.ireturn, 1) := by decide +kernel
set_option maxRecDepth 20000 in
theorem ggX11_ordered_X4_orderedJob : GoodIn wsX11_ordered wsX4_orderedJob := goodIn_r _ [6, 7, 8, 23, 24, 25, 26, 27, 28, 29, 30, 31, 32, 33, 34] rfl (by decide +kernel)
set_option maxRecDepth 20000 in
theorem gX11_ordered_X4_orderedJob : GoodIn wsX11_ordered (wsV RX11 243 RX4 yX4_orderedJob wsX4_orderedJob) := goodIn_app (goodIn_of _ (by decide +kernel)) ggX11_ordered_X4_orderedJob
set_option maxHeartbeats 4000000 in
set_option maxRecDepth 100000 in
theorem S_X11_ordered (l : Launch) (D : va_G) (K : Nat → ClassId) (a : Nat → Nat) (G : gS) (p0 : Int32) (s0 : Int) (e0 : p0.toInt = s0) (hI : xI G) (sz : Nat) : Ki l yX11_ordered wsX11_ordered 2 61 0 0 D [.ref (a 0), .int p0] (xW K a G) (tK K) sz (fun (r : Int32) (_ : Unit) => True) (fun (_ : Unit) => (xW K a G)) (fun _ => (tK K)) := by
  unfold Ki
  refine g_ofW (cc := cX11_ordered) (lv := [(0, .ref (a 0)), (1, .int p0)]) (by decide) rfl (Nat.le_of_ble_eq_true rfl) rfl ?_
  intro p e s m args below meth c A Q hA hQ F hr hnm
  have hts := F.2.2.2.2.1
  have w_0 : (Cond.fieldLink RX11 65 "QuietCut" "jobs" "LQuietCut$Jobs;").before args s = true := hts _ (List.mem_of_getElem? (i := 1) rfl)
  have i_X11 : ∀ w ∈ u_ws RX11 TX11 14, w ∈ wsX11_ordered := fun _ h => List.mem_cons_of_mem _ (List.mem_append_left _ (List.mem_append_right _ h))
  have rg0 : -2147483648 ≤ s0 ∧ s0 ≤ 2147483647 := e0 ▸ ti_rng p0
  refine g_aload_n F 0 dX11_ordered_0 rfl rfl ?_
  refine xg_0_7 F i_X11 w_0 dX11_ordered_1 ?_
  refine g_iload_n F 1 dX11_ordered_4 rfl rfl ?_
  refine u_callVi (k := 0) (n := 0) (b := a 8) (As := [.int p0]) (st := []) F (fun sz => S_X4_orderedJob l D K a G p0 s0 e0 hI sz) (cwV 1 hts gX11_ordered_X4_orderedJob rfl rfl rfl (by decide +kernel) ⟨Nat.le_of_ble_eq_true rfl, Nat.le_of_ble_eq_true rfl⟩) rfl 8 xc_8 rfl (Nat.le_of_ble_eq_true rfl) ⟨Nat.zero_le _, Nat.zero_le _⟩ dX11_ordered_5 (fun r1 _ hw2 => ?_)
  exact u_iret F hA hQ hr () (trivial) rfl rfl dX11_ordered_8

theorem dX11_until_0 : decode cX11_until 0 = .ok (.aload_n 0, 1) := by decide +kernel
theorem dX11_until_1 : decode cX11_until 1 = .ok (.getfield 47, 3) := by decide +kernel
theorem dX11_until_4 : decode cX11_until 4 = .ok (.iload_n 1, 1) := by decide +kernel
theorem dX11_until_5 : decode cX11_until 5 = .ok (.iload_n 2, 1) := by decide +kernel
theorem dX11_until_6 : decode cX11_until 6 = .ok (.iload_n 3, 1) := by decide +kernel
theorem dX11_until_7 : decode cX11_until 7 = .ok (.iload 4, 2) := by decide +kernel
theorem dX11_until_9 : decode cX11_until 9 = .ok (.invokevirtual 164, 3) := by decide +kernel
theorem dX11_until_12 : decode cX11_until 12 = .ok (.ifCond .eq 13, 3) := by decide +kernel
theorem dX11_until_15 : decode cX11_until 15 = .ok (.iload 5, 2) := by decide +kernel
theorem dX11_until_17 : decode cX11_until 17 = .ok (.iload 6, 2) := by decide +kernel
theorem dX11_until_19 : decode cX11_until 19 = .ok (.invokestatic 168, 3) := by decide +kernel
theorem dX11_until_22 : decode cX11_until 22 = .ok (.ifCond .ne 6, 3) := by decide +kernel
theorem dX11_until_25 : decode cX11_until 25 = .ok (.bipush (-2), 2) := by decide +kernel
theorem dX11_until_27 : decode cX11_until 27 = .ok (.ireturn, 1) := by decide +kernel
theorem dX11_until_28 : decode cX11_until 28 = .ok (.aload_n 0, 1) := by decide +kernel
theorem dX11_until_29 : decode cX11_until 29 = .ok (.getfield 65, 3) := by decide +kernel
theorem dX11_until_32 : decode cX11_until 32 = .ok (.iload 5, 2) := by decide +kernel
theorem dX11_until_34 : decode cX11_until 34 = .ok (.iload 6, 2) := by decide +kernel
theorem dX11_until_36 : decode cX11_until 36 = .ok (.invokevirtual 246, 3) := by decide +kernel
theorem dX11_until_39 : decode cX11_until 39 = .ok (.ireturn, 1) := by decide +kernel
set_option maxRecDepth 20000 in
theorem ggX11_until_X4_quietTimes : GoodIn wsX11_until wsX4_quietTimes := goodIn_r _ [26, 27, 28, 29, 30, 31, 32, 33, 25, 34, 35, 36, 37, 38, 39, 40, 41, 42, 43, 44, 6, 45, 12, 46, 8, 47, 48, 10, 11, 49, 50, 9, 51, 13, 14, 15, 16, 17, 18, 52, 53, 54, 55, 56, 57, 58, 59, 60, 61, 62, 63, 64, 65, 66, 67, 68, 69, 70, 71, 72, 73, 74, 75, 76, 77, 78, 79, 80, 81, 82, 83, 84, 85, 86, 87, 88, 89, 90, 91, 92, 93, 94, 95, 96, 97, 98, 99, 100, 101, 102, 103, 104, 105, 106, 107, 108, 109, 110, 111, 112, 113, 114, 115, 116, 117, 118, 119, 120, 121, 122, 123, 124, 125, 126, 127, 128, 129, 130, 131, 132, 133, 134, 135, 136, 137, 138, 177, 178, 179, 180, 181, 182, 183, 184, 185, 186, 187, 188, 153, 154, 155, 156, 157, 158, 159, 160, 161, 162, 163, 164, 165, 166, 167, 168, 169, 170, 171, 172, 189, 190, 191, 192, 193, 173, 174, 175, 176, 194, 195, 196, 197, 198, 199, 200, 201, 202] rfl (by decide +kernel)
set_option maxRecDepth 20000 in
theorem gX11_until_X4_quietTimes : GoodIn wsX11_until (wsV RX11 246 RX4 yX4_quietTimes wsX4_quietTimes) := goodIn_app (goodIn_of _ (by decide +kernel)) ggX11_until_X4_quietTimes
set_option maxRecDepth 20000 in
theorem ggX11_until_X5_mayHold : GoodIn wsX11_until wsX5_mayHold := goodIn_r _ [21] rfl (by decide +kernel)
set_option maxRecDepth 20000 in
theorem gX11_until_X5_mayHold : GoodIn wsX11_until (va_wsS RX11 168 yX5_mayHold wsX5_mayHold) := goodIn_app (goodIn_of _ (by decide +kernel)) ggX11_until_X5_mayHold
set_option maxRecDepth 20000 in
theorem ggX11_until_X5_takes : GoodIn wsX11_until wsX5_takes := goodIn_r _ [7, 8, 9, 10, 11, 12, 13, 14, 15, 16, 17, 18, 153, 154, 155, 156, 157, 158, 159, 160, 161, 162, 163, 164, 165, 166, 167, 168, 169, 170, 171, 172, 173, 174, 175, 176] rfl (by decide +kernel)
set_option maxRecDepth 20000 in
theorem gX11_until_X5_takes : GoodIn wsX11_until (wsV RX11 164 RX5 yX5_takes wsX5_takes) := goodIn_app (goodIn_of _ (by decide +kernel)) ggX11_until_X5_takes
set_option maxHeartbeats 4000000 in
set_option maxRecDepth 100000 in
theorem S_X11_until (l : Launch) (D : va_G) (K : Nat → ClassId) (a : Nat → Nat) (G : gS) (p0 : Int32) (s0 : Int) (p1 : Int32) (s1 : Int) (p2 : Int32) (s2 : Int) (p3 : Int32) (s3 : Int) (p4 : Int32) (s4 : Int) (p5 : Int32) (s5 : Int) (e0 : p0.toInt = s0) (e1 : p1.toInt = s1) (e2 : p2.toInt = s2) (e3 : p3.toInt = s3) (e4 : p4.toInt = s4) (e5 : p5.toInt = s5) (hI : xI G) (sz : Nat) : Ki l yX11_until wsX11_until 6 171 0 0 D [.ref (a 0), .int p0, .int p1, .int p2, .int p3, .int p4, .int p5] (xW K a G) (tK K) sz (fun (r : Int32) (G' : gS) => (xI G') ∧ (gu_un xcd [602, 603, 604, 605, 608, 613, 614, 615, 616, 617, 618, 619, 620, 2100, 2400, 2700, 4400, 4500, 4600, 4700, 4800, 5900, 6500] G G') ∧ ((-2) ≤ r.toInt ∧ r.toInt ≤ 30)) (fun (G' : gS) => (xW K a G')) (fun _ => (tK K)) := by
  unfold Ki
  refine g_ofW (cc := cX11_until) (lv := [(0, .ref (a 0)), (1, .int p0), (2, .int p1), (3, .int p2), (4, .int p3), (5, .int p4), (6, .int p5)]) (by decide) rfl (Nat.le_of_ble_eq_true rfl) rfl ?_
  intro p e s m args below meth c A Q hA hQ F hr hnm
  have hts := F.2.2.2.2.1
  have w_0 : (Cond.fieldLink RX11 47 "QuietCut" "lathe" "LQuietCut$Lathe;").before args s = true := hts _ (List.mem_of_getElem? (i := 1) rfl)
  have i_X11 : ∀ w ∈ u_ws RX11 TX11 14, w ∈ wsX11_until := fun _ h => List.mem_cons_of_mem _ (List.mem_append_left _ (List.mem_append_left _ (List.mem_append_left _ (List.mem_append_left _ (List.mem_append_left _ (List.mem_append_right _ h))))))
  have w_1 : (Cond.fieldLink RX11 65 "QuietCut" "jobs" "LQuietCut$Jobs;").before args s = true := hts _ (List.mem_of_getElem? (i := 2) rfl)
  have rg0 : -2147483648 ≤ s0 ∧ s0 ≤ 2147483647 := e0 ▸ ti_rng p0
  have rg1 : -2147483648 ≤ s1 ∧ s1 ≤ 2147483647 := e1 ▸ ti_rng p1
  have rg2 : -2147483648 ≤ s2 ∧ s2 ≤ 2147483647 := e2 ▸ ti_rng p2
  have rg3 : -2147483648 ≤ s3 ∧ s3 ≤ 2147483647 := e3 ▸ ti_rng p3
  have rg4 : -2147483648 ≤ s4 ∧ s4 ≤ 2147483647 := e4 ▸ ti_rng p4
  have rg5 : -2147483648 ≤ s5 ∧ s5 ≤ 2147483647 := e5 ▸ ti_rng p5
  refine g_aload_n F 0 dX11_until_0 rfl rfl ?_
  refine xg_0_5 F i_X11 w_0 dX11_until_1 ?_
  refine g_iload_n F 1 dX11_until_4 rfl rfl ?_
  refine g_iload_n F 2 dX11_until_5 rfl rfl ?_
  refine g_iload_n F 3 dX11_until_6 rfl rfl ?_
  refine g_iload F 4 dX11_until_7 rfl ?_
  refine u_callVi (k := 0) (n := 0) (b := a 6) (As := [.int p0, .int p1, .int p2, .int p3]) (st := []) F (fun sz => S_X5_takes l D K a G p0 s0 p1 s1 p2 s2 p3 s3 e0 e1 e2 e3 hI sz) (cwV 4 hts gX11_until_X5_takes rfl rfl rfl (by decide +kernel) ⟨Nat.le_of_ble_eq_true rfl, Nat.le_of_ble_eq_true rfl⟩) rfl 6 xc_6 rfl (Nat.le_of_ble_eq_true rfl) ⟨Nat.zero_le _, Nat.zero_le _⟩ dX11_until_9 (fun r1 G3 hw2 => ?_)
  have hI4 : xI G3 := hw2.1
  have hU5 : gu_un xcd [602, 603, 604, 605] G G3 := hw2.2.1
  have hp6 := hw2.2.2
  have q7 : ((G3 6 1).toInt = s0 ∧ (G3 6 2).toInt = s1 ∧ (G3 6 3).toInt = s2 ∧ (G3 6 4).toInt = s3) := hp6.2
  rcases hp6.1 with ⟨rfl, q8⟩ | ⟨rfl, q9⟩
  · have b10 : (1 : Int) ≤ (G 18 1).toInt ∧ (G 18 1).toInt ≤ 6 := hI 18 1
    have q8 : (0 ≤ s0 ∧ s0 < (G 18 1).toInt ∧ 1 ≤ s1 ∧ s1 ≤ 9 ∧ 1 ≤ s2 ∧ s2 ≤ 20 ∧ 1 ≤ s3 ∧ s3 ≤ 12) := by have h9 := q8; (try simp only [(show G3 18 1 = (G 18 1) from hU5 18 1 (by decide))] at h9); exact h9
    refine v_if_eq F 25 dX11_until_12 (by decide) 1 rfl (fun c11 => absurd c11 (by decide)) (fun c11 => ?_)
    refine g_iload F 5 dX11_until_15 rfl ?_
    refine g_iload F 6 dX11_until_17 rfl ?_
    refine u_call0 (k := 0) (n := 0) (As := [.int p4, .int p5]) (st := []) F (fun sz => S_X5_mayHold l D p4 s4 p5 s5 e4 e5 sz) (va_cwS 2 hts gX11_until_X5_mayHold rfl rfl rfl (by decide +kernel) ⟨Nat.le_of_ble_eq_true rfl, Nat.le_of_ble_eq_true rfl⟩) rfl (Nat.le_of_ble_eq_true rfl) ⟨Nat.zero_le _, Nat.zero_le _⟩ dX11_until_19 (fun r12 _ hw13 => ?_)
    rcases hw13 with ⟨rfl, q15⟩ | ⟨rfl, q16⟩
    · refine v_if_ne F 28 dX11_until_22 (by decide) 1 rfl (fun c17 => ?_) (fun c17 => absurd c17 (by decide))
      refine g_aload_n F 0 dX11_until_28 rfl rfl ?_
      refine xg_0_7 F i_X11 w_1 dX11_until_29 ?_
      refine g_iload F 5 dX11_until_32 rfl ?_
      refine g_iload F 6 dX11_until_34 rfl ?_
      refine u_callVi (k := 0) (n := 0) (b := a 8) (As := [.int p4, .int p5]) (st := []) F (fun sz => S_X4_quietTimes l D K a G3 p4 s4 p5 s5 e4 (by omega) e5 (by omega) (by have e9_18_1 : G3 18 1 = (G 18 1) := hU5 18 1 (by decide); (try simp only [e9_18_1, true_and, and_true]) <;> (first | omega | (simp only [Int32.reduceToInt, true_and, and_true, ne_eq, not_true_eq_false, false_and, or_false, false_or, true_or, or_true, false_implies] <;> omega))) hI4 sz) (cwV 2 hts gX11_until_X4_quietTimes rfl rfl rfl (by decide +kernel) ⟨Nat.le_of_ble_eq_true rfl, Nat.le_of_ble_eq_true rfl⟩) rfl 8 xc_8 rfl (Nat.le_of_ble_eq_true rfl) ⟨Nat.zero_le _, Nat.zero_le _⟩ dX11_until_36 (fun r18 G20 hw19 => ?_)
      have hI21 : xI G20 := hw19.1
      have hU22 : gu_un xcd [608, 613, 614, 615, 616, 617, 618, 619, 620, 2100, 2400, 2700, 4400, 4500, 4600, 4700, 4800, 5900, 6500] G3 G20 := hw19.2.1
      have hp23 := hw19.2.2
      have rg24 := hp23
      clear hp23 hw19
      exact u_iret F hA hQ hr G20 (⟨hI21, (gu_un.tr (gu_un.tr gu_un.rf (gu_un.su hU5 rfl)) (gu_un.su hU22 rfl)), (by have h9 := ti_rng r18; omega)⟩) rfl rfl dX11_until_39
    · refine v_if_ne F 28 dX11_until_22 (by decide) 0 rfl (fun c25 => absurd c25 (by decide)) (fun c25 => ?_)
      refine g_bipush F (-2) dX11_until_25 (by decide) ?_
      exact u_iret F hA hQ hr G3 (⟨hI4, (gu_un.tr gu_un.rf (gu_un.su hU5 rfl)), (by decide)⟩) rfl rfl dX11_until_27
  · have b26 : (1 : Int) ≤ (G 18 1).toInt ∧ (G 18 1).toInt ≤ 6 := hI 18 1
    have q9 : ¬ (0 ≤ s0 ∧ s0 < (G 18 1).toInt ∧ 1 ≤ s1 ∧ s1 ≤ 9 ∧ 1 ≤ s2 ∧ s2 ≤ 20 ∧ 1 ≤ s3 ∧ s3 ≤ 12) := by have h9 := q9; (try simp only [(show G3 18 1 = (G 18 1) from hU5 18 1 (by decide))] at h9); exact h9
    refine v_if_eq F 25 dX11_until_12 (by decide) 0 rfl (fun c27 => ?_) (fun c27 => absurd c27 (by decide))
    refine g_bipush F (-2) dX11_until_25 (by decide) ?_
    exact u_iret F hA hQ hr G3 (⟨hI4, (gu_un.tr gu_un.rf (gu_un.su hU5 rfl)), (by decide)⟩) rfl rfl dX11_until_27

theorem dX11_offer_0 : decode cX11_offer 0 = .ok (.aload_n 0, 1) := by decide +kernel
theorem dX11_offer_1 : decode cX11_offer 1 = .ok (.getfield 47, 3) := by decide +kernel
theorem dX11_offer_4 : decode cX11_offer 4 = .ok (.iload_n 1, 1) := by decide +kernel
theorem dX11_offer_5 : decode cX11_offer 5 = .ok (.iload_n 2, 1) := by decide +kernel
theorem dX11_offer_6 : decode cX11_offer 6 = .ok (.iload_n 3, 1) := by decide +kernel
theorem dX11_offer_7 : decode cX11_offer 7 = .ok (.iload 4, 2) := by decide +kernel
theorem dX11_offer_9 : decode cX11_offer 9 = .ok (.invokevirtual 164, 3) := by decide +kernel
theorem dX11_offer_12 : decode cX11_offer 12 = .ok (.ifCond .eq 13, 3) := by decide +kernel
theorem dX11_offer_15 : decode cX11_offer 15 = .ok (.aload_n 0, 1) := by decide +kernel
theorem dX11_offer_16 : decode cX11_offer 16 = .ok (.getfield 74, 3) := by decide +kernel
theorem dX11_offer_19 : decode cX11_offer 19 = .ok (.invokevirtual 249, 3) := by decide +kernel
theorem dX11_offer_22 : decode cX11_offer 22 = .ok (.goto 5, 3) := by decide +kernel
theorem dX11_offer_25 : decode cX11_offer 25 = .ok (.bipush (-2), 2) := by decide +kernel
theorem dX11_offer_27 : decode cX11_offer 27 = .ok (.ireturn, 1) := by decide +kernel
set_option maxRecDepth 20000 in
theorem ggX11_offer_X2_addOffer : GoodIn wsX11_offer wsX2_addOffer := goodIn_r _ [23, 24, 25, 26, 27, 28, 29, 30, 31, 32, 6, 33, 12, 34, 8, 35, 36, 37, 38, 39, 10, 11, 40, 41, 9, 42, 13, 14, 15, 16, 17, 18, 43, 44, 45, 46, 47, 48, 49, 50, 51, 52, 53, 54, 55, 56, 57, 58, 59, 60, 61, 62, 63, 64, 65, 66, 67, 68, 69, 70, 71, 72, 73, 74, 75, 76, 77, 78, 79, 80, 81, 82, 83, 84, 85, 86, 87, 88, 89, 90, 91, 92, 93, 94, 95, 96, 97, 98, 99, 100, 101, 102, 103, 104, 105, 106, 107, 108, 109, 110, 111, 112, 113, 114, 115, 116, 117, 118, 119, 120, 121, 122, 123, 124, 125, 126, 127, 128, 22, 129, 168, 169, 170, 171, 172, 173, 174, 175, 176, 177, 164, 165, 166, 167, 144, 145, 146, 147, 148, 149, 150, 151, 152, 153, 154, 155, 156, 157, 158, 159, 160, 161, 162, 163, 178, 179, 180, 181, 182, 183, 184, 185, 186] rfl (by decide +kernel)
set_option maxRecDepth 20000 in
theorem gX11_offer_X2_addOffer : GoodIn wsX11_offer (wsV RX11 249 RX2 yX2_addOffer wsX2_addOffer) := goodIn_app (goodIn_of _ (by decide +kernel)) ggX11_offer_X2_addOffer
set_option maxRecDepth 20000 in
theorem ggX11_offer_X5_takes : GoodIn wsX11_offer wsX5_takes := goodIn_r _ [7, 8, 9, 10, 11, 12, 13, 14, 15, 16, 17, 18, 144, 145, 146, 147, 148, 149, 150, 151, 152, 153, 154, 155, 156, 157, 158, 159, 160, 161, 162, 163, 164, 165, 166, 167] rfl (by decide +kernel)
set_option maxRecDepth 20000 in
theorem gX11_offer_X5_takes : GoodIn wsX11_offer (wsV RX11 164 RX5 yX5_takes wsX5_takes) := goodIn_app (goodIn_of _ (by decide +kernel)) ggX11_offer_X5_takes
set_option maxHeartbeats 4000000 in
set_option maxRecDepth 100000 in
theorem S_X11_offer (l : Launch) (D : va_G) (K : Nat → ClassId) (a : Nat → Nat) (G : gS) (p0 : Int32) (s0 : Int) (p1 : Int32) (s1 : Int) (p2 : Int32) (s2 : Int) (p3 : Int32) (s3 : Int) (e0 : p0.toInt = s0) (e1 : p1.toInt = s1) (e2 : p2.toInt = s2) (e3 : p3.toInt = s3) (hI : xI G) (sz : Nat) : Ki l yX11_offer wsX11_offer 6 171 0 0 D [.ref (a 0), .int p0, .int p1, .int p2, .int p3] (xW K a G) (tK K) sz (fun (r : Int32) (G' : gS) => (xI G') ∧ (gu_un xcd [602, 603, 604, 605, 608, 613, 614, 615, 616, 617, 618, 619, 620, 905, 2100, 2400, 2700, 4400, 4500, 4600, 4700, 4800, 7000, 7100, 7200, 7300, 7400, 7500, 7600, 7700, 7800, 7900] G G') ∧ ((-3) ≤ r.toInt ∧ r.toInt ≤ 9)) (fun (G' : gS) => (xW K a G')) (fun _ => (tK K)) := by
  unfold Ki
  refine g_ofW (cc := cX11_offer) (lv := [(0, .ref (a 0)), (1, .int p0), (2, .int p1), (3, .int p2), (4, .int p3)]) (by decide) rfl (Nat.le_of_ble_eq_true rfl) rfl ?_
  intro p e s m args below meth c A Q hA hQ F hr hnm
  have hts := F.2.2.2.2.1
  have w_0 : (Cond.fieldLink RX11 47 "QuietCut" "lathe" "LQuietCut$Lathe;").before args s = true := hts _ (List.mem_of_getElem? (i := 1) rfl)
  have i_X11 : ∀ w ∈ u_ws RX11 TX11 14, w ∈ wsX11_offer := fun _ h => List.mem_cons_of_mem _ (List.mem_append_left _ (List.mem_append_left _ (List.mem_append_left _ (List.mem_append_left _ (List.mem_append_right _ h)))))
  have w_1 : (Cond.fieldLink RX11 74 "QuietCut" "ear" "LQuietCut$Ear;").before args s = true := hts _ (List.mem_of_getElem? (i := 2) rfl)
  have rg0 : -2147483648 ≤ s0 ∧ s0 ≤ 2147483647 := e0 ▸ ti_rng p0
  have rg1 : -2147483648 ≤ s1 ∧ s1 ≤ 2147483647 := e1 ▸ ti_rng p1
  have rg2 : -2147483648 ≤ s2 ∧ s2 ≤ 2147483647 := e2 ▸ ti_rng p2
  have rg3 : -2147483648 ≤ s3 ∧ s3 ≤ 2147483647 := e3 ▸ ti_rng p3
  refine g_aload_n F 0 dX11_offer_0 rfl rfl ?_
  refine xg_0_5 F i_X11 w_0 dX11_offer_1 ?_
  refine g_iload_n F 1 dX11_offer_4 rfl rfl ?_
  refine g_iload_n F 2 dX11_offer_5 rfl rfl ?_
  refine g_iload_n F 3 dX11_offer_6 rfl rfl ?_
  refine g_iload F 4 dX11_offer_7 rfl ?_
  refine u_callVi (k := 0) (n := 0) (b := a 6) (As := [.int p0, .int p1, .int p2, .int p3]) (st := []) F (fun sz => S_X5_takes l D K a G p0 s0 p1 s1 p2 s2 p3 s3 e0 e1 e2 e3 hI sz) (cwV 4 hts gX11_offer_X5_takes rfl rfl rfl (by decide +kernel) ⟨Nat.le_of_ble_eq_true rfl, Nat.le_of_ble_eq_true rfl⟩) rfl 6 xc_6 rfl (Nat.le_of_ble_eq_true rfl) ⟨Nat.zero_le _, Nat.zero_le _⟩ dX11_offer_9 (fun r1 G3 hw2 => ?_)
  have hI4 : xI G3 := hw2.1
  have hU5 : gu_un xcd [602, 603, 604, 605] G G3 := hw2.2.1
  have hp6 := hw2.2.2
  have q7 : ((G3 6 1).toInt = s0 ∧ (G3 6 2).toInt = s1 ∧ (G3 6 3).toInt = s2 ∧ (G3 6 4).toInt = s3) := hp6.2
  rcases hp6.1 with ⟨rfl, q8⟩ | ⟨rfl, q9⟩
  · have b10 : (1 : Int) ≤ (G 18 1).toInt ∧ (G 18 1).toInt ≤ 6 := hI 18 1
    have q8 : (0 ≤ s0 ∧ s0 < (G 18 1).toInt ∧ 1 ≤ s1 ∧ s1 ≤ 9 ∧ 1 ≤ s2 ∧ s2 ≤ 20 ∧ 1 ≤ s3 ∧ s3 ≤ 12) := by have h9 := q8; (try simp only [(show G3 18 1 = (G 18 1) from hU5 18 1 (by decide))] at h9); exact h9
    refine v_if_eq F 25 dX11_offer_12 (by decide) 1 rfl (fun c11 => absurd c11 (by decide)) (fun c11 => ?_)
    refine g_aload_n F 0 dX11_offer_15 rfl rfl ?_
    refine xg_0_8 F i_X11 w_1 dX11_offer_16 ?_
    refine u_callVi (k := 0) (n := 0) (b := a 9) (As := []) (st := []) F (fun sz => S_X2_addOffer l D K a G3  (by have e9_18_1 : G3 18 1 = (G 18 1) := hU5 18 1 (by decide); (try simp only [e9_18_1, true_and, and_true]) <;> (first | omega | (simp only [Int32.reduceToInt, true_and, and_true, ne_eq, not_true_eq_false, false_and, or_false, false_or, true_or, or_true, false_implies] <;> omega))) hI4 sz) (cwV 0 hts gX11_offer_X2_addOffer rfl rfl rfl (by decide +kernel) ⟨Nat.le_of_ble_eq_true rfl, Nat.le_of_ble_eq_true rfl⟩) rfl 9 xc_9 rfl (Nat.le_of_ble_eq_true rfl) ⟨Nat.zero_le _, Nat.zero_le _⟩ dX11_offer_19 (fun r12 G14 hw13 => ?_)
    have hI15 : xI G14 := hw13.1
    have hU16 : gu_un xcd [608, 613, 614, 615, 616, 617, 618, 619, 620, 905, 2100, 2400, 2700, 4400, 4500, 4600, 4700, 4800, 7000, 7100, 7200, 7300, 7400, 7500, 7600, 7700, 7800, 7900] G3 G14 := hw13.2.1
    have hp17 := hw13.2.2
    have rg18 := hp17
    clear hp17 hw13
    refine g_goto F 27 dX11_offer_22 (by decide) ?_
    exact u_iret F hA hQ hr G14 (⟨hI15, (gu_un.tr (gu_un.tr gu_un.rf (gu_un.su hU5 rfl)) (gu_un.su hU16 rfl)), (by have h9 := ti_rng r12; omega)⟩) rfl rfl dX11_offer_27
  · have b19 : (1 : Int) ≤ (G 18 1).toInt ∧ (G 18 1).toInt ≤ 6 := hI 18 1
    have q9 : ¬ (0 ≤ s0 ∧ s0 < (G 18 1).toInt ∧ 1 ≤ s1 ∧ s1 ≤ 9 ∧ 1 ≤ s2 ∧ s2 ≤ 20 ∧ 1 ≤ s3 ∧ s3 ≤ 12) := by have h9 := q9; (try simp only [(show G3 18 1 = (G 18 1) from hU5 18 1 (by decide))] at h9); exact h9
    refine v_if_eq F 25 dX11_offer_12 (by decide) 0 rfl (fun c20 => ?_) (fun c20 => absurd c20 (by decide))
    refine g_bipush F (-2) dX11_offer_25 (by decide) ?_
    exact u_iret F hA hQ hr G3 (⟨hI4, (gu_un.tr gu_un.rf (gu_un.su hU5 rfl)), (by decide)⟩) rfl rfl dX11_offer_27

theorem dX11_heard_0 : decode cX11_heard 0 = .ok (.aload_n 0, 1) := by decide +kernel
theorem dX11_heard_1 : decode cX11_heard 1 = .ok (.getfield 74, 3) := by decide +kernel
theorem dX11_heard_4 : decode cX11_heard 4 = .ok (.iload_n 1, 1) := by decide +kernel
theorem dX11_heard_5 : decode cX11_heard 5 = .ok (.iload_n 2, 1) := by decide +kernel
theorem dX11_heard_6 : decode cX11_heard 6 = .ok (.iload_n 3, 1) := by decide +kernel
theorem dX11_heard_7 : decode cX11_heard 7 = .ok (.invokevirtual 252, 3) := by decide +kernel
theorem dX11_heard_10 : decode cX11_heard 10 = .ok (.ireturn, 1) := by decide +kernel
set_option maxRecDepth 20000 in
theorem ggX11_heard_X2_addHeard : GoodIn wsX11_heard wsX2_addHeard := goodIn_r _ [6, 7, 8, 9, 10, 11, 12, 13, 5, 14, 29, 30, 31, 32, 33, 34, 35, 36, 37, 38] rfl (by decide +kernel)
set_option maxRecDepth 20000 in
theorem gX11_heard_X2_addHeard : GoodIn wsX11_heard (wsV RX11 252 RX2 yX2_addHeard wsX2_addHeard) := goodIn_app (goodIn_of _ (by decide +kernel)) ggX11_heard_X2_addHeard
set_option maxHeartbeats 4000000 in
set_option maxRecDepth 100000 in
theorem S_X11_heard (l : Launch) (D : va_G) (K : Nat → ClassId) (a : Nat → Nat) (G : gS) (p0 : Int32) (s0 : Int) (p1 : Int32) (s1 : Int) (p2 : Int32) (s2 : Int) (e0 : p0.toInt = s0) (e1 : p1.toInt = s1) (e2 : p2.toInt = s2) (hI : xI G) (sz : Nat) : Ki l yX11_heard wsX11_heard 3 85 0 0 D [.ref (a 0), .int p0, .int p1, .int p2] (xW K a G) (tK K) sz (fun (r : Int32) (G' : gS) => (xI G') ∧ (gu_un xcd [907, 910, 8100, 8200, 8300] G G') ∧ ((-3) ≤ r.toInt ∧ r.toInt ≤ 29)) (fun (G' : gS) => (xW K a G')) (fun _ => (tK K)) := by
  unfold Ki
  refine g_ofW (cc := cX11_heard) (lv := [(0, .ref (a 0)), (1, .int p0), (2, .int p1), (3, .int p2)]) (by decide) rfl (Nat.le_of_ble_eq_true rfl) rfl ?_
  intro p e s m args below meth c A Q hA hQ F hr hnm
  have hts := F.2.2.2.2.1
  have w_0 : (Cond.fieldLink RX11 74 "QuietCut" "ear" "LQuietCut$Ear;").before args s = true := hts _ (List.mem_of_getElem? (i := 1) rfl)
  have i_X11 : ∀ w ∈ u_ws RX11 TX11 14, w ∈ wsX11_heard := fun _ h => List.mem_cons_of_mem _ (List.mem_append_left _ (List.mem_append_right _ h))
  have rg0 : -2147483648 ≤ s0 ∧ s0 ≤ 2147483647 := e0 ▸ ti_rng p0
  have rg1 : -2147483648 ≤ s1 ∧ s1 ≤ 2147483647 := e1 ▸ ti_rng p1
  have rg2 : -2147483648 ≤ s2 ∧ s2 ≤ 2147483647 := e2 ▸ ti_rng p2
  refine g_aload_n F 0 dX11_heard_0 rfl rfl ?_
  refine xg_0_8 F i_X11 w_0 dX11_heard_1 ?_
  refine g_iload_n F 1 dX11_heard_4 rfl rfl ?_
  refine g_iload_n F 2 dX11_heard_5 rfl rfl ?_
  refine g_iload_n F 3 dX11_heard_6 rfl rfl ?_
  refine u_callVi (k := 0) (n := 0) (b := a 9) (As := [.int p0, .int p1, .int p2]) (st := []) F (fun sz => S_X2_addHeard l D K a G p0 s0 p1 s1 p2 s2 e0 e1 e2 hI sz) (cwV 3 hts gX11_heard_X2_addHeard rfl rfl rfl (by decide +kernel) ⟨Nat.le_of_ble_eq_true rfl, Nat.le_of_ble_eq_true rfl⟩) rfl 9 xc_9 rfl (Nat.le_of_ble_eq_true rfl) ⟨Nat.zero_le _, Nat.zero_le _⟩ dX11_heard_7 (fun r1 G3 hw2 => ?_)
  have hI4 : xI G3 := hw2.1
  have hU5 : gu_un xcd [907, 910, 8100, 8200, 8300] G G3 := hw2.2.1
  have hp6 := hw2.2.2
  have rg7 := hp6
  clear hp6 hw2
  exact u_iret F hA hQ hr G3 (⟨hI4, (gu_un.tr gu_un.rf (gu_un.su hU5 rfl)), (by have h9 := ti_rng r1; omega)⟩) rfl rfl dX11_heard_10

theorem dX11_right_0 : decode cX11_right 0 = .ok (.aload_n 0, 1) := by decide +kernel
theorem dX11_right_1 : decode cX11_right 1 = .ok (.getfield 74, 3) := by decide +kernel
theorem dX11_right_4 : decode cX11_right 4 = .ok (.iload_n 1, 1) := by decide +kernel
theorem dX11_right_5 : decode cX11_right 5 = .ok (.iload_n 2, 1) := by decide +kernel
theorem dX11_right_6 : decode cX11_right 6 = .ok (.iload_n 3, 1) := by decide +kernel
theorem dX11_right_7 : decode cX11_right 7 = .ok (.invokevirtual 255, 3) := by decide +kernel
theorem dX11_right_10 : decode cX11_right 10 = .ok (.ireturn, 1) := by decide +kernel
set_option maxRecDepth 20000 in
theorem ggX11_right_X2_addRight : GoodIn wsX11_right wsX2_addRight := goodIn_r _ [6, 7, 8, 9, 10, 11, 12, 13, 14, 5, 15, 16, 17, 18, 19, 34, 35, 36, 37, 38, 39, 40, 41, 42, 43] rfl (by decide +kernel)
set_option maxRecDepth 20000 in
theorem gX11_right_X2_addRight : GoodIn wsX11_right (wsV RX11 255 RX2 yX2_addRight wsX2_addRight) := goodIn_app (goodIn_of _ (by decide +kernel)) ggX11_right_X2_addRight
set_option maxHeartbeats 4000000 in
set_option maxRecDepth 100000 in
theorem S_X11_right (l : Launch) (D : va_G) (K : Nat → ClassId) (a : Nat → Nat) (G : gS) (p0 : Int32) (s0 : Int) (p1 : Int32) (s1 : Int) (p2 : Int32) (s2 : Int) (e0 : p0.toInt = s0) (e1 : p1.toInt = s1) (e2 : p2.toInt = s2) (hI : xI G) (sz : Nat) : Ki l yX11_right wsX11_right 3 86 0 0 D [.ref (a 0), .int p0, .int p1, .int p2] (xW K a G) (tK K) sz (fun (r : Int32) (G' : gS) => (xI G') ∧ (gu_un xcd [909, 910, 8500, 8600, 8700] G G')) (fun (G' : gS) => (xW K a G')) (fun _ => (tK K)) := by
  unfold Ki
  refine g_ofW (cc := cX11_right) (lv := [(0, .ref (a 0)), (1, .int p0), (2, .int p1), (3, .int p2)]) (by decide) rfl (Nat.le_of_ble_eq_true rfl) rfl ?_
  intro p e s m args below meth c A Q hA hQ F hr hnm
  have hts := F.2.2.2.2.1
  have w_0 : (Cond.fieldLink RX11 74 "QuietCut" "ear" "LQuietCut$Ear;").before args s = true := hts _ (List.mem_of_getElem? (i := 1) rfl)
  have i_X11 : ∀ w ∈ u_ws RX11 TX11 14, w ∈ wsX11_right := fun _ h => List.mem_cons_of_mem _ (List.mem_append_left _ (List.mem_append_right _ h))
  have rg0 : -2147483648 ≤ s0 ∧ s0 ≤ 2147483647 := e0 ▸ ti_rng p0
  have rg1 : -2147483648 ≤ s1 ∧ s1 ≤ 2147483647 := e1 ▸ ti_rng p1
  have rg2 : -2147483648 ≤ s2 ∧ s2 ≤ 2147483647 := e2 ▸ ti_rng p2
  refine g_aload_n F 0 dX11_right_0 rfl rfl ?_
  refine xg_0_8 F i_X11 w_0 dX11_right_1 ?_
  refine g_iload_n F 1 dX11_right_4 rfl rfl ?_
  refine g_iload_n F 2 dX11_right_5 rfl rfl ?_
  refine g_iload_n F 3 dX11_right_6 rfl rfl ?_
  refine u_callVi (k := 0) (n := 0) (b := a 9) (As := [.int p0, .int p1, .int p2]) (st := []) F (fun sz => S_X2_addRight l D K a G p0 s0 p1 s1 p2 s2 e0 e1 e2 hI sz) (cwV 3 hts gX11_right_X2_addRight rfl rfl rfl (by decide +kernel) ⟨Nat.le_of_ble_eq_true rfl, Nat.le_of_ble_eq_true rfl⟩) rfl 9 xc_9 rfl (Nat.le_of_ble_eq_true rfl) ⟨Nat.zero_le _, Nat.zero_le _⟩ dX11_right_7 (fun r1 G3 hw2 => ?_)
  have hI4 : xI G3 := hw2.1
  have hU5 : gu_un xcd [909, 910, 8500, 8600, 8700] G G3 := hw2.2
  exact u_iret F hA hQ hr G3 (⟨hI4, (gu_un.tr gu_un.rf (gu_un.su hU5 rfl))⟩) rfl rfl dX11_right_10

theorem dX11_fit_0 : decode cX11_fit 0 = .ok (.iload_n 1, 1) := by decide +kernel
theorem dX11_fit_1 : decode cX11_fit 1 = .ok (.ifCond .lt 10, 3) := by decide +kernel
theorem dX11_fit_4 : decode cX11_fit 4 = .ok (.iload_n 1, 1) := by decide +kernel
theorem dX11_fit_5 : decode cX11_fit 5 = .ok (.sipush 999, 3) := by decide +kernel
theorem dX11_fit_8 : decode cX11_fit 8 = .ok (.if_icmp .le 8, 3) := by decide +kernel
theorem dX11_fit_11 : decode cX11_fit 11 = .ok (.bipush (-2), 2) := by decide +kernel
theorem dX11_fit_13 : decode cX11_fit 13 = .ok (.goto 11, 3) := by decide +kernel
theorem dX11_fit_16 : decode cX11_fit 16 = .ok (.aload_n 0, 1) := by decide +kernel
theorem dX11_fit_17 : decode cX11_fit 17 = .ok (.getfield 74, 3) := by decide +kernel
theorem dX11_fit_20 : decode cX11_fit 20 = .ok (.iload_n 1, 1) := by decide +kernel
theorem dX11_fit_21 : decode cX11_fit 21 = .ok (.invokevirtual 258, 3) := by decide +kernel
theorem dX11_fit_24 : decode cX11_fit 24 = .ok (.ireturn, 1) := by decide +kernel
set_option maxRecDepth 20000 in
theorem ggX11_fit_X2_fittingPairs : GoodIn wsX11_fit wsX2_fittingPairs := goodIn_r _ [6, 7, 8, 9, 10, 11, 5, 12, 13, 14, 15, 16, 17, 18, 19, 20, 21, 22, 23, 24, 25, 40, 41, 42, 43, 44, 45, 46, 47, 48, 49, 50, 51, 52, 53] rfl (by decide +kernel)
set_option maxRecDepth 20000 in
theorem gX11_fit_X2_fittingPairs : GoodIn wsX11_fit (wsV RX11 258 RX2 yX2_fittingPairs wsX2_fittingPairs) := goodIn_app (goodIn_of _ (by decide +kernel)) ggX11_fit_X2_fittingPairs
set_option maxHeartbeats 4000000 in
set_option maxRecDepth 100000 in
theorem S_X11_fit (l : Launch) (D : va_G) (K : Nat → ClassId) (a : Nat → Nat) (G : gS) (p0 : Int32) (s0 : Int) (e0 : p0.toInt = s0) (hI : xI G) (sz : Nat) : Ki l yX11_fit wsX11_fit 3 87 0 0 D [.ref (a 0), .int p0] (xW K a G) (tK K) sz (fun (r : Int32) (_ : Unit) => True) (fun (_ : Unit) => (xW K a G)) (fun _ => (tK K)) := by
  unfold Ki
  refine g_ofW (cc := cX11_fit) (lv := [(0, .ref (a 0)), (1, .int p0)]) (by decide) rfl (Nat.le_of_ble_eq_true rfl) rfl ?_
  intro p e s m args below meth c A Q hA hQ F hr hnm
  have hts := F.2.2.2.2.1
  have w_0 : (Cond.fieldLink RX11 74 "QuietCut" "ear" "LQuietCut$Ear;").before args s = true := hts _ (List.mem_of_getElem? (i := 1) rfl)
  have i_X11 : ∀ w ∈ u_ws RX11 TX11 14, w ∈ wsX11_fit := fun _ h => List.mem_cons_of_mem _ (List.mem_append_left _ (List.mem_append_left _ (List.mem_append_right _ h)))
  have rg0 : -2147483648 ≤ s0 ∧ s0 ≤ 2147483647 := e0 ▸ ti_rng p0
  refine g_iload_n F 1 dX11_fit_0 rfl rfl ?_
  refine v_if_lt F 11 dX11_fit_1 (by decide) s0 e0 (fun c1 => ?_) (fun c1 => ?_)
  · refine g_bipush F (-2) dX11_fit_11 (by decide) ?_
    refine g_goto F 24 dX11_fit_13 (by decide) ?_
    exact u_iret F hA hQ hr () (trivial) rfl rfl dX11_fit_24
  · refine g_iload_n F 1 dX11_fit_4 rfl rfl ?_
    refine g_sipush F 999 dX11_fit_5 (by decide) ?_
    refine v_icmp_le F 16 dX11_fit_8 (by decide) s0 999 e0 rfl (fun c2 => ?_) (fun c2 => ?_)
    · refine g_aload_n F 0 dX11_fit_16 rfl rfl ?_
      refine xg_0_8 F i_X11 w_0 dX11_fit_17 ?_
      refine g_iload_n F 1 dX11_fit_20 rfl rfl ?_
      refine u_callVi (k := 0) (n := 0) (b := a 9) (As := [.int p0]) (st := []) F (fun sz => S_X2_fittingPairs l D K a G p0 s0 e0 hI sz) (cwV 1 hts gX11_fit_X2_fittingPairs rfl rfl rfl (by decide +kernel) ⟨Nat.le_of_ble_eq_true rfl, Nat.le_of_ble_eq_true rfl⟩) rfl 9 xc_9 rfl (Nat.le_of_ble_eq_true rfl) ⟨Nat.zero_le _, Nat.zero_le _⟩ dX11_fit_21 (fun r3 _ hw4 => ?_)
      exact u_iret F hA hQ hr () (trivial) rfl rfl dX11_fit_24
    · refine g_bipush F (-2) dX11_fit_11 (by decide) ?_
      refine g_goto F 24 dX11_fit_13 (by decide) ?_
      exact u_iret F hA hQ hr () (trivial) rfl rfl dX11_fit_24

theorem dX11_next_0 : decode cX11_next 0 = .ok (.aload_n 0, 1) := by decide +kernel
theorem dX11_next_1 : decode cX11_next 1 = .ok (.getfield 74, 3) := by decide +kernel
theorem dX11_next_4 : decode cX11_next 4 = .ok (.invokevirtual 261, 3) := by decide +kernel
theorem dX11_next_7 : decode cX11_next 7 = .ok (.ireturn, 1) := by decide +kernel
set_option maxRecDepth 20000 in
theorem ggX11_next_X2_nextOffer : GoodIn wsX11_next wsX2_nextOffer := goodIn_r _ [6, 7, 8, 9, 10, 11, 12, 13, 14, 5, 15, 16, 17, 18, 19, 20, 21, 22, 23, 24, 25, 26, 27, 28, 29, 30, 31, 32, 33, 34, 35, 36, 37, 38, 39, 40, 41, 56, 57, 58, 59, 60, 61, 62, 63, 64, 65, 66, 67, 68, 69] rfl (by decide +kernel)
set_option maxRecDepth 20000 in
theorem gX11_next_X2_nextOffer : GoodIn wsX11_next (wsV RX11 261 RX2 yX2_nextOffer wsX2_nextOffer) := goodIn_app (goodIn_of _ (by decide +kernel)) ggX11_next_X2_nextOffer
set_option maxHeartbeats 4000000 in
set_option maxRecDepth 100000 in
theorem S_X11_next (l : Launch) (D : va_G) (K : Nat → ClassId) (a : Nat → Nat) (G : gS) (hI : xI G) (sz : Nat) : Ki l yX11_next wsX11_next 4 113 0 0 D [.ref (a 0)] (xW K a G) (tK K) sz (fun (r : Int32) (_ : Unit) => ((-1) ≤ r.toInt ∧ r.toInt ≤ 998)) (fun (_ : Unit) => (xW K a G)) (fun _ => (tK K)) := by
  unfold Ki
  refine g_ofW (cc := cX11_next) (lv := [(0, .ref (a 0))]) (by decide) rfl (Nat.le_of_ble_eq_true rfl) rfl ?_
  intro p e s m args below meth c A Q hA hQ F hr hnm
  have hts := F.2.2.2.2.1
  have w_0 : (Cond.fieldLink RX11 74 "QuietCut" "ear" "LQuietCut$Ear;").before args s = true := hts _ (List.mem_of_getElem? (i := 1) rfl)
  have i_X11 : ∀ w ∈ u_ws RX11 TX11 14, w ∈ wsX11_next := fun _ h => List.mem_cons_of_mem _ (List.mem_append_left _ (List.mem_append_left _ (List.mem_append_right _ h)))
  refine g_aload_n F 0 dX11_next_0 rfl rfl ?_
  refine xg_0_8 F i_X11 w_0 dX11_next_1 ?_
  refine u_callVi (k := 0) (n := 0) (b := a 9) (As := []) (st := []) F (fun sz => S_X2_nextOffer l D K a G  hI sz) (cwV 0 hts gX11_next_X2_nextOffer rfl rfl rfl (by decide +kernel) ⟨Nat.le_of_ble_eq_true rfl, Nat.le_of_ble_eq_true rfl⟩) rfl 9 xc_9 rfl (Nat.le_of_ble_eq_true rfl) ⟨Nat.zero_le _, Nat.zero_le _⟩ dX11_next_4 (fun r1 _ hw2 => ?_)
  have rg4 := hw2
  clear hw2
  exact u_iret F hA hQ hr () ((by have h9 := ti_rng r1; omega)) rfl rfl dX11_next_7

theorem dX9_mayBeRound_0 : decode cX9_mayBeRound 0 = .ok (.iload_n 0, 1) := by decide +kernel
theorem dX9_mayBeRound_1 : decode cX9_mayBeRound 1 = .ok (.iconst 1, 1) := by decide +kernel
theorem dX9_mayBeRound_2 : decode cX9_mayBeRound 2 = .ok (.if_icmp .lt 13, 3) := by decide +kernel
theorem dX9_mayBeRound_5 : decode cX9_mayBeRound 5 = .ok (.iload_n 0, 1) := by decide +kernel
theorem dX9_mayBeRound_6 : decode cX9_mayBeRound 6 = .ok (.bipush 60, 2) := by decide +kernel
theorem dX9_mayBeRound_8 : decode cX9_mayBeRound 8 = .ok (.if_icmp .gt 7, 3) := by decide +kernel
theorem dX9_mayBeRound_11 : decode cX9_mayBeRound 11 = .ok (.iconst 1, 1) := by decide +kernel
theorem dX9_mayBeRound_12 : decode cX9_mayBeRound 12 = .ok (.goto 4, 3) := by decide +kernel
theorem dX9_mayBeRound_15 : decode cX9_mayBeRound 15 = .ok (.iconst 0, 1) := by decide +kernel
theorem dX9_mayBeRound_16 : decode cX9_mayBeRound 16 = .ok (.ireturn, 1) := by decide +kernel
set_option maxHeartbeats 4000000 in
set_option maxRecDepth 100000 in
theorem S_X9_mayBeRound (l : Launch) (D : va_G)  (p0 : Int32) (s0 : Int) (e0 : p0.toInt = s0) (sz : Nat) : Ki l yX9_mayBeRound wsX9_mayBeRound 1 40 0 0 D [.int p0] [] [] sz (fun (r : Int32) (_ : Unit) => ((r = 1 ∧ (1 ≤ s0 ∧ s0 ≤ 60)) ∨ (r = 0 ∧ (s0 < 1 ∨ 60 < s0)))) (fun (_ : Unit) => []) (fun _ => []) := by
  unfold Ki
  refine g_ofW (cc := cX9_mayBeRound) (lv := [(0, .int p0)]) (by decide) rfl (Nat.le_of_ble_eq_true rfl) rfl ?_
  intro p e s m args below meth c A Q hA hQ F hr hnm
  have hts := F.2.2.2.2.1
  have rg0 : -2147483648 ≤ s0 ∧ s0 ≤ 2147483647 := e0 ▸ ti_rng p0
  refine g_iload_n F 0 dX9_mayBeRound_0 rfl rfl ?_
  refine g_iconst F 1 dX9_mayBeRound_1 (by decide) ?_
  refine v_icmp_lt F 15 dX9_mayBeRound_2 (by decide) s0 1 e0 rfl (fun c1 => ?_) (fun c1 => ?_)
  · refine g_iconst F 0 dX9_mayBeRound_15 (by decide) ?_
    exact u_zret F hA hQ hr rfl () ((Or.inr (⟨rfl, by first | trivial | omega⟩))) rfl rfl dX9_mayBeRound_16
  · refine g_iload_n F 0 dX9_mayBeRound_5 rfl rfl ?_
    refine g_bipush F 60 dX9_mayBeRound_6 (by decide) ?_
    refine v_icmp_gt F 15 dX9_mayBeRound_8 (by decide) s0 60 e0 rfl (fun c2 => ?_) (fun c2 => ?_)
    · refine g_iconst F 0 dX9_mayBeRound_15 (by decide) ?_
      exact u_zret F hA hQ hr rfl () ((Or.inr (⟨rfl, by first | trivial | omega⟩))) rfl rfl dX9_mayBeRound_16
    · refine g_iconst F 1 dX9_mayBeRound_11 (by decide) ?_
      refine g_goto F 16 dX9_mayBeRound_12 (by decide) ?_
      exact u_zret F hA hQ hr rfl () ((Or.inl (⟨rfl, by first | trivial | omega⟩))) rfl rfl dX9_mayBeRound_16

theorem dX11_ringsOut_0 : decode cX11_ringsOut 0 = .ok (.iload_n 1, 1) := by decide +kernel
theorem dX11_ringsOut_1 : decode cX11_ringsOut 1 = .ok (.invokestatic 270, 3) := by decide +kernel
theorem dX11_ringsOut_4 : decode cX11_ringsOut 4 = .ok (.ifCond .eq 37, 3) := by decide +kernel
theorem dX11_ringsOut_7 : decode cX11_ringsOut 7 = .ok (.iload_n 2, 1) := by decide +kernel
theorem dX11_ringsOut_8 : decode cX11_ringsOut 8 = .ok (.iconst 1, 1) := by decide +kernel
theorem dX11_ringsOut_9 : decode cX11_ringsOut 9 = .ok (.if_icmp .lt 32, 3) := by decide +kernel
theorem dX11_ringsOut_12 : decode cX11_ringsOut 12 = .ok (.iload_n 2, 1) := by decide +kernel
theorem dX11_ringsOut_13 : decode cX11_ringsOut 13 = .ok (.bipush 60, 2) := by decide +kernel
theorem dX11_ringsOut_15 : decode cX11_ringsOut 15 = .ok (.if_icmp .gt 26, 3) := by decide +kernel
theorem dX11_ringsOut_18 : decode cX11_ringsOut 18 = .ok (.iload_n 3, 1) := by decide +kernel
theorem dX11_ringsOut_19 : decode cX11_ringsOut 19 = .ok (.iconst 1, 1) := by decide +kernel
theorem dX11_ringsOut_20 : decode cX11_ringsOut 20 = .ok (.if_icmp .lt 21, 3) := by decide +kernel
theorem dX11_ringsOut_23 : decode cX11_ringsOut 23 = .ok (.iload_n 3, 1) := by decide +kernel
theorem dX11_ringsOut_24 : decode cX11_ringsOut 24 = .ok (.iload_n 2, 1) := by decide +kernel
theorem dX11_ringsOut_25 : decode cX11_ringsOut 25 = .ok (.if_icmp .gt 16, 3) := by decide +kernel
theorem dX11_ringsOut_28 : decode cX11_ringsOut 28 = .ok (.iload 4, 2) := by decide +kernel
theorem dX11_ringsOut_30 : decode cX11_ringsOut 30 = .ok (.ifCond .lt 11, 3) := by decide +kernel
theorem dX11_ringsOut_33 : decode cX11_ringsOut 33 = .ok (.iload 4, 2) := by decide +kernel
theorem dX11_ringsOut_35 : decode cX11_ringsOut 35 = .ok (.sipush 9999, 3) := by decide +kernel
theorem dX11_ringsOut_38 : decode cX11_ringsOut 38 = .ok (.if_icmp .le 6, 3) := by decide +kernel
theorem dX11_ringsOut_41 : decode cX11_ringsOut 41 = .ok (.bipush (-2), 2) := by decide +kernel
theorem dX11_ringsOut_43 : decode cX11_ringsOut 43 = .ok (.ireturn, 1) := by decide +kernel
theorem dX11_ringsOut_44 : decode cX11_ringsOut 44 = .ok (.aload_n 0, 1) := by decide +kernel
theorem dX11_ringsOut_45 : decode cX11_ringsOut 45 = .ok (.getfield 81, 3) := by decide +kernel
theorem dX11_ringsOut_48 : decode cX11_ringsOut 48 = .ok (.iload_n 1, 1) := by decide +kernel
theorem dX11_ringsOut_49 : decode cX11_ringsOut 49 = .ok (.iload_n 2, 1) := by decide +kernel
theorem dX11_ringsOut_50 : decode cX11_ringsOut 50 = .ok (.iload_n 3, 1) := by decide +kernel
theorem dX11_ringsOut_51 : decode cX11_ringsOut 51 = .ok (.iload 4, 2) := by decide +kernel
theorem dX11_ringsOut_53 : decode cX11_ringsOut 53 = .ok (.invokevirtual 273, 3) := by decide +kernel
theorem dX11_ringsOut_56 : decode cX11_ringsOut 56 = .ok (.ireturn, 1) := by decide +kernel
set_option maxRecDepth 20000 in
theorem ggX11_ringsOut_X9_firstRinging : GoodIn wsX11_ringsOut wsX9_firstRinging := goodIn_r _ [9, 10, 11, 12, 13, 4, 14, 15, 16, 17, 18, 19, 34, 35, 36] rfl (by decide +kernel)
set_option maxRecDepth 20000 in
theorem gX11_ringsOut_X9_firstRinging : GoodIn wsX11_ringsOut (wsV RX11 273 RX9 yX9_firstRinging wsX9_firstRinging) := goodIn_app (goodIn_of _ (by decide +kernel)) ggX11_ringsOut_X9_firstRinging
set_option maxRecDepth 20000 in
theorem ggX11_ringsOut_X9_mayBeRound : GoodIn wsX11_ringsOut wsX9_mayBeRound := goodIn_r _ [5] rfl (by decide +kernel)
set_option maxRecDepth 20000 in
theorem gX11_ringsOut_X9_mayBeRound : GoodIn wsX11_ringsOut (va_wsS RX11 270 yX9_mayBeRound wsX9_mayBeRound) := goodIn_app (goodIn_of _ (by decide +kernel)) ggX11_ringsOut_X9_mayBeRound
set_option maxHeartbeats 4000000 in
set_option maxRecDepth 100000 in
theorem S_X11_ringsOut (l : Launch) (D : va_G) (K : Nat → ClassId) (a : Nat → Nat) (G : gS) (p0 : Int32) (s0 : Int) (p1 : Int32) (s1 : Int) (p2 : Int32) (s2 : Int) (p3 : Int32) (s3 : Int) (e0 : p0.toInt = s0) (e1 : p1.toInt = s1) (e2 : p2.toInt = s2) (e3 : p3.toInt = s3) (hI : xI G) (sz : Nat) : Ki l yX11_ringsOut wsX11_ringsOut 3 89 0 0 D [.ref (a 0), .int p0, .int p1, .int p2, .int p3] (xW K a G) (tK K) sz (fun (r : Int32) (_ : Unit) => ((-2) ≤ r.toInt ∧ r.toInt ≤ 149) ∧ (((r.toInt = -2 ∧ ¬ (1 ≤ s0 ∧ s0 ≤ 60 ∧ 1 ≤ s1 ∧ s1 ≤ 60 ∧ 1 ≤ s2 ∧ s2 ≤ s1 ∧ 0 ≤ s3 ∧ s3 ≤ 9999)) ∨ ((1 ≤ s0 ∧ s0 ≤ 60 ∧ 1 ≤ s1 ∧ s1 ≤ 60 ∧ 1 ≤ s2 ∧ s2 ≤ s1 ∧ 0 ≤ s3 ∧ s3 ≤ 9999) ∧ rO (G 88) (G 10 2).toInt s0 s1 s2 s3 r.toInt)))) (fun (_ : Unit) => (xW K a G)) (fun _ => (tK K)) := by
  unfold Ki
  refine g_ofW (cc := cX11_ringsOut) (lv := [(0, .ref (a 0)), (1, .int p0), (2, .int p1), (3, .int p2), (4, .int p3)]) (by decide) rfl (Nat.le_of_ble_eq_true rfl) rfl ?_
  intro p e s m args below meth c A Q hA hQ F hr hnm
  have hts := F.2.2.2.2.1
  have w_0 : (Cond.fieldLink RX11 81 "QuietCut" "sound" "LQuietCut$Sound;").before args s = true := hts _ (List.mem_of_getElem? (i := 1) rfl)
  have i_X11 : ∀ w ∈ u_ws RX11 TX11 14, w ∈ wsX11_ringsOut := fun _ h => List.mem_cons_of_mem _ (List.mem_append_left _ (List.mem_append_right _ h))
  have rg0 : -2147483648 ≤ s0 ∧ s0 ≤ 2147483647 := e0 ▸ ti_rng p0
  have rg1 : -2147483648 ≤ s1 ∧ s1 ≤ 2147483647 := e1 ▸ ti_rng p1
  have rg2 : -2147483648 ≤ s2 ∧ s2 ≤ 2147483647 := e2 ▸ ti_rng p2
  have rg3 : -2147483648 ≤ s3 ∧ s3 ≤ 2147483647 := e3 ▸ ti_rng p3
  refine g_iload_n F 1 dX11_ringsOut_0 rfl rfl ?_
  refine u_call0 (k := 0) (n := 0) (As := [.int p0]) (st := []) F (fun sz => S_X9_mayBeRound l D p0 s0 e0 sz) (va_cwS 1 hts gX11_ringsOut_X9_mayBeRound rfl rfl rfl (by decide +kernel) ⟨Nat.le_of_ble_eq_true rfl, Nat.le_of_ble_eq_true rfl⟩) rfl (Nat.le_of_ble_eq_true rfl) ⟨Nat.zero_le _, Nat.zero_le _⟩ dX11_ringsOut_1 (fun r1 _ hw2 => ?_)
  rcases hw2 with ⟨rfl, q4⟩ | ⟨rfl, q5⟩
  · refine v_if_eq F 41 dX11_ringsOut_4 (by decide) 1 rfl (fun c6 => absurd c6 (by decide)) (fun c6 => ?_)
    refine g_iload_n F 2 dX11_ringsOut_7 rfl rfl ?_
    refine g_iconst F 1 dX11_ringsOut_8 (by decide) ?_
    refine v_icmp_lt F 41 dX11_ringsOut_9 (by decide) s1 1 e1 rfl (fun c7 => ?_) (fun c7 => ?_)
    · refine g_bipush F (-2) dX11_ringsOut_41 (by decide) ?_
      exact u_iret F hA hQ hr () (⟨(by decide), (Or.inl ⟨by decide, by omega⟩)⟩) rfl rfl dX11_ringsOut_43
    · refine g_iload_n F 2 dX11_ringsOut_12 rfl rfl ?_
      refine g_bipush F 60 dX11_ringsOut_13 (by decide) ?_
      refine v_icmp_gt F 41 dX11_ringsOut_15 (by decide) s1 60 e1 rfl (fun c8 => ?_) (fun c8 => ?_)
      · refine g_bipush F (-2) dX11_ringsOut_41 (by decide) ?_
        exact u_iret F hA hQ hr () (⟨(by decide), (Or.inl ⟨by decide, by omega⟩)⟩) rfl rfl dX11_ringsOut_43
      · refine g_iload_n F 3 dX11_ringsOut_18 rfl rfl ?_
        refine g_iconst F 1 dX11_ringsOut_19 (by decide) ?_
        refine v_icmp_lt F 41 dX11_ringsOut_20 (by decide) s2 1 e2 rfl (fun c9 => ?_) (fun c9 => ?_)
        · refine g_bipush F (-2) dX11_ringsOut_41 (by decide) ?_
          exact u_iret F hA hQ hr () (⟨(by decide), (Or.inl ⟨by decide, by omega⟩)⟩) rfl rfl dX11_ringsOut_43
        · refine g_iload_n F 3 dX11_ringsOut_23 rfl rfl ?_
          refine g_iload_n F 2 dX11_ringsOut_24 rfl rfl ?_
          refine v_icmp_gt F 41 dX11_ringsOut_25 (by decide) s2 s1 e2 e1 (fun c10 => ?_) (fun c10 => ?_)
          · refine g_bipush F (-2) dX11_ringsOut_41 (by decide) ?_
            exact u_iret F hA hQ hr () (⟨(by decide), (Or.inl ⟨by decide, by omega⟩)⟩) rfl rfl dX11_ringsOut_43
          · refine g_iload F 4 dX11_ringsOut_28 rfl ?_
            refine v_if_lt F 41 dX11_ringsOut_30 (by decide) s3 e3 (fun c11 => ?_) (fun c11 => ?_)
            · refine g_bipush F (-2) dX11_ringsOut_41 (by decide) ?_
              exact u_iret F hA hQ hr () (⟨(by decide), (Or.inl ⟨by decide, by omega⟩)⟩) rfl rfl dX11_ringsOut_43
            · refine g_iload F 4 dX11_ringsOut_33 rfl ?_
              refine g_sipush F 9999 dX11_ringsOut_35 (by decide) ?_
              refine v_icmp_le F 44 dX11_ringsOut_38 (by decide) s3 9999 e3 rfl (fun c12 => ?_) (fun c12 => ?_)
              · refine g_aload_n F 0 dX11_ringsOut_44 rfl rfl ?_
                refine xg_0_9 F i_X11 w_0 dX11_ringsOut_45 ?_
                refine g_iload_n F 1 dX11_ringsOut_48 rfl rfl ?_
                refine g_iload_n F 2 dX11_ringsOut_49 rfl rfl ?_
                refine g_iload_n F 3 dX11_ringsOut_50 rfl rfl ?_
                refine g_iload F 4 dX11_ringsOut_51 rfl ?_
                refine u_callVi (k := 0) (n := 0) (b := a 10) (As := [.int p0, .int p1, .int p2, .int p3]) (st := []) F (fun sz => S_X9_firstRinging l D K a G p0 s0 p1 s1 p2 s2 p3 s3 e0 (by omega) e1 (by omega) e2 e3 hI sz) (cwV 4 hts gX11_ringsOut_X9_firstRinging rfl rfl rfl (by decide +kernel) ⟨Nat.le_of_ble_eq_true rfl, Nat.le_of_ble_eq_true rfl⟩) rfl 10 xc_10 rfl (Nat.le_of_ble_eq_true rfl) ⟨Nat.zero_le _, Nat.zero_le _⟩ dX11_ringsOut_53 (fun r13 _ hw14 => ?_)
                have b16 : (0 : Int) ≤ (G 10 2).toInt ∧ (G 10 2).toInt ≤ 150 := hI 10 2
                have q17 : rO (G 88) (G 10 2).toInt s0 s1 s2 s3 r13.toInt := hw14.2
                have rg18 := hw14.1
                clear hw14
                exact u_iret F hA hQ hr () (⟨(by have h9 := ti_rng r13; omega), (Or.inr ⟨by omega, q17⟩)⟩) rfl rfl dX11_ringsOut_56
              · refine g_bipush F (-2) dX11_ringsOut_41 (by decide) ?_
                exact u_iret F hA hQ hr () (⟨(by decide), (Or.inl ⟨by decide, by omega⟩)⟩) rfl rfl dX11_ringsOut_43
  · refine v_if_eq F 41 dX11_ringsOut_4 (by decide) 0 rfl (fun c19 => ?_) (fun c19 => absurd c19 (by decide))
    refine g_bipush F (-2) dX11_ringsOut_41 (by decide) ?_
    exact u_iret F hA hQ hr () (⟨(by decide), (Or.inl ⟨by decide, by omega⟩)⟩) rfl rfl dX11_ringsOut_43

theorem dX11_forced_0 : decode cX11_forced 0 = .ok (.iload_n 1, 1) := by decide +kernel
theorem dX11_forced_1 : decode cX11_forced 1 = .ok (.invokestatic 270, 3) := by decide +kernel
theorem dX11_forced_4 : decode cX11_forced 4 = .ok (.ifCond .eq 14, 3) := by decide +kernel
theorem dX11_forced_7 : decode cX11_forced 7 = .ok (.aload_n 0, 1) := by decide +kernel
theorem dX11_forced_8 : decode cX11_forced 8 = .ok (.getfield 81, 3) := by decide +kernel
theorem dX11_forced_11 : decode cX11_forced 11 = .ok (.iload_n 1, 1) := by decide +kernel
theorem dX11_forced_12 : decode cX11_forced 12 = .ok (.invokevirtual 276, 3) := by decide +kernel
theorem dX11_forced_15 : decode cX11_forced 15 = .ok (.goto 5, 3) := by decide +kernel
theorem dX11_forced_18 : decode cX11_forced 18 = .ok (.bipush (-2), 2) := by decide +kernel
theorem dX11_forced_20 : decode cX11_forced 20 = .ok (.ireturn, 1) := by decide +kernel
set_option maxRecDepth 20000 in
theorem ggX11_forced_X9_isForced : GoodIn wsX11_forced wsX9_isForced := goodIn_r _ [9, 10, 11, 12, 13, 14, 15, 16, 17, 18, 4, 19, 34, 35, 36] rfl (by decide +kernel)
set_option maxRecDepth 20000 in
theorem gX11_forced_X9_isForced : GoodIn wsX11_forced (wsV RX11 276 RX9 yX9_isForced wsX9_isForced) := goodIn_app (goodIn_of _ (by decide +kernel)) ggX11_forced_X9_isForced
set_option maxRecDepth 20000 in
theorem ggX11_forced_X9_mayBeRound : GoodIn wsX11_forced wsX9_mayBeRound := goodIn_r _ [5] rfl (by decide +kernel)
set_option maxRecDepth 20000 in
theorem gX11_forced_X9_mayBeRound : GoodIn wsX11_forced (va_wsS RX11 270 yX9_mayBeRound wsX9_mayBeRound) := goodIn_app (goodIn_of _ (by decide +kernel)) ggX11_forced_X9_mayBeRound
set_option maxHeartbeats 4000000 in
set_option maxRecDepth 100000 in
theorem S_X11_forced (l : Launch) (D : va_G) (K : Nat → ClassId) (a : Nat → Nat) (G : gS) (p0 : Int32) (s0 : Int) (e0 : p0.toInt = s0) (hI : xI G) (sz : Nat) : Ki l yX11_forced wsX11_forced 3 86 0 0 D [.ref (a 0), .int p0] (xW K a G) (tK K) sz (fun (r : Int32) (_ : Unit) => ((-2) ≤ r.toInt ∧ r.toInt ≤ 1) ∧ (((r.toInt = -2 ∧ (s0 < 1 ∨ 60 < s0)) ∨ (1 ≤ s0 ∧ s0 ≤ 60 ∧ ((r.toInt = -1 ∧ (G 10 2).toInt ≤ s0) ∨ (s0 < (G 10 2).toInt ∧ r.toInt = fF (G 88) (G 10 2).toInt s0)))))) (fun (_ : Unit) => (xW K a G)) (fun _ => (tK K)) := by
  unfold Ki
  refine g_ofW (cc := cX11_forced) (lv := [(0, .ref (a 0)), (1, .int p0)]) (by decide) rfl (Nat.le_of_ble_eq_true rfl) rfl ?_
  intro p e s m args below meth c A Q hA hQ F hr hnm
  have hts := F.2.2.2.2.1
  have w_0 : (Cond.fieldLink RX11 81 "QuietCut" "sound" "LQuietCut$Sound;").before args s = true := hts _ (List.mem_of_getElem? (i := 1) rfl)
  have i_X11 : ∀ w ∈ u_ws RX11 TX11 14, w ∈ wsX11_forced := fun _ h => List.mem_cons_of_mem _ (List.mem_append_left _ (List.mem_append_right _ h))
  have rg0 : -2147483648 ≤ s0 ∧ s0 ≤ 2147483647 := e0 ▸ ti_rng p0
  refine g_iload_n F 1 dX11_forced_0 rfl rfl ?_
  refine u_call0 (k := 0) (n := 0) (As := [.int p0]) (st := []) F (fun sz => S_X9_mayBeRound l D p0 s0 e0 sz) (va_cwS 1 hts gX11_forced_X9_mayBeRound rfl rfl rfl (by decide +kernel) ⟨Nat.le_of_ble_eq_true rfl, Nat.le_of_ble_eq_true rfl⟩) rfl (Nat.le_of_ble_eq_true rfl) ⟨Nat.zero_le _, Nat.zero_le _⟩ dX11_forced_1 (fun r1 _ hw2 => ?_)
  rcases hw2 with ⟨rfl, q4⟩ | ⟨rfl, q5⟩
  · refine v_if_eq F 18 dX11_forced_4 (by decide) 1 rfl (fun c6 => absurd c6 (by decide)) (fun c6 => ?_)
    refine g_aload_n F 0 dX11_forced_7 rfl rfl ?_
    refine xg_0_9 F i_X11 w_0 dX11_forced_8 ?_
    refine g_iload_n F 1 dX11_forced_11 rfl rfl ?_
    refine u_callVi (k := 0) (n := 0) (b := a 10) (As := [.int p0]) (st := []) F (fun sz => S_X9_isForced l D K a G p0 s0 e0 (by omega) hI sz) (cwV 1 hts gX11_forced_X9_isForced rfl rfl rfl (by decide +kernel) ⟨Nat.le_of_ble_eq_true rfl, Nat.le_of_ble_eq_true rfl⟩) rfl 10 xc_10 rfl (Nat.le_of_ble_eq_true rfl) ⟨Nat.zero_le _, Nat.zero_le _⟩ dX11_forced_12 (fun r7 _ hw8 => ?_)
    have b10 : (0 : Int) ≤ (G 10 2).toInt ∧ (G 10 2).toInt ≤ 150 := hI 10 2
    have q11 : ((r7.toInt = -1 ∧ (G 10 2).toInt ≤ s0) ∨ (s0 < (G 10 2).toInt ∧ r7.toInt = fF (G 88) (G 10 2).toInt s0)) := hw8.2
    have rg12 := hw8.1
    clear hw8
    refine g_goto F 20 dX11_forced_15 (by decide) ?_
    exact u_iret F hA hQ hr () (⟨(by have h9 := ti_rng r7; omega), (by show ((r7.toInt = -2 ∧ (s0 < 1 ∨ 60 < s0)) ∨ (1 ≤ s0 ∧ s0 ≤ 60 ∧ ((r7.toInt = -1 ∧ (G 10 2).toInt ≤ s0) ∨ (s0 < (G 10 2).toInt ∧ r7.toInt = fF (G 88) (G 10 2).toInt s0)))); (first | omega | (simp only [Int32.reduceToInt, true_and, and_true, ne_eq, not_true_eq_false, false_and, or_false, false_or, true_or, or_true, false_implies] <;> omega)))⟩) rfl rfl dX11_forced_20
  · refine v_if_eq F 18 dX11_forced_4 (by decide) 0 rfl (fun c13 => ?_) (fun c13 => absurd c13 (by decide))
    refine g_bipush F (-2) dX11_forced_18 (by decide) ?_
    exact u_iret F hA hQ hr () (⟨(by decide), (by show (((-2) = -2 ∧ (s0 < 1 ∨ 60 < s0)) ∨ (1 ≤ s0 ∧ s0 ≤ 60 ∧ (((-2) = -1 ∧ (G 10 2).toInt ≤ s0) ∨ (s0 < (G 10 2).toInt ∧ (-2) = fF (G 88) (G 10 2).toInt s0)))); (first | omega | (simp only [Int32.reduceToInt, true_and, and_true, ne_eq, not_true_eq_false, false_and, or_false, false_or, true_or, or_true, false_implies] <;> omega)))⟩) rfl rfl dX11_forced_20

theorem dX11_count_0 : decode cX11_count 0 = .ok (.iload_n 1, 1) := by decide +kernel
theorem dX11_count_1 : decode cX11_count 1 = .ok (.tableswitch 111 0 7 #[47, 55, 63, 71, 79, 87, 95, 103], 47) := by decide +kernel
theorem dX11_count_48 : decode cX11_count 48 = .ok (.aload_n 0, 1) := by decide +kernel
theorem dX11_count_49 : decode cX11_count 49 = .ok (.getfield 40, 3) := by decide +kernel
theorem dX11_count_52 : decode cX11_count 52 = .ok (.getfield 161, 3) := by decide +kernel
theorem dX11_count_55 : decode cX11_count 55 = .ok (.ireturn, 1) := by decide +kernel
theorem dX11_count_56 : decode cX11_count 56 = .ok (.aload_n 0, 1) := by decide +kernel
theorem dX11_count_57 : decode cX11_count 57 = .ok (.getfield 40, 3) := by decide +kernel
theorem dX11_count_60 : decode cX11_count 60 = .ok (.getfield 178, 3) := by decide +kernel
theorem dX11_count_63 : decode cX11_count 63 = .ok (.ireturn, 1) := by decide +kernel
theorem dX11_count_64 : decode cX11_count 64 = .ok (.aload_n 0, 1) := by decide +kernel
theorem dX11_count_65 : decode cX11_count 65 = .ok (.getfield 65, 3) := by decide +kernel
theorem dX11_count_68 : decode cX11_count 68 = .ok (.getfield 279, 3) := by decide +kernel
theorem dX11_count_71 : decode cX11_count 71 = .ok (.ireturn, 1) := by decide +kernel
theorem dX11_count_72 : decode cX11_count 72 = .ok (.aload_n 0, 1) := by decide +kernel
theorem dX11_count_73 : decode cX11_count 73 = .ok (.getfield 74, 3) := by decide +kernel
theorem dX11_count_76 : decode cX11_count 76 = .ok (.getfield 280, 3) := by decide +kernel
theorem dX11_count_79 : decode cX11_count 79 = .ok (.ireturn, 1) := by decide +kernel
theorem dX11_count_80 : decode cX11_count 80 = .ok (.aload_n 0, 1) := by decide +kernel
theorem dX11_count_81 : decode cX11_count 81 = .ok (.getfield 74, 3) := by decide +kernel
theorem dX11_count_84 : decode cX11_count 84 = .ok (.getfield 283, 3) := by decide +kernel
theorem dX11_count_87 : decode cX11_count 87 = .ok (.ireturn, 1) := by decide +kernel
theorem dX11_count_88 : decode cX11_count 88 = .ok (.aload_n 0, 1) := by decide +kernel
theorem dX11_count_89 : decode cX11_count 89 = .ok (.getfield 74, 3) := by decide +kernel
theorem dX11_count_92 : decode cX11_count 92 = .ok (.getfield 286, 3) := by decide +kernel
theorem dX11_count_95 : decode cX11_count 95 = .ok (.ireturn, 1) := by decide +kernel
theorem dX11_count_96 : decode cX11_count 96 = .ok (.aload_n 0, 1) := by decide +kernel
theorem dX11_count_97 : decode cX11_count 97 = .ok (.getfield 81, 3) := by decide +kernel
theorem dX11_count_100 : decode cX11_count 100 = .ok (.getfield 267, 3) := by decide +kernel
theorem dX11_count_103 : decode cX11_count 103 = .ok (.ireturn, 1) := by decide +kernel
theorem dX11_count_104 : decode cX11_count 104 = .ok (.aload_n 0, 1) := by decide +kernel
theorem dX11_count_105 : decode cX11_count 105 = .ok (.getfield 12, 3) := by decide +kernel
theorem dX11_count_108 : decode cX11_count 108 = .ok (.getfield 101, 3) := by decide +kernel
theorem dX11_count_111 : decode cX11_count 111 = .ok (.ireturn, 1) := by decide +kernel
theorem dX11_count_112 : decode cX11_count 112 = .ok (.iconst (-1), 1) := by decide +kernel
theorem dX11_count_113 : decode cX11_count 113 = .ok (.ireturn, 1) := by decide +kernel
set_option maxHeartbeats 4000000 in
set_option maxRecDepth 100000 in
theorem S_X11_count (l : Launch) (D : va_G) (K : Nat → ClassId) (a : Nat → Nat) (G : gS) (p0 : Int32) (s0 : Int) (e0 : p0.toInt = s0) (hI : xI G) (sz : Nat) : Ki l yX11_count wsX11_count 1 40 0 0 D [.ref (a 0), .int p0] (xW K a G) (tK K) sz (fun (r : Int32) (_ : Unit) => ((-1) ≤ r.toInt ∧ r.toInt ≤ 30000)) (fun (_ : Unit) => (xW K a G)) (fun _ => (tK K)) := by
  unfold Ki
  refine g_ofW (cc := cX11_count) (lv := [(0, .ref (a 0)), (1, .int p0)]) (by decide) rfl (Nat.le_of_ble_eq_true rfl) rfl ?_
  intro p e s m args below meth c A Q hA hQ F hr hnm
  have hts := F.2.2.2.2.1
  have w_0 : (Cond.fieldLink RX11 40 "QuietCut" "piece" "LQuietCut$Piece;").before args s = true := hts _ (List.mem_of_getElem? (i := 1) rfl)
  have i_X11 : ∀ w ∈ u_ws RX11 TX11 14, w ∈ wsX11_count := fun _ h => List.mem_cons_of_mem _ (List.mem_append_left _ (List.mem_append_left _ (List.mem_append_left _ (List.mem_append_left _ (List.mem_append_left _ (List.mem_append_right _ h))))))
  have w_1 : (Cond.fieldLink RX11 161 "QuietCut$Piece" "wear" "I").before args s = true := hts _ (List.mem_of_getElem? (i := 2) rfl)
  have i_X6 : ∀ w ∈ u_ws RX6 TX6 5, w ∈ wsX11_count := fun _ h => List.mem_cons_of_mem _ (List.mem_append_left _ (List.mem_append_left _ (List.mem_append_left _ (List.mem_append_left _ (List.mem_append_right _ h)))))
  have w_2 : (Cond.fieldLink RX11 178 "QuietCut$Piece" "passes" "I").before args s = true := hts _ (List.mem_of_getElem? (i := 3) rfl)
  have w_3 : (Cond.fieldLink RX11 65 "QuietCut" "jobs" "LQuietCut$Jobs;").before args s = true := hts _ (List.mem_of_getElem? (i := 4) rfl)
  have w_4 : (Cond.fieldLink RX11 279 "QuietCut$Jobs" "many" "I").before args s = true := hts _ (List.mem_of_getElem? (i := 5) rfl)
  have i_X4 : ∀ w ∈ u_ws RX4 TX4 12, w ∈ wsX11_count := fun _ h => List.mem_cons_of_mem _ (List.mem_append_left _ (List.mem_append_left _ (List.mem_append_left _ (List.mem_append_right _ h))))
  have w_5 : (Cond.fieldLink RX11 74 "QuietCut" "ear" "LQuietCut$Ear;").before args s = true := hts _ (List.mem_of_getElem? (i := 6) rfl)
  have w_6 : (Cond.fieldLink RX11 280 "QuietCut$Ear" "offers" "I").before args s = true := hts _ (List.mem_of_getElem? (i := 7) rfl)
  have i_X2 : ∀ w ∈ u_ws RX2 TX2 10, w ∈ wsX11_count := fun _ h => List.mem_cons_of_mem _ (List.mem_append_left _ (List.mem_append_left _ (List.mem_append_right _ h)))
  have w_7 : (Cond.fieldLink RX11 283 "QuietCut$Ear" "heards" "I").before args s = true := hts _ (List.mem_of_getElem? (i := 8) rfl)
  have w_8 : (Cond.fieldLink RX11 286 "QuietCut$Ear" "rights" "I").before args s = true := hts _ (List.mem_of_getElem? (i := 9) rfl)
  have w_9 : (Cond.fieldLink RX11 81 "QuietCut" "sound" "LQuietCut$Sound;").before args s = true := hts _ (List.mem_of_getElem? (i := 10) rfl)
  have w_10 : (Cond.fieldLink RX11 267 "QuietCut$Sound" "many" "I").before args s = true := hts _ (List.mem_of_getElem? (i := 11) rfl)
  have i_X9 : ∀ w ∈ u_ws RX9 TX9 3, w ∈ wsX11_count := fun _ h => List.mem_cons_of_mem _ (List.mem_append_left _ (List.mem_append_right _ h))
  have w_11 : (Cond.fieldLink RX11 12 "QuietCut" "tape" "LQuietCut$Tape;").before args s = true := hts _ (List.mem_of_getElem? (i := 12) rfl)
  have w_12 : (Cond.fieldLink RX11 101 "QuietCut$Tape" "length" "I").before args s = true := hts _ (List.mem_of_getElem? (i := 13) rfl)
  have i_X10 : ∀ w ∈ u_ws RX10 TX10 6, w ∈ wsX11_count := fun _ h => List.mem_cons_of_mem _ (List.mem_append_right _ h)
  have rg0 : -2147483648 ≤ s0 ∧ s0 ≤ 2147483647 := e0 ▸ ti_rng p0
  refine g_iload_n F 1 dX11_count_0 rfl rfl ?_
  rcases (show s0 = 0 ∨ s0 = 1 ∨ s0 = 2 ∨ s0 = 3 ∨ s0 = 4 ∨ s0 = 5 ∨ s0 = 6 ∨ s0 = 7 ∨ (s0 < 0 ∨ 7 < s0) by omega) with c1 | c1 | c1 | c1 | c1 | c1 | c1 | c1 | c1
  · have c1' : Int32.toInt p0 = 0 := (e0).trans c1
    refine g_tableIn F 48 dX11_count_1 (by rw [c1']; decide) (by rw [c1']; decide) (by rw [c1']; rfl) (by decide) ?_
    refine g_aload_n F 0 dX11_count_48 rfl rfl ?_
    refine xg_0_4 F i_X11 w_0 dX11_count_49 ?_
    refine xg_5_2 F i_X6 w_1 dX11_count_52 (G 5 2) (rfl) ?_
    have b2 : (0 : Int) ≤ (G 5 2).toInt ∧ (G 5 2).toInt ≤ 30000 := hI 5 2
    exact u_iret F hA hQ hr () ((by have h9 := ti_rng (G 5 2); omega)) rfl rfl dX11_count_55
  · have c1' : Int32.toInt p0 = 1 := (e0).trans c1
    refine g_tableIn F 56 dX11_count_1 (by rw [c1']; decide) (by rw [c1']; decide) (by rw [c1']; rfl) (by decide) ?_
    refine g_aload_n F 0 dX11_count_56 rfl rfl ?_
    refine xg_0_4 F i_X11 w_0 dX11_count_57 ?_
    refine xg_5_3 F i_X6 w_2 dX11_count_60 (G 5 3) (rfl) ?_
    have b3 : (0 : Int) ≤ (G 5 3).toInt ∧ (G 5 3).toInt ≤ 200 := hI 5 3
    exact u_iret F hA hQ hr () ((by have h9 := ti_rng (G 5 3); omega)) rfl rfl dX11_count_63
  · have c1' : Int32.toInt p0 = 2 := (e0).trans c1
    refine g_tableIn F 64 dX11_count_1 (by rw [c1']; decide) (by rw [c1']; decide) (by rw [c1']; rfl) (by decide) ?_
    refine g_aload_n F 0 dX11_count_64 rfl rfl ?_
    refine xg_0_7 F i_X11 w_3 dX11_count_65 ?_
    refine xg_8_3 F i_X4 w_4 dX11_count_68 (G 8 3) (rfl) ?_
    have b4 : (0 : Int) ≤ (G 8 3).toInt ∧ (G 8 3).toInt ≤ 5 := hI 8 3
    exact u_iret F hA hQ hr () ((by have h9 := ti_rng (G 8 3); omega)) rfl rfl dX11_count_71
  · have c1' : Int32.toInt p0 = 3 := (e0).trans c1
    refine g_tableIn F 72 dX11_count_1 (by rw [c1']; decide) (by rw [c1']; decide) (by rw [c1']; rfl) (by decide) ?_
    refine g_aload_n F 0 dX11_count_72 rfl rfl ?_
    refine xg_0_8 F i_X11 w_5 dX11_count_73 ?_
    refine xg_9_4 F i_X2 w_6 dX11_count_76 (G 9 4) (rfl) ?_
    have b5 : (0 : Int) ≤ (G 9 4).toInt ∧ (G 9 4).toInt ≤ 10 := hI 9 4
    exact u_iret F hA hQ hr () ((by have h9 := ti_rng (G 9 4); omega)) rfl rfl dX11_count_79
  · have c1' : Int32.toInt p0 = 4 := (e0).trans c1
    refine g_tableIn F 80 dX11_count_1 (by rw [c1']; decide) (by rw [c1']; decide) (by rw [c1']; rfl) (by decide) ?_
    refine g_aload_n F 0 dX11_count_80 rfl rfl ?_
    refine xg_0_8 F i_X11 w_5 dX11_count_81 ?_
    refine xg_9_6 F i_X2 w_7 dX11_count_84 (G 9 6) (rfl) ?_
    have b6 : (0 : Int) ≤ (G 9 6).toInt ∧ (G 9 6).toInt ≤ 30 := hI 9 6
    exact u_iret F hA hQ hr () ((by have h9 := ti_rng (G 9 6); omega)) rfl rfl dX11_count_87
  · have c1' : Int32.toInt p0 = 5 := (e0).trans c1
    refine g_tableIn F 88 dX11_count_1 (by rw [c1']; decide) (by rw [c1']; decide) (by rw [c1']; rfl) (by decide) ?_
    refine g_aload_n F 0 dX11_count_88 rfl rfl ?_
    refine xg_0_8 F i_X11 w_5 dX11_count_89 ?_
    refine xg_9_8 F i_X2 w_8 dX11_count_92 (G 9 8) (rfl) ?_
    have b7 : (0 : Int) ≤ (G 9 8).toInt ∧ (G 9 8).toInt ≤ 20 := hI 9 8
    exact u_iret F hA hQ hr () ((by have h9 := ti_rng (G 9 8); omega)) rfl rfl dX11_count_95
  · have c1' : Int32.toInt p0 = 6 := (e0).trans c1
    refine g_tableIn F 96 dX11_count_1 (by rw [c1']; decide) (by rw [c1']; decide) (by rw [c1']; rfl) (by decide) ?_
    refine g_aload_n F 0 dX11_count_96 rfl rfl ?_
    refine xg_0_9 F i_X11 w_9 dX11_count_97 ?_
    refine xg_10_2 F i_X9 w_10 dX11_count_100 (G 10 2) (rfl) ?_
    have b8 : (0 : Int) ≤ (G 10 2).toInt ∧ (G 10 2).toInt ≤ 150 := hI 10 2
    exact u_iret F hA hQ hr () ((by have h9 := ti_rng (G 10 2); omega)) rfl rfl dX11_count_103
  · have c1' : Int32.toInt p0 = 7 := (e0).trans c1
    refine g_tableIn F 104 dX11_count_1 (by rw [c1']; decide) (by rw [c1']; decide) (by rw [c1']; rfl) (by decide) ?_
    refine g_aload_n F 0 dX11_count_104 rfl rfl ?_
    refine xg_0_0 F i_X11 w_11 dX11_count_105 ?_
    refine xg_1_1 F i_X10 w_12 dX11_count_108 (G 1 1) (rfl) ?_
    have b9 : (0 : Int) ≤ (G 1 1).toInt ∧ (G 1 1).toInt ≤ 1000 := hI 1 1
    exact u_iret F hA hQ hr () ((by have h9 := ti_rng (G 1 1); omega)) rfl rfl dX11_count_111
  · refine g_tableOut F 112 dX11_count_1 (by rw [e0]; exact c1) (by decide) ?_
    refine g_iconst F (-1) dX11_count_112 (by decide) ?_
    exact u_iret F hA hQ hr () ((by decide)) rfl rfl dX11_count_113

theorem dX7_sumAt_0 : decode cX7_sumAt 0 = .ok (.iload_n 1, 1) := by decide +kernel
theorem dX7_sumAt_1 : decode cX7_sumAt 1 = .ok (.ifCond .ne 8, 3) := by decide +kernel
theorem dX7_sumAt_4 : decode cX7_sumAt 4 = .ok (.aload_n 0, 1) := by decide +kernel
theorem dX7_sumAt_5 : decode cX7_sumAt 5 = .ok (.getfield 18, 3) := by decide +kernel
theorem dX7_sumAt_8 : decode cX7_sumAt 8 = .ok (.areturn, 1) := by decide +kernel
theorem dX7_sumAt_9 : decode cX7_sumAt 9 = .ok (.iload_n 1, 1) := by decide +kernel
theorem dX7_sumAt_10 : decode cX7_sumAt 10 = .ok (.iconst 1, 1) := by decide +kernel
theorem dX7_sumAt_11 : decode cX7_sumAt 11 = .ok (.if_icmp .ne 10, 3) := by decide +kernel
theorem dX7_sumAt_14 : decode cX7_sumAt 14 = .ok (.aload_n 0, 1) := by decide +kernel
theorem dX7_sumAt_15 : decode cX7_sumAt 15 = .ok (.getfield 22, 3) := by decide +kernel
theorem dX7_sumAt_18 : decode cX7_sumAt 18 = .ok (.goto 7, 3) := by decide +kernel
theorem dX7_sumAt_21 : decode cX7_sumAt 21 = .ok (.aload_n 0, 1) := by decide +kernel
theorem dX7_sumAt_22 : decode cX7_sumAt 22 = .ok (.getfield 25, 3) := by decide +kernel
theorem dX7_sumAt_25 : decode cX7_sumAt 25 = .ok (.areturn, 1) := by decide +kernel
set_option maxHeartbeats 4000000 in
set_option maxRecDepth 100000 in
theorem S_X7_sumAt_2_v0 (l : Launch) (D : va_G) (K : Nat → ClassId) (a : Nat → Nat) (G : gS) (hI : xI G) (sz : Nat) : Kr l yX7_sumAt wsX7_sumAt 1 40 0 0 D [.ref (a 2), .int 0] (xW K a G) (tK K) sz (fun (_ : Unit) => True) (fun (_ : Unit) => a 11) (fun (_ : Unit) => (xW K a G)) (fun _ => (tK K)) := by
  unfold Kr
  refine g_ofW (cc := cX7_sumAt) (lv := [(0, .ref (a 2)), (1, .int 0)]) (by decide) rfl (Nat.le_of_ble_eq_true rfl) rfl ?_
  intro p e s m args below meth c A Q hA hQ F hr hnm
  have hts := F.2.2.2.2.1
  have w_0 : (Cond.fieldLink RX7 18 "QuietCut$Shop" "force" "LQuietCut$Formula;").before args s = true := hts _ (List.mem_of_getElem? (i := 1) rfl)
  have i_X7 : ∀ w ∈ u_ws RX7 TX7 4, w ∈ wsX7_sumAt := fun _ h => List.mem_cons_of_mem _ (List.mem_append_right _ h)
  refine g_iload_n F 1 dX7_sumAt_0 rfl rfl ?_
  refine v_if_ne F 9 dX7_sumAt_1 (by decide) 0 rfl (fun c1 => absurd c1 (by decide)) (fun c1 => ?_)
  refine g_aload_n F 0 dX7_sumAt_4 rfl rfl ?_
  refine xg_2_1 F i_X7 w_0 dX7_sumAt_5 ?_
  exact u_aret F hA hQ hr (Or.inl ⟨_, rfl⟩) () (trivial) rfl rfl rfl dX7_sumAt_8


set_option maxHeartbeats 4000000 in
set_option maxRecDepth 100000 in
theorem S_X7_sumAt_2_v1 (l : Launch) (D : va_G) (K : Nat → ClassId) (a : Nat → Nat) (G : gS) (hI : xI G) (sz : Nat) : Kr l yX7_sumAt wsX7_sumAt 1 40 0 0 D [.ref (a 2), .int 1] (xW K a G) (tK K) sz (fun (_ : Unit) => True) (fun (_ : Unit) => a 12) (fun (_ : Unit) => (xW K a G)) (fun _ => (tK K)) := by
  unfold Kr
  refine g_ofW (cc := cX7_sumAt) (lv := [(0, .ref (a 2)), (1, .int 1)]) (by decide) rfl (Nat.le_of_ble_eq_true rfl) rfl ?_
  intro p e s m args below meth c A Q hA hQ F hr hnm
  have hts := F.2.2.2.2.1
  have w_0 : (Cond.fieldLink RX7 22 "QuietCut$Shop" "wall" "LQuietCut$Formula;").before args s = true := hts _ (List.mem_of_getElem? (i := 2) rfl)
  have i_X7 : ∀ w ∈ u_ws RX7 TX7 4, w ∈ wsX7_sumAt := fun _ h => List.mem_cons_of_mem _ (List.mem_append_right _ h)
  refine g_iload_n F 1 dX7_sumAt_0 rfl rfl ?_
  refine v_if_ne F 9 dX7_sumAt_1 (by decide) 1 rfl (fun c1 => ?_) (fun c1 => absurd c1 (by decide))
  refine g_iload_n F 1 dX7_sumAt_9 rfl rfl ?_
  refine g_iconst F 1 dX7_sumAt_10 (by decide) ?_
  refine v_icmp_ne F 21 dX7_sumAt_11 (by decide) 1 1 rfl rfl (fun c2 => absurd c2 (by decide)) (fun c2 => ?_)
  refine g_aload_n F 0 dX7_sumAt_14 rfl rfl ?_
  refine xg_2_2 F i_X7 w_0 dX7_sumAt_15 ?_
  refine g_goto F 25 dX7_sumAt_18 (by decide) ?_
  exact u_aret F hA hQ hr (Or.inl ⟨_, rfl⟩) () (trivial) rfl rfl rfl dX7_sumAt_25


set_option maxHeartbeats 4000000 in
set_option maxRecDepth 100000 in
theorem S_X7_sumAt_2_v2 (l : Launch) (D : va_G) (K : Nat → ClassId) (a : Nat → Nat) (G : gS) (hI : xI G) (sz : Nat) : Kr l yX7_sumAt wsX7_sumAt 1 40 0 0 D [.ref (a 2), .int 2] (xW K a G) (tK K) sz (fun (_ : Unit) => True) (fun (_ : Unit) => a 13) (fun (_ : Unit) => (xW K a G)) (fun _ => (tK K)) := by
  unfold Kr
  refine g_ofW (cc := cX7_sumAt) (lv := [(0, .ref (a 2)), (1, .int 2)]) (by decide) rfl (Nat.le_of_ble_eq_true rfl) rfl ?_
  intro p e s m args below meth c A Q hA hQ F hr hnm
  have hts := F.2.2.2.2.1
  have w_0 : (Cond.fieldLink RX7 25 "QuietCut$Shop" "wear" "LQuietCut$Formula;").before args s = true := hts _ (List.mem_of_getElem? (i := 3) rfl)
  have i_X7 : ∀ w ∈ u_ws RX7 TX7 4, w ∈ wsX7_sumAt := fun _ h => List.mem_cons_of_mem _ (List.mem_append_right _ h)
  refine g_iload_n F 1 dX7_sumAt_0 rfl rfl ?_
  refine v_if_ne F 9 dX7_sumAt_1 (by decide) 2 rfl (fun c1 => ?_) (fun c1 => absurd c1 (by decide))
  refine g_iload_n F 1 dX7_sumAt_9 rfl rfl ?_
  refine g_iconst F 1 dX7_sumAt_10 (by decide) ?_
  refine v_icmp_ne F 21 dX7_sumAt_11 (by decide) 2 1 rfl rfl (fun c2 => ?_) (fun c2 => absurd c2 (by decide))
  refine g_aload_n F 0 dX7_sumAt_21 rfl rfl ?_
  refine xg_2_3 F i_X7 w_0 dX7_sumAt_22 ?_
  exact u_aret F hA hQ hr (Or.inl ⟨_, rfl⟩) () (trivial) rfl rfl rfl dX7_sumAt_25

theorem dX11_tells_0 : decode cX11_tells 0 = .ok (.iload_n 1, 1) := by decide +kernel
theorem dX11_tells_1 : decode cX11_tells 1 = .ok (.ifCond .lt 8, 3) := by decide +kernel
theorem dX11_tells_4 : decode cX11_tells 4 = .ok (.iload_n 1, 1) := by decide +kernel
theorem dX11_tells_5 : decode cX11_tells 5 = .ok (.iconst 2, 1) := by decide +kernel
theorem dX11_tells_6 : decode cX11_tells 6 = .ok (.if_icmp .le 7, 3) := by decide +kernel
theorem dX11_tells_9 : decode cX11_tells 9 = .ok (.iconst 0, 1) := by decide +kernel
theorem dX11_tells_10 : decode cX11_tells 10 = .ok (.goto 16, 3) := by decide +kernel
theorem dX11_tells_13 : decode cX11_tells 13 = .ok (.aload_n 0, 1) := by decide +kernel
theorem dX11_tells_14 : decode cX11_tells 14 = .ok (.getfield 19, 3) := by decide +kernel
theorem dX11_tells_17 : decode cX11_tells 17 = .ok (.iload_n 1, 1) := by decide +kernel
theorem dX11_tells_18 : decode cX11_tells 18 = .ok (.invokevirtual 134, 3) := by decide +kernel
theorem dX11_tells_21 : decode cX11_tells 21 = .ok (.iload_n 2, 1) := by decide +kernel
theorem dX11_tells_22 : decode cX11_tells 22 = .ok (.iload_n 3, 1) := by decide +kernel
theorem dX11_tells_23 : decode cX11_tells 23 = .ok (.invokevirtual 138, 3) := by decide +kernel
theorem dX11_tells_26 : decode cX11_tells 26 = .ok (.ireturn, 1) := by decide +kernel
set_option maxRecDepth 20000 in
theorem ggX11_tells_X3_value : GoodIn wsX11_tells wsX3_value := goodIn_r _ [14, 15, 16, 17, 18, 19, 13, 20, 39, 40, 41, 42, 43, 44, 45, 46, 47] rfl (by decide +kernel)
set_option maxRecDepth 20000 in
theorem gX11_tells_X3_value : GoodIn wsX11_tells (wsV RX11 138 RX3 yX3_value wsX3_value) := goodIn_app (goodIn_of _ (by decide +kernel)) ggX11_tells_X3_value
set_option maxRecDepth 20000 in
theorem ggX11_tells_X7_sumAt : GoodIn wsX11_tells wsX7_sumAt := goodIn_r _ [6, 7, 8, 9, 35, 36, 37, 38] rfl (by decide +kernel)
set_option maxRecDepth 20000 in
theorem gX11_tells_X7_sumAt : GoodIn wsX11_tells (wsV RX11 134 RX7 yX7_sumAt wsX7_sumAt) := goodIn_app (goodIn_of _ (by decide +kernel)) ggX11_tells_X7_sumAt
set_option maxHeartbeats 4000000 in
set_option maxRecDepth 100000 in
theorem S_X11_tells (l : Launch) (D : va_G) (K : Nat → ClassId) (a : Nat → Nat) (G : gS) (p0 : Int32) (s0 : Int) (p1 : Int32) (s1 : Int) (p2 : Int32) (s2 : Int) (e0 : p0.toInt = s0) (e1 : p1.toInt = s1) (e2 : p2.toInt = s2) (hI : xI G) (sz : Nat) : Ki l yX11_tells wsX11_tells 3 87 0 0 D [.ref (a 0), .int p0, .int p1, .int p2] (xW K a G) (tK K) sz (fun (r : Int32) (G' : gS) => (xI G') ∧ (gu_un xcd [2100, 2400, 2700] G G') ∧ ((((s0 < 0 ∨ 2 < s0) ∧ r.toInt = 0) ∨ (s0 = 0 ∧ (gcOK (tkr (G 20) ((G 11 1).toInt).toNat) → r.toInt = (eV p1 p2 (tkr (G 20) ((G 11 1).toInt).toNat)).toInt)) ∨ (s0 = 1 ∧ (gcOK (tkr (G 23) ((G 12 1).toInt).toNat) → r.toInt = (eV p1 p2 (tkr (G 23) ((G 12 1).toInt).toNat)).toInt)) ∨ (s0 = 2 ∧ (gcOK (tkr (G 26) ((G 13 1).toInt).toNat) → r.toInt = (eV p1 p2 (tkr (G 26) ((G 13 1).toInt).toNat)).toInt))))) (fun (G' : gS) => (xW K a G')) (fun _ => (tK K)) := by
  unfold Ki
  refine g_ofW (cc := cX11_tells) (lv := [(0, .ref (a 0)), (1, .int p0), (2, .int p1), (3, .int p2)]) (by decide) rfl (Nat.le_of_ble_eq_true rfl) rfl ?_
  intro p e s m args below meth c A Q hA hQ F hr hnm
  have hts := F.2.2.2.2.1
  have w_0 : (Cond.fieldLink RX11 19 "QuietCut" "shop" "LQuietCut$Shop;").before args s = true := hts _ (List.mem_of_getElem? (i := 1) rfl)
  have i_X11 : ∀ w ∈ u_ws RX11 TX11 14, w ∈ wsX11_tells := fun _ h => List.mem_cons_of_mem _ (List.mem_append_left _ (List.mem_append_left _ (List.mem_append_right _ h)))
  have rg0 : -2147483648 ≤ s0 ∧ s0 ≤ 2147483647 := e0 ▸ ti_rng p0
  have rg1 : -2147483648 ≤ s1 ∧ s1 ≤ 2147483647 := e1 ▸ ti_rng p1
  have rg2 : -2147483648 ≤ s2 ∧ s2 ≤ 2147483647 := e2 ▸ ti_rng p2
  have b1 : (0 : Int) ≤ (G 11 1).toInt ∧ (G 11 1).toInt ≤ 80 := hI 11 1
  have b2 : (0 : Int) ≤ (G 12 1).toInt ∧ (G 12 1).toInt ≤ 80 := hI 12 1
  have b3 : (0 : Int) ≤ (G 13 1).toInt ∧ (G 13 1).toInt ≤ 80 := hI 13 1
  refine g_iload_n F 1 dX11_tells_0 rfl rfl ?_
  refine v_if_lt F 9 dX11_tells_1 (by decide) s0 e0 (fun c4 => ?_) (fun c4 => ?_)
  · refine g_iconst F 0 dX11_tells_9 (by decide) ?_
    refine g_goto F 26 dX11_tells_10 (by decide) ?_
    exact u_iret F hA hQ hr G (⟨hI, gu_un.rf, (by first | exact Or.inl ⟨by omega, by decide⟩ | exact Or.inr (Or.inl ⟨by omega, q0⟩) | exact Or.inr (Or.inr (Or.inl ⟨by omega, q0⟩)) | exact Or.inr (Or.inr (Or.inr ⟨by omega, q0⟩)))⟩) rfl rfl dX11_tells_26
  · refine g_iload_n F 1 dX11_tells_4 rfl rfl ?_
    refine g_iconst F 2 dX11_tells_5 (by decide) ?_
    refine v_icmp_le F 13 dX11_tells_6 (by decide) s0 2 e0 rfl (fun c5 => ?_) (fun c5 => ?_)
    · refine g_aload_n F 0 dX11_tells_13 rfl rfl ?_
      refine xg_0_1 F i_X11 w_0 dX11_tells_14 ?_
      refine g_iload_n F 1 dX11_tells_17 rfl rfl ?_
      rcases (show s0 = 0 ∨ s0 = 1 ∨ s0 = 2 by omega) with c6 | c6 | c6
      · refine g_fold 0 ((ti_eq e0 (show (0 : Int32).toInt = 0 from rfl)).mpr c6) ?_
        refine u_callVr (k := 0) (n := 0) (b := a 2) (As := [.int 0]) (st := []) F (fun sz => S_X7_sumAt_2_v0 l D K a G  hI sz) (cwV 1 hts gX11_tells_X7_sumAt rfl rfl rfl (by decide +kernel) ⟨Nat.le_of_ble_eq_true rfl, Nat.le_of_ble_eq_true rfl⟩) rfl 2 xc_2 rfl (Nat.le_of_ble_eq_true rfl) ⟨Nat.zero_le _, Nat.zero_le _⟩ dX11_tells_18 (fun _ hw8 => ?_)
        show gG p l e (gR 3 0 0 87) s m args below meth c D A 4 Q 0 0 (xW K a G) (tK K) [(0, .ref (a 0)), (1, .int p0), (2, .int p1), (3, .int p2)] 21 [.ref (a 11)]
        refine g_iload_n F 2 dX11_tells_21 rfl rfl ?_
        refine g_iload_n F 3 dX11_tells_22 rfl rfl ?_
        refine u_callVi (k := 0) (n := 0) (b := a 11) (As := [.int p1, .int p2]) (st := []) F (fun sz => S_X3_value_11 l D K a G p1 s1 p2 s2 e1 e2 hI sz) (cwV 2 hts gX11_tells_X3_value rfl rfl rfl (by decide +kernel) ⟨Nat.le_of_ble_eq_true rfl, Nat.le_of_ble_eq_true rfl⟩) rfl 11 xc_11 rfl (Nat.le_of_ble_eq_true rfl) ⟨Nat.zero_le _, Nat.zero_le _⟩ dX11_tells_23 (fun r10 G12 hw11 => ?_)
        have hI13 : xI G12 := hw11.1
        have hU14 : gu_un xcd [2100] G G12 := hw11.2.1
        have hp15 := hw11.2.2
        have q16 : (gcOK (tkr (G 20) ((G 11 1).toInt).toNat) → r10.toInt = (eV p1 p2 (tkr (G 20) ((G 11 1).toInt).toNat)).toInt) := hp15
        clear hp15 hw11
        exact u_iret F hA hQ hr G12 (⟨hI13, (gu_un.tr gu_un.rf (gu_un.su hU14 rfl)), (by first | exact Or.inl ⟨by omega, by decide⟩ | exact Or.inr (Or.inl ⟨by omega, q16⟩) | exact Or.inr (Or.inr (Or.inl ⟨by omega, q16⟩)) | exact Or.inr (Or.inr (Or.inr ⟨by omega, q16⟩)))⟩) rfl rfl dX11_tells_26
      · refine g_fold 1 ((ti_eq e0 (show (1 : Int32).toInt = 1 from rfl)).mpr c6) ?_
        refine u_callVr (k := 0) (n := 0) (b := a 2) (As := [.int 1]) (st := []) F (fun sz => S_X7_sumAt_2_v1 l D K a G  hI sz) (cwV 1 hts gX11_tells_X7_sumAt rfl rfl rfl (by decide +kernel) ⟨Nat.le_of_ble_eq_true rfl, Nat.le_of_ble_eq_true rfl⟩) rfl 2 xc_2 rfl (Nat.le_of_ble_eq_true rfl) ⟨Nat.zero_le _, Nat.zero_le _⟩ dX11_tells_18 (fun _ hw18 => ?_)
        show gG p l e (gR 3 0 0 87) s m args below meth c D A 4 Q 0 0 (xW K a G) (tK K) [(0, .ref (a 0)), (1, .int p0), (2, .int p1), (3, .int p2)] 21 [.ref (a 12)]
        refine g_iload_n F 2 dX11_tells_21 rfl rfl ?_
        refine g_iload_n F 3 dX11_tells_22 rfl rfl ?_
        refine u_callVi (k := 0) (n := 0) (b := a 12) (As := [.int p1, .int p2]) (st := []) F (fun sz => S_X3_value_12 l D K a G p1 s1 p2 s2 e1 e2 hI sz) (cwV 2 hts gX11_tells_X3_value rfl rfl rfl (by decide +kernel) ⟨Nat.le_of_ble_eq_true rfl, Nat.le_of_ble_eq_true rfl⟩) rfl 12 xc_12 rfl (Nat.le_of_ble_eq_true rfl) ⟨Nat.zero_le _, Nat.zero_le _⟩ dX11_tells_23 (fun r20 G22 hw21 => ?_)
        have hI23 : xI G22 := hw21.1
        have hU24 : gu_un xcd [2400] G G22 := hw21.2.1
        have hp25 := hw21.2.2
        have q26 : (gcOK (tkr (G 23) ((G 12 1).toInt).toNat) → r20.toInt = (eV p1 p2 (tkr (G 23) ((G 12 1).toInt).toNat)).toInt) := hp25
        clear hp25 hw21
        exact u_iret F hA hQ hr G22 (⟨hI23, (gu_un.tr gu_un.rf (gu_un.su hU24 rfl)), (by first | exact Or.inl ⟨by omega, by decide⟩ | exact Or.inr (Or.inl ⟨by omega, q26⟩) | exact Or.inr (Or.inr (Or.inl ⟨by omega, q26⟩)) | exact Or.inr (Or.inr (Or.inr ⟨by omega, q26⟩)))⟩) rfl rfl dX11_tells_26
      · refine g_fold 2 ((ti_eq e0 (show (2 : Int32).toInt = 2 from rfl)).mpr c6) ?_
        refine u_callVr (k := 0) (n := 0) (b := a 2) (As := [.int 2]) (st := []) F (fun sz => S_X7_sumAt_2_v2 l D K a G  hI sz) (cwV 1 hts gX11_tells_X7_sumAt rfl rfl rfl (by decide +kernel) ⟨Nat.le_of_ble_eq_true rfl, Nat.le_of_ble_eq_true rfl⟩) rfl 2 xc_2 rfl (Nat.le_of_ble_eq_true rfl) ⟨Nat.zero_le _, Nat.zero_le _⟩ dX11_tells_18 (fun _ hw28 => ?_)
        show gG p l e (gR 3 0 0 87) s m args below meth c D A 4 Q 0 0 (xW K a G) (tK K) [(0, .ref (a 0)), (1, .int p0), (2, .int p1), (3, .int p2)] 21 [.ref (a 13)]
        refine g_iload_n F 2 dX11_tells_21 rfl rfl ?_
        refine g_iload_n F 3 dX11_tells_22 rfl rfl ?_
        refine u_callVi (k := 0) (n := 0) (b := a 13) (As := [.int p1, .int p2]) (st := []) F (fun sz => S_X3_value_13 l D K a G p1 s1 p2 s2 e1 e2 hI sz) (cwV 2 hts gX11_tells_X3_value rfl rfl rfl (by decide +kernel) ⟨Nat.le_of_ble_eq_true rfl, Nat.le_of_ble_eq_true rfl⟩) rfl 13 xc_13 rfl (Nat.le_of_ble_eq_true rfl) ⟨Nat.zero_le _, Nat.zero_le _⟩ dX11_tells_23 (fun r30 G32 hw31 => ?_)
        have hI33 : xI G32 := hw31.1
        have hU34 : gu_un xcd [2700] G G32 := hw31.2.1
        have hp35 := hw31.2.2
        have q36 : (gcOK (tkr (G 26) ((G 13 1).toInt).toNat) → r30.toInt = (eV p1 p2 (tkr (G 26) ((G 13 1).toInt).toNat)).toInt) := hp35
        clear hp35 hw31
        exact u_iret F hA hQ hr G32 (⟨hI33, (gu_un.tr gu_un.rf (gu_un.su hU34 rfl)), (by first | exact Or.inl ⟨by omega, by decide⟩ | exact Or.inr (Or.inl ⟨by omega, q36⟩) | exact Or.inr (Or.inr (Or.inl ⟨by omega, q36⟩)) | exact Or.inr (Or.inr (Or.inr ⟨by omega, q36⟩)))⟩) rfl rfl dX11_tells_26
    · refine g_iconst F 0 dX11_tells_9 (by decide) ?_
      refine g_goto F 26 dX11_tells_10 (by decide) ?_
      exact u_iret F hA hQ hr G (⟨hI, gu_un.rf, (by first | exact Or.inl ⟨by omega, by decide⟩ | exact Or.inr (Or.inl ⟨by omega, q0⟩) | exact Or.inr (Or.inr (Or.inl ⟨by omega, q0⟩)) | exact Or.inr (Or.inr (Or.inr ⟨by omega, q0⟩)))⟩) rfl rfl dX11_tells_26
