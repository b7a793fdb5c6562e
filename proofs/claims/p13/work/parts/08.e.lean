theorem dX13_trial_0 : decode cX13_trial 0 = .ok (.aload_n 0, 1) := by decide +kernel
theorem dX13_trial_1 : decode cX13_trial 1 = .ok (.invokevirtual 412, 3) := by decide +kernel
theorem dX13_trial_4 : decode cX13_trial 4 = .ok (.aload_n 0, 1) := by decide +kernel
theorem dX13_trial_5 : decode cX13_trial 5 = .ok (.iload_n 1, 1) := by decide +kernel
theorem dX13_trial_6 : decode cX13_trial 6 = .ok (.iload_n 2, 1) := by decide +kernel
theorem dX13_trial_7 : decode cX13_trial 7 = .ok (.iload_n 3, 1) := by decide +kernel
theorem dX13_trial_8 : decode cX13_trial 8 = .ok (.iload 4, 2) := by decide +kernel
theorem dX13_trial_10 : decode cX13_trial 10 = .ok (.iload 5, 2) := by decide +kernel
theorem dX13_trial_12 : decode cX13_trial 12 = .ok (.iload 6, 2) := by decide +kernel
theorem dX13_trial_14 : decode cX13_trial 14 = .ok (.iconst (-1), 1) := by decide +kernel
theorem dX13_trial_15 : decode cX13_trial 15 = .ok (.invokevirtual 415, 3) := by decide +kernel
theorem dX13_trial_18 : decode cX13_trial 18 = .ok (.istore 7, 2) := by decide +kernel
theorem dX13_trial_20 : decode cX13_trial 20 = .ok (.aload_n 0, 1) := by decide +kernel
theorem dX13_trial_21 : decode cX13_trial 21 = .ok (.invokevirtual 419, 3) := by decide +kernel
theorem dX13_trial_24 : decode cX13_trial 24 = .ok (.iload 7, 2) := by decide +kernel
theorem dX13_trial_26 : decode cX13_trial 26 = .ok (.ireturn, 1) := by decide +kernel
set_option maxRecDepth 20000 in
theorem ggX13_trial_X13_go : GoodIn wsX13_trial wsX13_go := goodIn_r _ [14, 15, 16, 17, 18, 8, 19, 20, 21, 22, 23, 24, 25, 26, 10, 27, 28, 29, 4, 30, 31, 32, 33, 34, 35, 36, 37, 38, 39, 40, 41, 42, 43, 44, 45, 46, 47, 48, 49, 50, 51, 52, 53, 54, 55, 56, 57, 58, 59, 60, 61, 62, 63, 64, 65, 66, 67, 68, 69, 70, 71, 72, 73, 78, 79, 80, 81, 82, 83, 84, 85, 86, 87, 88, 89, 90, 91, 92, 93, 94, 95, 96, 97, 98, 99, 100, 101, 102, 103, 104, 105, 106, 107, 108, 109, 110, 111, 112, 113, 114, 115, 116, 117, 118, 119, 120, 121, 122, 123, 124, 125, 126, 127, 128, 129, 130, 131, 132, 133, 134, 135, 136, 137, 138, 139, 140, 141, 142, 143, 144, 145, 146, 147, 148, 149, 150] rfl (by decide +kernel)
set_option maxRecDepth 20000 in
theorem gX13_trial_X13_go : GoodIn wsX13_trial (wsV RX13 415 RX13 yX13_go wsX13_go) := goodIn_app (goodIn_of _ (by decide +kernel)) ggX13_trial_X13_go
set_option maxRecDepth 20000 in
theorem ggX13_trial_X13_putBack : GoodIn wsX13_trial wsX13_putBack := goodIn_r _ [77, 7, 8, 6, 9, 10, 78, 79, 80, 81, 82, 83, 84, 85, 86, 87, 88, 89, 90, 91, 92, 93, 94, 95, 96, 97, 98, 99, 100, 101, 102, 103, 104, 105, 106, 107, 108, 109, 110, 111, 112, 113, 114, 115, 116, 117, 118, 119, 120, 121, 122, 123, 124, 125, 126, 127, 128, 129, 130, 131, 132, 133, 134, 135, 136, 137, 138, 139, 140, 141, 142, 143, 144, 145, 146, 147, 148, 149, 150] rfl (by decide +kernel)
set_option maxRecDepth 20000 in
theorem gX13_trial_X13_putBack : GoodIn wsX13_trial (wsV RX13 419 RX13 yX13_putBack wsX13_putBack) := goodIn_app (goodIn_of _ (by decide +kernel)) ggX13_trial_X13_putBack
set_option maxRecDepth 20000 in
theorem ggX13_trial_X13_putBy : GoodIn wsX13_trial wsX13_putBy := goodIn_r _ [5, 6, 7, 8, 9, 10, 78, 79, 80, 81, 82, 83, 84, 85, 86, 87, 88, 89, 90, 91, 92, 93, 94, 95, 96, 97, 98, 99, 100, 101, 102, 103, 104, 105, 106, 107, 108, 109, 110, 111, 112, 113, 114, 115, 116, 117, 118, 119, 120, 121, 122, 123, 124, 125, 126, 127, 128, 129, 130, 131, 132, 133, 134, 135, 136, 137, 138, 139, 140, 141, 142, 143, 144, 145, 146, 147, 148, 149, 150] rfl (by decide +kernel)
set_option maxRecDepth 20000 in
theorem gX13_trial_X13_putBy : GoodIn wsX13_trial (wsV RX13 412 RX13 yX13_putBy wsX13_putBy) := goodIn_app (goodIn_of _ (by decide +kernel)) ggX13_trial_X13_putBy
set_option maxHeartbeats 4000000 in
set_option maxRecDepth 100000 in
theorem S_X13_trial (l : Launch) (D : va_G) (K : Nat → ClassId) (a : Nat → Nat) (G : gS) (p0 : Int32) (s0 : Int) (p1 : Int32) (s1 : Int) (p2 : Int32) (s2 : Int) (p3 : Int32) (s3 : Int) (p4 : Int32) (s4 : Int) (p5 : Int32) (s5 : Int) (e0 : p0.toInt = s0) (h0 : 0 ≤ s0 ∧ s0 ≤ 5) (e1 : p1.toInt = s1) (h1 : 0 ≤ s1 ∧ s1 ≤ 9) (e2 : p2.toInt = s2) (h2 : 0 ≤ s2 ∧ s2 ≤ 20) (e3 : p3.toInt = s3) (h3 : 0 ≤ s3 ∧ s3 ≤ 12) (e4 : p4.toInt = s4) (h4 : 0 ≤ s4 ∧ s4 ≤ 300) (e5 : p5.toInt = s5) (h5 : 0 ≤ s5 ∧ s5 ≤ 300) (wf : yW3 G) (cb : (1 ≤ psMx (psHr (G 14) s0 (G 3 0).toInt) ((G 3 0).toInt - 1).toNat - s2 * s3)) (dl : ((G 0 32).toInt ≤ 6)) (hI : yI G) (sz : Nat) : Ki l yX13_trial wsX13_trial 6 177 0 0 D [.ref (a 0), .int p0, .int p1, .int p2, .int p3, .int p4, .int p5] (yW K a G) (tK K) sz (fun (r : Int32) (G' : gS) => (yI G') ∧ (gu_un ycd [29, 33, 36, 37, 1300, 1400, 1500, 1600, 1700, 1800, 1900, 2000, 2100] G G') ∧ (0 ≤ r.toInt ∧ r.toInt ≤ 2) ∧ (yNh G G') ∧ ((∀ (Q : gS) (C : Nat → List Int), ySq G Q C → s0 < (G 3 1).toInt → 1 ≤ s3 → r.toInt = pvV Q (pvS Q C (G 14) (G 0 28) s0 p1 p2 p3 p4 p5) ∧ pvN Q (pvS Q C (G 14) (G 0 28) s0 p1 p2 p3 p4 p5) (G' 21 0) (G' 21 1) (G' 21 2) (G' 21 3) (G' 21 4) (G' 21 5) (G' 21 6))) ∧ (((G' 0 32).toInt = (G 0 32).toInt))) (fun (G' : gS) => (yW K a G')) (fun _ => (tK K)) := by
  unfold Ki
  refine g_ofW (cc := cX13_trial) (lv := [(0, .ref (a 0)), (1, .int p0), (2, .int p1), (3, .int p2), (4, .int p3), (5, .int p4), (6, .int p5)]) (by decide) rfl (Nat.le_of_ble_eq_true rfl) rfl ?_
  intro p e s m args below meth c A Q hA hQ F hr hnm
  have hts := F.2.2.2.2.1
  have b1 : (0 : Int) ≤ (G 0 32).toInt ∧ (G 0 32).toInt ≤ 7 := hI 0 32
  have b2 : (4 : Int) ≤ (G 3 0).toInt ∧ (G 3 0).toInt ≤ 16 := hI 3 0
  have b3 : (1 : Int) ≤ (G 3 1).toInt ∧ (G 3 1).toInt ≤ 6 := hI 3 1
  refine g_aload_n F 0 dX13_trial_0 rfl rfl ?_
  refine u_callVv (k := 0) (n := 0) (b := a 0) (As := []) (st := []) F (fun sz => S_X13_putBy l D K a G  (by (first | omega | (simp only [Int32.reduceToInt, true_and, and_true, ne_eq, not_true_eq_false, false_and, or_false, false_or, true_or, or_true, false_implies] <;> omega))) hI sz) (cwV 0 hts gX13_trial_X13_putBy rfl rfl rfl (by decide +kernel) ⟨Nat.le_of_ble_eq_true rfl, Nat.le_of_ble_eq_true rfl⟩) rfl 0 yc_0 rfl (Nat.le_of_ble_eq_true rfl) ⟨Nat.zero_le _, Nat.zero_le _⟩ dX13_trial_1 (fun G6 hw5 => ?_)
  have hI7 : yI G6 := hw5.1
  have hU8 : gu_un ycd [33, 1900, 2000] G G6 := hw5.2.1
  have hp9 := hw5.2.2
  have b10 : (0 : Int) ≤ (G6 0 32).toInt ∧ (G6 0 32).toInt ≤ 7 := hI7 0 32
  have q11 : ((G6 0 32).toInt = (G 0 32).toInt + 1) := hp9.1
  have q12 : ((∀ q : Nat, G6 19 q = sRow (G 19) (G 14) (96 * (G 0 32).toInt) 96 q) ∧ G6 20 = upd (G 20) ((G 0 32).toInt).toNat (G 0 28)) := hp9.2.1
  have q13 : ((G6 15 = G 15 ∧ G6 16 = G 16 ∧ G6 17 = G 17 ∧ G6 18 = G 18) ∧ G6 14 = G 14 ∧ G6 0 28 = G 0 28) := hp9.2.2
  clear hp9 hw5
  refine g_aload_n F 0 dX13_trial_4 rfl rfl ?_
  refine g_iload_n F 1 dX13_trial_5 rfl rfl ?_
  refine g_iload_n F 2 dX13_trial_6 rfl rfl ?_
  refine g_iload_n F 3 dX13_trial_7 rfl rfl ?_
  refine g_iload F 4 dX13_trial_8 rfl ?_
  refine g_iload F 5 dX13_trial_10 rfl ?_
  refine g_iload F 6 dX13_trial_12 rfl ?_
  refine g_iconst F (-1) dX13_trial_14 (by decide) ?_
  refine u_callVi (k := 0) (n := 0) (b := a 0) (As := [.int p0, .int p1, .int p2, .int p3, .int p4, .int p5, .int (-1)]) (st := []) F (fun sz => S_X13_go l D K a G6 p0 s0 p1 s1 p2 s2 p3 s3 p4 s4 p5 s5 (-1) (-1) e0 (by omega) e1 (by omega) e2 (by omega) e3 (by omega) e4 (by omega) e5 (by omega) rfl (yW3.un wf (show gu_un ycd [33, 1900, 2000] G G6 from (gu_un.tr gu_un.rf (gu_un.su hU8 rfl))) rfl) (by rw [show G6 14 = G 14 from q13.2.1, (show G6 3 0 = G 3 0 from (show gu_un ycd [33, 1900, 2000] G G6 from (gu_un.tr gu_un.rf (gu_un.su hU8 rfl))) 3 0 (by decide))]; exact cb) hI7 sz) (cwV 7 hts gX13_trial_X13_go rfl rfl rfl (by decide +kernel) ⟨Nat.le_of_ble_eq_true rfl, Nat.le_of_ble_eq_true rfl⟩) rfl 0 yc_0 rfl (Nat.le_of_ble_eq_true rfl) ⟨Nat.zero_le _, Nat.zero_le _⟩ dX13_trial_15 (fun r14 G16 hw15 => ?_)
  have hI17 : yI G16 := hw15.1
  have hU18 : gu_un ycd [29, 36, 37, 1300, 1400, 1500, 1600, 1700, 1800, 2100] G6 G16 := hw15.2.1
  have hp19 := hw15.2.2
  have q20 : yOut G6 s0 (-1) p2 p1 p3 p4 p5 G16 r14.toInt := hp19.2.1
  have q21 : yOt s0 (G 3 0).toInt G6 G16 := by have h9 := hp19.2.2.1; (try simp only [(show G6 3 0 = (G 3 0) from hU8 3 0 (by decide))] at h9); first | exact h9 | omega
  have q22 : ((-1 : Int) = -1 → G16 15 = G6 15 ∧ G16 16 = G6 16 ∧ G16 17 = G6 17 ∧ G16 18 = G6 18) := hp19.2.2.2
  have rg23 := hp19.1
  clear hp19 hw15
  refine g_istore F [(7, .int r14), (0, .ref (a 0)), (1, .int p0), (2, .int p1), (3, .int p2), (4, .int p3), (5, .int p4), (6, .int p5)] dX13_trial_18 (by decide) rfl ?_
  refine g_aload_n F 1 dX13_trial_20 rfl rfl ?_
  refine u_callVv (k := 0) (n := 0) (b := a 0) (As := []) (st := []) F (fun sz => S_X13_putBack l D K a G16  (by have e9_0_32 : G16 0 32 = (G6 0 32) := hU18 0 32 (by decide); (try simp only [e9_0_32, true_and, and_true]) <;> (first | omega | (simp only [Int32.reduceToInt, true_and, and_true, ne_eq, not_true_eq_false, false_and, or_false, false_or, true_or, or_true, false_implies] <;> omega))) hI17 sz) (cwV 0 hts gX13_trial_X13_putBack rfl rfl rfl (by decide +kernel) ⟨Nat.le_of_ble_eq_true rfl, Nat.le_of_ble_eq_true rfl⟩) rfl 0 yc_0 rfl (Nat.le_of_ble_eq_true rfl) ⟨Nat.zero_le _, Nat.zero_le _⟩ dX13_trial_21 (fun G26 hw25 => ?_)
  have hI27 : yI G26 := hw25.1
  have hU28 : gu_un ycd [29, 33, 1400] G16 G26 := hw25.2.1
  have hp29 := hw25.2.2
  have b30 : (0 : Int) ≤ (G26 0 32).toInt ∧ (G26 0 32).toInt ≤ 7 := hI27 0 32
  have q31 : ((G26 0 32).toInt = (G6 0 32).toInt - 1) := by have h9 := hp29.1; (try simp only [(show G16 0 32 = (G6 0 32) from hU18 0 32 (by decide))] at h9); first | exact h9 | omega
  have q32 : ((∀ q : Nat, q < 96 → G26 14 q = (G6 19) (96 * ((G6 0 32).toInt - 1) + (q : Int)).toNat) ∧ G26 0 28 = (G6 20) ((G6 0 32).toInt - 1).toNat) := by have h9 := hp29.2.1; (try simp only [(show G16 0 32 = (G6 0 32) from hU18 0 32 (by decide)), (show G16 0 32 = (G6 0 32) from hU18 0 32 (by decide)), (show G16 19 = (G6 19) from (show G16 19 = G6 19 from funext fun k_ => hU18 19 k_ (show (1900 : Nat) ∉ ([29, 36, 37, 1300, 1400, 1500, 1600, 1700, 1800, 2100] : List Nat) by decide))), (show G16 20 = (G6 20) from (show G16 20 = G6 20 from funext fun k_ => hU18 20 k_ (show (2000 : Nat) ∉ ([29, 36, 37, 1300, 1400, 1500, 1600, 1700, 1800, 2100] : List Nat) by decide)))] at h9); first | exact h9 | omega
  have q33 : ((G26 15 = G16 15 ∧ G26 16 = G16 16 ∧ G26 17 = G16 17 ∧ G26 18 = G16 18) ∧ G26 19 = G16 19 ∧ G26 20 = G16 20) := hp29.2.2
  have bk34 : yNh G G26 := yNh.back (G := G6) (d := (G 0 32).toInt) (yNd.by q12.1 q12.2 q13.1 (by omega)) (yKe.by q12.1 q12.2 (by omega)) rfl (fun q hq => by have h9 := q32.1 q hq; rw [show (G6 0 32).toInt - 1 = (G 0 32).toInt by omega] at h9; exact h9) (by have h9 := q32.2; rw [show (G6 0 32).toInt - 1 = (G 0 32).toInt by omega] at h9; exact h9) (yNd.tr (yNd.tr yNd.rf (show yNd _ G6 G16 from (yNd.go (q22 rfl) hU18 rfl)) (Int.le_refl _)) (yNd.pl q33) (Int.le_refl _)) (by omega)
  clear hp29 hw25
  refine g_iload F 0 dX13_trial_24 rfl ?_
  exact u_iret F hA hQ hr G26 (⟨hI27, (gu_un.tr (gu_un.tr (gu_un.tr gu_un.rf (gu_un.su hU8 rfl)) (gu_un.su hU18 rfl)) (gu_un.su hU28 rfl)), (by have h9 := ti_rng r14; omega), ((yNh.tr (show yNh G G from yNh.rf) (show yNh G G26 from bk34))), (fun Q C hq hr ht => by have h9 := yOut.pv q20 (ySq.un hq (show gu_un ycd [33, 1900, 2000] G G6 from (gu_un.tr gu_un.rf (gu_un.su hU8 rfl))) rfl) (by rw [(show G6 3 1 = G 3 1 from (show gu_un ycd [33, 1900, 2000] G G6 from (gu_un.tr gu_un.rf (gu_un.su hU8 rfl))) 3 1 (by decide))]; omega) (by omega) (by rw [(show G6 3 0 = G 3 0 from (show gu_un ycd [33, 1900, 2000] G G6 from (gu_un.tr gu_un.rf (gu_un.su hU8 rfl))) 3 0 (by decide))]; omega); rw [show G6 14 = G 14 from q13.2.1, show G6 0 28 = G 0 28 from q13.2.2] at h9; exact ⟨h9.1, pvN.at h9.2.2.2.1 (show G26 21 0 = G16 21 0 from (show gu_un ycd [29, 33, 1400] G16 G26 from (gu_un.tr gu_un.rf (gu_un.su hU28 rfl))) 21 0 (by decide)) (show G26 21 1 = G16 21 1 from (show gu_un ycd [29, 33, 1400] G16 G26 from (gu_un.tr gu_un.rf (gu_un.su hU28 rfl))) 21 1 (by decide)) (show G26 21 2 = G16 21 2 from (show gu_un ycd [29, 33, 1400] G16 G26 from (gu_un.tr gu_un.rf (gu_un.su hU28 rfl))) 21 2 (by decide)) (show G26 21 3 = G16 21 3 from (show gu_un ycd [29, 33, 1400] G16 G26 from (gu_un.tr gu_un.rf (gu_un.su hU28 rfl))) 21 3 (by decide)) (show G26 21 4 = G16 21 4 from (show gu_un ycd [29, 33, 1400] G16 G26 from (gu_un.tr gu_un.rf (gu_un.su hU28 rfl))) 21 4 (by decide)) (show G26 21 5 = G16 21 5 from (show gu_un ycd [29, 33, 1400] G16 G26 from (gu_un.tr gu_un.rf (gu_un.su hU28 rfl))) 21 5 (by decide)) (show G26 21 6 = G16 21 6 from (show gu_un ycd [29, 33, 1400] G16 G26 from (gu_un.tr gu_un.rf (gu_un.su hU28 rfl))) 21 6 (by decide))⟩), (by show ((G26 0 32).toInt = (G 0 32).toInt); (first | omega | (simp only [Int32.reduceToInt, true_and, and_true, ne_eq, not_true_eq_false, false_and, or_false, false_or, true_or, or_true, false_implies] <;> omega)))⟩) rfl rfl dX13_trial_26

theorem dX13_attempt_0 : decode cX13_attempt 0 = .ok (.aload_n 0, 1) := by decide +kernel
theorem dX13_attempt_1 : decode cX13_attempt 1 = .ok (.iload_n 1, 1) := by decide +kernel
theorem dX13_attempt_2 : decode cX13_attempt 2 = .ok (.iload_n 2, 1) := by decide +kernel
theorem dX13_attempt_3 : decode cX13_attempt 3 = .ok (.iload_n 3, 1) := by decide +kernel
theorem dX13_attempt_4 : decode cX13_attempt 4 = .ok (.iload 4, 2) := by decide +kernel
theorem dX13_attempt_6 : decode cX13_attempt 6 = .ok (.invokevirtual 431, 3) := by decide +kernel
theorem dX13_attempt_9 : decode cX13_attempt 9 = .ok (.ifCond .eq 13, 3) := by decide +kernel
theorem dX13_attempt_12 : decode cX13_attempt 12 = .ok (.iload 5, 2) := by decide +kernel
theorem dX13_attempt_14 : decode cX13_attempt 14 = .ok (.iload 6, 2) := by decide +kernel
theorem dX13_attempt_16 : decode cX13_attempt 16 = .ok (.invokestatic 435, 3) := by decide +kernel
theorem dX13_attempt_19 : decode cX13_attempt 19 = .ok (.ifCond .ne 6, 3) := by decide +kernel
theorem dX13_attempt_22 : decode cX13_attempt 22 = .ok (.bipush (-2), 2) := by decide +kernel
theorem dX13_attempt_24 : decode cX13_attempt 24 = .ok (.ireturn, 1) := by decide +kernel
theorem dX13_attempt_25 : decode cX13_attempt 25 = .ok (.aload_n 0, 1) := by decide +kernel
theorem dX13_attempt_26 : decode cX13_attempt 26 = .ok (.iload_n 1, 1) := by decide +kernel
theorem dX13_attempt_27 : decode cX13_attempt 27 = .ok (.iload_n 3, 1) := by decide +kernel
theorem dX13_attempt_28 : decode cX13_attempt 28 = .ok (.iload 4, 2) := by decide +kernel
theorem dX13_attempt_30 : decode cX13_attempt 30 = .ok (.invokevirtual 438, 3) := by decide +kernel
theorem dX13_attempt_33 : decode cX13_attempt 33 = .ok (.ifCond .ne 6, 3) := by decide +kernel
theorem dX13_attempt_36 : decode cX13_attempt 36 = .ok (.bipush (-4), 2) := by decide +kernel
theorem dX13_attempt_38 : decode cX13_attempt 38 = .ok (.ireturn, 1) := by decide +kernel
theorem dX13_attempt_39 : decode cX13_attempt 39 = .ok (.aload_n 0, 1) := by decide +kernel
theorem dX13_attempt_40 : decode cX13_attempt 40 = .ok (.iload_n 1, 1) := by decide +kernel
theorem dX13_attempt_41 : decode cX13_attempt 41 = .ok (.iload_n 2, 1) := by decide +kernel
theorem dX13_attempt_42 : decode cX13_attempt 42 = .ok (.iload_n 3, 1) := by decide +kernel
theorem dX13_attempt_43 : decode cX13_attempt 43 = .ok (.iload 4, 2) := by decide +kernel
theorem dX13_attempt_45 : decode cX13_attempt 45 = .ok (.iload 5, 2) := by decide +kernel
theorem dX13_attempt_47 : decode cX13_attempt 47 = .ok (.iload 6, 2) := by decide +kernel
theorem dX13_attempt_49 : decode cX13_attempt 49 = .ok (.invokevirtual 442, 3) := by decide +kernel
theorem dX13_attempt_52 : decode cX13_attempt 52 = .ok (.istore 7, 2) := by decide +kernel
theorem dX13_attempt_54 : decode cX13_attempt 54 = .ok (.aload_n 0, 1) := by decide +kernel
theorem dX13_attempt_55 : decode cX13_attempt 55 = .ok (.invokevirtual 445, 3) := by decide +kernel
theorem dX13_attempt_58 : decode cX13_attempt 58 = .ok (.iload 7, 2) := by decide +kernel
theorem dX13_attempt_60 : decode cX13_attempt 60 = .ok (.ireturn, 1) := by decide +kernel
set_option maxRecDepth 20000 in
theorem ggX13_attempt_X13_canBe : GoodIn wsX13_attempt wsX13_canBe := goodIn_r _ [24, 25, 26, 27, 4, 28, 29, 13, 30, 31, 32, 33, 34, 35, 36, 110, 111, 112, 113, 114, 115, 116, 117, 118, 119, 120, 121, 122, 123, 124, 125, 126, 127, 128, 129, 130, 131, 132, 133, 134, 135, 136, 137, 138, 139, 140, 141, 142, 143, 144, 145, 146, 147, 148, 149, 150, 151, 152, 153, 154, 155, 156, 157, 158, 159, 160, 161, 162, 163, 164, 165, 166, 167, 168, 169, 170, 171, 172, 173, 174, 175, 176, 177, 178, 179, 180, 181, 182] rfl (by decide +kernel)
set_option maxRecDepth 20000 in
theorem gX13_attempt_X13_canBe : GoodIn wsX13_attempt (wsV RX13 438 RX13 yX13_canBe wsX13_canBe) := goodIn_app (goodIn_of _ (by decide +kernel)) ggX13_attempt_X13_canBe
set_option maxRecDepth 20000 in
theorem ggX13_attempt_X13_isMachine : GoodIn wsX13_attempt wsX13_isMachine := goodIn_r _ [19, 20, 14, 15, 4, 16] rfl (by decide +kernel)
set_option maxRecDepth 20000 in
theorem gX13_attempt_X13_isMachine : GoodIn wsX13_attempt (va_wsS RX13 435 yX13_isMachine wsX13_isMachine) := goodIn_app (goodIn_of _ (by decide +kernel)) ggX13_attempt_X13_isMachine
set_option maxRecDepth 20000 in
theorem ggX13_attempt_X13_isPass : GoodIn wsX13_attempt wsX13_isPass := goodIn_r _ [5, 6, 7, 8, 9, 10, 11, 4, 12, 13, 14, 15, 16, 110, 111, 112, 113, 114, 115, 116, 117, 118, 119, 120, 121, 122, 123, 124, 125, 126, 127, 128, 129, 130, 131, 132, 133, 134, 135, 136, 137, 138, 139, 140, 141, 142, 143, 144, 145, 146, 147, 148, 149, 150, 151, 152, 153, 154, 155, 156, 157, 158, 159, 160, 161, 162, 163, 164, 165, 166, 167, 168, 169, 170, 171, 172, 173, 174, 175, 176, 177, 178, 179, 180, 181, 182] rfl (by decide +kernel)
set_option maxRecDepth 20000 in
theorem gX13_attempt_X13_isPass : GoodIn wsX13_attempt (wsV RX13 431 RX13 yX13_isPass wsX13_isPass) := goodIn_app (goodIn_of _ (by decide +kernel)) ggX13_attempt_X13_isPass
set_option maxRecDepth 20000 in
theorem ggX13_attempt_X13_notePassed : GoodIn wsX13_attempt wsX13_notePassed := goodIn_r _ [107, 108, 53, 109, 110, 111, 112, 113, 114, 115, 116, 117, 118, 119, 120, 121, 122, 123, 124, 125, 126, 127, 128, 129, 130, 131, 132, 133, 134, 135, 136, 137, 138, 139, 140, 141, 142, 143, 144, 145, 146, 147, 148, 149, 150, 151, 152, 153, 154, 155, 156, 157, 158, 159, 160, 161, 162, 163, 164, 165, 166, 167, 168, 169, 170, 171, 172, 173, 174, 175, 176, 177, 178, 179, 180, 181, 182] rfl (by decide +kernel)
set_option maxRecDepth 20000 in
theorem gX13_attempt_X13_notePassed : GoodIn wsX13_attempt (wsV RX13 445 RX13 yX13_notePassed wsX13_notePassed) := goodIn_app (goodIn_of _ (by decide +kernel)) ggX13_attempt_X13_notePassed
set_option maxRecDepth 20000 in
theorem ggX13_attempt_X13_trial : GoodIn wsX13_attempt wsX13_trial := goodIn_r _ [40, 41, 42, 43, 4, 44, 45, 46, 29, 47, 48, 49, 50, 51, 52, 13, 53, 54, 55, 56, 57, 58, 32, 59, 30, 31, 33, 25, 26, 27, 28, 34, 35, 36, 60, 61, 62, 63, 64, 65, 66, 67, 68, 69, 70, 71, 72, 73, 74, 75, 76, 77, 78, 79, 80, 81, 82, 83, 84, 85, 86, 87, 88, 89, 90, 91, 92, 93, 94, 95, 96, 97, 98, 99, 100, 101, 102, 103, 110, 111, 112, 113, 114, 115, 116, 117, 118, 119, 120, 121, 122, 123, 124, 125, 126, 127, 128, 129, 130, 131, 132, 133, 134, 135, 136, 137, 138, 139, 140, 141, 142, 143, 144, 145, 146, 147, 148, 149, 150, 151, 152, 153, 154, 155, 156, 157, 158, 159, 160, 161, 162, 163, 164, 165, 166, 167, 168, 169, 170, 171, 172, 173, 174, 175, 176, 177, 178, 179, 180, 181, 182] rfl (by decide +kernel)
set_option maxRecDepth 20000 in
theorem gX13_attempt_X13_trial : GoodIn wsX13_attempt (wsV RX13 442 RX13 yX13_trial wsX13_trial) := goodIn_app (goodIn_of _ (by decide +kernel)) ggX13_attempt_X13_trial
set_option maxHeartbeats 4000000 in
set_option maxRecDepth 100000 in
theorem S_X13_attempt (l : Launch) (D : va_G) (K : Nat → ClassId) (a : Nat → Nat) (G : gS) (p0 : Int32) (s0 : Int) (p1 : Int32) (s1 : Int) (p2 : Int32) (s2 : Int) (p3 : Int32) (s3 : Int) (p4 : Int32) (s4 : Int) (p5 : Int32) (s5 : Int) (e0 : p0.toInt = s0) (e1 : p1.toInt = s1) (e2 : p2.toInt = s2) (e3 : p3.toInt = s3) (e4 : p4.toInt = s4) (e5 : p5.toInt = s5) (wf : yW3 G) (dl : ((G 0 32).toInt ≤ 6)) (hI : yI G) (sz : Nat) : Ki l yX13_attempt wsX13_attempt 7 204 0 0 D [.ref (a 0), .int p0, .int p1, .int p2, .int p3, .int p4, .int p5] (yW K a G) (tK K) sz (fun (r : Int32) (G' : gS) => (yI G') ∧ (gu_un ycd [29, 33, 36, 37, 38, 1300, 1400, 1500, 1600, 1700, 1800, 1900, 2000, 2100, 2200] G G') ∧ ((-4) ≤ r.toInt ∧ r.toInt ≤ 2) ∧ (yNh G G') ∧ ((∀ (Q : gS) (C : Nat → List Int), ySq G Q C → atR Q C (yPc G) (yPc G') s0 p1 p2 p3 p4 p5 r.toInt)) ∧ (((G' 0 32).toInt = (G 0 32).toInt))) (fun (G' : gS) => (yW K a G')) (fun _ => (tK K)) := by
  unfold Ki
  refine g_ofW (cc := cX13_attempt) (lv := [(0, .ref (a 0)), (1, .int p0), (2, .int p1), (3, .int p2), (4, .int p3), (5, .int p4), (6, .int p5)]) (by decide) rfl (Nat.le_of_ble_eq_true rfl) rfl ?_
  intro p e s m args below meth c A Q hA hQ F hr hnm
  have hts := F.2.2.2.2.1
  have rg0 : -2147483648 ≤ s0 ∧ s0 ≤ 2147483647 := e0 ▸ ti_rng p0
  have rg1 : -2147483648 ≤ s1 ∧ s1 ≤ 2147483647 := e1 ▸ ti_rng p1
  have rg2 : -2147483648 ≤ s2 ∧ s2 ≤ 2147483647 := e2 ▸ ti_rng p2
  have rg3 : -2147483648 ≤ s3 ∧ s3 ≤ 2147483647 := e3 ▸ ti_rng p3
  have rg4 : -2147483648 ≤ s4 ∧ s4 ≤ 2147483647 := e4 ▸ ti_rng p4
  have rg5 : -2147483648 ≤ s5 ∧ s5 ≤ 2147483647 := e5 ▸ ti_rng p5
  have b1 : (0 : Int) ≤ (G 0 32).toInt ∧ (G 0 32).toInt ≤ 7 := hI 0 32
  have b2 : (4 : Int) ≤ (G 3 0).toInt ∧ (G 3 0).toInt ≤ 16 := hI 3 0
  have b3 : (1 : Int) ≤ (G 3 1).toInt ∧ (G 3 1).toInt ≤ 6 := hI 3 1
  refine g_aload_n F 0 dX13_attempt_0 rfl rfl ?_
  refine g_iload_n F 1 dX13_attempt_1 rfl rfl ?_
  refine g_iload_n F 2 dX13_attempt_2 rfl rfl ?_
  refine g_iload_n F 3 dX13_attempt_3 rfl rfl ?_
  refine g_iload F 4 dX13_attempt_4 rfl ?_
  refine u_callVi (k := 0) (n := 0) (b := a 0) (As := [.int p0, .int p1, .int p2, .int p3]) (st := []) F (fun sz => S_X13_isPass l D K a G p0 s0 p1 s1 p2 s2 p3 s3 e0 e1 e2 e3 hI sz) (cwV 4 hts gX13_attempt_X13_isPass rfl rfl rfl (by decide +kernel) ⟨Nat.le_of_ble_eq_true rfl, Nat.le_of_ble_eq_true rfl⟩) rfl 0 yc_0 rfl (Nat.le_of_ble_eq_true rfl) ⟨Nat.zero_le _, Nat.zero_le _⟩ dX13_attempt_6 (fun r4 _ hw5 => ?_)
  rcases hw5 with ⟨rfl, q7⟩ | ⟨rfl, q8⟩
  · have q7 : (0 ≤ s0 ∧ s0 < (G 3 1).toInt ∧ 1 ≤ s1 ∧ s1 ≤ 9 ∧ 1 ≤ s2 ∧ s2 ≤ 20 ∧ 1 ≤ s3 ∧ s3 ≤ 12) := q7
    refine v_if_eq F 22 dX13_attempt_9 (by decide) 1 rfl (fun c9 => absurd c9 (by decide)) (fun c9 => ?_)
    refine g_iload F 5 dX13_attempt_12 rfl ?_
    refine g_iload F 6 dX13_attempt_14 rfl ?_
    refine u_call0 (k := 0) (n := 0) (As := [.int p4, .int p5]) (st := []) F (fun sz => S_X13_isMachine l D p4 s4 p5 s5 e4 e5 sz) (va_cwS 2 hts gX13_attempt_X13_isMachine rfl rfl rfl (by decide +kernel) ⟨Nat.le_of_ble_eq_true rfl, Nat.le_of_ble_eq_true rfl⟩) rfl (Nat.le_of_ble_eq_true rfl) ⟨Nat.zero_le _, Nat.zero_le _⟩ dX13_attempt_16 (fun r10 _ hw11 => ?_)
    rcases hw11 with ⟨rfl, q13⟩ | ⟨rfl, q14⟩
    · refine v_if_ne F 25 dX13_attempt_19 (by decide) 1 rfl (fun c15 => ?_) (fun c15 => absurd c15 (by decide))
      refine g_aload_n F 0 dX13_attempt_25 rfl rfl ?_
      refine g_iload_n F 1 dX13_attempt_26 rfl rfl ?_
      refine g_iload_n F 3 dX13_attempt_27 rfl rfl ?_
      refine g_iload F 4 dX13_attempt_28 rfl ?_
      refine u_callVi (k := 0) (n := 0) (b := a 0) (As := [.int p0, .int p2, .int p3]) (st := []) F (fun sz => S_X13_canBe l D K a G p0 s0 p2 s2 p3 s3 e0 (by omega) e2 (by omega) e3 (by omega) hI sz) (cwV 3 hts gX13_attempt_X13_canBe rfl rfl rfl (by decide +kernel) ⟨Nat.le_of_ble_eq_true rfl, Nat.le_of_ble_eq_true rfl⟩) rfl 0 yc_0 rfl (Nat.le_of_ble_eq_true rfl) ⟨Nat.zero_le _, Nat.zero_le _⟩ dX13_attempt_30 (fun r16 _ hw17 => ?_)
      rcases hw17 with ⟨rfl, q19⟩ | ⟨rfl, q20⟩
      · have q19 : (1 ≤ psMx (psHr (G 14) s0 (G 3 0).toInt) ((G 3 0).toInt - 1).toNat - s2 * s3) := q19
        refine v_if_ne F 39 dX13_attempt_33 (by decide) 1 rfl (fun c21 => ?_) (fun c21 => absurd c21 (by decide))
        refine g_aload_n F 0 dX13_attempt_39 rfl rfl ?_
        refine g_iload_n F 1 dX13_attempt_40 rfl rfl ?_
        refine g_iload_n F 2 dX13_attempt_41 rfl rfl ?_
        refine g_iload_n F 3 dX13_attempt_42 rfl rfl ?_
        refine g_iload F 4 dX13_attempt_43 rfl ?_
        refine g_iload F 5 dX13_attempt_45 rfl ?_
        refine g_iload F 6 dX13_attempt_47 rfl ?_
        refine u_callVi (k := 0) (n := 0) (b := a 0) (As := [.int p0, .int p1, .int p2, .int p3, .int p4, .int p5]) (st := []) F (fun sz => S_X13_trial l D K a G p0 s0 p1 s1 p2 s2 p3 s3 p4 s4 p5 s5 e0 (by omega) e1 (by omega) e2 (by omega) e3 (by omega) e4 (by omega) e5 (by omega) (wf) (by (first | omega | (simp only [Int32.reduceToInt, true_and, and_true, ne_eq, not_true_eq_false, false_and, or_false, false_or, true_or, or_true, false_implies] <;> omega))) (by (first | omega | (simp only [Int32.reduceToInt, true_and, and_true, ne_eq, not_true_eq_false, false_and, or_false, false_or, true_or, or_true, false_implies] <;> omega))) hI sz) (cwV 6 hts gX13_attempt_X13_trial rfl rfl rfl (by decide +kernel) ⟨Nat.le_of_ble_eq_true rfl, Nat.le_of_ble_eq_true rfl⟩) rfl 0 yc_0 rfl (Nat.le_of_ble_eq_true rfl) ⟨Nat.zero_le _, Nat.zero_le _⟩ dX13_attempt_49 (fun r22 G24 hw23 => ?_)
        have hI25 : yI G24 := hw23.1
        have hU26 : gu_un ycd [29, 33, 36, 37, 1300, 1400, 1500, 1600, 1700, 1800, 1900, 2000, 2100] G G24 := hw23.2.1
        have hp27 := hw23.2.2
        have q28 : yNh G G24 := hp27.2.1
        have q29 : (∀ (Q : gS) (C : Nat → List Int), ySq G Q C → s0 < (G 3 1).toInt → 1 ≤ s3 → r22.toInt = pvV Q (pvS Q C (G 14) (G 0 28) s0 p1 p2 p3 p4 p5) ∧ pvN Q (pvS Q C (G 14) (G 0 28) s0 p1 p2 p3 p4 p5) (G24 21 0) (G24 21 1) (G24 21 2) (G24 21 3) (G24 21 4) (G24 21 5) (G24 21 6)) := hp27.2.2.1
        have b30 : (0 : Int) ≤ (G24 0 32).toInt ∧ (G24 0 32).toInt ≤ 7 := hI25 0 32
        have q31 : ((G24 0 32).toInt = (G 0 32).toInt) := hp27.2.2.2
        have rg32 := hp27.1
        clear hp27 hw23
        refine g_istore F [(7, .int r22), (0, .ref (a 0)), (1, .int p0), (2, .int p1), (3, .int p2), (4, .int p3), (5, .int p4), (6, .int p5)] dX13_attempt_52 (by decide) rfl ?_
        refine g_aload_n F 1 dX13_attempt_54 rfl rfl ?_
        refine u_callVv (k := 0) (n := 0) (b := a 0) (As := []) (st := []) F (fun sz => S_X13_notePassed l D K a G24  hI25 sz) (cwV 0 hts gX13_attempt_X13_notePassed rfl rfl rfl (by decide +kernel) ⟨Nat.le_of_ble_eq_true rfl, Nat.le_of_ble_eq_true rfl⟩) rfl 0 yc_0 rfl (Nat.le_of_ble_eq_true rfl) ⟨Nat.zero_le _, Nat.zero_le _⟩ dX13_attempt_55 (fun G35 hw34 => ?_)
        have hI36 : yI G35 := hw34.1
        have hU37 : gu_un ycd [38, 2200] G24 G35 := hw34.2.1
        have hp38 := hw34.2.2
        have q39 : (G35 0 37 = 1 ∧ ∀ q : Nat, q < 7 → G35 22 q = (G24 21) q) := hp38
        clear hp38 hw34
        refine g_iload F 0 dX13_attempt_58 rfl ?_
        exact u_iret F hA hQ hr G35 (⟨hI36, (gu_un.tr (gu_un.tr gu_un.rf (gu_un.su hU26 rfl)) (gu_un.su hU37 rfl)), (by have h9 := ti_rng r22; omega), ((yNh.tr (show yNh G G24 from (yNh.tr (show yNh G G from yNh.rf) (show yNh G G24 from q28))) (show yNh G24 G35 from (yNh.un hU37 rfl)))), (fun Q C hq => by have h9 := q29 Q C hq (by omega) (by omega); exact Or.inr (Or.inr ⟨(by unfold pvArg; rw [hq.1 1 (by decide) (by decide)]; omega), (by unfold pvOk; rw [hq.1 0 (by decide) (by decide)]; show 1 ≤ psMx (psHr (G 14) s0 (G 3 0).toInt) ((G 3 0).toInt - 1).toNat - p2.toInt * p3.toInt; rw [e2, e3]; omega), h9.1, pcB.nh (yNh.tr (show yNh G G24 from (yNh.tr (show yNh G G from yNh.rf) (show yNh G G24 from q28))) (show yNh G24 G35 from (yNh.un hU37 rfl))) (show G35 0 29 = G 0 29 from (show gu_un ycd [29, 33, 36, 37, 38, 1300, 1400, 1500, 1600, 1700, 1800, 1900, 2000, 2100, 2200] G G35 from (gu_un.tr (gu_un.tr gu_un.rf (gu_un.su hU26 rfl)) (gu_un.su hU37 rfl))) 0 29 (by decide)), ⟨q39.1, pvN.at h9.2 ((q39.2 0 (by decide)).trans rfl) ((q39.2 1 (by decide)).trans rfl) ((q39.2 2 (by decide)).trans rfl) ((q39.2 3 (by decide)).trans rfl) ((q39.2 4 (by decide)).trans rfl) ((q39.2 5 (by decide)).trans rfl) ((q39.2 6 (by decide)).trans rfl)⟩⟩)), (by show ((G35 0 32).toInt = (G 0 32).toInt); have e9_0_32 : G35 0 32 = (G24 0 32) := hU37 0 32 (by decide); (try simp only [e9_0_32, true_and, and_true]) <;> (first | omega | (simp only [Int32.reduceToInt, true_and, and_true, ne_eq, not_true_eq_false, false_and, or_false, false_or, true_or, or_true, false_implies] <;> omega)))⟩) rfl rfl dX13_attempt_60
      · have q20 : (psMx (psHr (G 14) s0 (G 3 0).toInt) ((G 3 0).toInt - 1).toNat - s2 * s3 < 1) := q20
        refine v_if_ne F 39 dX13_attempt_33 (by decide) 0 rfl (fun c40 => absurd c40 (by decide)) (fun c40 => ?_)
        refine g_bipush F (-4) dX13_attempt_36 (by decide) ?_
        exact u_iret F hA hQ hr G (⟨hI, gu_un.rf, (by decide), (yNh.rf), (fun Q C hq => Or.inr (Or.inl ⟨(by unfold pvArg; rw [hq.1 1 (by decide) (by decide)]; omega), (fun ho => by unfold pvOk at ho; rw [hq.1 0 (by decide) (by decide)] at ho; have ho2 : 1 ≤ psMx (psHr (G 14) s0 (G 3 0).toInt) ((G 3 0).toInt - 1).toNat - p2.toInt * p3.toInt := ho; rw [e2, e3] at ho2; omega), by decide, pcB.yun (show gu_un ycd [] G G from gu_un.rf) rfl, pcK.yun (show gu_un ycd [] G G from gu_un.rf) rfl⟩)), (by show ((G 0 32).toInt = (G 0 32).toInt); (first | omega | (simp only [Int32.reduceToInt, true_and, and_true, ne_eq, not_true_eq_false, false_and, or_false, false_or, true_or, or_true, false_implies] <;> omega)))⟩) rfl rfl dX13_attempt_38
    · refine v_if_ne F 25 dX13_attempt_19 (by decide) 0 rfl (fun c41 => absurd c41 (by decide)) (fun c41 => ?_)
      refine g_bipush F (-2) dX13_attempt_22 (by decide) ?_
      exact u_iret F hA hQ hr G (⟨hI, gu_un.rf, (by decide), (yNh.rf), (fun Q C hq => Or.inl ⟨fun ha => by obtain ⟨b0, b1, b2, b3, b4, b5, b6, b7, b8, b9, b10, b11⟩ := ha; rw [hq.1 1 (by decide) (by decide)] at b1; omega, by decide, pcB.yun (show gu_un ycd [] G G from gu_un.rf) rfl, pcK.yun (show gu_un ycd [] G G from gu_un.rf) rfl⟩), (by show ((G 0 32).toInt = (G 0 32).toInt); (first | omega | (simp only [Int32.reduceToInt, true_and, and_true, ne_eq, not_true_eq_false, false_and, or_false, false_or, true_or, or_true, false_implies] <;> omega)))⟩) rfl rfl dX13_attempt_24
  · have q8 : ¬ (0 ≤ s0 ∧ s0 < (G 3 1).toInt ∧ 1 ≤ s1 ∧ s1 ≤ 9 ∧ 1 ≤ s2 ∧ s2 ≤ 20 ∧ 1 ≤ s3 ∧ s3 ≤ 12) := q8
    refine v_if_eq F 22 dX13_attempt_9 (by decide) 0 rfl (fun c42 => ?_) (fun c42 => absurd c42 (by decide))
    refine g_bipush F (-2) dX13_attempt_22 (by decide) ?_
    exact u_iret F hA hQ hr G (⟨hI, gu_un.rf, (by decide), (yNh.rf), (fun Q C hq => Or.inl ⟨fun ha => by obtain ⟨b0, b1, b2, b3, b4, b5, b6, b7, b8, b9, b10, b11⟩ := ha; rw [hq.1 1 (by decide) (by decide)] at b1; omega, by decide, pcB.yun (show gu_un ycd [] G G from gu_un.rf) rfl, pcK.yun (show gu_un ycd [] G G from gu_un.rf) rfl⟩), (by show ((G 0 32).toInt = (G 0 32).toInt); (first | omega | (simp only [Int32.reduceToInt, true_and, and_true, ne_eq, not_true_eq_false, false_and, or_false, false_or, true_or, or_true, false_implies] <;> omega)))⟩) rfl rfl dX13_attempt_24

theorem dX13_cut_0 : decode cX13_cut 0 = .ok (.aload_n 0, 1) := by decide +kernel
theorem dX13_cut_1 : decode cX13_cut 1 = .ok (.iload_n 1, 1) := by decide +kernel
theorem dX13_cut_2 : decode cX13_cut 2 = .ok (.iload_n 2, 1) := by decide +kernel
theorem dX13_cut_3 : decode cX13_cut 3 = .ok (.iload_n 3, 1) := by decide +kernel
theorem dX13_cut_4 : decode cX13_cut 4 = .ok (.iload 4, 2) := by decide +kernel
theorem dX13_cut_6 : decode cX13_cut 6 = .ok (.invokevirtual 431, 3) := by decide +kernel
theorem dX13_cut_9 : decode cX13_cut 9 = .ok (.ifCond .eq 13, 3) := by decide +kernel
theorem dX13_cut_12 : decode cX13_cut 12 = .ok (.iload 5, 2) := by decide +kernel
theorem dX13_cut_14 : decode cX13_cut 14 = .ok (.iload 6, 2) := by decide +kernel
theorem dX13_cut_16 : decode cX13_cut 16 = .ok (.invokestatic 435, 3) := by decide +kernel
theorem dX13_cut_19 : decode cX13_cut 19 = .ok (.ifCond .ne 6, 3) := by decide +kernel
theorem dX13_cut_22 : decode cX13_cut 22 = .ok (.bipush (-2), 2) := by decide +kernel
theorem dX13_cut_24 : decode cX13_cut 24 = .ok (.ireturn, 1) := by decide +kernel
theorem dX13_cut_25 : decode cX13_cut 25 = .ok (.aload_n 0, 1) := by decide +kernel
theorem dX13_cut_26 : decode cX13_cut 26 = .ok (.iload_n 1, 1) := by decide +kernel
theorem dX13_cut_27 : decode cX13_cut 27 = .ok (.iload_n 3, 1) := by decide +kernel
theorem dX13_cut_28 : decode cX13_cut 28 = .ok (.iload 4, 2) := by decide +kernel
theorem dX13_cut_30 : decode cX13_cut 30 = .ok (.invokevirtual 438, 3) := by decide +kernel
theorem dX13_cut_33 : decode cX13_cut 33 = .ok (.ifCond .ne 6, 3) := by decide +kernel
theorem dX13_cut_36 : decode cX13_cut 36 = .ok (.bipush (-4), 2) := by decide +kernel
theorem dX13_cut_38 : decode cX13_cut 38 = .ok (.ireturn, 1) := by decide +kernel
theorem dX13_cut_39 : decode cX13_cut 39 = .ok (.aload_n 0, 1) := by decide +kernel
theorem dX13_cut_40 : decode cX13_cut 40 = .ok (.getfield 364, 3) := by decide +kernel
theorem dX13_cut_43 : decode cX13_cut 43 = .ok (.sipush 200, 3) := by decide +kernel
theorem dX13_cut_46 : decode cX13_cut 46 = .ok (.if_icmp .ne 6, 3) := by decide +kernel
theorem dX13_cut_49 : decode cX13_cut 49 = .ok (.bipush (-3), 2) := by decide +kernel
theorem dX13_cut_51 : decode cX13_cut 51 = .ok (.ireturn, 1) := by decide +kernel
theorem dX13_cut_52 : decode cX13_cut 52 = .ok (.aload_n 0, 1) := by decide +kernel
theorem dX13_cut_53 : decode cX13_cut 53 = .ok (.iload_n 1, 1) := by decide +kernel
theorem dX13_cut_54 : decode cX13_cut 54 = .ok (.iload_n 2, 1) := by decide +kernel
theorem dX13_cut_55 : decode cX13_cut 55 = .ok (.iload_n 3, 1) := by decide +kernel
theorem dX13_cut_56 : decode cX13_cut 56 = .ok (.iload 4, 2) := by decide +kernel
theorem dX13_cut_58 : decode cX13_cut 58 = .ok (.iload 5, 2) := by decide +kernel
theorem dX13_cut_60 : decode cX13_cut 60 = .ok (.iload 6, 2) := by decide +kernel
theorem dX13_cut_62 : decode cX13_cut 62 = .ok (.aload_n 0, 1) := by decide +kernel
theorem dX13_cut_63 : decode cX13_cut 63 = .ok (.getfield 364, 3) := by decide +kernel
theorem dX13_cut_66 : decode cX13_cut 66 = .ok (.invokevirtual 415, 3) := by decide +kernel
theorem dX13_cut_69 : decode cX13_cut 69 = .ok (.istore 7, 2) := by decide +kernel
theorem dX13_cut_71 : decode cX13_cut 71 = .ok (.aload_n 0, 1) := by decide +kernel
theorem dX13_cut_72 : decode cX13_cut 72 = .ok (.dup, 1) := by decide +kernel
theorem dX13_cut_73 : decode cX13_cut 73 = .ok (.getfield 364, 3) := by decide +kernel
theorem dX13_cut_76 : decode cX13_cut 76 = .ok (.iconst 1, 1) := by decide +kernel
theorem dX13_cut_77 : decode cX13_cut 77 = .ok (.iadd, 1) := by decide +kernel
theorem dX13_cut_78 : decode cX13_cut 78 = .ok (.putfield 364, 3) := by decide +kernel
theorem dX13_cut_81 : decode cX13_cut 81 = .ok (.aload_n 0, 1) := by decide +kernel
theorem dX13_cut_82 : decode cX13_cut 82 = .ok (.invokevirtual 445, 3) := by decide +kernel
theorem dX13_cut_85 : decode cX13_cut 85 = .ok (.iload 7, 2) := by decide +kernel
theorem dX13_cut_87 : decode cX13_cut 87 = .ok (.ireturn, 1) := by decide +kernel
set_option maxRecDepth 20000 in
theorem ggX13_cut_X13_canBe : GoodIn wsX13_cut wsX13_canBe := goodIn_r _ [25, 26, 27, 28, 5, 29, 30, 14, 31, 32, 33, 34, 35, 36, 37, 96, 97, 98, 99, 100, 101, 102, 103, 104, 105, 106, 107, 108, 109, 110, 111, 112, 113, 114, 115, 116, 117, 118, 119, 120, 121, 122, 123, 124, 125, 126, 127, 128, 129, 130, 131, 132, 133, 134, 135, 136, 137, 138, 139, 140, 141, 142, 143, 144, 145, 146, 147, 148, 149, 150, 151, 152, 153, 154, 155, 156, 157, 158, 159, 160, 161, 162, 163, 164, 165, 166, 167, 168] rfl (by decide +kernel)
set_option maxRecDepth 20000 in
theorem gX13_cut_X13_canBe : GoodIn wsX13_cut (wsV RX13 438 RX13 yX13_canBe wsX13_canBe) := goodIn_app (goodIn_of _ (by decide +kernel)) ggX13_cut_X13_canBe
set_option maxRecDepth 20000 in
theorem ggX13_cut_X13_go : GoodIn wsX13_cut wsX13_go := goodIn_r _ [41, 14, 42, 43, 44, 30, 45, 46, 47, 33, 48, 31, 32, 34, 49, 26, 27, 28, 5, 29, 35, 36, 37, 50, 51, 52, 53, 54, 55, 56, 57, 58, 59, 60, 61, 62, 63, 64, 65, 66, 67, 68, 69, 70, 71, 72, 73, 74, 75, 76, 77, 78, 79, 80, 81, 82, 83, 84, 85, 86, 87, 88, 89, 96, 97, 98, 99, 100, 101, 102, 103, 104, 105, 106, 107, 108, 109, 110, 111, 112, 113, 114, 115, 116, 117, 118, 119, 120, 121, 122, 123, 124, 125, 126, 127, 128, 129, 130, 131, 132, 133, 134, 135, 136, 137, 138, 139, 140, 141, 142, 143, 144, 145, 146, 147, 148, 149, 150, 151, 152, 153, 154, 155, 156, 157, 158, 159, 160, 161, 162, 163, 164, 165, 166, 167, 168] rfl (by decide +kernel)
set_option maxRecDepth 20000 in
theorem gX13_cut_X13_go : GoodIn wsX13_cut (wsV RX13 415 RX13 yX13_go wsX13_go) := goodIn_app (goodIn_of _ (by decide +kernel)) ggX13_cut_X13_go
set_option maxRecDepth 20000 in
theorem ggX13_cut_X13_isMachine : GoodIn wsX13_cut wsX13_isMachine := goodIn_r _ [20, 21, 15, 16, 5, 17] rfl (by decide +kernel)
set_option maxRecDepth 20000 in
theorem gX13_cut_X13_isMachine : GoodIn wsX13_cut (va_wsS RX13 435 yX13_isMachine wsX13_isMachine) := goodIn_app (goodIn_of _ (by decide +kernel)) ggX13_cut_X13_isMachine
set_option maxRecDepth 20000 in
theorem ggX13_cut_X13_isPass : GoodIn wsX13_cut wsX13_isPass := goodIn_r _ [6, 7, 8, 9, 10, 11, 12, 5, 13, 14, 15, 16, 17, 96, 97, 98, 99, 100, 101, 102, 103, 104, 105, 106, 107, 108, 109, 110, 111, 112, 113, 114, 115, 116, 117, 118, 119, 120, 121, 122, 123, 124, 125, 126, 127, 128, 129, 130, 131, 132, 133, 134, 135, 136, 137, 138, 139, 140, 141, 142, 143, 144, 145, 146, 147, 148, 149, 150, 151, 152, 153, 154, 155, 156, 157, 158, 159, 160, 161, 162, 163, 164, 165, 166, 167, 168] rfl (by decide +kernel)
set_option maxRecDepth 20000 in
theorem gX13_cut_X13_isPass : GoodIn wsX13_cut (wsV RX13 431 RX13 yX13_isPass wsX13_isPass) := goodIn_app (goodIn_of _ (by decide +kernel)) ggX13_cut_X13_isPass
set_option maxRecDepth 20000 in
theorem ggX13_cut_X13_notePassed : GoodIn wsX13_cut wsX13_notePassed := goodIn_r _ [93, 94, 42, 95, 96, 97, 98, 99, 100, 101, 102, 103, 104, 105, 106, 107, 108, 109, 110, 111, 112, 113, 114, 115, 116, 117, 118, 119, 120, 121, 122, 123, 124, 125, 126, 127, 128, 129, 130, 131, 132, 133, 134, 135, 136, 137, 138, 139, 140, 141, 142, 143, 144, 145, 146, 147, 148, 149, 150, 151, 152, 153, 154, 155, 156, 157, 158, 159, 160, 161, 162, 163, 164, 165, 166, 167, 168] rfl (by decide +kernel)
set_option maxRecDepth 20000 in
theorem gX13_cut_X13_notePassed : GoodIn wsX13_cut (wsV RX13 445 RX13 yX13_notePassed wsX13_notePassed) := goodIn_app (goodIn_of _ (by decide +kernel)) ggX13_cut_X13_notePassed
set_option maxHeartbeats 4000000 in
set_option maxRecDepth 100000 in
theorem S_X13_cut (l : Launch) (D : va_G) (K : Nat → ClassId) (a : Nat → Nat) (G : gS) (p0 : Int32) (s0 : Int) (p1 : Int32) (s1 : Int) (p2 : Int32) (s2 : Int) (p3 : Int32) (s3 : Int) (p4 : Int32) (s4 : Int) (p5 : Int32) (s5 : Int) (e0 : p0.toInt = s0) (e1 : p1.toInt = s1) (e2 : p2.toInt = s2) (e3 : p3.toInt = s3) (e4 : p4.toInt = s4) (e5 : p5.toInt = s5) (wf : yW3 G) (hI : yI G) (sz : Nat) : Ki l yX13_cut wsX13_cut 6 177 0 0 D [.ref (a 0), .int p0, .int p1, .int p2, .int p3, .int p4, .int p5] (yW K a G) (tK K) sz (fun (r : Int32) (G' : gS) => (yI G') ∧ (gu_un ycd [29, 30, 36, 37, 38, 1300, 1400, 1500, 1600, 1700, 1800, 2100, 2200] G G') ∧ ((-4) ≤ r.toInt ∧ r.toInt ≤ 2) ∧ ((∀ (Q : gS) (C : Nat → List Int), ySq G Q C → cuR Q C (yPc G) (yPc G') s0 p1 p2 p3 p4 p5 r.toInt))) (fun (G' : gS) => (yW K a G')) (fun _ => (tK K)) := by
  unfold Ki
  refine g_ofW (cc := cX13_cut) (lv := [(0, .ref (a 0)), (1, .int p0), (2, .int p1), (3, .int p2), (4, .int p3), (5, .int p4), (6, .int p5)]) (by decide) rfl (Nat.le_of_ble_eq_true rfl) rfl ?_
  intro p e s m args below meth c A Q hA hQ F hr hnm
  have hts := F.2.2.2.2.1
  have w_0 : (Cond.fieldLink RX13 364 "QuietCutModel" "cuts" "I").before args s = true := hts _ (List.mem_of_getElem? (i := 1) rfl)
  have i_X13 : ∀ w ∈ u_ws RX13 TX13 73, w ∈ wsX13_cut := fun _ h => List.mem_cons_of_mem _ (List.mem_append_right _ h)
  have rg0 : -2147483648 ≤ s0 ∧ s0 ≤ 2147483647 := e0 ▸ ti_rng p0
  have rg1 : -2147483648 ≤ s1 ∧ s1 ≤ 2147483647 := e1 ▸ ti_rng p1
  have rg2 : -2147483648 ≤ s2 ∧ s2 ≤ 2147483647 := e2 ▸ ti_rng p2
  have rg3 : -2147483648 ≤ s3 ∧ s3 ≤ 2147483647 := e3 ▸ ti_rng p3
  have rg4 : -2147483648 ≤ s4 ∧ s4 ≤ 2147483647 := e4 ▸ ti_rng p4
  have rg5 : -2147483648 ≤ s5 ∧ s5 ≤ 2147483647 := e5 ▸ ti_rng p5
  have b1 : (0 : Int) ≤ (G 0 29).toInt ∧ (G 0 29).toInt ≤ 200 := hI 0 29
  have b2 : (4 : Int) ≤ (G 3 0).toInt ∧ (G 3 0).toInt ≤ 16 := hI 3 0
  have b3 : (1 : Int) ≤ (G 3 1).toInt ∧ (G 3 1).toInt ≤ 6 := hI 3 1
  refine g_aload_n F 0 dX13_cut_0 rfl rfl ?_
  refine g_iload_n F 1 dX13_cut_1 rfl rfl ?_
  refine g_iload_n F 2 dX13_cut_2 rfl rfl ?_
  refine g_iload_n F 3 dX13_cut_3 rfl rfl ?_
  refine g_iload F 4 dX13_cut_4 rfl ?_
  refine u_callVi (k := 0) (n := 0) (b := a 0) (As := [.int p0, .int p1, .int p2, .int p3]) (st := []) F (fun sz => S_X13_isPass l D K a G p0 s0 p1 s1 p2 s2 p3 s3 e0 e1 e2 e3 hI sz) (cwV 4 hts gX13_cut_X13_isPass rfl rfl rfl (by decide +kernel) ⟨Nat.le_of_ble_eq_true rfl, Nat.le_of_ble_eq_true rfl⟩) rfl 0 yc_0 rfl (Nat.le_of_ble_eq_true rfl) ⟨Nat.zero_le _, Nat.zero_le _⟩ dX13_cut_6 (fun r4 _ hw5 => ?_)
  rcases hw5 with ⟨rfl, q7⟩ | ⟨rfl, q8⟩
  · have q7 : (0 ≤ s0 ∧ s0 < (G 3 1).toInt ∧ 1 ≤ s1 ∧ s1 ≤ 9 ∧ 1 ≤ s2 ∧ s2 ≤ 20 ∧ 1 ≤ s3 ∧ s3 ≤ 12) := q7
    refine v_if_eq F 22 dX13_cut_9 (by decide) 1 rfl (fun c9 => absurd c9 (by decide)) (fun c9 => ?_)
    refine g_iload F 5 dX13_cut_12 rfl ?_
    refine g_iload F 6 dX13_cut_14 rfl ?_
    refine u_call0 (k := 0) (n := 0) (As := [.int p4, .int p5]) (st := []) F (fun sz => S_X13_isMachine l D p4 s4 p5 s5 e4 e5 sz) (va_cwS 2 hts gX13_cut_X13_isMachine rfl rfl rfl (by decide +kernel) ⟨Nat.le_of_ble_eq_true rfl, Nat.le_of_ble_eq_true rfl⟩) rfl (Nat.le_of_ble_eq_true rfl) ⟨Nat.zero_le _, Nat.zero_le _⟩ dX13_cut_16 (fun r10 _ hw11 => ?_)
    rcases hw11 with ⟨rfl, q13⟩ | ⟨rfl, q14⟩
    · refine v_if_ne F 25 dX13_cut_19 (by decide) 1 rfl (fun c15 => ?_) (fun c15 => absurd c15 (by decide))
      refine g_aload_n F 0 dX13_cut_25 rfl rfl ?_
      refine g_iload_n F 1 dX13_cut_26 rfl rfl ?_
      refine g_iload_n F 3 dX13_cut_27 rfl rfl ?_
      refine g_iload F 4 dX13_cut_28 rfl ?_
      refine u_callVi (k := 0) (n := 0) (b := a 0) (As := [.int p0, .int p2, .int p3]) (st := []) F (fun sz => S_X13_canBe l D K a G p0 s0 p2 s2 p3 s3 e0 (by omega) e2 (by omega) e3 (by omega) hI sz) (cwV 3 hts gX13_cut_X13_canBe rfl rfl rfl (by decide +kernel) ⟨Nat.le_of_ble_eq_true rfl, Nat.le_of_ble_eq_true rfl⟩) rfl 0 yc_0 rfl (Nat.le_of_ble_eq_true rfl) ⟨Nat.zero_le _, Nat.zero_le _⟩ dX13_cut_30 (fun r16 _ hw17 => ?_)
      rcases hw17 with ⟨rfl, q19⟩ | ⟨rfl, q20⟩
      · have q19 : (1 ≤ psMx (psHr (G 14) s0 (G 3 0).toInt) ((G 3 0).toInt - 1).toNat - s2 * s3) := q19
        refine v_if_ne F 39 dX13_cut_33 (by decide) 1 rfl (fun c21 => ?_) (fun c21 => absurd c21 (by decide))
        refine g_aload_n F 0 dX13_cut_39 rfl rfl ?_
        refine yg_0_29 F i_X13 w_0 dX13_cut_40 (G 0 29) (rfl) ?_
        refine g_sipush F 200 dX13_cut_43 (by decide) ?_
        refine v_icmp_ne F 52 dX13_cut_46 (by decide) (G 0 29).toInt 200 rfl rfl (fun c22 => ?_) (fun c22 => ?_)
        · refine g_aload_n F 0 dX13_cut_52 rfl rfl ?_
          refine g_iload_n F 1 dX13_cut_53 rfl rfl ?_
          refine g_iload_n F 2 dX13_cut_54 rfl rfl ?_
          refine g_iload_n F 3 dX13_cut_55 rfl rfl ?_
          refine g_iload F 4 dX13_cut_56 rfl ?_
          refine g_iload F 5 dX13_cut_58 rfl ?_
          refine g_iload F 6 dX13_cut_60 rfl ?_
          refine g_aload_n F 0 dX13_cut_62 rfl rfl ?_
          refine yg_0_29 F i_X13 w_0 dX13_cut_63 (G 0 29) (rfl) ?_
          refine u_callVi (k := 0) (n := 0) (b := a 0) (As := [.int p0, .int p1, .int p2, .int p3, .int p4, .int p5, .int (G 0 29)]) (st := []) F (fun sz => S_X13_go l D K a G p0 s0 p1 s1 p2 s2 p3 s3 p4 s4 p5 s5 (G 0 29) (G 0 29).toInt e0 (by omega) e1 (by omega) e2 (by omega) e3 (by omega) e4 (by omega) e5 (by omega) rfl (wf) (by (first | omega | (simp only [Int32.reduceToInt, true_and, and_true, ne_eq, not_true_eq_false, false_and, or_false, false_or, true_or, or_true, false_implies] <;> omega))) hI sz) (cwV 7 hts gX13_cut_X13_go rfl rfl rfl (by decide +kernel) ⟨Nat.le_of_ble_eq_true rfl, Nat.le_of_ble_eq_true rfl⟩) rfl 0 yc_0 rfl (Nat.le_of_ble_eq_true rfl) ⟨Nat.zero_le _, Nat.zero_le _⟩ dX13_cut_66 (fun r23 G25 hw24 => ?_)
          have hI26 : yI G25 := hw24.1
          have hU27 : gu_un ycd [29, 36, 37, 1300, 1400, 1500, 1600, 1700, 1800, 2100] G G25 := hw24.2.1
          have hp28 := hw24.2.2
          have q29 : yOut G s0 (G 0 29) p2 p1 p3 p4 p5 G25 r23.toInt := hp28.2.1
          have q30 : yOt s0 (G 3 0).toInt G G25 := hp28.2.2.1
          have q31 : ((G 0 29).toInt = -1 → G25 15 = G 15 ∧ G25 16 = G 16 ∧ G25 17 = G 17 ∧ G25 18 = G 18) := hp28.2.2.2
          have rg32 := hp28.1
          clear hp28 hw24
          refine g_istore F [(7, .int r23), (0, .ref (a 0)), (1, .int p0), (2, .int p1), (3, .int p2), (4, .int p3), (5, .int p4), (6, .int p5)] dX13_cut_69 (by decide) rfl ?_
          refine g_aload_n F 1 dX13_cut_71 rfl rfl ?_
          refine g_dup F dX13_cut_72 rfl ?_
          refine yg_0_29 F i_X13 w_0 dX13_cut_73 (G 0 29) (hU27 0 29 (by decide)) ?_
          refine g_iconst F 1 dX13_cut_76 (by decide) ?_
          refine g_iadd F dX13_cut_77 ?_
          have cc9 : (((G 0 29) + 1) : Int32).toInt = (G 0 29).toInt + 1 := ti_add rfl rfl (by omega) (by omega)
          refine yp_0_29 F i_X13 w_0 dX13_cut_78 ?_
          refine g_aload_n F 1 dX13_cut_81 rfl rfl ?_
          refine u_callVv (k := 0) (n := 0) (b := a 0) (As := []) (st := []) F (fun sz => S_X13_notePassed l D K a (gu_up G25 0 29 ((G 0 29) + 1))  (gu_I.up (j := 0) (k := 29) (v := ((G 0 29) + 1)) hI26 (show (0 : Int) ≤ Int32.toInt ((G 0 29) + 1) by omega) (show Int32.toInt ((G 0 29) + 1) ≤ 200 by omega)) sz) (cwV 0 hts gX13_cut_X13_notePassed rfl rfl rfl (by decide +kernel) ⟨Nat.le_of_ble_eq_true rfl, Nat.le_of_ble_eq_true rfl⟩) rfl 0 yc_0 rfl (Nat.le_of_ble_eq_true rfl) ⟨Nat.zero_le _, Nat.zero_le _⟩ dX13_cut_82 (fun G35 hw34 => ?_)
          have hI36 : yI G35 := hw34.1
          have hU37 : gu_un ycd [38, 2200] (gu_up G25 0 29 ((G 0 29) + 1)) G35 := hw34.2.1
          have hp38 := hw34.2.2
          have q39 : (G35 0 37 = 1 ∧ ∀ q : Nat, q < 7 → G35 22 q = (G25 21) q) := hp38
          clear hp38 hw34
          refine g_iload F 0 dX13_cut_85 rfl ?_
          exact u_iret F hA hQ hr G35 (⟨hI36, (gu_un.tr (gu_un.up (j := 0) (k := 29) (v := ((G 0 29) + 1)) (gu_un.tr gu_un.rf (gu_un.su hU27 rfl)) (show (30 : Nat) ∈ ([29, 30, 36, 37, 38, 1300, 1400, 1500, 1600, 1700, 1800, 2100, 2200] : List Nat) by decide)) (gu_un.su hU37 rfl)), (by have h9 := ti_rng r23; omega), (fun Q C hq => by have h9 := yOut.pv q29 hq (by omega) (by omega) (by omega); exact Or.inr (Or.inr (Or.inr ⟨(by unfold pvArg; rw [hq.1 1 (by decide) (by decide)]; omega), (by unfold pvOk; rw [hq.1 0 (by decide) (by decide)]; show 1 ≤ psMx (psHr (G 14) s0 (G 3 0).toInt) ((G 3 0).toInt - 1).toNat - p2.toInt * p3.toInt; rw [e2, e3]; omega), by show (G 0 29).toInt < 200; omega, h9.1, cu_y h9.2.1 (h9.2.2.1 (by omega)) h9.2.2.2.2 (by rw [hq.1 0 (by decide) (by decide)]; exact q30) rfl (show gu_un ycd [30, 38, 2200] G25 G35 from (gu_un.tr (gu_un.up (j := 0) (k := 29) (v := ((G 0 29) + 1)) gu_un.rf (show (30 : Nat) ∈ ([30, 38, 2200] : List Nat) by decide)) (gu_un.su hU37 rfl))) rfl (hU37 0 29 (by decide)), ⟨q39.1, pvN.at h9.2.2.2.1 ((q39.2 0 (by decide)).trans rfl) ((q39.2 1 (by decide)).trans rfl) ((q39.2 2 (by decide)).trans rfl) ((q39.2 3 (by decide)).trans rfl) ((q39.2 4 (by decide)).trans rfl) ((q39.2 5 (by decide)).trans rfl) ((q39.2 6 (by decide)).trans rfl)⟩⟩)))⟩) rfl rfl dX13_cut_87
        · refine g_bipush F (-3) dX13_cut_49 (by decide) ?_
          exact u_iret F hA hQ hr G (⟨hI, gu_un.rf, (by decide), (fun Q C hq => Or.inr (Or.inr (Or.inl ⟨(by unfold pvArg; rw [hq.1 1 (by decide) (by decide)]; omega), (by unfold pvOk; rw [hq.1 0 (by decide) (by decide)]; show 1 ≤ psMx (psHr (G 14) s0 (G 3 0).toInt) ((G 3 0).toInt - 1).toNat - p2.toInt * p3.toInt; rw [e2, e3]; omega), by show 200 ≤ (G 0 29).toInt; omega, by decide, pcB.yun (show gu_un ycd [] G G from gu_un.rf) rfl, pcK.yun (show gu_un ycd [] G G from gu_un.rf) rfl⟩)))⟩) rfl rfl dX13_cut_51
      · have q20 : (psMx (psHr (G 14) s0 (G 3 0).toInt) ((G 3 0).toInt - 1).toNat - s2 * s3 < 1) := q20
        refine v_if_ne F 39 dX13_cut_33 (by decide) 0 rfl (fun c40 => absurd c40 (by decide)) (fun c40 => ?_)
        refine g_bipush F (-4) dX13_cut_36 (by decide) ?_
        exact u_iret F hA hQ hr G (⟨hI, gu_un.rf, (by decide), (fun Q C hq => Or.inr (Or.inl ⟨(by unfold pvArg; rw [hq.1 1 (by decide) (by decide)]; omega), (fun ho => by unfold pvOk at ho; rw [hq.1 0 (by decide) (by decide)] at ho; have ho2 : 1 ≤ psMx (psHr (G 14) s0 (G 3 0).toInt) ((G 3 0).toInt - 1).toNat - p2.toInt * p3.toInt := ho; rw [e2, e3] at ho2; omega), by decide, pcB.yun (show gu_un ycd [] G G from gu_un.rf) rfl, pcK.yun (show gu_un ycd [] G G from gu_un.rf) rfl⟩))⟩) rfl rfl dX13_cut_38
    · refine v_if_ne F 25 dX13_cut_19 (by decide) 0 rfl (fun c41 => absurd c41 (by decide)) (fun c41 => ?_)
      refine g_bipush F (-2) dX13_cut_22 (by decide) ?_
      exact u_iret F hA hQ hr G (⟨hI, gu_un.rf, (by decide), (fun Q C hq => Or.inl ⟨fun ha => by obtain ⟨b0, b1, b2, b3, b4, b5, b6, b7, b8, b9, b10, b11⟩ := ha; rw [hq.1 1 (by decide) (by decide)] at b1; omega, by decide, pcB.yun (show gu_un ycd [] G G from gu_un.rf) rfl, pcK.yun (show gu_un ycd [] G G from gu_un.rf) rfl⟩)⟩) rfl rfl dX13_cut_24
  · have q8 : ¬ (0 ≤ s0 ∧ s0 < (G 3 1).toInt ∧ 1 ≤ s1 ∧ s1 ≤ 9 ∧ 1 ≤ s2 ∧ s2 ≤ 20 ∧ 1 ≤ s3 ∧ s3 ≤ 12) := q8
    refine v_if_eq F 22 dX13_cut_9 (by decide) 0 rfl (fun c42 => ?_) (fun c42 => absurd c42 (by decide))
    refine g_bipush F (-2) dX13_cut_22 (by decide) ?_
    exact u_iret F hA hQ hr G (⟨hI, gu_un.rf, (by decide), (fun Q C hq => Or.inl ⟨fun ha => by obtain ⟨b0, b1, b2, b3, b4, b5, b6, b7, b8, b9, b10, b11⟩ := ha; rw [hq.1 1 (by decide) (by decide)] at b1; omega, by decide, pcB.yun (show gu_un ycd [] G G from gu_un.rf) rfl, pcK.yun (show gu_un ycd [] G G from gu_un.rf) rfl⟩)⟩) rfl rfl dX13_cut_24

theorem dX13_sure_0 : decode cX13_sure 0 = .ok (.aload_n 0, 1) := by decide +kernel
theorem dX13_sure_1 : decode cX13_sure 1 = .ok (.iload_n 1, 1) := by decide +kernel
theorem dX13_sure_2 : decode cX13_sure 2 = .ok (.iload_n 2, 1) := by decide +kernel
theorem dX13_sure_3 : decode cX13_sure 3 = .ok (.iload_n 3, 1) := by decide +kernel
theorem dX13_sure_4 : decode cX13_sure 4 = .ok (.iload 4, 2) := by decide +kernel
theorem dX13_sure_6 : decode cX13_sure 6 = .ok (.invokevirtual 431, 3) := by decide +kernel
theorem dX13_sure_9 : decode cX13_sure 9 = .ok (.ifCond .ne 6, 3) := by decide +kernel
theorem dX13_sure_12 : decode cX13_sure 12 = .ok (.bipush (-2), 2) := by decide +kernel
theorem dX13_sure_14 : decode cX13_sure 14 = .ok (.ireturn, 1) := by decide +kernel
theorem dX13_sure_15 : decode cX13_sure 15 = .ok (.aload_n 0, 1) := by decide +kernel
theorem dX13_sure_16 : decode cX13_sure 16 = .ok (.iload_n 1, 1) := by decide +kernel
theorem dX13_sure_17 : decode cX13_sure 17 = .ok (.iload_n 3, 1) := by decide +kernel
theorem dX13_sure_18 : decode cX13_sure 18 = .ok (.iload 4, 2) := by decide +kernel
theorem dX13_sure_20 : decode cX13_sure 20 = .ok (.invokevirtual 438, 3) := by decide +kernel
theorem dX13_sure_23 : decode cX13_sure 23 = .ok (.ifCond .ne 6, 3) := by decide +kernel
theorem dX13_sure_26 : decode cX13_sure 26 = .ok (.bipush (-4), 2) := by decide +kernel
theorem dX13_sure_28 : decode cX13_sure 28 = .ok (.ireturn, 1) := by decide +kernel
theorem dX13_sure_29 : decode cX13_sure 29 = .ok (.iconst 0, 1) := by decide +kernel
theorem dX13_sure_30 : decode cX13_sure 30 = .ok (.istore 5, 2) := by decide +kernel
theorem dX13_sure_32 : decode cX13_sure 32 = .ok (.iconst 0, 1) := by decide +kernel
theorem dX13_sure_33 : decode cX13_sure 33 = .ok (.istore 6, 2) := by decide +kernel
theorem dX13_sure_35 : decode cX13_sure 35 = .ok (.aload_n 0, 1) := by decide +kernel
theorem dX13_sure_36 : decode cX13_sure 36 = .ok (.getfield 199, 3) := by decide +kernel
theorem dX13_sure_39 : decode cX13_sure 39 = .ok (.iconst 3, 1) := by decide +kernel
theorem dX13_sure_40 : decode cX13_sure 40 = .ok (.iaload, 1) := by decide +kernel
theorem dX13_sure_41 : decode cX13_sure 41 = .ok (.istore 7, 2) := by decide +kernel
theorem dX13_sure_43 : decode cX13_sure 43 = .ok (.iload 7, 2) := by decide +kernel
theorem dX13_sure_45 : decode cX13_sure 45 = .ok (.aload_n 0, 1) := by decide +kernel
theorem dX13_sure_46 : decode cX13_sure 46 = .ok (.getfield 199, 3) := by decide +kernel
theorem dX13_sure_49 : decode cX13_sure 49 = .ok (.iconst 4, 1) := by decide +kernel
theorem dX13_sure_50 : decode cX13_sure 50 = .ok (.iaload, 1) := by decide +kernel
theorem dX13_sure_51 : decode cX13_sure 51 = .ok (.if_icmp .gt 64, 3) := by decide +kernel
theorem dX13_sure_54 : decode cX13_sure 54 = .ok (.aload_n 0, 1) := by decide +kernel
theorem dX13_sure_55 : decode cX13_sure 55 = .ok (.getfield 199, 3) := by decide +kernel
theorem dX13_sure_58 : decode cX13_sure 58 = .ok (.iconst 5, 1) := by decide +kernel
theorem dX13_sure_59 : decode cX13_sure 59 = .ok (.iaload, 1) := by decide +kernel
theorem dX13_sure_60 : decode cX13_sure 60 = .ok (.istore 8, 2) := by decide +kernel
theorem dX13_sure_62 : decode cX13_sure 62 = .ok (.iload 8, 2) := by decide +kernel
theorem dX13_sure_64 : decode cX13_sure 64 = .ok (.aload_n 0, 1) := by decide +kernel
theorem dX13_sure_65 : decode cX13_sure 65 = .ok (.getfield 199, 3) := by decide +kernel
theorem dX13_sure_68 : decode cX13_sure 68 = .ok (.bipush 6, 2) := by decide +kernel
theorem dX13_sure_70 : decode cX13_sure 70 = .ok (.iaload, 1) := by decide +kernel
theorem dX13_sure_71 : decode cX13_sure 71 = .ok (.if_icmp .gt 38, 3) := by decide +kernel
theorem dX13_sure_74 : decode cX13_sure 74 = .ok (.iload 5, 2) := by decide +kernel
theorem dX13_sure_76 : decode cX13_sure 76 = .ok (.aload_n 0, 1) := by decide +kernel
theorem dX13_sure_77 : decode cX13_sure 77 = .ok (.iload_n 1, 1) := by decide +kernel
theorem dX13_sure_78 : decode cX13_sure 78 = .ok (.iload_n 2, 1) := by decide +kernel
theorem dX13_sure_79 : decode cX13_sure 79 = .ok (.iload_n 3, 1) := by decide +kernel
theorem dX13_sure_80 : decode cX13_sure 80 = .ok (.iload 4, 2) := by decide +kernel
theorem dX13_sure_82 : decode cX13_sure 82 = .ok (.iload 7, 2) := by decide +kernel
theorem dX13_sure_84 : decode cX13_sure 84 = .ok (.iload 8, 2) := by decide +kernel
theorem dX13_sure_86 : decode cX13_sure 86 = .ok (.invokevirtual 442, 3) := by decide +kernel
theorem dX13_sure_89 : decode cX13_sure 89 = .ok (.ifCond .ne 7, 3) := by decide +kernel
theorem dX13_sure_92 : decode cX13_sure 92 = .ok (.iconst 1, 1) := by decide +kernel
theorem dX13_sure_93 : decode cX13_sure 93 = .ok (.goto 4, 3) := by decide +kernel
theorem dX13_sure_96 : decode cX13_sure 96 = .ok (.iconst 0, 1) := by decide +kernel
theorem dX13_sure_97 : decode cX13_sure 97 = .ok (.iadd, 1) := by decide +kernel
theorem dX13_sure_98 : decode cX13_sure 98 = .ok (.istore 5, 2) := by decide +kernel
theorem dX13_sure_100 : decode cX13_sure 100 = .ok (.iinc 6 1, 3) := by decide +kernel
theorem dX13_sure_103 : decode cX13_sure 103 = .ok (.iinc 8 1, 3) := by decide +kernel
theorem dX13_sure_106 : decode cX13_sure 106 = .ok (.goto (-44), 3) := by decide +kernel
theorem dX13_sure_109 : decode cX13_sure 109 = .ok (.iinc 7 1, 3) := by decide +kernel
theorem dX13_sure_112 : decode cX13_sure 112 = .ok (.goto (-69), 3) := by decide +kernel
theorem dX13_sure_115 : decode cX13_sure 115 = .ok (.iload 5, 2) := by decide +kernel
theorem dX13_sure_117 : decode cX13_sure 117 = .ok (.iload 6, 2) := by decide +kernel
theorem dX13_sure_119 : decode cX13_sure 119 = .ok (.if_icmp .ne 7, 3) := by decide +kernel
theorem dX13_sure_122 : decode cX13_sure 122 = .ok (.iconst 1, 1) := by decide +kernel
theorem dX13_sure_123 : decode cX13_sure 123 = .ok (.goto 13, 3) := by decide +kernel
theorem dX13_sure_126 : decode cX13_sure 126 = .ok (.iload 5, 2) := by decide +kernel
theorem dX13_sure_128 : decode cX13_sure 128 = .ok (.ifCond .ne 7, 3) := by decide +kernel
theorem dX13_sure_131 : decode cX13_sure 131 = .ok (.iconst 0, 1) := by decide +kernel
theorem dX13_sure_132 : decode cX13_sure 132 = .ok (.goto 4, 3) := by decide +kernel
theorem dX13_sure_135 : decode cX13_sure 135 = .ok (.iconst 2, 1) := by decide +kernel
theorem dX13_sure_136 : decode cX13_sure 136 = .ok (.ireturn, 1) := by decide +kernel
set_option maxRecDepth 20000 in
theorem ggX13_sure_X13_canBe : GoodIn wsX13_sure wsX13_canBe := goodIn_r _ [20, 21, 22, 23, 5, 24, 25, 1, 26, 27, 28, 29, 30, 31, 32, 100, 101, 102, 103, 104, 105, 106, 107, 108, 109, 110, 111, 112, 113, 114, 115, 116, 117, 118, 119, 120, 121, 122, 123, 124, 125, 126, 127, 128, 129, 130, 131, 132, 133, 134, 135, 136, 137, 138, 139, 140, 141, 142, 143, 144, 145, 146, 147, 148, 149, 150, 151, 152, 153, 154, 155, 156, 157, 158, 159, 160, 161, 162, 163, 164, 165, 166, 167, 168, 169, 170, 171, 172] rfl (by decide +kernel)
set_option maxRecDepth 20000 in
theorem gX13_sure_X13_canBe : GoodIn wsX13_sure (wsV RX13 438 RX13 yX13_canBe wsX13_canBe) := goodIn_app (goodIn_of _ (by decide +kernel)) ggX13_sure_X13_canBe
set_option maxRecDepth 20000 in
theorem ggX13_sure_X13_isPass : GoodIn wsX13_sure wsX13_isPass := goodIn_r _ [6, 7, 8, 9, 10, 11, 12, 5, 13, 1, 14, 15, 16, 100, 101, 102, 103, 104, 105, 106, 107, 108, 109, 110, 111, 112, 113, 114, 115, 116, 117, 118, 119, 120, 121, 122, 123, 124, 125, 126, 127, 128, 129, 130, 131, 132, 133, 134, 135, 136, 137, 138, 139, 140, 141, 142, 143, 144, 145, 146, 147, 148, 149, 150, 151, 152, 153, 154, 155, 156, 157, 158, 159, 160, 161, 162, 163, 164, 165, 166, 167, 168, 169, 170, 171, 172] rfl (by decide +kernel)
set_option maxRecDepth 20000 in
theorem gX13_sure_X13_isPass : GoodIn wsX13_sure (wsV RX13 431 RX13 yX13_isPass wsX13_isPass) := goodIn_app (goodIn_of _ (by decide +kernel)) ggX13_sure_X13_isPass
set_option maxRecDepth 20000 in
theorem ggX13_sure_X13_trial : GoodIn wsX13_sure wsX13_trial := goodIn_r _ [36, 37, 38, 39, 5, 40, 41, 42, 25, 43, 44, 45, 46, 47, 48, 1, 49, 50, 51, 52, 53, 54, 28, 55, 26, 27, 29, 21, 22, 23, 24, 30, 31, 32, 56, 57, 58, 59, 60, 61, 62, 63, 64, 65, 66, 67, 68, 69, 70, 71, 72, 73, 74, 75, 76, 77, 78, 79, 80, 81, 82, 83, 84, 85, 86, 87, 88, 89, 90, 91, 92, 93, 94, 95, 96, 97, 98, 99, 100, 101, 102, 103, 104, 105, 106, 107, 108, 109, 110, 111, 112, 113, 114, 115, 116, 117, 118, 119, 120, 121, 122, 123, 124, 125, 126, 127, 128, 129, 130, 131, 132, 133, 134, 135, 136, 137, 138, 139, 140, 141, 142, 143, 144, 145, 146, 147, 148, 149, 150, 151, 152, 153, 154, 155, 156, 157, 158, 159, 160, 161, 162, 163, 164, 165, 166, 167, 168, 169, 170, 171, 172] rfl (by decide +kernel)
set_option maxRecDepth 20000 in
theorem gX13_sure_X13_trial : GoodIn wsX13_sure (wsV RX13 442 RX13 yX13_trial wsX13_trial) := goodIn_app (goodIn_of _ (by decide +kernel)) ggX13_sure_X13_trial
set_option maxHeartbeats 4000000 in
set_option maxRecDepth 100000 in
theorem S_X13_sure (l : Launch) (D : va_G) (K : Nat → ClassId) (a : Nat → Nat) (G : gS) (p0 : Int32) (s0 : Int) (p1 : Int32) (s1 : Int) (p2 : Int32) (s2 : Int) (p3 : Int32) (s3 : Int) (e0 : p0.toInt = s0) (e1 : p1.toInt = s1) (e2 : p2.toInt = s2) (e3 : p3.toInt = s3) (wf : yW3 G) (dl : ((G 0 32).toInt ≤ 6)) (hI : yI G) (sz : Nat) : Ki l yX13_sure wsX13_sure 7 204 0 0 D [.ref (a 0), .int p0, .int p1, .int p2, .int p3] (yW K a G) (tK K) sz (fun (r : Int32) (G' : gS) => (yI G') ∧ (gu_un ycd [29, 33, 36, 37, 1300, 1400, 1500, 1600, 1700, 1800, 1900, 2000, 2100] G G') ∧ ((-4) ≤ r.toInt ∧ r.toInt ≤ 2) ∧ (yNh G G') ∧ (((G' 0 32).toInt = (G 0 32).toInt))) (fun (G' : gS) => (yW K a G')) (fun _ => (tK K)) := by
  unfold Ki
  refine g_ofW (cc := cX13_sure) (lv := [(0, .ref (a 0)), (1, .int p0), (2, .int p1), (3, .int p2), (4, .int p3)]) (by decide) rfl (Nat.le_of_ble_eq_true rfl) rfl ?_
  intro p e s m args below meth c A Q hA hQ F hr hnm
  have hts := F.2.2.2.2.1
  have w_0 : (Cond.fieldLink RX13 199 "QuietCutModel" "rule" "[I").before args s = true := hts _ (List.mem_of_getElem? (i := 1) rfl)
  have i_X13 : ∀ w ∈ u_ws RX13 TX13 73, w ∈ wsX13_sure := fun _ h => List.mem_cons_of_mem _ (List.mem_append_right _ h)
  have rg0 : -2147483648 ≤ s0 ∧ s0 ≤ 2147483647 := e0 ▸ ti_rng p0
  have rg1 : -2147483648 ≤ s1 ∧ s1 ≤ 2147483647 := e1 ▸ ti_rng p1
  have rg2 : -2147483648 ≤ s2 ∧ s2 ≤ 2147483647 := e2 ▸ ti_rng p2
  have rg3 : -2147483648 ≤ s3 ∧ s3 ≤ 2147483647 := e3 ▸ ti_rng p3
  have b1 : (0 : Int) ≤ (G 0 32).toInt ∧ (G 0 32).toInt ≤ 7 := hI 0 32
  have b2 : (4 : Int) ≤ (G 3 0).toInt ∧ (G 3 0).toInt ≤ 16 := hI 3 0
  have b3 : (1 : Int) ≤ (G 3 1).toInt ∧ (G 3 1).toInt ≤ 6 := hI 3 1
  have J_43 : ∀ (fuel : Nat) (x43_5 : Int32) (x43_6 : Int32) (x43_7 : Int32) (Gj43 : gS), (2147483647 - x43_7.toInt).toNat < fuel → (0 ≤ s0 ∧ s0 ≤ 5) → (1 ≤ s1 ∧ s1 ≤ 9) → (1 ≤ s2 ∧ s2 ≤ 20) → (1 ≤ s3 ∧ s3 ≤ 12) → (0 ≤ x43_7.toInt ∧ x43_7.toInt ≤ 201) → (yI Gj43) → (gu_un ycd [29, 33, 36, 37, 1300, 1400, 1500, 1600, 1700, 1800, 1900, 2000, 2100] G Gj43) → (((Gj43 0 32).toInt = (G 0 32).toInt)) → ((1 ≤ psMx (psHr (G 14) s0 (G 3 0).toInt) ((G 3 0).toInt - 1).toNat - s2 * s3)) → ((s0 < (G 3 1).toInt ∧ 1 ≤ s1 ∧ s1 ≤ 9 ∧ 1 ≤ s2 ∧ s2 ≤ 20 ∧ 1 ≤ s3 ∧ s3 ≤ 12 ∧ 0 ≤ s0)) → (yNh G Gj43) → gG p l e (gR 7 0 0 204) s m args below meth c D A 9 Q 0 0 (yW K a Gj43) (tK K) [(0, .ref (a 0)), (1, .int p0), (2, .int p1), (3, .int p2), (4, .int p3), (5, .int x43_5), (6, .int x43_6), (7, .int x43_7)] 43 [] := by
    intro fuel
    induction fuel with
    | zero => intro x43_5 x43_6 x43_7 Gj43 hm; exact absurd hm (Nat.not_lt_zero _)
    | succ fuel_43 ih_43 =>
      intro x43_5 x43_6 x43_7 Gj43 hm_43 k43_1 k43_2 k43_3 k43_4 h43_7 jI43 jU43 dc_43 cbk_43 rgk_43 nh43
      have J_62 : ∀ (fuel : Nat) (x62_5 : Int32) (x62_6 : Int32) (x62_8 : Int32) (Gj62 : gS), (2147483647 - x62_8.toInt).toNat < fuel → (0 ≤ x43_7.toInt ∧ x43_7.toInt ≤ 200) → (0 ≤ x62_8.toInt ∧ x62_8.toInt ≤ 201) → (yI Gj62) → (gu_un ycd [29, 33, 36, 37, 1300, 1400, 1500, 1600, 1700, 1800, 1900, 2000, 2100] Gj43 Gj62) → (((Gj62 0 32).toInt = (G 0 32).toInt)) → ((1 ≤ psMx (psHr (G 14) s0 (G 3 0).toInt) ((G 3 0).toInt - 1).toNat - s2 * s3)) → ((s0 < (G 3 1).toInt ∧ 1 ≤ s1 ∧ s1 ≤ 9 ∧ 1 ≤ s2 ∧ s2 ≤ 20 ∧ 1 ≤ s3 ∧ s3 ≤ 12 ∧ 0 ≤ s0)) → (yNh G Gj62) → gG p l e (gR 7 0 0 204) s m args below meth c D A 9 Q 0 0 (yW K a Gj62) (tK K) [(0, .ref (a 0)), (1, .int p0), (2, .int p1), (3, .int p2), (4, .int p3), (5, .int x62_5), (6, .int x62_6), (7, .int x43_7), (8, .int x62_8)] 62 [] := by
        intro fuel
        induction fuel with
        | zero => intro x62_5 x62_6 x62_8 Gj62 hm; exact absurd hm (Nat.not_lt_zero _)
        | succ fuel_62 ih_62 =>
          intro x62_5 x62_6 x62_8 Gj62 hm_62 k62_7 h62_8 jI62 jU62 dc_62 cbk_62 rgk_62 nh62
          have J_97 : ∀  (z97_0 : Int32) (Gj97 : gS), (0 ≤ x62_8.toInt ∧ x62_8.toInt ≤ 200) → (0 ≤ z97_0.toInt ∧ z97_0.toInt ≤ 1) → (yI Gj97) → (gu_un ycd [29, 33, 36, 37, 1300, 1400, 1500, 1600, 1700, 1800, 1900, 2000, 2100] Gj62 Gj97) → (((Gj97 0 32).toInt = (G 0 32).toInt)) → ((1 ≤ psMx (psHr (G 14) s0 (G 3 0).toInt) ((G 3 0).toInt - 1).toNat - s2 * s3)) → ((s0 < (G 3 1).toInt ∧ 1 ≤ s1 ∧ s1 ≤ 9 ∧ 1 ≤ s2 ∧ s2 ≤ 20 ∧ 1 ≤ s3 ∧ s3 ≤ 12 ∧ 0 ≤ s0)) → (yNh G Gj97) → gG p l e (gR 7 0 0 204) s m args below meth c D A 9 Q 0 0 (yW K a Gj97) (tK K) [(0, .ref (a 0)), (1, .int p0), (2, .int p1), (3, .int p2), (4, .int p3), (6, .int x62_6), (7, .int x43_7), (8, .int x62_8)] 97 [.int z97_0, .int x62_5] := by
            intro z97_0 Gj97 k97_8 g97_0 jI97 jU97 dc_97 cbk_97 rgk_97 nh97
            refine u0_iadd F dX13_sure_97 (fun y4 => ?_)
            refine g_istore F [(5, .int y4), (0, .ref (a 0)), (1, .int p0), (2, .int p1), (3, .int p2), (4, .int p3), (6, .int x62_6), (7, .int x43_7), (8, .int x62_8)] dX13_sure_98 (by decide) rfl ?_
            refine u0_iinc F (fun v_ => [(6, .int v_), (5, .int y4), (0, .ref (a 0)), (1, .int p0), (2, .int p1), (3, .int p2), (4, .int p3), (7, .int x43_7), (8, .int x62_8)]) dX13_sure_100 (j := 6) rfl (by decide) (fun _ => rfl) (fun y5 => ?_)
            refine u_iinc F (fun v_ => [(8, .int v_), (6, .int y5), (5, .int y4), (0, .ref (a 0)), (1, .int p0), (2, .int p1), (3, .int p2), (4, .int p3), (7, .int x43_7)]) dX13_sure_103 (j := 8) rfl x62_8.toInt 1 rfl rfl (by omega) (by omega) (by decide) (fun _ => rfl) (fun y6 ey6 => ?_)
            refine g_goto F 62 dX13_sure_106 (by decide) ?_
            refine g_locals [(0, .ref (a 0)), (1, .int p0), (2, .int p1), (3, .int p2), (4, .int p3), (5, .int y4), (6, .int y5), (7, .int x43_7), (8, .int y6)] [3, 4, 5, 6, 7, 2, 1, 8, 0] rfl ?_
            have b7 : (0 : Int) ≤ (Gj97 0 32).toInt ∧ (Gj97 0 32).toInt ≤ 7 := jI97 0 32
            exact ih_62 y4 y5 y6 Gj97 (by omega) (by have h9 := ti_rng x43_7; omega) (by have h9 := ti_rng y6; omega) jI97 (gu_un.tr (gu_un.tr gu_un.rf (gu_un.su jU62 rfl)) (gu_un.su jU97 rfl)) (by (first | omega | (simp only [Int32.reduceToInt, true_and, and_true, ne_eq, not_true_eq_false, false_and, or_false, false_or, true_or, or_true, false_implies] <;> omega))) (by (first | omega | (simp only [Int32.reduceToInt, true_and, and_true, ne_eq, not_true_eq_false, false_and, or_false, false_or, true_or, or_true, false_implies] <;> omega))) (by have e9_3_1 : Gj97 3 1 = (G 3 1) := (jU97 3 1 (by decide)).trans ((jU62 3 1 (by decide)).trans (jU43 3 1 (by decide))); (try simp only [e9_3_1, true_and, and_true]) <;> (first | omega | (simp only [Int32.reduceToInt, true_and, and_true, ne_eq, not_true_eq_false, false_and, or_false, false_or, true_or, or_true, false_implies] <;> omega))) (nh97)
          refine g_iload F 8 dX13_sure_62 rfl ?_
          refine g_aload_n F 0 dX13_sure_64 rfl rfl ?_
          refine yg_0_10 F i_X13 w_0 dX13_sure_65 ?_
          refine g_bipush F 6 dX13_sure_68 (by decide) ?_
          refine u1_iald F 3 0 yc_3 rfl 6 rfl (by decide) (by decide) dX13_sure_70 (G 3 6) ((jU62 3 6 (by decide)).trans (jU43 3 6 (by decide))) ?_
          have b8 : (0 : Int) ≤ (G 3 6).toInt ∧ (G 3 6).toInt ≤ 200 := hI 3 6
          refine v_icmp_gt F 109 dX13_sure_71 (by decide) x62_8.toInt (G 3 6).toInt rfl rfl (fun c9 => ?_) (fun c9 => ?_)
          · refine u_iinc F (fun v_ => [(7, .int v_), (0, .ref (a 0)), (1, .int p0), (2, .int p1), (3, .int p2), (4, .int p3), (5, .int x62_5), (6, .int x62_6), (8, .int x62_8)]) dX13_sure_109 (j := 7) rfl x43_7.toInt 1 rfl rfl (by omega) (by omega) (by decide) (fun _ => rfl) (fun y10 ey10 => ?_)
            refine g_goto F 43 dX13_sure_112 (by decide) ?_
            refine g_locals [(0, .ref (a 0)), (1, .int p0), (2, .int p1), (3, .int p2), (4, .int p3), (5, .int x62_5), (6, .int x62_6), (7, .int y10)] [1, 2, 3, 4, 5, 6, 7, 0] rfl ?_
            have b11 : (0 : Int) ≤ (Gj62 0 32).toInt ∧ (Gj62 0 32).toInt ≤ 7 := jI62 0 32
            exact ih_43 x62_5 x62_6 y10 Gj62 (by omega) (by have h9 := ti_rng p0; omega) (by have h9 := ti_rng p1; omega) (by have h9 := ti_rng p2; omega) (by have h9 := ti_rng p3; omega) (by have h9 := ti_rng y10; omega) jI62 (gu_un.tr (gu_un.tr gu_un.rf (gu_un.su jU43 rfl)) (gu_un.su jU62 rfl)) (by (first | omega | (simp only [Int32.reduceToInt, true_and, and_true, ne_eq, not_true_eq_false, false_and, or_false, false_or, true_or, or_true, false_implies] <;> omega))) (by (first | omega | (simp only [Int32.reduceToInt, true_and, and_true, ne_eq, not_true_eq_false, false_and, or_false, false_or, true_or, or_true, false_implies] <;> omega))) (by have e9_3_1 : Gj62 3 1 = (G 3 1) := (jU62 3 1 (by decide)).trans (jU43 3 1 (by decide)); (try simp only [e9_3_1, true_and, and_true]) <;> (first | omega | (simp only [Int32.reduceToInt, true_and, and_true, ne_eq, not_true_eq_false, false_and, or_false, false_or, true_or, or_true, false_implies] <;> omega))) (nh62)
          · refine g_iload F 5 dX13_sure_74 rfl ?_
            refine g_aload_n F 0 dX13_sure_76 rfl rfl ?_
            refine g_iload_n F 1 dX13_sure_77 rfl rfl ?_
            refine g_iload_n F 2 dX13_sure_78 rfl rfl ?_
            refine g_iload_n F 3 dX13_sure_79 rfl rfl ?_
            refine g_iload F 4 dX13_sure_80 rfl ?_
            refine g_iload F 7 dX13_sure_82 rfl ?_
            refine g_iload F 8 dX13_sure_84 rfl ?_
            have b12 : (0 : Int) ≤ (Gj62 0 32).toInt ∧ (Gj62 0 32).toInt ≤ 7 := jI62 0 32
            refine u_callVi (k := 0) (n := 0) (b := a 0) (As := [.int p0, .int p1, .int p2, .int p3, .int x43_7, .int x62_8]) (st := [.int x62_5]) F (fun sz => S_X13_trial l D K a Gj62 p0 s0 p1 s1 p2 s2 p3 s3 x43_7 x43_7.toInt x62_8 x62_8.toInt e0 (by omega) e1 (by omega) e2 (by omega) e3 (by omega) rfl (by omega) rfl (by omega) (yW3.un wf (show gu_un ycd [29, 33, 36, 37, 1300, 1400, 1500, 1600, 1700, 1800, 1900, 2000, 2100] G Gj62 from (gu_un.tr (gu_un.tr gu_un.rf (gu_un.su jU43 rfl)) (gu_un.su jU62 rfl))) rfl) (by have h8 := (show yNh G Gj62 from nh62).1; rw [show Gj62 3 0 = G 3 0 from (show Gj62 3 0 = G 3 0 from (show gu_un ycd [29, 33, 36, 37, 1300, 1400, 1500, 1600, 1700, 1800, 1900, 2000, 2100] G Gj62 from (gu_un.tr (gu_un.tr gu_un.rf (gu_un.su jU43 rfl)) (gu_un.su jU62 rfl))) 3 0 (by decide)), psHr_eq (h := Gj62 14) (g := G 14) h8 (by omega) (by omega) (by omega)]; omega) (by (first | omega | (simp only [Int32.reduceToInt, true_and, and_true, ne_eq, not_true_eq_false, false_and, or_false, false_or, true_or, or_true, false_implies] <;> omega))) jI62 sz) (cwV 6 hts gX13_sure_X13_trial rfl rfl rfl (by decide +kernel) ⟨Nat.le_of_ble_eq_true rfl, Nat.le_of_ble_eq_true rfl⟩) rfl 0 yc_0 rfl (Nat.le_of_ble_eq_true rfl) ⟨Nat.zero_le _, Nat.zero_le _⟩ dX13_sure_86 (fun r13 G15 hw14 => ?_)
            have hI16 : yI G15 := hw14.1
            have hU17 : gu_un ycd [29, 33, 36, 37, 1300, 1400, 1500, 1600, 1700, 1800, 1900, 2000, 2100] Gj62 G15 := hw14.2.1
            have hp18 := hw14.2.2
            have q19 : yNh Gj62 G15 := hp18.2.1
            have q20 : (∀ (Q : gS) (C : Nat → List Int), ySq Gj62 Q C → s0 < (G 3 1).toInt → 1 ≤ s3 → r13.toInt = pvV Q (pvS Q C (Gj62 14) (Gj62 0 28) s0 p1 p2 p3 x43_7 x62_8) ∧ pvN Q (pvS Q C (Gj62 14) (Gj62 0 28) s0 p1 p2 p3 x43_7 x62_8) (G15 21 0) (G15 21 1) (G15 21 2) (G15 21 3) (G15 21 4) (G15 21 5) (G15 21 6)) := by have h9 := hp18.2.2.1; (try simp only [(show Gj62 3 1 = (G 3 1) from (jU62 3 1 (by decide)).trans (jU43 3 1 (by decide)))] at h9); first | exact h9 | omega
            have b21 : (0 : Int) ≤ (G15 0 32).toInt ∧ (G15 0 32).toInt ≤ 7 := hI16 0 32
            have q22 : ((G15 0 32).toInt = (Gj62 0 32).toInt) := hp18.2.2.2
            have rg23 := hp18.1
            clear hp18 hw14
            refine v_if_ne F 96 dX13_sure_89 (by decide) r13.toInt rfl (fun c24 => ?_) (fun c24 => ?_)
            · refine g_iconst F 0 dX13_sure_96 (by decide) ?_
              refine g_locals [(0, .ref (a 0)), (1, .int p0), (2, .int p1), (3, .int p2), (4, .int p3), (6, .int x62_6), (7, .int x43_7), (8, .int x62_8)] [0, 1, 2, 3, 4, 6, 7, 8] rfl ?_
              exact J_97 0 G15 (by have h9 := ti_rng x62_8; omega) (by decide) hI16 (gu_un.tr gu_un.rf (gu_un.su hU17 rfl)) (by (first | omega | (simp only [Int32.reduceToInt, true_and, and_true, ne_eq, not_true_eq_false, false_and, or_false, false_or, true_or, or_true, false_implies] <;> omega))) (by (first | omega | (simp only [Int32.reduceToInt, true_and, and_true, ne_eq, not_true_eq_false, false_and, or_false, false_or, true_or, or_true, false_implies] <;> omega))) (by have e9_3_1 : G15 3 1 = (G 3 1) := (hU17 3 1 (by decide)).trans ((jU62 3 1 (by decide)).trans (jU43 3 1 (by decide))); (try simp only [e9_3_1, true_and, and_true]) <;> (first | omega | (simp only [Int32.reduceToInt, true_and, and_true, ne_eq, not_true_eq_false, false_and, or_false, false_or, true_or, or_true, false_implies] <;> omega))) ((yNh.tr (show yNh G Gj62 from nh62) (show yNh Gj62 G15 from q19)))
            · refine g_iconst F 1 dX13_sure_92 (by decide) ?_
              refine g_goto F 97 dX13_sure_93 (by decide) ?_
              refine g_locals [(0, .ref (a 0)), (1, .int p0), (2, .int p1), (3, .int p2), (4, .int p3), (6, .int x62_6), (7, .int x43_7), (8, .int x62_8)] [0, 1, 2, 3, 4, 6, 7, 8] rfl ?_
              exact J_97 1 G15 (by have h9 := ti_rng x62_8; omega) (by decide) hI16 (gu_un.tr gu_un.rf (gu_un.su hU17 rfl)) (by (first | omega | (simp only [Int32.reduceToInt, true_and, and_true, ne_eq, not_true_eq_false, false_and, or_false, false_or, true_or, or_true, false_implies] <;> omega))) (by (first | omega | (simp only [Int32.reduceToInt, true_and, and_true, ne_eq, not_true_eq_false, false_and, or_false, false_or, true_or, or_true, false_implies] <;> omega))) (by have e9_3_1 : G15 3 1 = (G 3 1) := (hU17 3 1 (by decide)).trans ((jU62 3 1 (by decide)).trans (jU43 3 1 (by decide))); (try simp only [e9_3_1, true_and, and_true]) <;> (first | omega | (simp only [Int32.reduceToInt, true_and, and_true, ne_eq, not_true_eq_false, false_and, or_false, false_or, true_or, or_true, false_implies] <;> omega))) ((yNh.tr (show yNh G Gj62 from nh62) (show yNh Gj62 G15 from q19)))
      refine g_iload F 7 dX13_sure_43 rfl ?_
      refine g_aload_n F 0 dX13_sure_45 rfl rfl ?_
      refine yg_0_10 F i_X13 w_0 dX13_sure_46 ?_
      refine g_iconst F 4 dX13_sure_49 (by decide) ?_
      refine u1_iald F 3 0 yc_3 rfl 4 rfl (by decide) (by decide) dX13_sure_50 (G 3 4) (jU43 3 4 (by decide)) ?_
      have b25 : (0 : Int) ≤ (G 3 4).toInt ∧ (G 3 4).toInt ≤ 200 := hI 3 4
      refine v_icmp_gt F 115 dX13_sure_51 (by decide) x43_7.toInt (G 3 4).toInt rfl rfl (fun c26 => ?_) (fun c26 => ?_)
      · refine g_iload F 5 dX13_sure_115 rfl ?_
        refine g_iload F 6 dX13_sure_117 rfl ?_
        have b27 := ti_rng x43_5
        have b28 := ti_rng x43_6
        refine v_icmp_ne F 126 dX13_sure_119 (by decide) x43_5.toInt x43_6.toInt rfl rfl (fun c29 => ?_) (fun c29 => ?_)
        · refine g_iload F 5 dX13_sure_126 rfl ?_
          refine v_if_ne F 135 dX13_sure_128 (by decide) x43_5.toInt rfl (fun c30 => ?_) (fun c30 => ?_)
          · refine g_iconst F 2 dX13_sure_135 (by decide) ?_
            have b31 : (0 : Int) ≤ (Gj43 0 32).toInt ∧ (Gj43 0 32).toInt ≤ 7 := jI43 0 32
            exact u_iret F hA hQ hr Gj43 (⟨jI43, (gu_un.tr gu_un.rf (gu_un.su jU43 rfl)), (by decide), (nh43), (by show ((Gj43 0 32).toInt = (G 0 32).toInt); (first | omega | (simp only [Int32.reduceToInt, true_and, and_true, ne_eq, not_true_eq_false, false_and, or_false, false_or, true_or, or_true, false_implies] <;> omega)))⟩) rfl rfl dX13_sure_136
          · refine g_iconst F 0 dX13_sure_131 (by decide) ?_
            refine g_goto F 136 dX13_sure_132 (by decide) ?_
            have b32 : (0 : Int) ≤ (Gj43 0 32).toInt ∧ (Gj43 0 32).toInt ≤ 7 := jI43 0 32
            exact u_iret F hA hQ hr Gj43 (⟨jI43, (gu_un.tr gu_un.rf (gu_un.su jU43 rfl)), (by decide), (nh43), (by show ((Gj43 0 32).toInt = (G 0 32).toInt); (first | omega | (simp only [Int32.reduceToInt, true_and, and_true, ne_eq, not_true_eq_false, false_and, or_false, false_or, true_or, or_true, false_implies] <;> omega)))⟩) rfl rfl dX13_sure_136
        · refine g_iconst F 1 dX13_sure_122 (by decide) ?_
          refine g_goto F 136 dX13_sure_123 (by decide) ?_
          have b33 : (0 : Int) ≤ (Gj43 0 32).toInt ∧ (Gj43 0 32).toInt ≤ 7 := jI43 0 32
          exact u_iret F hA hQ hr Gj43 (⟨jI43, (gu_un.tr gu_un.rf (gu_un.su jU43 rfl)), (by decide), (nh43), (by show ((Gj43 0 32).toInt = (G 0 32).toInt); (first | omega | (simp only [Int32.reduceToInt, true_and, and_true, ne_eq, not_true_eq_false, false_and, or_false, false_or, true_or, or_true, false_implies] <;> omega)))⟩) rfl rfl dX13_sure_136
      · refine g_aload_n F 0 dX13_sure_54 rfl rfl ?_
        refine yg_0_10 F i_X13 w_0 dX13_sure_55 ?_
        refine g_iconst F 5 dX13_sure_58 (by decide) ?_
        refine u1_iald F 3 0 yc_3 rfl 5 rfl (by decide) (by decide) dX13_sure_59 (G 3 5) (jU43 3 5 (by decide)) ?_
        refine g_istore F [(8, .int (G 3 5)), (0, .ref (a 0)), (1, .int p0), (2, .int p1), (3, .int p2), (4, .int p3), (5, .int x43_5), (6, .int x43_6), (7, .int x43_7)] dX13_sure_60 (by decide) rfl ?_
        refine g_locals [(0, .ref (a 0)), (1, .int p0), (2, .int p1), (3, .int p2), (4, .int p3), (5, .int x43_5), (6, .int x43_6), (7, .int x43_7), (8, .int (G 3 5))] [1, 2, 3, 4, 5, 6, 7, 8, 0] rfl ?_
        have b34 : (0 : Int) ≤ (Gj43 0 32).toInt ∧ (Gj43 0 32).toInt ≤ 7 := jI43 0 32
        have b35 : (0 : Int) ≤ (G 3 5).toInt ∧ (G 3 5).toInt ≤ 200 := hI 3 5
        exact J_62 _ x43_5 x43_6 (G 3 5) Gj43 (Nat.lt_succ_self _) (by have h9 := ti_rng x43_7; omega) (by have h9 := ti_rng (G 3 5); omega) jI43 gu_un.rf (by (first | omega | (simp only [Int32.reduceToInt, true_and, and_true, ne_eq, not_true_eq_false, false_and, or_false, false_or, true_or, or_true, false_implies] <;> omega))) (by (first | omega | (simp only [Int32.reduceToInt, true_and, and_true, ne_eq, not_true_eq_false, false_and, or_false, false_or, true_or, or_true, false_implies] <;> omega))) (by have e9_3_1 : Gj43 3 1 = (G 3 1) := jU43 3 1 (by decide); (try simp only [e9_3_1, true_and, and_true]) <;> (first | omega | (simp only [Int32.reduceToInt, true_and, and_true, ne_eq, not_true_eq_false, false_and, or_false, false_or, true_or, or_true, false_implies] <;> omega))) (nh43)
  refine g_aload_n F 0 dX13_sure_0 rfl rfl ?_
  refine g_iload_n F 1 dX13_sure_1 rfl rfl ?_
  refine g_iload_n F 2 dX13_sure_2 rfl rfl ?_
  refine g_iload_n F 3 dX13_sure_3 rfl rfl ?_
  refine g_iload F 4 dX13_sure_4 rfl ?_
  refine u_callVi (k := 0) (n := 0) (b := a 0) (As := [.int p0, .int p1, .int p2, .int p3]) (st := []) F (fun sz => S_X13_isPass l D K a G p0 s0 p1 s1 p2 s2 p3 s3 e0 e1 e2 e3 hI sz) (cwV 4 hts gX13_sure_X13_isPass rfl rfl rfl (by decide +kernel) ⟨Nat.le_of_ble_eq_true rfl, Nat.le_of_ble_eq_true rfl⟩) rfl 0 yc_0 rfl (Nat.le_of_ble_eq_true rfl) ⟨Nat.zero_le _, Nat.zero_le _⟩ dX13_sure_6 (fun r36 _ hw37 => ?_)
  rcases hw37 with ⟨rfl, q39⟩ | ⟨rfl, q40⟩
  · have q39 : (0 ≤ s0 ∧ s0 < (G 3 1).toInt ∧ 1 ≤ s1 ∧ s1 ≤ 9 ∧ 1 ≤ s2 ∧ s2 ≤ 20 ∧ 1 ≤ s3 ∧ s3 ≤ 12) := q39
    refine v_if_ne F 15 dX13_sure_9 (by decide) 1 rfl (fun c41 => ?_) (fun c41 => absurd c41 (by decide))
    refine g_aload_n F 0 dX13_sure_15 rfl rfl ?_
    refine g_iload_n F 1 dX13_sure_16 rfl rfl ?_
    refine g_iload_n F 3 dX13_sure_17 rfl rfl ?_
    refine g_iload F 4 dX13_sure_18 rfl ?_
    refine u_callVi (k := 0) (n := 0) (b := a 0) (As := [.int p0, .int p2, .int p3]) (st := []) F (fun sz => S_X13_canBe l D K a G p0 s0 p2 s2 p3 s3 e0 (by omega) e2 (by omega) e3 (by omega) hI sz) (cwV 3 hts gX13_sure_X13_canBe rfl rfl rfl (by decide +kernel) ⟨Nat.le_of_ble_eq_true rfl, Nat.le_of_ble_eq_true rfl⟩) rfl 0 yc_0 rfl (Nat.le_of_ble_eq_true rfl) ⟨Nat.zero_le _, Nat.zero_le _⟩ dX13_sure_20 (fun r42 _ hw43 => ?_)
    rcases hw43 with ⟨rfl, q45⟩ | ⟨rfl, q46⟩
    · have q45 : (1 ≤ psMx (psHr (G 14) s0 (G 3 0).toInt) ((G 3 0).toInt - 1).toNat - s2 * s3) := q45
      refine v_if_ne F 29 dX13_sure_23 (by decide) 1 rfl (fun c47 => ?_) (fun c47 => absurd c47 (by decide))
      refine g_iconst F 0 dX13_sure_29 (by decide) ?_
      refine g_istore F [(5, .int 0), (0, .ref (a 0)), (1, .int p0), (2, .int p1), (3, .int p2), (4, .int p3)] dX13_sure_30 (by decide) rfl ?_
      refine g_iconst F 0 dX13_sure_32 (by decide) ?_
      refine g_istore F [(6, .int 0), (5, .int 0), (0, .ref (a 0)), (1, .int p0), (2, .int p1), (3, .int p2), (4, .int p3)] dX13_sure_33 (by decide) rfl ?_
      refine g_aload_n F 2 dX13_sure_35 rfl rfl ?_
      refine yg_0_10 F i_X13 w_0 dX13_sure_36 ?_
      refine g_iconst F 3 dX13_sure_39 (by decide) ?_
      refine u1_iald F 3 0 yc_3 rfl 3 rfl (by decide) (by decide) dX13_sure_40 (G 3 3) (rfl) ?_
      refine g_istore F [(7, .int (G 3 3)), (6, .int 0), (5, .int 0), (0, .ref (a 0)), (1, .int p0), (2, .int p1), (3, .int p2), (4, .int p3)] dX13_sure_41 (by decide) rfl ?_
      refine g_locals [(0, .ref (a 0)), (1, .int p0), (2, .int p1), (3, .int p2), (4, .int p3), (5, .int 0), (6, .int 0), (7, .int (G 3 3))] [3, 4, 5, 6, 7, 2, 1, 0] rfl ?_
      have b48 : (0 : Int) ≤ (G 3 3).toInt ∧ (G 3 3).toInt ≤ 200 := hI 3 3
      exact J_43 _ 0 0 (G 3 3) G (Nat.lt_succ_self _) (by have h9 := ti_rng p0; omega) (by have h9 := ti_rng p1; omega) (by have h9 := ti_rng p2; omega) (by have h9 := ti_rng p3; omega) (by have h9 := ti_rng (G 3 3); omega) hI gu_un.rf (by (first | omega | (simp only [Int32.reduceToInt, true_and, and_true, ne_eq, not_true_eq_false, false_and, or_false, false_or, true_or, or_true, false_implies] <;> omega))) (by (first | omega | (simp only [Int32.reduceToInt, true_and, and_true, ne_eq, not_true_eq_false, false_and, or_false, false_or, true_or, or_true, false_implies] <;> omega))) (by (first | omega | (simp only [Int32.reduceToInt, true_and, and_true, ne_eq, not_true_eq_false, false_and, or_false, false_or, true_or, or_true, false_implies] <;> omega))) (yNh.rf)
    · have q46 : (psMx (psHr (G 14) s0 (G 3 0).toInt) ((G 3 0).toInt - 1).toNat - s2 * s3 < 1) := q46
      refine v_if_ne F 29 dX13_sure_23 (by decide) 0 rfl (fun c49 => absurd c49 (by decide)) (fun c49 => ?_)
      refine g_bipush F (-4) dX13_sure_26 (by decide) ?_
      exact u_iret F hA hQ hr G (⟨hI, gu_un.rf, (by decide), (yNh.rf), (by show ((G 0 32).toInt = (G 0 32).toInt); (first | omega | (simp only [Int32.reduceToInt, true_and, and_true, ne_eq, not_true_eq_false, false_and, or_false, false_or, true_or, or_true, false_implies] <;> omega)))⟩) rfl rfl dX13_sure_28
  · have q40 : ¬ (0 ≤ s0 ∧ s0 < (G 3 1).toInt ∧ 1 ≤ s1 ∧ s1 ≤ 9 ∧ 1 ≤ s2 ∧ s2 ≤ 20 ∧ 1 ≤ s3 ∧ s3 ≤ 12) := q40
    refine v_if_ne F 15 dX13_sure_9 (by decide) 0 rfl (fun c50 => absurd c50 (by decide)) (fun c50 => ?_)
    refine g_bipush F (-2) dX13_sure_12 (by decide) ?_
    exact u_iret F hA hQ hr G (⟨hI, gu_un.rf, (by decide), (yNh.rf), (by show ((G 0 32).toInt = (G 0 32).toInt); (first | omega | (simp only [Int32.reduceToInt, true_and, and_true, ne_eq, not_true_eq_false, false_and, or_false, false_or, true_or, or_true, false_implies] <;> omega)))⟩) rfl rfl dX13_sure_14

theorem dX13_isSure_0 : decode cX13_isSure 0 = .ok (.aload_n 0, 1) := by decide +kernel
theorem dX13_isSure_1 : decode cX13_isSure 1 = .ok (.iload_n 1, 1) := by decide +kernel
theorem dX13_isSure_2 : decode cX13_isSure 2 = .ok (.iload_n 3, 1) := by decide +kernel
theorem dX13_isSure_3 : decode cX13_isSure 3 = .ok (.aload_n 0, 1) := by decide +kernel
theorem dX13_isSure_4 : decode cX13_isSure 4 = .ok (.getfield 199, 3) := by decide +kernel
theorem dX13_isSure_7 : decode cX13_isSure 7 = .ok (.bipush 9, 2) := by decide +kernel
theorem dX13_isSure_9 : decode cX13_isSure 9 = .ok (.iaload, 1) := by decide +kernel
theorem dX13_isSure_10 : decode cX13_isSure 10 = .ok (.invokevirtual 438, 3) := by decide +kernel
theorem dX13_isSure_13 : decode cX13_isSure 13 = .ok (.ifCond .ne 5, 3) := by decide +kernel
theorem dX13_isSure_16 : decode cX13_isSure 16 = .ok (.iconst 0, 1) := by decide +kernel
theorem dX13_isSure_17 : decode cX13_isSure 17 = .ok (.ireturn, 1) := by decide +kernel
theorem dX13_isSure_18 : decode cX13_isSure 18 = .ok (.aload_n 0, 1) := by decide +kernel
theorem dX13_isSure_19 : decode cX13_isSure 19 = .ok (.getfield 199, 3) := by decide +kernel
theorem dX13_isSure_22 : decode cX13_isSure 22 = .ok (.iconst 3, 1) := by decide +kernel
theorem dX13_isSure_23 : decode cX13_isSure 23 = .ok (.iaload, 1) := by decide +kernel
theorem dX13_isSure_24 : decode cX13_isSure 24 = .ok (.istore 4, 2) := by decide +kernel
theorem dX13_isSure_26 : decode cX13_isSure 26 = .ok (.iload 4, 2) := by decide +kernel
theorem dX13_isSure_28 : decode cX13_isSure 28 = .ok (.aload_n 0, 1) := by decide +kernel
theorem dX13_isSure_29 : decode cX13_isSure 29 = .ok (.getfield 199, 3) := by decide +kernel
theorem dX13_isSure_32 : decode cX13_isSure 32 = .ok (.iconst 4, 1) := by decide +kernel
theorem dX13_isSure_33 : decode cX13_isSure 33 = .ok (.iaload, 1) := by decide +kernel
theorem dX13_isSure_34 : decode cX13_isSure 34 = .ok (.if_icmp .gt 58, 3) := by decide +kernel
theorem dX13_isSure_37 : decode cX13_isSure 37 = .ok (.aload_n 0, 1) := by decide +kernel
theorem dX13_isSure_38 : decode cX13_isSure 38 = .ok (.getfield 199, 3) := by decide +kernel
theorem dX13_isSure_41 : decode cX13_isSure 41 = .ok (.iconst 5, 1) := by decide +kernel
theorem dX13_isSure_42 : decode cX13_isSure 42 = .ok (.iaload, 1) := by decide +kernel
theorem dX13_isSure_43 : decode cX13_isSure 43 = .ok (.istore 5, 2) := by decide +kernel
theorem dX13_isSure_45 : decode cX13_isSure 45 = .ok (.iload 5, 2) := by decide +kernel
theorem dX13_isSure_47 : decode cX13_isSure 47 = .ok (.aload_n 0, 1) := by decide +kernel
theorem dX13_isSure_48 : decode cX13_isSure 48 = .ok (.getfield 199, 3) := by decide +kernel
theorem dX13_isSure_51 : decode cX13_isSure 51 = .ok (.bipush 6, 2) := by decide +kernel
theorem dX13_isSure_53 : decode cX13_isSure 53 = .ok (.iaload, 1) := by decide +kernel
theorem dX13_isSure_54 : decode cX13_isSure 54 = .ok (.if_icmp .gt 32, 3) := by decide +kernel
theorem dX13_isSure_57 : decode cX13_isSure 57 = .ok (.aload_n 0, 1) := by decide +kernel
theorem dX13_isSure_58 : decode cX13_isSure 58 = .ok (.iload_n 1, 1) := by decide +kernel
theorem dX13_isSure_59 : decode cX13_isSure 59 = .ok (.iload_n 2, 1) := by decide +kernel
theorem dX13_isSure_60 : decode cX13_isSure 60 = .ok (.iload_n 3, 1) := by decide +kernel
theorem dX13_isSure_61 : decode cX13_isSure 61 = .ok (.aload_n 0, 1) := by decide +kernel
theorem dX13_isSure_62 : decode cX13_isSure 62 = .ok (.getfield 199, 3) := by decide +kernel
theorem dX13_isSure_65 : decode cX13_isSure 65 = .ok (.bipush 9, 2) := by decide +kernel
theorem dX13_isSure_67 : decode cX13_isSure 67 = .ok (.iaload, 1) := by decide +kernel
theorem dX13_isSure_68 : decode cX13_isSure 68 = .ok (.iload 4, 2) := by decide +kernel
theorem dX13_isSure_70 : decode cX13_isSure 70 = .ok (.iload 5, 2) := by decide +kernel
theorem dX13_isSure_72 : decode cX13_isSure 72 = .ok (.invokevirtual 442, 3) := by decide +kernel
theorem dX13_isSure_75 : decode cX13_isSure 75 = .ok (.ifCond .eq 5, 3) := by decide +kernel
theorem dX13_isSure_78 : decode cX13_isSure 78 = .ok (.iconst 0, 1) := by decide +kernel
theorem dX13_isSure_79 : decode cX13_isSure 79 = .ok (.ireturn, 1) := by decide +kernel
theorem dX13_isSure_80 : decode cX13_isSure 80 = .ok (.iinc 5 1, 3) := by decide +kernel
theorem dX13_isSure_83 : decode cX13_isSure 83 = .ok (.goto (-38), 3) := by decide +kernel
theorem dX13_isSure_86 : decode cX13_isSure 86 = .ok (.iinc 4 1, 3) := by decide +kernel
theorem dX13_isSure_89 : decode cX13_isSure 89 = .ok (.goto (-63), 3) := by decide +kernel
theorem dX13_isSure_92 : decode cX13_isSure 92 = .ok (.iconst 1, 1) := by decide +kernel
theorem dX13_isSure_93 : decode cX13_isSure 93 = .ok (.ireturn, 1) := by decide +kernel
set_option maxRecDepth 20000 in
theorem ggX13_isSure_X13_canBe : GoodIn wsX13_isSure wsX13_canBe := goodIn_r _ [6, 7, 8, 9, 5, 10, 11, 1, 12, 13, 14, 15, 16, 17, 18, 86, 87, 88, 89, 90, 91, 92, 93, 94, 95, 96, 97, 98, 99, 100, 101, 102, 103, 104, 105, 106, 107, 108, 109, 110, 111, 112, 113, 114, 115, 116, 117, 118, 119, 120, 121, 122, 123, 124, 125, 126, 127, 128, 129, 130, 131, 132, 133, 134, 135, 136, 137, 138, 139, 140, 141, 142, 143, 144, 145, 146, 147, 148, 149, 150, 151, 152, 153, 154, 155, 156, 157, 158] rfl (by decide +kernel)
set_option maxRecDepth 20000 in
theorem gX13_isSure_X13_canBe : GoodIn wsX13_isSure (wsV RX13 438 RX13 yX13_canBe wsX13_canBe) := goodIn_app (goodIn_of _ (by decide +kernel)) ggX13_isSure_X13_canBe
set_option maxRecDepth 20000 in
theorem ggX13_isSure_X13_trial : GoodIn wsX13_isSure wsX13_trial := goodIn_r _ [22, 23, 24, 25, 5, 26, 27, 28, 11, 29, 30, 31, 32, 33, 34, 1, 35, 36, 37, 38, 39, 40, 14, 41, 12, 13, 15, 7, 8, 9, 10, 16, 17, 18, 42, 43, 44, 45, 46, 47, 48, 49, 50, 51, 52, 53, 54, 55, 56, 57, 58, 59, 60, 61, 62, 63, 64, 65, 66, 67, 68, 69, 70, 71, 72, 73, 74, 75, 76, 77, 78, 79, 80, 81, 82, 83, 84, 85, 86, 87, 88, 89, 90, 91, 92, 93, 94, 95, 96, 97, 98, 99, 100, 101, 102, 103, 104, 105, 106, 107, 108, 109, 110, 111, 112, 113, 114, 115, 116, 117, 118, 119, 120, 121, 122, 123, 124, 125, 126, 127, 128, 129, 130, 131, 132, 133, 134, 135, 136, 137, 138, 139, 140, 141, 142, 143, 144, 145, 146, 147, 148, 149, 150, 151, 152, 153, 154, 155, 156, 157, 158] rfl (by decide +kernel)
set_option maxRecDepth 20000 in
theorem gX13_isSure_X13_trial : GoodIn wsX13_isSure (wsV RX13 442 RX13 yX13_trial wsX13_trial) := goodIn_app (goodIn_of _ (by decide +kernel)) ggX13_isSure_X13_trial
set_option maxHeartbeats 4000000 in
set_option maxRecDepth 100000 in
theorem S_X13_isSure (l : Launch) (D : va_G) (K : Nat → ClassId) (a : Nat → Nat) (G : gS) (p0 : Int32) (s0 : Int) (p1 : Int32) (s1 : Int) (p2 : Int32) (s2 : Int) (e0 : p0.toInt = s0) (h0 : 0 ≤ s0 ∧ s0 ≤ 5) (e1 : p1.toInt = s1) (h1 : 0 ≤ s1 ∧ s1 ≤ 9) (e2 : p2.toInt = s2) (h2 : 0 ≤ s2 ∧ s2 ≤ 20) (wf : yW3 G) (dl : ((G 0 32).toInt ≤ 6)) (hI : yI G) (sz : Nat) : Ki l yX13_isSure wsX13_isSure 7 204 0 0 D [.ref (a 0), .int p0, .int p1, .int p2] (yW K a G) (tK K) sz (fun (r : Int32) (G' : gS) => (yI G') ∧ (gu_un ycd [29, 33, 36, 37, 1300, 1400, 1500, 1600, 1700, 1800, 1900, 2000, 2100] G G') ∧ (0 ≤ r.toInt ∧ r.toInt ≤ 1) ∧ (yNh G G') ∧ (((G' 0 32).toInt = (G 0 32).toInt))) (fun (G' : gS) => (yW K a G')) (fun _ => (tK K)) := by
  unfold Ki
  refine g_ofW (cc := cX13_isSure) (lv := [(0, .ref (a 0)), (1, .int p0), (2, .int p1), (3, .int p2)]) (by decide) rfl (Nat.le_of_ble_eq_true rfl) rfl ?_
  intro p e s m args below meth c A Q hA hQ F hr hnm
  have hts := F.2.2.2.2.1
  have w_0 : (Cond.fieldLink RX13 199 "QuietCutModel" "rule" "[I").before args s = true := hts _ (List.mem_of_getElem? (i := 1) rfl)
  have i_X13 : ∀ w ∈ u_ws RX13 TX13 73, w ∈ wsX13_isSure := fun _ h => List.mem_cons_of_mem _ (List.mem_append_right _ h)
  have b1 : (0 : Int) ≤ (G 0 32).toInt ∧ (G 0 32).toInt ≤ 7 := hI 0 32
  have b2 : (4 : Int) ≤ (G 3 0).toInt ∧ (G 3 0).toInt ≤ 16 := hI 3 0
  have b3 : (1 : Int) ≤ (G 3 1).toInt ∧ (G 3 1).toInt ≤ 6 := hI 3 1
  have J_26 : ∀ (fuel : Nat) (x26_4 : Int32) (Gj26 : gS), (2147483647 - x26_4.toInt).toNat < fuel → (0 ≤ x26_4.toInt ∧ x26_4.toInt ≤ 201) → (yI Gj26) → (gu_un ycd [29, 33, 36, 37, 1300, 1400, 1500, 1600, 1700, 1800, 1900, 2000, 2100] G Gj26) → (((Gj26 0 32).toInt = (G 0 32).toInt)) → ((1 ≤ psMx (psHr (G 14) s0 (G 3 0).toInt) ((G 3 0).toInt - 1).toNat - s2 * (G 3 9).toInt)) → (yNh G Gj26) → gG p l e (gR 7 0 0 204) s m args below meth c D A 6 Q 0 0 (yW K a Gj26) (tK K) [(0, .ref (a 0)), (1, .int p0), (2, .int p1), (3, .int p2), (4, .int x26_4)] 26 [] := by
    intro fuel
    induction fuel with
    | zero => intro x26_4 Gj26 hm; exact absurd hm (Nat.not_lt_zero _)
    | succ fuel_26 ih_26 =>
      intro x26_4 Gj26 hm_26 h26_4 jI26 jU26 dc_26 cbk_26 nh26
      have J_45 : ∀ (fuel : Nat) (x45_5 : Int32) (Gj45 : gS), (2147483647 - x45_5.toInt).toNat < fuel → (0 ≤ x26_4.toInt ∧ x26_4.toInt ≤ 200) → (0 ≤ x45_5.toInt ∧ x45_5.toInt ≤ 201) → (yI Gj45) → (gu_un ycd [29, 33, 36, 37, 1300, 1400, 1500, 1600, 1700, 1800, 1900, 2000, 2100] Gj26 Gj45) → (((Gj45 0 32).toInt = (G 0 32).toInt)) → ((1 ≤ psMx (psHr (G 14) s0 (G 3 0).toInt) ((G 3 0).toInt - 1).toNat - s2 * (G 3 9).toInt)) → (yNh G Gj45) → gG p l e (gR 7 0 0 204) s m args below meth c D A 6 Q 0 0 (yW K a Gj45) (tK K) [(0, .ref (a 0)), (1, .int p0), (2, .int p1), (3, .int p2), (4, .int x26_4), (5, .int x45_5)] 45 [] := by
        intro fuel
        induction fuel with
        | zero => intro x45_5 Gj45 hm; exact absurd hm (Nat.not_lt_zero _)
        | succ fuel_45 ih_45 =>
          intro x45_5 Gj45 hm_45 k45_4 h45_5 jI45 jU45 dc_45 cbk_45 nh45
          refine g_iload F 5 dX13_isSure_45 rfl ?_
          refine g_aload_n F 0 dX13_isSure_47 rfl rfl ?_
          refine yg_0_10 F i_X13 w_0 dX13_isSure_48 ?_
          refine g_bipush F 6 dX13_isSure_51 (by decide) ?_
          refine u1_iald F 3 0 yc_3 rfl 6 rfl (by decide) (by decide) dX13_isSure_53 (G 3 6) ((jU45 3 6 (by decide)).trans (jU26 3 6 (by decide))) ?_
          have b4 : (0 : Int) ≤ (G 3 6).toInt ∧ (G 3 6).toInt ≤ 200 := hI 3 6
          refine v_icmp_gt F 86 dX13_isSure_54 (by decide) x45_5.toInt (G 3 6).toInt rfl rfl (fun c5 => ?_) (fun c5 => ?_)
          · refine u_iinc F (fun v_ => [(4, .int v_), (0, .ref (a 0)), (1, .int p0), (2, .int p1), (3, .int p2), (5, .int x45_5)]) dX13_isSure_86 (j := 4) rfl x26_4.toInt 1 rfl rfl (by omega) (by omega) (by decide) (fun _ => rfl) (fun y6 ey6 => ?_)
            refine g_goto F 26 dX13_isSure_89 (by decide) ?_
            refine g_locals [(0, .ref (a 0)), (1, .int p0), (2, .int p1), (3, .int p2), (4, .int y6)] [1, 2, 3, 4, 0] rfl ?_
            have b7 : (0 : Int) ≤ (Gj45 0 32).toInt ∧ (Gj45 0 32).toInt ≤ 7 := jI45 0 32
            have b8 : (1 : Int) ≤ (G 3 9).toInt ∧ (G 3 9).toInt ≤ 12 := hI 3 9
            exact ih_26 y6 Gj45 (by omega) (by have h9 := ti_rng y6; omega) jI45 (gu_un.tr (gu_un.tr gu_un.rf (gu_un.su jU26 rfl)) (gu_un.su jU45 rfl)) (by (first | omega | (simp only [Int32.reduceToInt, true_and, and_true, ne_eq, not_true_eq_false, false_and, or_false, false_or, true_or, or_true, false_implies] <;> omega))) (by have e9_3_9 : Gj45 3 9 = (G 3 9) := (jU45 3 9 (by decide)).trans (jU26 3 9 (by decide)); (try simp only [e9_3_9, true_and, and_true]) <;> (first | omega | (simp only [Int32.reduceToInt, true_and, and_true, ne_eq, not_true_eq_false, false_and, or_false, false_or, true_or, or_true, false_implies] <;> omega))) (nh45)
          · refine g_aload_n F 0 dX13_isSure_57 rfl rfl ?_
            refine g_iload_n F 1 dX13_isSure_58 rfl rfl ?_
            refine g_iload_n F 2 dX13_isSure_59 rfl rfl ?_
            refine g_iload_n F 3 dX13_isSure_60 rfl rfl ?_
            refine g_aload_n F 0 dX13_isSure_61 rfl rfl ?_
            refine yg_0_10 F i_X13 w_0 dX13_isSure_62 ?_
            refine g_bipush F 9 dX13_isSure_65 (by decide) ?_
            refine u1_iald F 3 0 yc_3 rfl 9 rfl (by decide) (by decide) dX13_isSure_67 (G 3 9) ((jU45 3 9 (by decide)).trans (jU26 3 9 (by decide))) ?_
            refine g_iload F 4 dX13_isSure_68 rfl ?_
            refine g_iload F 5 dX13_isSure_70 rfl ?_
            have b9 : (1 : Int) ≤ (G 3 9).toInt ∧ (G 3 9).toInt ≤ 12 := hI 3 9
            have b10 : (0 : Int) ≤ (Gj45 0 32).toInt ∧ (Gj45 0 32).toInt ≤ 7 := jI45 0 32
            refine u_callVi (k := 0) (n := 0) (b := a 0) (As := [.int p0, .int p1, .int p2, .int (G 3 9), .int x26_4, .int x45_5]) (st := []) F (fun sz => S_X13_trial l D K a Gj45 p0 s0 p1 s1 p2 s2 (G 3 9) (G 3 9).toInt x26_4 x26_4.toInt x45_5 x45_5.toInt e0 (by omega) e1 (by omega) e2 (by omega) rfl (by omega) rfl (by omega) rfl (by omega) (yW3.un wf (show gu_un ycd [29, 33, 36, 37, 1300, 1400, 1500, 1600, 1700, 1800, 1900, 2000, 2100] G Gj45 from (gu_un.tr (gu_un.tr gu_un.rf (gu_un.su jU26 rfl)) (gu_un.su jU45 rfl))) rfl) (by have h8 := (show yNh G Gj45 from nh45).1; rw [show Gj45 3 0 = G 3 0 from (show Gj45 3 0 = G 3 0 from (show gu_un ycd [29, 33, 36, 37, 1300, 1400, 1500, 1600, 1700, 1800, 1900, 2000, 2100] G Gj45 from (gu_un.tr (gu_un.tr gu_un.rf (gu_un.su jU26 rfl)) (gu_un.su jU45 rfl))) 3 0 (by decide)), psHr_eq (h := Gj45 14) (g := G 14) h8 (by omega) (by omega) (by omega)]; omega) (by (first | omega | (simp only [Int32.reduceToInt, true_and, and_true, ne_eq, not_true_eq_false, false_and, or_false, false_or, true_or, or_true, false_implies] <;> omega))) jI45 sz) (cwV 6 hts gX13_isSure_X13_trial rfl rfl rfl (by decide +kernel) ⟨Nat.le_of_ble_eq_true rfl, Nat.le_of_ble_eq_true rfl⟩) rfl 0 yc_0 rfl (Nat.le_of_ble_eq_true rfl) ⟨Nat.zero_le _, Nat.zero_le _⟩ dX13_isSure_72 (fun r11 G13 hw12 => ?_)
            have hI14 : yI G13 := hw12.1
            have hU15 : gu_un ycd [29, 33, 36, 37, 1300, 1400, 1500, 1600, 1700, 1800, 1900, 2000, 2100] Gj45 G13 := hw12.2.1
            have hp16 := hw12.2.2
            have q17 : yNh Gj45 G13 := hp16.2.1
            have q18 : (∀ (Q : gS) (C : Nat → List Int), ySq Gj45 Q C → s0 < (G 3 1).toInt → 1 ≤ (G 3 9).toInt → r11.toInt = pvV Q (pvS Q C (Gj45 14) (Gj45 0 28) s0 p1 p2 (G 3 9) x26_4 x45_5) ∧ pvN Q (pvS Q C (Gj45 14) (Gj45 0 28) s0 p1 p2 (G 3 9) x26_4 x45_5) (G13 21 0) (G13 21 1) (G13 21 2) (G13 21 3) (G13 21 4) (G13 21 5) (G13 21 6)) := by have h9 := hp16.2.2.1; (try simp only [(show Gj45 3 1 = (G 3 1) from (jU45 3 1 (by decide)).trans (jU26 3 1 (by decide)))] at h9); first | exact h9 | omega
            have b19 : (0 : Int) ≤ (G13 0 32).toInt ∧ (G13 0 32).toInt ≤ 7 := hI14 0 32
            have q20 : ((G13 0 32).toInt = (Gj45 0 32).toInt) := hp16.2.2.2
            have rg21 := hp16.1
            clear hp16 hw12
            refine v_if_eq F 80 dX13_isSure_75 (by decide) r11.toInt rfl (fun c22 => ?_) (fun c22 => ?_)
            · refine u_iinc F (fun v_ => [(5, .int v_), (0, .ref (a 0)), (1, .int p0), (2, .int p1), (3, .int p2), (4, .int x26_4)]) dX13_isSure_80 (j := 5) rfl x45_5.toInt 1 rfl rfl (by omega) (by omega) (by decide) (fun _ => rfl) (fun y23 ey23 => ?_)
              refine g_goto F 45 dX13_isSure_83 (by decide) ?_
              refine g_locals [(0, .ref (a 0)), (1, .int p0), (2, .int p1), (3, .int p2), (4, .int x26_4), (5, .int y23)] [1, 2, 3, 4, 5, 0] rfl ?_
              exact ih_45 y23 G13 (by omega) (by have h9 := ti_rng x26_4; omega) (by have h9 := ti_rng y23; omega) hI14 (gu_un.tr (gu_un.tr gu_un.rf (gu_un.su jU45 rfl)) (gu_un.su hU15 rfl)) (by (first | omega | (simp only [Int32.reduceToInt, true_and, and_true, ne_eq, not_true_eq_false, false_and, or_false, false_or, true_or, or_true, false_implies] <;> omega))) (by have e9_3_9 : G13 3 9 = (G 3 9) := (hU15 3 9 (by decide)).trans ((jU45 3 9 (by decide)).trans (jU26 3 9 (by decide))); (try simp only [e9_3_9, true_and, and_true]) <;> (first | omega | (simp only [Int32.reduceToInt, true_and, and_true, ne_eq, not_true_eq_false, false_and, or_false, false_or, true_or, or_true, false_implies] <;> omega))) ((yNh.tr (show yNh G Gj45 from nh45) (show yNh Gj45 G13 from q17)))
            · refine g_iconst F 0 dX13_isSure_78 (by decide) ?_
              exact u_zret F hA hQ hr rfl G13 (⟨hI14, (gu_un.tr (gu_un.tr (gu_un.tr gu_un.rf (gu_un.su jU26 rfl)) (gu_un.su jU45 rfl)) (gu_un.su hU15 rfl)), (by decide), ((yNh.tr (show yNh G Gj45 from nh45) (show yNh Gj45 G13 from q17))), (by show ((G13 0 32).toInt = (G 0 32).toInt); (first | omega | (simp only [Int32.reduceToInt, true_and, and_true, ne_eq, not_true_eq_false, false_and, or_false, false_or, true_or, or_true, false_implies] <;> omega)))⟩) rfl rfl dX13_isSure_79
      refine g_iload F 4 dX13_isSure_26 rfl ?_
      refine g_aload_n F 0 dX13_isSure_28 rfl rfl ?_
      refine yg_0_10 F i_X13 w_0 dX13_isSure_29 ?_
      refine g_iconst F 4 dX13_isSure_32 (by decide) ?_
      refine u1_iald F 3 0 yc_3 rfl 4 rfl (by decide) (by decide) dX13_isSure_33 (G 3 4) (jU26 3 4 (by decide)) ?_
      have b24 : (0 : Int) ≤ (G 3 4).toInt ∧ (G 3 4).toInt ≤ 200 := hI 3 4
      refine v_icmp_gt F 92 dX13_isSure_34 (by decide) x26_4.toInt (G 3 4).toInt rfl rfl (fun c25 => ?_) (fun c25 => ?_)
      · refine g_iconst F 1 dX13_isSure_92 (by decide) ?_
        have b26 : (0 : Int) ≤ (Gj26 0 32).toInt ∧ (Gj26 0 32).toInt ≤ 7 := jI26 0 32
        exact u_zret F hA hQ hr rfl Gj26 (⟨jI26, (gu_un.tr gu_un.rf (gu_un.su jU26 rfl)), (by decide), (nh26), (by show ((Gj26 0 32).toInt = (G 0 32).toInt); (first | omega | (simp only [Int32.reduceToInt, true_and, and_true, ne_eq, not_true_eq_false, false_and, or_false, false_or, true_or, or_true, false_implies] <;> omega)))⟩) rfl rfl dX13_isSure_93
      · refine g_aload_n F 0 dX13_isSure_37 rfl rfl ?_
        refine yg_0_10 F i_X13 w_0 dX13_isSure_38 ?_
        refine g_iconst F 5 dX13_isSure_41 (by decide) ?_
        refine u1_iald F 3 0 yc_3 rfl 5 rfl (by decide) (by decide) dX13_isSure_42 (G 3 5) (jU26 3 5 (by decide)) ?_
        refine g_istore F [(5, .int (G 3 5)), (0, .ref (a 0)), (1, .int p0), (2, .int p1), (3, .int p2), (4, .int x26_4)] dX13_isSure_43 (by decide) rfl ?_
        refine g_locals [(0, .ref (a 0)), (1, .int p0), (2, .int p1), (3, .int p2), (4, .int x26_4), (5, .int (G 3 5))] [1, 2, 3, 4, 5, 0] rfl ?_
        have b27 : (0 : Int) ≤ (Gj26 0 32).toInt ∧ (Gj26 0 32).toInt ≤ 7 := jI26 0 32
        have b28 : (1 : Int) ≤ (G 3 9).toInt ∧ (G 3 9).toInt ≤ 12 := hI 3 9
        have b29 : (0 : Int) ≤ (G 3 5).toInt ∧ (G 3 5).toInt ≤ 200 := hI 3 5
        exact J_45 _ (G 3 5) Gj26 (Nat.lt_succ_self _) (by have h9 := ti_rng x26_4; omega) (by have h9 := ti_rng (G 3 5); omega) jI26 gu_un.rf (by (first | omega | (simp only [Int32.reduceToInt, true_and, and_true, ne_eq, not_true_eq_false, false_and, or_false, false_or, true_or, or_true, false_implies] <;> omega))) (by have e9_3_9 : Gj26 3 9 = (G 3 9) := jU26 3 9 (by decide); (try simp only [e9_3_9, true_and, and_true]) <;> (first | omega | (simp only [Int32.reduceToInt, true_and, and_true, ne_eq, not_true_eq_false, false_and, or_false, false_or, true_or, or_true, false_implies] <;> omega))) (nh26)
  refine g_aload_n F 0 dX13_isSure_0 rfl rfl ?_
  refine g_iload_n F 1 dX13_isSure_1 rfl rfl ?_
  refine g_iload_n F 3 dX13_isSure_2 rfl rfl ?_
  refine g_aload_n F 0 dX13_isSure_3 rfl rfl ?_
  refine yg_0_10 F i_X13 w_0 dX13_isSure_4 ?_
  refine g_bipush F 9 dX13_isSure_7 (by decide) ?_
  refine u1_iald F 3 0 yc_3 rfl 9 rfl (by decide) (by decide) dX13_isSure_9 (G 3 9) (rfl) ?_
  have b30 : (1 : Int) ≤ (G 3 9).toInt ∧ (G 3 9).toInt ≤ 12 := hI 3 9
  refine u_callVi (k := 0) (n := 0) (b := a 0) (As := [.int p0, .int p2, .int (G 3 9)]) (st := []) F (fun sz => S_X13_canBe l D K a G p0 s0 p2 s2 (G 3 9) (G 3 9).toInt e0 (by omega) e2 (by omega) rfl (by omega) hI sz) (cwV 3 hts gX13_isSure_X13_canBe rfl rfl rfl (by decide +kernel) ⟨Nat.le_of_ble_eq_true rfl, Nat.le_of_ble_eq_true rfl⟩) rfl 0 yc_0 rfl (Nat.le_of_ble_eq_true rfl) ⟨Nat.zero_le _, Nat.zero_le _⟩ dX13_isSure_10 (fun r31 _ hw32 => ?_)
  rcases hw32 with ⟨rfl, q34⟩ | ⟨rfl, q35⟩
  · have q34 : (1 ≤ psMx (psHr (G 14) s0 (G 3 0).toInt) ((G 3 0).toInt - 1).toNat - s2 * (G 3 9).toInt) := q34
    refine v_if_ne F 18 dX13_isSure_13 (by decide) 1 rfl (fun c36 => ?_) (fun c36 => absurd c36 (by decide))
    refine g_aload_n F 0 dX13_isSure_18 rfl rfl ?_
    refine yg_0_10 F i_X13 w_0 dX13_isSure_19 ?_
    refine g_iconst F 3 dX13_isSure_22 (by decide) ?_
    refine u1_iald F 3 0 yc_3 rfl 3 rfl (by decide) (by decide) dX13_isSure_23 (G 3 3) (rfl) ?_
    refine g_istore F [(4, .int (G 3 3)), (0, .ref (a 0)), (1, .int p0), (2, .int p1), (3, .int p2)] dX13_isSure_24 (by decide) rfl ?_
    refine g_locals [(0, .ref (a 0)), (1, .int p0), (2, .int p1), (3, .int p2), (4, .int (G 3 3))] [1, 2, 3, 4, 0] rfl ?_
    have b37 : (0 : Int) ≤ (G 3 3).toInt ∧ (G 3 3).toInt ≤ 200 := hI 3 3
    exact J_26 _ (G 3 3) G (Nat.lt_succ_self _) (by have h9 := ti_rng (G 3 3); omega) hI gu_un.rf (by (first | omega | (simp only [Int32.reduceToInt, true_and, and_true, ne_eq, not_true_eq_false, false_and, or_false, false_or, true_or, or_true, false_implies] <;> omega))) (by (first | omega | (simp only [Int32.reduceToInt, true_and, and_true, ne_eq, not_true_eq_false, false_and, or_false, false_or, true_or, or_true, false_implies] <;> omega))) (yNh.rf)
  · have q35 : (psMx (psHr (G 14) s0 (G 3 0).toInt) ((G 3 0).toInt - 1).toNat - s2 * (G 3 9).toInt < 1) := q35
    refine v_if_ne F 18 dX13_isSure_13 (by decide) 0 rfl (fun c38 => absurd c38 (by decide)) (fun c38 => ?_)
    refine g_iconst F 0 dX13_isSure_16 (by decide) ?_
    exact u_zret F hA hQ hr rfl G (⟨hI, gu_un.rf, (by decide), (yNh.rf), (by show ((G 0 32).toInt = (G 0 32).toInt); (first | omega | (simp only [Int32.reduceToInt, true_and, and_true, ne_eq, not_true_eq_false, false_and, or_false, false_or, true_or, or_true, false_implies] <;> omega)))⟩) rfl rfl dX13_isSure_17

theorem dX13_deepestOf_0 : decode cX13_deepestOf 0 = .ok (.bipush 20, 2) := by decide +kernel
theorem dX13_deepestOf_2 : decode cX13_deepestOf 2 = .ok (.istore_n 3, 1) := by decide +kernel
theorem dX13_deepestOf_3 : decode cX13_deepestOf 3 = .ok (.iload_n 3, 1) := by decide +kernel
theorem dX13_deepestOf_4 : decode cX13_deepestOf 4 = .ok (.ifCond .le 21, 3) := by decide +kernel
theorem dX13_deepestOf_7 : decode cX13_deepestOf 7 = .ok (.aload_n 0, 1) := by decide +kernel
theorem dX13_deepestOf_8 : decode cX13_deepestOf 8 = .ok (.iload_n 1, 1) := by decide +kernel
theorem dX13_deepestOf_9 : decode cX13_deepestOf 9 = .ok (.iload_n 2, 1) := by decide +kernel
theorem dX13_deepestOf_10 : decode cX13_deepestOf 10 = .ok (.iload_n 3, 1) := by decide +kernel
theorem dX13_deepestOf_11 : decode cX13_deepestOf 11 = .ok (.invokevirtual 451, 3) := by decide +kernel
theorem dX13_deepestOf_14 : decode cX13_deepestOf 14 = .ok (.ifCond .eq 5, 3) := by decide +kernel
theorem dX13_deepestOf_17 : decode cX13_deepestOf 17 = .ok (.iload_n 3, 1) := by decide +kernel
theorem dX13_deepestOf_18 : decode cX13_deepestOf 18 = .ok (.ireturn, 1) := by decide +kernel
theorem dX13_deepestOf_19 : decode cX13_deepestOf 19 = .ok (.iinc 3 (-1), 3) := by decide +kernel
theorem dX13_deepestOf_22 : decode cX13_deepestOf 22 = .ok (.goto (-19), 3) := by decide +kernel
theorem dX13_deepestOf_25 : decode cX13_deepestOf 25 = .ok (.iconst (-1), 1) := by decide +kernel
theorem dX13_deepestOf_26 : decode cX13_deepestOf 26 = .ok (.ireturn, 1) := by decide +kernel
set_option maxRecDepth 20000 in
theorem ggX13_deepestOf_X13_isSure : GoodIn wsX13_deepestOf wsX13_isSure := goodIn_r _ [5, 6, 7, 8, 9, 4, 10, 11, 12, 13, 14, 15, 16, 17, 18, 19, 20, 21, 22, 23, 24, 25, 26, 27, 28, 29, 30, 31, 32, 33, 34, 35, 36, 37, 38, 39, 40, 41, 42, 43, 44, 45, 46, 47, 48, 49, 50, 51, 52, 53, 54, 55, 56, 57, 58, 59, 60, 61, 62, 63, 64, 65, 66, 67, 68, 69, 70, 71, 72, 73, 74, 75, 76, 77, 78, 79, 80, 81, 82, 83, 84, 85, 86, 87, 88, 89, 90, 91, 92, 93, 94, 95, 96, 97, 98, 99, 100, 101, 102, 103, 104, 105, 106, 107, 108, 109, 110, 111, 112, 113, 114, 115, 116, 117, 118, 119, 120, 121, 122, 123, 124, 125, 126, 127, 128, 129, 130, 131, 132, 133, 134, 135, 136, 137, 138, 139, 140, 141, 142, 143, 144, 145, 146, 147, 148, 149, 150, 151, 152, 153, 154, 155, 156, 157, 158, 159, 160, 161, 162] rfl (by decide +kernel)
set_option maxRecDepth 20000 in
theorem gX13_deepestOf_X13_isSure : GoodIn wsX13_deepestOf (wsV RX13 451 RX13 yX13_isSure wsX13_isSure) := goodIn_app (goodIn_of _ (by decide +kernel)) ggX13_deepestOf_X13_isSure
set_option maxHeartbeats 4000000 in
set_option maxRecDepth 100000 in
theorem S_X13_deepestOf (l : Launch) (D : va_G) (K : Nat → ClassId) (a : Nat → Nat) (G : gS) (p0 : Int32) (s0 : Int) (p1 : Int32) (s1 : Int) (e0 : p0.toInt = s0) (h0 : 0 ≤ s0 ∧ s0 ≤ 5) (e1 : p1.toInt = s1) (h1 : 0 ≤ s1 ∧ s1 ≤ 9) (wf : yW3 G) (dl : ((G 0 32).toInt ≤ 6)) (hI : yI G) (sz : Nat) : Ki l yX13_deepestOf wsX13_deepestOf 8 229 0 0 D [.ref (a 0), .int p0, .int p1] (yW K a G) (tK K) sz (fun (r : Int32) (G' : gS) => (yI G') ∧ (gu_un ycd [29, 33, 36, 37, 1300, 1400, 1500, 1600, 1700, 1800, 1900, 2000, 2100] G G') ∧ ((-1) ≤ r.toInt ∧ r.toInt ≤ 20) ∧ (yNh G G') ∧ (((G' 0 32).toInt = (G 0 32).toInt))) (fun (G' : gS) => (yW K a G')) (fun _ => (tK K)) := by
  unfold Ki
  refine g_ofW (cc := cX13_deepestOf) (lv := [(0, .ref (a 0)), (1, .int p0), (2, .int p1)]) (by decide) rfl (Nat.le_of_ble_eq_true rfl) rfl ?_
  intro p e s m args below meth c A Q hA hQ F hr hnm
  have hts := F.2.2.2.2.1
  have b1 : (0 : Int) ≤ (G 0 32).toInt ∧ (G 0 32).toInt ≤ 7 := hI 0 32
  have b2 : (4 : Int) ≤ (G 3 0).toInt ∧ (G 3 0).toInt ≤ 16 := hI 3 0
  have b3 : (1 : Int) ≤ (G 3 1).toInt ∧ (G 3 1).toInt ≤ 6 := hI 3 1
  have J_3 : ∀ (fuel : Nat) (x3_3 : Int32) (Gj3 : gS), (x3_3.toInt + 2147483648).toNat < fuel → (0 ≤ x3_3.toInt ∧ x3_3.toInt ≤ 20) → (yI Gj3) → (gu_un ycd [29, 33, 36, 37, 1300, 1400, 1500, 1600, 1700, 1800, 1900, 2000, 2100] G Gj3) → (((Gj3 0 32).toInt = (G 0 32).toInt)) → (yNh G Gj3) → gG p l e (gR 8 0 0 229) s m args below meth c D A 4 Q 0 0 (yW K a Gj3) (tK K) [(0, .ref (a 0)), (1, .int p0), (2, .int p1), (3, .int x3_3)] 3 [] := by
    intro fuel
    induction fuel with
    | zero => intro x3_3 Gj3 hm; exact absurd hm (Nat.not_lt_zero _)
    | succ fuel_3 ih_3 =>
      intro x3_3 Gj3 hm_3 h3_3 jI3 jU3 dc_3 nh3
      refine g_iload_n F 3 dX13_deepestOf_3 rfl rfl ?_
      refine v_if_le F 25 dX13_deepestOf_4 (by decide) x3_3.toInt rfl (fun c4 => ?_) (fun c4 => ?_)
      · refine g_iconst F (-1) dX13_deepestOf_25 (by decide) ?_
        have b5 : (0 : Int) ≤ (Gj3 0 32).toInt ∧ (Gj3 0 32).toInt ≤ 7 := jI3 0 32
        exact u_iret F hA hQ hr Gj3 (⟨jI3, (gu_un.tr gu_un.rf (gu_un.su jU3 rfl)), (by decide), (nh3), (by show ((Gj3 0 32).toInt = (G 0 32).toInt); (first | omega | (simp only [Int32.reduceToInt, true_and, and_true, ne_eq, not_true_eq_false, false_and, or_false, false_or, true_or, or_true, false_implies] <;> omega)))⟩) rfl rfl dX13_deepestOf_26
      · refine g_aload_n F 0 dX13_deepestOf_7 rfl rfl ?_
        refine g_iload_n F 1 dX13_deepestOf_8 rfl rfl ?_
        refine g_iload_n F 2 dX13_deepestOf_9 rfl rfl ?_
        refine g_iload_n F 3 dX13_deepestOf_10 rfl rfl ?_
        have b6 : (0 : Int) ≤ (Gj3 0 32).toInt ∧ (Gj3 0 32).toInt ≤ 7 := jI3 0 32
        refine u_callVi (k := 0) (n := 0) (b := a 0) (As := [.int p0, .int p1, .int x3_3]) (st := []) F (fun sz => S_X13_isSure l D K a Gj3 p0 s0 p1 s1 x3_3 x3_3.toInt e0 (by omega) e1 (by omega) rfl (by omega) (yW3.un wf (show gu_un ycd [29, 33, 36, 37, 1300, 1400, 1500, 1600, 1700, 1800, 1900, 2000, 2100] G Gj3 from (gu_un.tr gu_un.rf (gu_un.su jU3 rfl))) rfl) (by (first | omega | (simp only [Int32.reduceToInt, true_and, and_true, ne_eq, not_true_eq_false, false_and, or_false, false_or, true_or, or_true, false_implies] <;> omega))) jI3 sz) (cwV 3 hts gX13_deepestOf_X13_isSure rfl rfl rfl (by decide +kernel) ⟨Nat.le_of_ble_eq_true rfl, Nat.le_of_ble_eq_true rfl⟩) rfl 0 yc_0 rfl (Nat.le_of_ble_eq_true rfl) ⟨Nat.zero_le _, Nat.zero_le _⟩ dX13_deepestOf_11 (fun r7 G9 hw8 => ?_)
        have hI10 : yI G9 := hw8.1
        have hU11 : gu_un ycd [29, 33, 36, 37, 1300, 1400, 1500, 1600, 1700, 1800, 1900, 2000, 2100] Gj3 G9 := hw8.2.1
        have hp12 := hw8.2.2
        have q13 : yNh Gj3 G9 := hp12.2.1
        have b14 : (0 : Int) ≤ (G9 0 32).toInt ∧ (G9 0 32).toInt ≤ 7 := hI10 0 32
        have q15 : ((G9 0 32).toInt = (Gj3 0 32).toInt) := hp12.2.2
        have rg16 := hp12.1
        clear hp12 hw8
        refine v_if_eq F 19 dX13_deepestOf_14 (by decide) r7.toInt rfl (fun c17 => ?_) (fun c17 => ?_)
        · refine u_iinc F (fun v_ => [(3, .int v_), (0, .ref (a 0)), (1, .int p0), (2, .int p1)]) dX13_deepestOf_19 (j := 3) rfl x3_3.toInt (-1) rfl rfl (by omega) (by omega) (by decide) (fun _ => rfl) (fun y18 ey18 => ?_)
          refine g_goto F 3 dX13_deepestOf_22 (by decide) ?_
          refine g_locals [(0, .ref (a 0)), (1, .int p0), (2, .int p1), (3, .int y18)] [1, 2, 3, 0] rfl ?_
          exact ih_3 y18 G9 (by omega) (by have h9 := ti_rng y18; omega) hI10 (gu_un.tr (gu_un.tr gu_un.rf (gu_un.su jU3 rfl)) (gu_un.su hU11 rfl)) (by (first | omega | (simp only [Int32.reduceToInt, true_and, and_true, ne_eq, not_true_eq_false, false_and, or_false, false_or, true_or, or_true, false_implies] <;> omega))) ((yNh.tr (show yNh G Gj3 from nh3) (show yNh Gj3 G9 from q13)))
        · refine g_iload_n F 3 dX13_deepestOf_17 rfl rfl ?_
          exact u_iret F hA hQ hr G9 (⟨hI10, (gu_un.tr (gu_un.tr gu_un.rf (gu_un.su jU3 rfl)) (gu_un.su hU11 rfl)), (by have h9 := ti_rng x3_3; omega), ((yNh.tr (show yNh G Gj3 from nh3) (show yNh Gj3 G9 from q13))), (by show ((G9 0 32).toInt = (G 0 32).toInt); (first | omega | (simp only [Int32.reduceToInt, true_and, and_true, ne_eq, not_true_eq_false, false_and, or_false, false_or, true_or, or_true, false_implies] <;> omega)))⟩) rfl rfl dX13_deepestOf_18
  refine g_bipush F 20 dX13_deepestOf_0 (by decide) ?_
  refine g_istore_n F [(3, .int 20), (0, .ref (a 0)), (1, .int p0), (2, .int p1)] dX13_deepestOf_2 rfl (by decide) rfl ?_
  refine g_locals [(0, .ref (a 0)), (1, .int p0), (2, .int p1), (3, .int 20)] [1, 2, 3, 0] rfl ?_
  exact J_3 _ 20 G (Nat.lt_succ_self _) (by decide) hI gu_un.rf (by (first | omega | (simp only [Int32.reduceToInt, true_and, and_true, ne_eq, not_true_eq_false, false_and, or_false, false_or, true_or, or_true, false_implies] <;> omega))) (yNh.rf)

theorem dX13_deepest_0 : decode cX13_deepest 0 = .ok (.aload_n 0, 1) := by decide +kernel
theorem dX13_deepest_1 : decode cX13_deepest 1 = .ok (.iload_n 1, 1) := by decide +kernel
theorem dX13_deepest_2 : decode cX13_deepest 2 = .ok (.invokevirtual 367, 3) := by decide +kernel
theorem dX13_deepest_5 : decode cX13_deepest 5 = .ok (.ifCond .eq 24, 3) := by decide +kernel
theorem dX13_deepest_8 : decode cX13_deepest 8 = .ok (.iload_n 2, 1) := by decide +kernel
theorem dX13_deepest_9 : decode cX13_deepest 9 = .ok (.i2l, 1) := by decide +kernel
theorem dX13_deepest_10 : decode cX13_deepest 10 = .ok (.lconst 1, 1) := by decide +kernel
theorem dX13_deepest_11 : decode cX13_deepest 11 = .ok (.ldc2_w 422, 3) := by decide +kernel
theorem dX13_deepest_14 : decode cX13_deepest 14 = .ok (.invokestatic 61, 3) := by decide +kernel
theorem dX13_deepest_17 : decode cX13_deepest 17 = .ok (.ifCond .eq 12, 3) := by decide +kernel
theorem dX13_deepest_20 : decode cX13_deepest 20 = .ok (.aload_n 0, 1) := by decide +kernel
theorem dX13_deepest_21 : decode cX13_deepest 21 = .ok (.iload_n 1, 1) := by decide +kernel
theorem dX13_deepest_22 : decode cX13_deepest 22 = .ok (.iload_n 2, 1) := by decide +kernel
theorem dX13_deepest_23 : decode cX13_deepest 23 = .ok (.invokevirtual 454, 3) := by decide +kernel
theorem dX13_deepest_26 : decode cX13_deepest 26 = .ok (.goto 5, 3) := by decide +kernel
theorem dX13_deepest_29 : decode cX13_deepest 29 = .ok (.bipush (-2), 2) := by decide +kernel
theorem dX13_deepest_31 : decode cX13_deepest 31 = .ok (.ireturn, 1) := by decide +kernel
set_option maxRecDepth 20000 in
theorem ggX13_deepest_X13_deepestOf : GoodIn wsX13_deepest wsX13_deepestOf := goodIn_r _ [14, 15, 16, 17, 5, 18, 7, 19, 20, 21, 22, 23, 24, 25, 26, 27, 28, 29, 30, 31, 32, 33, 34, 35, 36, 37, 38, 39, 40, 41, 42, 43, 44, 45, 46, 47, 48, 49, 50, 51, 52, 53, 54, 55, 56, 57, 58, 59, 60, 61, 62, 63, 64, 65, 66, 67, 68, 69, 70, 71, 72, 73, 74, 75, 76, 77, 78, 79, 80, 81, 82, 83, 84, 85, 86, 87, 88, 89, 90, 91, 92, 93, 94, 95, 96, 97, 98, 99, 100, 101, 102, 103, 104, 105, 106, 107, 108, 109, 110, 111, 112, 113, 114, 115, 116, 117, 118, 119, 120, 121, 122, 123, 124, 125, 126, 127, 128, 129, 130, 131, 132, 133, 134, 135, 136, 137, 138, 139, 140, 141, 142, 143, 144, 145, 146, 147, 148, 149, 150, 151, 152, 153, 154, 155, 156, 157, 158, 159, 160, 161, 162, 163, 164, 165, 166, 167, 168, 169, 170, 171, 172, 173, 174] rfl (by decide +kernel)
set_option maxRecDepth 20000 in
theorem gX13_deepest_X13_deepestOf : GoodIn wsX13_deepest (wsV RX13 454 RX13 yX13_deepestOf wsX13_deepestOf) := goodIn_app (goodIn_of _ (by decide +kernel)) ggX13_deepest_X13_deepestOf
set_option maxRecDepth 20000 in
theorem ggX13_deepest_X13_in : GoodIn wsX13_deepest wsX13_in := goodIn_r _ [10] rfl (by decide +kernel)
set_option maxRecDepth 20000 in
theorem gX13_deepest_X13_in : GoodIn wsX13_deepest (va_wsS RX13 61 yX13_in wsX13_in) := goodIn_app (goodIn_of _ (by decide +kernel)) ggX13_deepest_X13_in
set_option maxRecDepth 20000 in
theorem ggX13_deepest_X13_isRing : GoodIn wsX13_deepest wsX13_isRing := goodIn_r _ [6, 7, 8, 9, 5, 10, 102, 103, 104, 105, 106, 107, 108, 109, 110, 111, 112, 113, 114, 115, 116, 117, 118, 119, 120, 121, 122, 123, 124, 125, 126, 127, 128, 129, 130, 131, 132, 133, 134, 135, 136, 137, 138, 139, 140, 141, 142, 143, 144, 145, 146, 147, 148, 149, 150, 151, 152, 153, 154, 155, 156, 157, 158, 159, 160, 161, 162, 163, 164, 165, 166, 167, 168, 169, 170, 171, 172, 173, 174] rfl (by decide +kernel)
set_option maxRecDepth 20000 in
theorem gX13_deepest_X13_isRing : GoodIn wsX13_deepest (wsV RX13 367 RX13 yX13_isRing wsX13_isRing) := goodIn_app (goodIn_of _ (by decide +kernel)) ggX13_deepest_X13_isRing
set_option maxHeartbeats 4000000 in
set_option maxRecDepth 100000 in
theorem S_X13_deepest (l : Launch) (D : va_G) (K : Nat → ClassId) (a : Nat → Nat) (G : gS) (p0 : Int32) (s0 : Int) (p1 : Int32) (s1 : Int) (e0 : p0.toInt = s0) (e1 : p1.toInt = s1) (wf : yW3 G) (dl : ((G 0 32).toInt ≤ 6)) (hI : yI G) (sz : Nat) : Ki l yX13_deepest wsX13_deepest 9 252 0 0 D [.ref (a 0), .int p0, .int p1] (yW K a G) (tK K) sz (fun (r : Int32) (G' : gS) => (yI G') ∧ (gu_un ycd [29, 33, 36, 37, 1300, 1400, 1500, 1600, 1700, 1800, 1900, 2000, 2100] G G') ∧ ((-2) ≤ r.toInt ∧ r.toInt ≤ 20) ∧ (yNh G G') ∧ (((G' 0 32).toInt = (G 0 32).toInt))) (fun (G' : gS) => (yW K a G')) (fun _ => (tK K)) := by
  unfold Ki
  refine g_ofW (cc := cX13_deepest) (lv := [(0, .ref (a 0)), (1, .int p0), (2, .int p1)]) (by decide) rfl (Nat.le_of_ble_eq_true rfl) rfl ?_
  intro p e s m args below meth c A Q hA hQ F hr hnm
  have hts := F.2.2.2.2.1
  have w_0 : (Cond.constantLong RX13 422 (9)).before args s = true := hts _ (List.mem_of_getElem? (i := 1) rfl)
  have rg0 : -2147483648 ≤ s0 ∧ s0 ≤ 2147483647 := e0 ▸ ti_rng p0
  have rg1 : -2147483648 ≤ s1 ∧ s1 ≤ 2147483647 := e1 ▸ ti_rng p1
  have b1 : (0 : Int) ≤ (G 0 32).toInt ∧ (G 0 32).toInt ≤ 7 := hI 0 32
  have b2 : (4 : Int) ≤ (G 3 0).toInt ∧ (G 3 0).toInt ≤ 16 := hI 3 0
  have b3 : (1 : Int) ≤ (G 3 1).toInt ∧ (G 3 1).toInt ≤ 6 := hI 3 1
  refine g_aload_n F 0 dX13_deepest_0 rfl rfl ?_
  refine g_iload_n F 1 dX13_deepest_1 rfl rfl ?_
  refine u_callVi (k := 0) (n := 0) (b := a 0) (As := [.int p0]) (st := []) F (fun sz => S_X13_isRing l D K a G p0 s0 e0 hI sz) (cwV 1 hts gX13_deepest_X13_isRing rfl rfl rfl (by decide +kernel) ⟨Nat.le_of_ble_eq_true rfl, Nat.le_of_ble_eq_true rfl⟩) rfl 0 yc_0 rfl (Nat.le_of_ble_eq_true rfl) ⟨Nat.zero_le _, Nat.zero_le _⟩ dX13_deepest_2 (fun r4 _ hw5 => ?_)
  rcases hw5 with ⟨rfl, q7⟩ | ⟨rfl, q8⟩
  · have q7 : (0 ≤ s0 ∧ s0 < (G 3 1).toInt) := q7
    refine v_if_eq F 29 dX13_deepest_5 (by decide) 1 rfl (fun c9 => absurd c9 (by decide)) (fun c9 => ?_)
    refine g_iload_n F 2 dX13_deepest_8 rfl rfl ?_
    refine g_i2l F dX13_deepest_9 ?_
    refine g_lconst F 1 dX13_deepest_10 (by decide) ?_
    refine g_ldc2 F w_0 dX13_deepest_11 ?_
    refine u_call0 (k := 0) (n := 0) (As := [.long (Int32.toInt64 p1), .long 1, .long 9]) (st := []) F (fun sz => S_X13_in l D (Int32.toInt64 p1) s1 1 1 9 9 (ti_i2l e1) rfl rfl sz) (va_cwS 3 hts gX13_deepest_X13_in rfl rfl rfl (by decide +kernel) ⟨Nat.le_of_ble_eq_true rfl, Nat.le_of_ble_eq_true rfl⟩) rfl (Nat.le_of_ble_eq_true rfl) ⟨Nat.zero_le _, Nat.zero_le _⟩ dX13_deepest_14 (fun r10 _ hw11 => ?_)
    rcases hw11 with ⟨rfl, q13⟩ | ⟨rfl, q14⟩
    · refine v_if_eq F 29 dX13_deepest_17 (by decide) 1 rfl (fun c15 => absurd c15 (by decide)) (fun c15 => ?_)
      refine g_aload_n F 0 dX13_deepest_20 rfl rfl ?_
      refine g_iload_n F 1 dX13_deepest_21 rfl rfl ?_
      refine g_iload_n F 2 dX13_deepest_22 rfl rfl ?_
      refine u_callVi (k := 0) (n := 0) (b := a 0) (As := [.int p0, .int p1]) (st := []) F (fun sz => S_X13_deepestOf l D K a G p0 s0 p1 s1 e0 (by omega) e1 (by omega) (wf) (by (first | omega | (simp only [Int32.reduceToInt, true_and, and_true, ne_eq, not_true_eq_false, false_and, or_false, false_or, true_or, or_true, false_implies] <;> omega))) hI sz) (cwV 2 hts gX13_deepest_X13_deepestOf rfl rfl rfl (by decide +kernel) ⟨Nat.le_of_ble_eq_true rfl, Nat.le_of_ble_eq_true rfl⟩) rfl 0 yc_0 rfl (Nat.le_of_ble_eq_true rfl) ⟨Nat.zero_le _, Nat.zero_le _⟩ dX13_deepest_23 (fun r16 G18 hw17 => ?_)
      have hI19 : yI G18 := hw17.1
      have hU20 : gu_un ycd [29, 33, 36, 37, 1300, 1400, 1500, 1600, 1700, 1800, 1900, 2000, 2100] G G18 := hw17.2.1
      have hp21 := hw17.2.2
      have q22 : yNh G G18 := hp21.2.1
      have b23 : (0 : Int) ≤ (G18 0 32).toInt ∧ (G18 0 32).toInt ≤ 7 := hI19 0 32
      have q24 : ((G18 0 32).toInt = (G 0 32).toInt) := hp21.2.2
      have rg25 := hp21.1
      clear hp21 hw17
      refine g_goto F 31 dX13_deepest_26 (by decide) ?_
      exact u_iret F hA hQ hr G18 (⟨hI19, (gu_un.tr gu_un.rf (gu_un.su hU20 rfl)), (by have h9 := ti_rng r16; omega), ((yNh.tr (show yNh G G from yNh.rf) (show yNh G G18 from q22))), (by show ((G18 0 32).toInt = (G 0 32).toInt); (first | omega | (simp only [Int32.reduceToInt, true_and, and_true, ne_eq, not_true_eq_false, false_and, or_false, false_or, true_or, or_true, false_implies] <;> omega)))⟩) rfl rfl dX13_deepest_31
    · refine v_if_eq F 29 dX13_deepest_17 (by decide) 0 rfl (fun c26 => ?_) (fun c26 => absurd c26 (by decide))
      refine g_bipush F (-2) dX13_deepest_29 (by decide) ?_
      exact u_iret F hA hQ hr G (⟨hI, gu_un.rf, (by decide), (yNh.rf), (by show ((G 0 32).toInt = (G 0 32).toInt); (first | omega | (simp only [Int32.reduceToInt, true_and, and_true, ne_eq, not_true_eq_false, false_and, or_false, false_or, true_or, or_true, false_implies] <;> omega)))⟩) rfl rfl dX13_deepest_31
  · have q8 : (s0 < 0 ∨ (G 3 1).toInt ≤ s0) := q8
    refine v_if_eq F 29 dX13_deepest_5 (by decide) 0 rfl (fun c27 => ?_) (fun c27 => absurd c27 (by decide))
    refine g_bipush F (-2) dX13_deepest_29 (by decide) ?_
    exact u_iret F hA hQ hr G (⟨hI, gu_un.rf, (by decide), (yNh.rf), (by show ((G 0 32).toInt = (G 0 32).toInt); (first | omega | (simp only [Int32.reduceToInt, true_and, and_true, ne_eq, not_true_eq_false, false_and, or_false, false_or, true_or, or_true, false_implies] <;> omega)))⟩) rfl rfl dX13_deepest_31

theorem dX13_best_0 : decode cX13_best 0 = .ok (.aload_n 0, 1) := by decide +kernel
theorem dX13_best_1 : decode cX13_best 1 = .ok (.iload_n 1, 1) := by decide +kernel
theorem dX13_best_2 : decode cX13_best 2 = .ok (.invokevirtual 367, 3) := by decide +kernel
theorem dX13_best_5 : decode cX13_best 5 = .ok (.ifCond .ne 6, 3) := by decide +kernel
theorem dX13_best_8 : decode cX13_best 8 = .ok (.bipush (-2), 2) := by decide +kernel
theorem dX13_best_10 : decode cX13_best 10 = .ok (.ireturn, 1) := by decide +kernel
theorem dX13_best_11 : decode cX13_best 11 = .ok (.iconst (-1), 1) := by decide +kernel
theorem dX13_best_12 : decode cX13_best 12 = .ok (.istore_n 2, 1) := by decide +kernel
theorem dX13_best_13 : decode cX13_best 13 = .ok (.iconst 0, 1) := by decide +kernel
theorem dX13_best_14 : decode cX13_best 14 = .ok (.istore_n 3, 1) := by decide +kernel
theorem dX13_best_15 : decode cX13_best 15 = .ok (.iconst 1, 1) := by decide +kernel
theorem dX13_best_16 : decode cX13_best 16 = .ok (.istore 4, 2) := by decide +kernel
theorem dX13_best_18 : decode cX13_best 18 = .ok (.iload 4, 2) := by decide +kernel
theorem dX13_best_20 : decode cX13_best 20 = .ok (.bipush 9, 2) := by decide +kernel
theorem dX13_best_22 : decode cX13_best 22 = .ok (.if_icmp .gt 57, 3) := by decide +kernel
theorem dX13_best_25 : decode cX13_best 25 = .ok (.aload_n 0, 1) := by decide +kernel
theorem dX13_best_26 : decode cX13_best 26 = .ok (.iload_n 1, 1) := by decide +kernel
theorem dX13_best_27 : decode cX13_best 27 = .ok (.iload 4, 2) := by decide +kernel
theorem dX13_best_29 : decode cX13_best 29 = .ok (.invokevirtual 454, 3) := by decide +kernel
theorem dX13_best_32 : decode cX13_best 32 = .ok (.istore 5, 2) := by decide +kernel
theorem dX13_best_34 : decode cX13_best 34 = .ok (.iload 5, 2) := by decide +kernel
theorem dX13_best_36 : decode cX13_best 36 = .ok (.iconst (-1), 1) := by decide +kernel
theorem dX13_best_37 : decode cX13_best 37 = .ok (.if_icmp .eq 36, 3) := by decide +kernel
theorem dX13_best_40 : decode cX13_best 40 = .ok (.iload_n 2, 1) := by decide +kernel
theorem dX13_best_41 : decode cX13_best 41 = .ok (.iconst (-1), 1) := by decide +kernel
theorem dX13_best_42 : decode cX13_best 42 = .ok (.if_icmp .eq 25, 3) := by decide +kernel
theorem dX13_best_45 : decode cX13_best 45 = .ok (.iload 5, 2) := by decide +kernel
theorem dX13_best_47 : decode cX13_best 47 = .ok (.aload_n 0, 1) := by decide +kernel
theorem dX13_best_48 : decode cX13_best 48 = .ok (.iload_n 2, 1) := by decide +kernel
theorem dX13_best_49 : decode cX13_best 49 = .ok (.invokevirtual 457, 3) := by decide +kernel
theorem dX13_best_52 : decode cX13_best 52 = .ok (.imul, 1) := by decide +kernel
theorem dX13_best_53 : decode cX13_best 53 = .ok (.iload_n 3, 1) := by decide +kernel
theorem dX13_best_54 : decode cX13_best 54 = .ok (.aload_n 0, 1) := by decide +kernel
theorem dX13_best_55 : decode cX13_best 55 = .ok (.iload 4, 2) := by decide +kernel
theorem dX13_best_57 : decode cX13_best 57 = .ok (.invokevirtual 457, 3) := by decide +kernel
theorem dX13_best_60 : decode cX13_best 60 = .ok (.imul, 1) := by decide +kernel
theorem dX13_best_61 : decode cX13_best 61 = .ok (.if_icmp .gt 6, 3) := by decide +kernel
theorem dX13_best_64 : decode cX13_best 64 = .ok (.goto 9, 3) := by decide +kernel
theorem dX13_best_67 : decode cX13_best 67 = .ok (.iload 4, 2) := by decide +kernel
theorem dX13_best_69 : decode cX13_best 69 = .ok (.istore_n 2, 1) := by decide +kernel
theorem dX13_best_70 : decode cX13_best 70 = .ok (.iload 5, 2) := by decide +kernel
theorem dX13_best_72 : decode cX13_best 72 = .ok (.istore_n 3, 1) := by decide +kernel
theorem dX13_best_73 : decode cX13_best 73 = .ok (.iinc 4 1, 3) := by decide +kernel
theorem dX13_best_76 : decode cX13_best 76 = .ok (.goto (-58), 3) := by decide +kernel
theorem dX13_best_79 : decode cX13_best 79 = .ok (.iload_n 2, 1) := by decide +kernel
theorem dX13_best_80 : decode cX13_best 80 = .ok (.ireturn, 1) := by decide +kernel
set_option maxRecDepth 20000 in
theorem ggX13_best_X13_deepestOf : GoodIn wsX13_best wsX13_deepestOf := goodIn_r _ [13, 14, 15, 16, 4, 17, 6, 18, 19, 20, 21, 22, 23, 24, 25, 26, 27, 28, 29, 30, 31, 32, 33, 34, 35, 36, 37, 38, 39, 40, 41, 42, 43, 44, 45, 46, 47, 48, 49, 50, 51, 52, 53, 54, 55, 56, 57, 58, 59, 60, 61, 62, 63, 64, 65, 66, 67, 68, 69, 70, 71, 72, 73, 74, 75, 76, 77, 78, 79, 80, 81, 82, 83, 84, 85, 86, 87, 88, 89, 90, 91, 92, 93, 94, 95, 96, 97, 98, 99, 100, 105, 106, 107, 108, 109, 110, 111, 112, 113, 114, 115, 116, 117, 118, 119, 120, 121, 122, 123, 124, 125, 126, 127, 128, 129, 130, 131, 132, 133, 134, 135, 136, 137, 138, 139, 140, 141, 142, 143, 144, 145, 146, 147, 148, 149, 150, 151, 152, 153, 154, 155, 156, 157, 158, 159, 160, 161, 162, 163, 164, 165, 166, 167, 168, 169, 170, 171, 172, 173, 174, 175, 176, 177] rfl (by decide +kernel)
set_option maxRecDepth 20000 in
theorem gX13_best_X13_deepestOf : GoodIn wsX13_best (wsV RX13 454 RX13 yX13_deepestOf wsX13_deepestOf) := goodIn_app (goodIn_of _ (by decide +kernel)) ggX13_best_X13_deepestOf
set_option maxRecDepth 20000 in
theorem ggX13_best_X13_isRing : GoodIn wsX13_best wsX13_isRing := goodIn_r _ [5, 6, 7, 8, 4, 9, 105, 106, 107, 108, 109, 110, 111, 112, 113, 114, 115, 116, 117, 118, 119, 120, 121, 122, 123, 124, 125, 126, 127, 128, 129, 130, 131, 132, 133, 134, 135, 136, 137, 138, 139, 140, 141, 142, 143, 144, 145, 146, 147, 148, 149, 150, 151, 152, 153, 154, 155, 156, 157, 158, 159, 160, 161, 162, 163, 164, 165, 166, 167, 168, 169, 170, 171, 172, 173, 174, 175, 176, 177] rfl (by decide +kernel)
set_option maxRecDepth 20000 in
theorem gX13_best_X13_isRing : GoodIn wsX13_best (wsV RX13 367 RX13 yX13_isRing wsX13_isRing) := goodIn_app (goodIn_of _ (by decide +kernel)) ggX13_best_X13_isRing
set_option maxRecDepth 20000 in
theorem ggX13_best_X13_timeOf : GoodIn wsX13_best wsX13_timeOf := goodIn_r _ [104, 6, 53, 105, 106, 107, 108, 109, 110, 111, 112, 113, 114, 115, 116, 117, 118, 119, 120, 121, 122, 123, 124, 125, 126, 127, 128, 129, 130, 131, 132, 133, 134, 135, 136, 137, 138, 139, 140, 141, 142, 143, 144, 145, 146, 147, 148, 149, 150, 151, 152, 153, 154, 155, 156, 157, 158, 159, 160, 161, 162, 163, 164, 165, 166, 167, 168, 169, 170, 171, 172, 173, 174, 175, 176, 177] rfl (by decide +kernel)
set_option maxRecDepth 20000 in
theorem gX13_best_X13_timeOf : GoodIn wsX13_best (wsV RX13 457 RX13 yX13_timeOf wsX13_timeOf) := goodIn_app (goodIn_of _ (by decide +kernel)) ggX13_best_X13_timeOf
set_option maxHeartbeats 4000000 in
set_option maxRecDepth 100000 in
theorem S_X13_best (l : Launch) (D : va_G) (K : Nat → ClassId) (a : Nat → Nat) (G : gS) (p0 : Int32) (s0 : Int) (e0 : p0.toInt = s0) (wf : yW3 G) (dl : ((G 0 32).toInt ≤ 6)) (hI : yI G) (sz : Nat) : Ki l yX13_best wsX13_best 9 252 0 0 D [.ref (a 0), .int p0] (yW K a G) (tK K) sz (fun (r : Int32) (G' : gS) => (yI G') ∧ (gu_un ycd [29, 33, 36, 37, 1300, 1400, 1500, 1600, 1700, 1800, 1900, 2000, 2100] G G') ∧ ((-2) ≤ r.toInt ∧ r.toInt ≤ 9) ∧ (yNh G G') ∧ (((G' 0 32).toInt = (G 0 32).toInt))) (fun (G' : gS) => (yW K a G')) (fun _ => (tK K)) := by
  unfold Ki
  refine g_ofW (cc := cX13_best) (lv := [(0, .ref (a 0)), (1, .int p0)]) (by decide) rfl (Nat.le_of_ble_eq_true rfl) rfl ?_
  intro p e s m args below meth c A Q hA hQ F hr hnm
  have hts := F.2.2.2.2.1
  have rg0 : -2147483648 ≤ s0 ∧ s0 ≤ 2147483647 := e0 ▸ ti_rng p0
  have b1 : (0 : Int) ≤ (G 0 32).toInt ∧ (G 0 32).toInt ≤ 7 := hI 0 32
  have b2 : (4 : Int) ≤ (G 3 0).toInt ∧ (G 3 0).toInt ≤ 16 := hI 3 0
  have b3 : (1 : Int) ≤ (G 3 1).toInt ∧ (G 3 1).toInt ≤ 6 := hI 3 1
  have J_18 : ∀ (fuel : Nat) (x18_2 : Int32) (x18_3 : Int32) (x18_4 : Int32) (Gj18 : gS), (2147483647 - x18_4.toInt).toNat < fuel → (0 ≤ s0 ∧ s0 ≤ 5) → ((-1) ≤ x18_2.toInt ∧ x18_2.toInt ≤ 9) → (0 ≤ x18_3.toInt ∧ x18_3.toInt ≤ 20) → (1 ≤ x18_4.toInt ∧ x18_4.toInt ≤ 10) → (yI Gj18) → (gu_un ycd [29, 33, 36, 37, 1300, 1400, 1500, 1600, 1700, 1800, 1900, 2000, 2100] G Gj18) → (((Gj18 0 32).toInt = (G 0 32).toInt)) → (yNh G Gj18) → gG p l e (gR 9 0 0 252) s m args below meth c D A 6 Q 0 0 (yW K a Gj18) (tK K) [(0, .ref (a 0)), (1, .int p0), (2, .int x18_2), (3, .int x18_3), (4, .int x18_4)] 18 [] := by
    intro fuel
    induction fuel with
    | zero => intro x18_2 x18_3 x18_4 Gj18 hm; exact absurd hm (Nat.not_lt_zero _)
    | succ fuel_18 ih_18 =>
      intro x18_2 x18_3 x18_4 Gj18 hm_18 k18_1 h18_2 h18_3 h18_4 jI18 jU18 dc_18 nh18
      have J_73 : ∀  (x73_2 : Int32) (x73_3 : Int32) (Gj73 : gS), ((-1) ≤ x73_2.toInt ∧ x73_2.toInt ≤ 9) → (0 ≤ x73_3.toInt ∧ x73_3.toInt ≤ 20) → (1 ≤ x18_4.toInt ∧ x18_4.toInt ≤ 9) → (yI Gj73) → (gu_un ycd [29, 33, 36, 37, 1300, 1400, 1500, 1600, 1700, 1800, 1900, 2000, 2100] Gj18 Gj73) → (((Gj73 0 32).toInt = (G 0 32).toInt)) → (yNh G Gj73) → gG p l e (gR 9 0 0 252) s m args below meth c D A 6 Q 0 0 (yW K a Gj73) (tK K) [(0, .ref (a 0)), (1, .int p0), (2, .int x73_2), (3, .int x73_3), (4, .int x18_4)] 73 [] := by
        intro x73_2 x73_3 Gj73 h73_2 h73_3 k73_4 jI73 jU73 dc_73 nh73
        refine u_iinc F (fun v_ => [(4, .int v_), (0, .ref (a 0)), (1, .int p0), (2, .int x73_2), (3, .int x73_3)]) dX13_best_73 (j := 4) rfl x18_4.toInt 1 rfl rfl (by omega) (by omega) (by decide) (fun _ => rfl) (fun y4 ey4 => ?_)
        refine g_goto F 18 dX13_best_76 (by decide) ?_
        refine g_locals [(0, .ref (a 0)), (1, .int p0), (2, .int x73_2), (3, .int x73_3), (4, .int y4)] [1, 2, 3, 4, 0] rfl ?_
        have b5 : (0 : Int) ≤ (Gj73 0 32).toInt ∧ (Gj73 0 32).toInt ≤ 7 := jI73 0 32
        exact ih_18 x73_2 x73_3 y4 Gj73 (by omega) (by have h9 := ti_rng p0; omega) (by have h9 := ti_rng x73_2; omega) (by have h9 := ti_rng x73_3; omega) (by have h9 := ti_rng y4; omega) jI73 (gu_un.tr (gu_un.tr gu_un.rf (gu_un.su jU18 rfl)) (gu_un.su jU73 rfl)) (by (first | omega | (simp only [Int32.reduceToInt, true_and, and_true, ne_eq, not_true_eq_false, false_and, or_false, false_or, true_or, or_true, false_implies] <;> omega))) (nh73)
      have J_67 : ∀  (x67_5 : Int32) (Gj67 : gS), (1 ≤ x18_4.toInt ∧ x18_4.toInt ≤ 9) → (0 ≤ x67_5.toInt ∧ x67_5.toInt ≤ 20) → (yI Gj67) → (gu_un ycd [29, 33, 36, 37, 1300, 1400, 1500, 1600, 1700, 1800, 1900, 2000, 2100] Gj18 Gj67) → (((Gj67 0 32).toInt = (G 0 32).toInt)) → (yNh G Gj67) → gG p l e (gR 9 0 0 252) s m args below meth c D A 6 Q 0 0 (yW K a Gj67) (tK K) [(0, .ref (a 0)), (1, .int p0), (4, .int x18_4), (5, .int x67_5)] 67 [] := by
        intro x67_5 Gj67 k67_4 h67_5 jI67 jU67 dc_67 nh67
        refine g_iload F 2 dX13_best_67 rfl ?_
        refine g_istore_n F [(2, .int x18_4), (0, .ref (a 0)), (1, .int p0), (4, .int x18_4), (5, .int x67_5)] dX13_best_69 rfl (by decide) rfl ?_
        refine g_iload F 4 dX13_best_70 rfl ?_
        refine g_istore_n F [(3, .int x67_5), (2, .int x18_4), (0, .ref (a 0)), (1, .int p0), (4, .int x18_4), (5, .int x67_5)] dX13_best_72 rfl (by decide) rfl ?_
        refine g_locals [(0, .ref (a 0)), (1, .int p0), (2, .int x18_4), (3, .int x67_5), (4, .int x18_4)] [2, 3, 1, 0, 4] rfl ?_
        have b6 : (0 : Int) ≤ (Gj67 0 32).toInt ∧ (Gj67 0 32).toInt ≤ 7 := jI67 0 32
        exact J_73 x18_4 x67_5 Gj67 (by have h9 := ti_rng x18_4; omega) (by have h9 := ti_rng x67_5; omega) (by have h9 := ti_rng x18_4; omega) jI67 (gu_un.tr gu_un.rf (gu_un.su jU67 rfl)) (by (first | omega | (simp only [Int32.reduceToInt, true_and, and_true, ne_eq, not_true_eq_false, false_and, or_false, false_or, true_or, or_true, false_implies] <;> omega))) (nh67)
      refine g_iload F 4 dX13_best_18 rfl ?_
      refine g_bipush F 9 dX13_best_20 (by decide) ?_
      refine v_icmp_gt F 79 dX13_best_22 (by decide) x18_4.toInt 9 rfl rfl (fun c7 => ?_) (fun c7 => ?_)
      · refine g_iload_n F 2 dX13_best_79 rfl rfl ?_
        have b8 : (0 : Int) ≤ (Gj18 0 32).toInt ∧ (Gj18 0 32).toInt ≤ 7 := jI18 0 32
        exact u_iret F hA hQ hr Gj18 (⟨jI18, (gu_un.tr gu_un.rf (gu_un.su jU18 rfl)), (by have h9 := ti_rng x18_2; omega), (nh18), (by show ((Gj18 0 32).toInt = (G 0 32).toInt); (first | omega | (simp only [Int32.reduceToInt, true_and, and_true, ne_eq, not_true_eq_false, false_and, or_false, false_or, true_or, or_true, false_implies] <;> omega)))⟩) rfl rfl dX13_best_80
      · refine g_aload_n F 0 dX13_best_25 rfl rfl ?_
        refine g_iload_n F 1 dX13_best_26 rfl rfl ?_
        refine g_iload F 4 dX13_best_27 rfl ?_
        have b9 : (0 : Int) ≤ (Gj18 0 32).toInt ∧ (Gj18 0 32).toInt ≤ 7 := jI18 0 32
        refine u_callVi (k := 0) (n := 0) (b := a 0) (As := [.int p0, .int x18_4]) (st := []) F (fun sz => S_X13_deepestOf l D K a Gj18 p0 s0 x18_4 x18_4.toInt e0 (by omega) rfl (by omega) (yW3.un wf (show gu_un ycd [29, 33, 36, 37, 1300, 1400, 1500, 1600, 1700, 1800, 1900, 2000, 2100] G Gj18 from (gu_un.tr gu_un.rf (gu_un.su jU18 rfl))) rfl) (by (first | omega | (simp only [Int32.reduceToInt, true_and, and_true, ne_eq, not_true_eq_false, false_and, or_false, false_or, true_or, or_true, false_implies] <;> omega))) jI18 sz) (cwV 2 hts gX13_best_X13_deepestOf rfl rfl rfl (by decide +kernel) ⟨Nat.le_of_ble_eq_true rfl, Nat.le_of_ble_eq_true rfl⟩) rfl 0 yc_0 rfl (Nat.le_of_ble_eq_true rfl) ⟨Nat.zero_le _, Nat.zero_le _⟩ dX13_best_29 (fun r10 G12 hw11 => ?_)
        have hI13 : yI G12 := hw11.1
        have hU14 : gu_un ycd [29, 33, 36, 37, 1300, 1400, 1500, 1600, 1700, 1800, 1900, 2000, 2100] Gj18 G12 := hw11.2.1
        have hp15 := hw11.2.2
        have q16 : yNh Gj18 G12 := hp15.2.1
        have b17 : (0 : Int) ≤ (G12 0 32).toInt ∧ (G12 0 32).toInt ≤ 7 := hI13 0 32
        have q18 : ((G12 0 32).toInt = (Gj18 0 32).toInt) := hp15.2.2
        have rg19 := hp15.1
        clear hp15 hw11
        refine g_istore F [(5, .int r10), (0, .ref (a 0)), (1, .int p0), (2, .int x18_2), (3, .int x18_3), (4, .int x18_4)] dX13_best_32 (by decide) rfl ?_
        refine g_iload F 0 dX13_best_34 rfl ?_
        refine g_iconst F (-1) dX13_best_36 (by decide) ?_
        refine v_icmp_eq F 73 dX13_best_37 (by decide) r10.toInt (-1) rfl rfl (fun c20 => ?_) (fun c20 => ?_)
        · refine g_locals [(0, .ref (a 0)), (1, .int p0), (2, .int x18_2), (3, .int x18_3), (4, .int x18_4)] [1, 2, 3, 4, 5] rfl ?_
          exact J_73 x18_2 x18_3 G12 (by have h9 := ti_rng x18_2; omega) (by have h9 := ti_rng x18_3; omega) (by have h9 := ti_rng x18_4; omega) hI13 (gu_un.tr gu_un.rf (gu_un.su hU14 rfl)) (by (first | omega | (simp only [Int32.reduceToInt, true_and, and_true, ne_eq, not_true_eq_false, false_and, or_false, false_or, true_or, or_true, false_implies] <;> omega))) ((yNh.tr (show yNh G Gj18 from nh18) (show yNh Gj18 G12 from q16)))
        · refine g_iload_n F 3 dX13_best_40 rfl rfl ?_
          refine g_iconst F (-1) dX13_best_41 (by decide) ?_
          refine v_icmp_eq F 67 dX13_best_42 (by decide) x18_2.toInt (-1) rfl rfl (fun c21 => ?_) (fun c21 => ?_)
          · refine g_locals [(0, .ref (a 0)), (1, .int p0), (4, .int x18_4), (5, .int r10)] [1, 2, 5, 0] rfl ?_
            exact J_67 r10 G12 (by have h9 := ti_rng x18_4; omega) (by have h9 := ti_rng r10; omega) hI13 (gu_un.tr gu_un.rf (gu_un.su hU14 rfl)) (by (first | omega | (simp only [Int32.reduceToInt, true_and, and_true, ne_eq, not_true_eq_false, false_and, or_false, false_or, true_or, or_true, false_implies] <;> omega))) ((yNh.tr (show yNh G Gj18 from nh18) (show yNh Gj18 G12 from q16)))
          · refine g_iload F 0 dX13_best_45 rfl ?_
            refine g_aload_n F 1 dX13_best_47 rfl rfl ?_
            refine g_iload_n F 3 dX13_best_48 rfl rfl ?_
            refine u_callVi (k := 0) (n := 0) (b := a 0) (As := [.int x18_2]) (st := [.int r10]) F (fun sz => S_X13_timeOf l D K a G12 x18_2 x18_2.toInt rfl hI13 sz) (cwV 1 hts gX13_best_X13_timeOf rfl rfl rfl (by decide +kernel) ⟨Nat.le_of_ble_eq_true rfl, Nat.le_of_ble_eq_true rfl⟩) rfl 0 yc_0 rfl (Nat.le_of_ble_eq_true rfl) ⟨Nat.zero_le _, Nat.zero_le _⟩ dX13_best_49 (fun r22 _ hw23 => ?_)
            refine u0_imul F dX13_best_52 (fun y25 => ?_)
            refine g_iload_n F 4 dX13_best_53 rfl rfl ?_
            refine g_aload_n F 1 dX13_best_54 rfl rfl ?_
            refine g_iload F 5 dX13_best_55 rfl ?_
            refine u_callVi (k := 0) (n := 0) (b := a 0) (As := [.int x18_4]) (st := [.int x18_3, .int y25]) F (fun sz => S_X13_timeOf l D K a G12 x18_4 x18_4.toInt rfl hI13 sz) (cwV 1 hts gX13_best_X13_timeOf rfl rfl rfl (by decide +kernel) ⟨Nat.le_of_ble_eq_true rfl, Nat.le_of_ble_eq_true rfl⟩) rfl 0 yc_0 rfl (Nat.le_of_ble_eq_true rfl) ⟨Nat.zero_le _, Nat.zero_le _⟩ dX13_best_57 (fun r26 _ hw27 => ?_)
            refine u0_imul F dX13_best_60 (fun y29 => ?_)
            have b30 := ti_rng y25
            have b31 := ti_rng y29
            refine v_icmp_gt F 67 dX13_best_61 (by decide) y25.toInt y29.toInt rfl rfl (fun c32 => ?_) (fun c32 => ?_)
            · refine g_locals [(0, .ref (a 0)), (1, .int p0), (4, .int x18_4), (5, .int r10)] [1, 2, 5, 0] rfl ?_
              exact J_67 r10 G12 (by have h9 := ti_rng x18_4; omega) (by have h9 := ti_rng r10; omega) hI13 (gu_un.tr gu_un.rf (gu_un.su hU14 rfl)) (by (first | omega | (simp only [Int32.reduceToInt, true_and, and_true, ne_eq, not_true_eq_false, false_and, or_false, false_or, true_or, or_true, false_implies] <;> omega))) ((yNh.tr (show yNh G Gj18 from nh18) (show yNh Gj18 G12 from q16)))
            · refine g_goto F 73 dX13_best_64 (by decide) ?_
              refine g_locals [(0, .ref (a 0)), (1, .int p0), (2, .int x18_2), (3, .int x18_3), (4, .int x18_4)] [1, 2, 3, 4, 5] rfl ?_
              exact J_73 x18_2 x18_3 G12 (by have h9 := ti_rng x18_2; omega) (by have h9 := ti_rng x18_3; omega) (by have h9 := ti_rng x18_4; omega) hI13 (gu_un.tr gu_un.rf (gu_un.su hU14 rfl)) (by (first | omega | (simp only [Int32.reduceToInt, true_and, and_true, ne_eq, not_true_eq_false, false_and, or_false, false_or, true_or, or_true, false_implies] <;> omega))) ((yNh.tr (show yNh G Gj18 from nh18) (show yNh Gj18 G12 from q16)))
  refine g_aload_n F 0 dX13_best_0 rfl rfl ?_
  refine g_iload_n F 1 dX13_best_1 rfl rfl ?_
  refine u_callVi (k := 0) (n := 0) (b := a 0) (As := [.int p0]) (st := []) F (fun sz => S_X13_isRing l D K a G p0 s0 e0 hI sz) (cwV 1 hts gX13_best_X13_isRing rfl rfl rfl (by decide +kernel) ⟨Nat.le_of_ble_eq_true rfl, Nat.le_of_ble_eq_true rfl⟩) rfl 0 yc_0 rfl (Nat.le_of_ble_eq_true rfl) ⟨Nat.zero_le _, Nat.zero_le _⟩ dX13_best_2 (fun r33 _ hw34 => ?_)
  rcases hw34 with ⟨rfl, q36⟩ | ⟨rfl, q37⟩
  · have q36 : (0 ≤ s0 ∧ s0 < (G 3 1).toInt) := q36
    refine v_if_ne F 11 dX13_best_5 (by decide) 1 rfl (fun c38 => ?_) (fun c38 => absurd c38 (by decide))
    refine g_iconst F (-1) dX13_best_11 (by decide) ?_
    refine g_istore_n F [(2, .int (-1)), (0, .ref (a 0)), (1, .int p0)] dX13_best_12 rfl (by decide) rfl ?_
    refine g_iconst F 0 dX13_best_13 (by decide) ?_
    refine g_istore_n F [(3, .int 0), (2, .int (-1)), (0, .ref (a 0)), (1, .int p0)] dX13_best_14 rfl (by decide) rfl ?_
    refine g_iconst F 1 dX13_best_15 (by decide) ?_
    refine g_istore F [(4, .int 1), (3, .int 0), (2, .int (-1)), (0, .ref (a 0)), (1, .int p0)] dX13_best_16 (by decide) rfl ?_
    refine g_locals [(0, .ref (a 0)), (1, .int p0), (2, .int (-1)), (3, .int 0), (4, .int 1)] [3, 4, 2, 1, 0] rfl ?_
    exact J_18 _ (-1) 0 1 G (Nat.lt_succ_self _) (by have h9 := ti_rng p0; omega) (by decide) (by decide) (by decide) hI gu_un.rf (by (first | omega | (simp only [Int32.reduceToInt, true_and, and_true, ne_eq, not_true_eq_false, false_and, or_false, false_or, true_or, or_true, false_implies] <;> omega))) (yNh.rf)
  · have q37 : (s0 < 0 ∨ (G 3 1).toInt ≤ s0) := q37
    refine v_if_ne F 11 dX13_best_5 (by decide) 0 rfl (fun c39 => absurd c39 (by decide)) (fun c39 => ?_)
    refine g_bipush F (-2) dX13_best_8 (by decide) ?_
    exact u_iret F hA hQ hr G (⟨hI, gu_un.rf, (by decide), (yNh.rf), (by show ((G 0 32).toInt = (G 0 32).toInt); (first | omega | (simp only [Int32.reduceToInt, true_and, and_true, ne_eq, not_true_eq_false, false_and, or_false, false_or, true_or, or_true, false_implies] <;> omega)))⟩) rfl rfl dX13_best_10

theorem dX13_until_0 : decode cX13_until 0 = .ok (.aload_n 0, 1) := by decide +kernel
theorem dX13_until_1 : decode cX13_until 1 = .ok (.iload_n 1, 1) := by decide +kernel
theorem dX13_until_2 : decode cX13_until 2 = .ok (.iload_n 2, 1) := by decide +kernel
theorem dX13_until_3 : decode cX13_until 3 = .ok (.iload_n 3, 1) := by decide +kernel
theorem dX13_until_4 : decode cX13_until 4 = .ok (.iload 4, 2) := by decide +kernel
theorem dX13_until_6 : decode cX13_until 6 = .ok (.invokevirtual 431, 3) := by decide +kernel
theorem dX13_until_9 : decode cX13_until 9 = .ok (.ifCond .eq 13, 3) := by decide +kernel
theorem dX13_until_12 : decode cX13_until 12 = .ok (.iload 5, 2) := by decide +kernel
theorem dX13_until_14 : decode cX13_until 14 = .ok (.iload 6, 2) := by decide +kernel
theorem dX13_until_16 : decode cX13_until 16 = .ok (.invokestatic 435, 3) := by decide +kernel
theorem dX13_until_19 : decode cX13_until 19 = .ok (.ifCond .ne 6, 3) := by decide +kernel
theorem dX13_until_22 : decode cX13_until 22 = .ok (.bipush (-2), 2) := by decide +kernel
theorem dX13_until_24 : decode cX13_until 24 = .ok (.ireturn, 1) := by decide +kernel
theorem dX13_until_25 : decode cX13_until 25 = .ok (.aload_n 0, 1) := by decide +kernel
theorem dX13_until_26 : decode cX13_until 26 = .ok (.invokevirtual 412, 3) := by decide +kernel
theorem dX13_until_29 : decode cX13_until 29 = .ok (.iconst 0, 1) := by decide +kernel
theorem dX13_until_30 : decode cX13_until 30 = .ok (.istore 7, 2) := by decide +kernel
theorem dX13_until_32 : decode cX13_until 32 = .ok (.iload 7, 2) := by decide +kernel
theorem dX13_until_34 : decode cX13_until 34 = .ok (.bipush 30, 2) := by decide +kernel
theorem dX13_until_36 : decode cX13_until 36 = .ok (.if_icmp .ge 37, 3) := by decide +kernel
theorem dX13_until_39 : decode cX13_until 39 = .ok (.aload_n 0, 1) := by decide +kernel
theorem dX13_until_40 : decode cX13_until 40 = .ok (.iload_n 1, 1) := by decide +kernel
theorem dX13_until_41 : decode cX13_until 41 = .ok (.iload_n 3, 1) := by decide +kernel
theorem dX13_until_42 : decode cX13_until 42 = .ok (.iload 4, 2) := by decide +kernel
theorem dX13_until_44 : decode cX13_until 44 = .ok (.invokevirtual 438, 3) := by decide +kernel
theorem dX13_until_47 : decode cX13_until 47 = .ok (.ifCond .eq 26, 3) := by decide +kernel
theorem dX13_until_50 : decode cX13_until 50 = .ok (.aload_n 0, 1) := by decide +kernel
theorem dX13_until_51 : decode cX13_until 51 = .ok (.iload_n 1, 1) := by decide +kernel
theorem dX13_until_52 : decode cX13_until 52 = .ok (.iload_n 2, 1) := by decide +kernel
theorem dX13_until_53 : decode cX13_until 53 = .ok (.iload_n 3, 1) := by decide +kernel
theorem dX13_until_54 : decode cX13_until 54 = .ok (.iload 4, 2) := by decide +kernel
theorem dX13_until_56 : decode cX13_until 56 = .ok (.iload 5, 2) := by decide +kernel
theorem dX13_until_58 : decode cX13_until 58 = .ok (.iload 6, 2) := by decide +kernel
theorem dX13_until_60 : decode cX13_until 60 = .ok (.iconst (-1), 1) := by decide +kernel
theorem dX13_until_61 : decode cX13_until 61 = .ok (.invokevirtual 415, 3) := by decide +kernel
theorem dX13_until_64 : decode cX13_until 64 = .ok (.ifCond .ne 9, 3) := by decide +kernel
theorem dX13_until_67 : decode cX13_until 67 = .ok (.iinc 7 1, 3) := by decide +kernel
theorem dX13_until_70 : decode cX13_until 70 = .ok (.goto (-38), 3) := by decide +kernel
theorem dX13_until_73 : decode cX13_until 73 = .ok (.aload_n 0, 1) := by decide +kernel
theorem dX13_until_74 : decode cX13_until 74 = .ok (.invokevirtual 419, 3) := by decide +kernel
theorem dX13_until_77 : decode cX13_until 77 = .ok (.iload 7, 2) := by decide +kernel
theorem dX13_until_79 : decode cX13_until 79 = .ok (.ireturn, 1) := by decide +kernel
set_option maxRecDepth 20000 in
theorem ggX13_until_X13_canBe : GoodIn wsX13_until wsX13_canBe := goodIn_r _ [33, 34, 35, 36, 4, 37, 27, 13, 38, 39, 40, 41, 42, 43, 44, 100, 101, 102, 103, 104, 105, 106, 107, 108, 109, 110, 111, 112, 113, 114, 115, 116, 117, 118, 119, 120, 121, 122, 123, 124, 125, 126, 127, 128, 129, 130, 131, 132, 133, 134, 135, 136, 137, 138, 139, 140, 141, 142, 143, 144, 145, 146, 147, 148, 149, 150, 151, 152, 153, 154, 155, 156, 157, 158, 159, 160, 161, 162, 163, 164, 165, 166, 167, 168, 169, 170, 171, 172] rfl (by decide +kernel)
set_option maxRecDepth 20000 in
theorem gX13_until_X13_canBe : GoodIn wsX13_until (wsV RX13 438 RX13 yX13_canBe wsX13_canBe) := goodIn_app (goodIn_of _ (by decide +kernel)) ggX13_until_X13_canBe
set_option maxRecDepth 20000 in
theorem ggX13_until_X13_go : GoodIn wsX13_until wsX13_go := goodIn_r _ [48, 13, 49, 50, 51, 27, 52, 53, 54, 40, 55, 38, 39, 41, 29, 34, 35, 36, 4, 37, 42, 43, 44, 56, 57, 58, 59, 60, 61, 62, 63, 64, 65, 66, 67, 68, 69, 70, 71, 72, 73, 74, 75, 76, 77, 78, 79, 80, 81, 82, 83, 84, 85, 86, 87, 88, 89, 90, 91, 92, 93, 94, 95, 100, 101, 102, 103, 104, 105, 106, 107, 108, 109, 110, 111, 112, 113, 114, 115, 116, 117, 118, 119, 120, 121, 122, 123, 124, 125, 126, 127, 128, 129, 130, 131, 132, 133, 134, 135, 136, 137, 138, 139, 140, 141, 142, 143, 144, 145, 146, 147, 148, 149, 150, 151, 152, 153, 154, 155, 156, 157, 158, 159, 160, 161, 162, 163, 164, 165, 166, 167, 168, 169, 170, 171, 172] rfl (by decide +kernel)
set_option maxRecDepth 20000 in
theorem gX13_until_X13_go : GoodIn wsX13_until (wsV RX13 415 RX13 yX13_go wsX13_go) := goodIn_app (goodIn_of _ (by decide +kernel)) ggX13_until_X13_go
set_option maxRecDepth 20000 in
theorem ggX13_until_X13_isMachine : GoodIn wsX13_until wsX13_isMachine := goodIn_r _ [19, 20, 14, 15, 4, 16] rfl (by decide +kernel)
set_option maxRecDepth 20000 in
theorem gX13_until_X13_isMachine : GoodIn wsX13_until (va_wsS RX13 435 yX13_isMachine wsX13_isMachine) := goodIn_app (goodIn_of _ (by decide +kernel)) ggX13_until_X13_isMachine
set_option maxRecDepth 20000 in
theorem ggX13_until_X13_isPass : GoodIn wsX13_until wsX13_isPass := goodIn_r _ [5, 6, 7, 8, 9, 10, 11, 4, 12, 13, 14, 15, 16, 100, 101, 102, 103, 104, 105, 106, 107, 108, 109, 110, 111, 112, 113, 114, 115, 116, 117, 118, 119, 120, 121, 122, 123, 124, 125, 126, 127, 128, 129, 130, 131, 132, 133, 134, 135, 136, 137, 138, 139, 140, 141, 142, 143, 144, 145, 146, 147, 148, 149, 150, 151, 152, 153, 154, 155, 156, 157, 158, 159, 160, 161, 162, 163, 164, 165, 166, 167, 168, 169, 170, 171, 172] rfl (by decide +kernel)
set_option maxRecDepth 20000 in
theorem gX13_until_X13_isPass : GoodIn wsX13_until (wsV RX13 431 RX13 yX13_isPass wsX13_isPass) := goodIn_app (goodIn_of _ (by decide +kernel)) ggX13_until_X13_isPass
set_option maxRecDepth 20000 in
theorem ggX13_until_X13_putBack : GoodIn wsX13_until wsX13_putBack := goodIn_r _ [99, 26, 27, 25, 28, 29, 100, 101, 102, 103, 104, 105, 106, 107, 108, 109, 110, 111, 112, 113, 114, 115, 116, 117, 118, 119, 120, 121, 122, 123, 124, 125, 126, 127, 128, 129, 130, 131, 132, 133, 134, 135, 136, 137, 138, 139, 140, 141, 142, 143, 144, 145, 146, 147, 148, 149, 150, 151, 152, 153, 154, 155, 156, 157, 158, 159, 160, 161, 162, 163, 164, 165, 166, 167, 168, 169, 170, 171, 172] rfl (by decide +kernel)
set_option maxRecDepth 20000 in
theorem gX13_until_X13_putBack : GoodIn wsX13_until (wsV RX13 419 RX13 yX13_putBack wsX13_putBack) := goodIn_app (goodIn_of _ (by decide +kernel)) ggX13_until_X13_putBack
set_option maxRecDepth 20000 in
theorem ggX13_until_X13_putBy : GoodIn wsX13_until wsX13_putBy := goodIn_r _ [24, 25, 26, 27, 28, 29, 100, 101, 102, 103, 104, 105, 106, 107, 108, 109, 110, 111, 112, 113, 114, 115, 116, 117, 118, 119, 120, 121, 122, 123, 124, 125, 126, 127, 128, 129, 130, 131, 132, 133, 134, 135, 136, 137, 138, 139, 140, 141, 142, 143, 144, 145, 146, 147, 148, 149, 150, 151, 152, 153, 154, 155, 156, 157, 158, 159, 160, 161, 162, 163, 164, 165, 166, 167, 168, 169, 170, 171, 172] rfl (by decide +kernel)
set_option maxRecDepth 20000 in
theorem gX13_until_X13_putBy : GoodIn wsX13_until (wsV RX13 412 RX13 yX13_putBy wsX13_putBy) := goodIn_app (goodIn_of _ (by decide +kernel)) ggX13_until_X13_putBy
set_option maxHeartbeats 4000000 in
set_option maxRecDepth 100000 in
theorem S_X13_until (l : Launch) (D : va_G) (K : Nat → ClassId) (a : Nat → Nat) (G : gS) (p0 : Int32) (s0 : Int) (p1 : Int32) (s1 : Int) (p2 : Int32) (s2 : Int) (p3 : Int32) (s3 : Int) (p4 : Int32) (s4 : Int) (p5 : Int32) (s5 : Int) (e0 : p0.toInt = s0) (e1 : p1.toInt = s1) (e2 : p2.toInt = s2) (e3 : p3.toInt = s3) (e4 : p4.toInt = s4) (e5 : p5.toInt = s5) (wf : yW3 G) (dl : ((G 0 32).toInt ≤ 6)) (hI : yI G) (sz : Nat) : Ki l yX13_until wsX13_until 6 177 0 0 D [.ref (a 0), .int p0, .int p1, .int p2, .int p3, .int p4, .int p5] (yW K a G) (tK K) sz (fun (r : Int32) (G' : gS) => (yI G') ∧ (gu_un ycd [29, 33, 36, 37, 1300, 1400, 1500, 1600, 1700, 1800, 1900, 2000, 2100] G G') ∧ ((-2) ≤ r.toInt ∧ r.toInt ≤ 30) ∧ (yNh G G') ∧ (((G' 0 32).toInt = (G 0 32).toInt))) (fun (G' : gS) => (yW K a G')) (fun _ => (tK K)) := by
  unfold Ki
  refine g_ofW (cc := cX13_until) (lv := [(0, .ref (a 0)), (1, .int p0), (2, .int p1), (3, .int p2), (4, .int p3), (5, .int p4), (6, .int p5)]) (by decide) rfl (Nat.le_of_ble_eq_true rfl) rfl ?_
  intro p e s m args below meth c A Q hA hQ F hr hnm
  have hts := F.2.2.2.2.1
  have rg0 : -2147483648 ≤ s0 ∧ s0 ≤ 2147483647 := e0 ▸ ti_rng p0
  have rg1 : -2147483648 ≤ s1 ∧ s1 ≤ 2147483647 := e1 ▸ ti_rng p1
  have rg2 : -2147483648 ≤ s2 ∧ s2 ≤ 2147483647 := e2 ▸ ti_rng p2
  have rg3 : -2147483648 ≤ s3 ∧ s3 ≤ 2147483647 := e3 ▸ ti_rng p3
  have rg4 : -2147483648 ≤ s4 ∧ s4 ≤ 2147483647 := e4 ▸ ti_rng p4
  have rg5 : -2147483648 ≤ s5 ∧ s5 ≤ 2147483647 := e5 ▸ ti_rng p5
  have b1 : (0 : Int) ≤ (G 0 32).toInt ∧ (G 0 32).toInt ≤ 7 := hI 0 32
  have b2 : (4 : Int) ≤ (G 3 0).toInt ∧ (G 3 0).toInt ≤ 16 := hI 3 0
  have b3 : (1 : Int) ≤ (G 3 1).toInt ∧ (G 3 1).toInt ≤ 6 := hI 3 1
  have J_32 : ∀ (fuel : Nat) (x32_7 : Int32) (Gj32 : gS), (2147483647 - x32_7.toInt).toNat < fuel → (0 ≤ s0 ∧ s0 ≤ 5) → (1 ≤ s1 ∧ s1 ≤ 9) → (1 ≤ s2 ∧ s2 ≤ 20) → (1 ≤ s3 ∧ s3 ≤ 12) → (0 ≤ s4 ∧ s4 ≤ 300) → (0 ≤ s5 ∧ s5 ≤ 300) → (0 ≤ x32_7.toInt ∧ x32_7.toInt ≤ 30) → (yI Gj32) → (gu_un ycd [29, 33, 36, 37, 1300, 1400, 1500, 1600, 1700, 1800, 1900, 2000, 2100] G Gj32) → ((yNd (G 0 32).toInt G Gj32 ∧ yKe G Gj32 (G 0 32).toInt)) → (((Gj32 0 32).toInt = (G 0 32).toInt + 1)) → gG p l e (gR 6 0 0 177) s m args below meth c D A 8 Q 0 0 (yW K a Gj32) (tK K) [(0, .ref (a 0)), (1, .int p0), (2, .int p1), (3, .int p2), (4, .int p3), (5, .int p4), (6, .int p5), (7, .int x32_7)] 32 [] := by
    intro fuel
    induction fuel with
    | zero => intro x32_7 Gj32 hm; exact absurd hm (Nat.not_lt_zero _)
    | succ fuel_32 ih_32 =>
      intro x32_7 Gj32 hm_32 k32_1 k32_2 k32_3 k32_4 k32_5 k32_6 h32_7 jI32 jU32 nd32 dc_32
      refine g_iload F 7 dX13_until_32 rfl ?_
      refine g_bipush F 30 dX13_until_34 (by decide) ?_
      refine v_icmp_ge F 73 dX13_until_36 (by decide) x32_7.toInt 30 rfl rfl (fun c4 => ?_) (fun c4 => ?_)
      · refine g_aload_n F 0 dX13_until_73 rfl rfl ?_
        have b5 : (0 : Int) ≤ (Gj32 0 32).toInt ∧ (Gj32 0 32).toInt ≤ 7 := jI32 0 32
        refine u_callVv (k := 0) (n := 0) (b := a 0) (As := []) (st := []) F (fun sz => S_X13_putBack l D K a Gj32  (by (first | omega | (simp only [Int32.reduceToInt, true_and, and_true, ne_eq, not_true_eq_false, false_and, or_false, false_or, true_or, or_true, false_implies] <;> omega))) jI32 sz) (cwV 0 hts gX13_until_X13_putBack rfl rfl rfl (by decide +kernel) ⟨Nat.le_of_ble_eq_true rfl, Nat.le_of_ble_eq_true rfl⟩) rfl 0 yc_0 rfl (Nat.le_of_ble_eq_true rfl) ⟨Nat.zero_le _, Nat.zero_le _⟩ dX13_until_74 (fun G8 hw7 => ?_)
        have hI9 : yI G8 := hw7.1
        have hU10 : gu_un ycd [29, 33, 1400] Gj32 G8 := hw7.2.1
        have hp11 := hw7.2.2
        have b12 : (0 : Int) ≤ (G8 0 32).toInt ∧ (G8 0 32).toInt ≤ 7 := hI9 0 32
        have q13 : ((G8 0 32).toInt = (Gj32 0 32).toInt - 1) := hp11.1
        have q14 : ((∀ q : Nat, q < 96 → G8 14 q = (Gj32 19) (96 * ((Gj32 0 32).toInt - 1) + (q : Int)).toNat) ∧ G8 0 28 = (Gj32 20) ((Gj32 0 32).toInt - 1).toNat) := hp11.2.1
        have q15 : ((G8 15 = Gj32 15 ∧ G8 16 = Gj32 16 ∧ G8 17 = Gj32 17 ∧ G8 18 = Gj32 18) ∧ G8 19 = Gj32 19 ∧ G8 20 = Gj32 20) := hp11.2.2
        have bk16 : yNh G G8 := yNh.back (G := Gj32) (d := (G 0 32).toInt) nd32.1 nd32.2 rfl (fun q hq => by have h9 := q14.1 q hq; rw [show (Gj32 0 32).toInt - 1 = (G 0 32).toInt by omega] at h9; exact h9) (by have h9 := q14.2; rw [show (Gj32 0 32).toInt - 1 = (G 0 32).toInt by omega] at h9; exact h9) (yNd.tr yNd.rf (yNd.pl q15) (Int.le_refl _)) (by omega)
        clear hp11 hw7
        refine g_iload F 7 dX13_until_77 rfl ?_
        exact u_iret F hA hQ hr G8 (⟨hI9, (gu_un.tr (gu_un.tr gu_un.rf (gu_un.su jU32 rfl)) (gu_un.su hU10 rfl)), (by have h9 := ti_rng x32_7; omega), ((yNh.tr (show yNh G G from yNh.rf) (show yNh G G8 from bk16))), (by show ((G8 0 32).toInt = (G 0 32).toInt); (first | omega | (simp only [Int32.reduceToInt, true_and, and_true, ne_eq, not_true_eq_false, false_and, or_false, false_or, true_or, or_true, false_implies] <;> omega)))⟩) rfl rfl dX13_until_79
      · refine g_aload_n F 0 dX13_until_39 rfl rfl ?_
        refine g_iload_n F 1 dX13_until_40 rfl rfl ?_
        refine g_iload_n F 3 dX13_until_41 rfl rfl ?_
        refine g_iload F 4 dX13_until_42 rfl ?_
        refine u_callVi (k := 0) (n := 0) (b := a 0) (As := [.int p0, .int p2, .int p3]) (st := []) F (fun sz => S_X13_canBe l D K a Gj32 p0 s0 p2 s2 p3 s3 e0 (by omega) e2 (by omega) e3 (by omega) jI32 sz) (cwV 3 hts gX13_until_X13_canBe rfl rfl rfl (by decide +kernel) ⟨Nat.le_of_ble_eq_true rfl, Nat.le_of_ble_eq_true rfl⟩) rfl 0 yc_0 rfl (Nat.le_of_ble_eq_true rfl) ⟨Nat.zero_le _, Nat.zero_le _⟩ dX13_until_44 (fun r17 _ hw18 => ?_)
        rcases hw18 with ⟨rfl, q20⟩ | ⟨rfl, q21⟩
        · have q20 : (1 ≤ psMx (psHr (Gj32 14) s0 (G 3 0).toInt) ((G 3 0).toInt - 1).toNat - s2 * s3) := by have h9 := q20; (try simp only [(show Gj32 3 0 = (G 3 0) from jU32 3 0 (by decide)), (show Gj32 3 0 = (G 3 0) from jU32 3 0 (by decide))] at h9); exact h9
          refine v_if_eq F 73 dX13_until_47 (by decide) 1 rfl (fun c22 => absurd c22 (by decide)) (fun c22 => ?_)
          refine g_aload_n F 0 dX13_until_50 rfl rfl ?_
          refine g_iload_n F 1 dX13_until_51 rfl rfl ?_
          refine g_iload_n F 2 dX13_until_52 rfl rfl ?_
          refine g_iload_n F 3 dX13_until_53 rfl rfl ?_
          refine g_iload F 4 dX13_until_54 rfl ?_
          refine g_iload F 5 dX13_until_56 rfl ?_
          refine g_iload F 6 dX13_until_58 rfl ?_
          refine g_iconst F (-1) dX13_until_60 (by decide) ?_
          refine u_callVi (k := 0) (n := 0) (b := a 0) (As := [.int p0, .int p1, .int p2, .int p3, .int p4, .int p5, .int (-1)]) (st := []) F (fun sz => S_X13_go l D K a Gj32 p0 s0 p1 s1 p2 s2 p3 s3 p4 s4 p5 s5 (-1) (-1) e0 (by omega) e1 (by omega) e2 (by omega) e3 (by omega) e4 (by omega) e5 (by omega) rfl (yW3.un wf (show gu_un ycd [29, 33, 36, 37, 1300, 1400, 1500, 1600, 1700, 1800, 1900, 2000, 2100] G Gj32 from (gu_un.tr gu_un.rf (gu_un.su jU32 rfl))) rfl) (by have e9_3_0 : Gj32 3 0 = (G 3 0) := jU32 3 0 (by decide); (try simp only [e9_3_0, true_and, and_true]) <;> (first | omega | (simp only [Int32.reduceToInt, true_and, and_true, ne_eq, not_true_eq_false, false_and, or_false, false_or, true_or, or_true, false_implies] <;> omega))) jI32 sz) (cwV 7 hts gX13_until_X13_go rfl rfl rfl (by decide +kernel) ⟨Nat.le_of_ble_eq_true rfl, Nat.le_of_ble_eq_true rfl⟩) rfl 0 yc_0 rfl (Nat.le_of_ble_eq_true rfl) ⟨Nat.zero_le _, Nat.zero_le _⟩ dX13_until_61 (fun r23 G25 hw24 => ?_)
          have hI26 : yI G25 := hw24.1
          have hU27 : gu_un ycd [29, 36, 37, 1300, 1400, 1500, 1600, 1700, 1800, 2100] Gj32 G25 := hw24.2.1
          have hp28 := hw24.2.2
          have q29 : yOut Gj32 s0 (-1) p2 p1 p3 p4 p5 G25 r23.toInt := hp28.2.1
          have q30 : yOt s0 (G 3 0).toInt Gj32 G25 := by have h9 := hp28.2.2.1; (try simp only [(show Gj32 3 0 = (G 3 0) from jU32 3 0 (by decide))] at h9); first | exact h9 | omega
          have q31 : ((-1 : Int) = -1 → G25 15 = Gj32 15 ∧ G25 16 = Gj32 16 ∧ G25 17 = Gj32 17 ∧ G25 18 = Gj32 18) := hp28.2.2.2
          have rg32 := hp28.1
          clear hp28 hw24
          refine v_if_ne F 73 dX13_until_64 (by decide) r23.toInt rfl (fun c33 => ?_) (fun c33 => ?_)
          · refine g_aload_n F 0 dX13_until_73 rfl rfl ?_
            have b34 : (0 : Int) ≤ (Gj32 0 32).toInt ∧ (Gj32 0 32).toInt ≤ 7 := jI32 0 32
            refine u_callVv (k := 0) (n := 0) (b := a 0) (As := []) (st := []) F (fun sz => S_X13_putBack l D K a G25  (by have e9_0_32 : G25 0 32 = (Gj32 0 32) := hU27 0 32 (by decide); (try simp only [e9_0_32, true_and, and_true]) <;> (first | omega | (simp only [Int32.reduceToInt, true_and, and_true, ne_eq, not_true_eq_false, false_and, or_false, false_or, true_or, or_true, false_implies] <;> omega))) hI26 sz) (cwV 0 hts gX13_until_X13_putBack rfl rfl rfl (by decide +kernel) ⟨Nat.le_of_ble_eq_true rfl, Nat.le_of_ble_eq_true rfl⟩) rfl 0 yc_0 rfl (Nat.le_of_ble_eq_true rfl) ⟨Nat.zero_le _, Nat.zero_le _⟩ dX13_until_74 (fun G37 hw36 => ?_)
            have hI38 : yI G37 := hw36.1
            have hU39 : gu_un ycd [29, 33, 1400] G25 G37 := hw36.2.1
            have hp40 := hw36.2.2
            have b41 : (0 : Int) ≤ (G37 0 32).toInt ∧ (G37 0 32).toInt ≤ 7 := hI38 0 32
            have q42 : ((G37 0 32).toInt = (Gj32 0 32).toInt - 1) := by have h9 := hp40.1; (try simp only [(show G25 0 32 = (Gj32 0 32) from hU27 0 32 (by decide))] at h9); first | exact h9 | omega
            have q43 : ((∀ q : Nat, q < 96 → G37 14 q = (Gj32 19) (96 * ((Gj32 0 32).toInt - 1) + (q : Int)).toNat) ∧ G37 0 28 = (Gj32 20) ((Gj32 0 32).toInt - 1).toNat) := by have h9 := hp40.2.1; (try simp only [(show G25 0 32 = (Gj32 0 32) from hU27 0 32 (by decide)), (show G25 0 32 = (Gj32 0 32) from hU27 0 32 (by decide)), (show G25 19 = (Gj32 19) from (show G25 19 = Gj32 19 from funext fun k_ => hU27 19 k_ (show (1900 : Nat) ∉ ([29, 36, 37, 1300, 1400, 1500, 1600, 1700, 1800, 2100] : List Nat) by decide))), (show G25 20 = (Gj32 20) from (show G25 20 = Gj32 20 from funext fun k_ => hU27 20 k_ (show (2000 : Nat) ∉ ([29, 36, 37, 1300, 1400, 1500, 1600, 1700, 1800, 2100] : List Nat) by decide)))] at h9); first | exact h9 | omega
            have q44 : ((G37 15 = G25 15 ∧ G37 16 = G25 16 ∧ G37 17 = G25 17 ∧ G37 18 = G25 18) ∧ G37 19 = G25 19 ∧ G37 20 = G25 20) := hp40.2.2
            have bk45 : yNh G G37 := yNh.back (G := Gj32) (d := (G 0 32).toInt) nd32.1 nd32.2 rfl (fun q hq => by have h9 := q43.1 q hq; rw [show (Gj32 0 32).toInt - 1 = (G 0 32).toInt by omega] at h9; exact h9) (by have h9 := q43.2; rw [show (Gj32 0 32).toInt - 1 = (G 0 32).toInt by omega] at h9; exact h9) (yNd.tr (yNd.tr yNd.rf (show yNd _ Gj32 G25 from (yNd.go (q31 rfl) hU27 rfl)) (Int.le_refl _)) (yNd.pl q44) (Int.le_refl _)) (by omega)
            clear hp40 hw36
            refine g_iload F 7 dX13_until_77 rfl ?_
            exact u_iret F hA hQ hr G37 (⟨hI38, (gu_un.tr (gu_un.tr (gu_un.tr gu_un.rf (gu_un.su jU32 rfl)) (gu_un.su hU27 rfl)) (gu_un.su hU39 rfl)), (by have h9 := ti_rng x32_7; omega), ((yNh.tr (show yNh G G from yNh.rf) (show yNh G G37 from bk45))), (by show ((G37 0 32).toInt = (G 0 32).toInt); (first | omega | (simp only [Int32.reduceToInt, true_and, and_true, ne_eq, not_true_eq_false, false_and, or_false, false_or, true_or, or_true, false_implies] <;> omega)))⟩) rfl rfl dX13_until_79
          · refine u_iinc F (fun v_ => [(7, .int v_), (0, .ref (a 0)), (1, .int p0), (2, .int p1), (3, .int p2), (4, .int p3), (5, .int p4), (6, .int p5)]) dX13_until_67 (j := 7) rfl x32_7.toInt 1 rfl rfl (by omega) (by omega) (by decide) (fun _ => rfl) (fun y46 ey46 => ?_)
            refine g_goto F 32 dX13_until_70 (by decide) ?_
            refine g_locals [(0, .ref (a 0)), (1, .int p0), (2, .int p1), (3, .int p2), (4, .int p3), (5, .int p4), (6, .int p5), (7, .int y46)] [1, 2, 3, 4, 5, 6, 7, 0] rfl ?_
            have b47 : (0 : Int) ≤ (Gj32 0 32).toInt ∧ (Gj32 0 32).toInt ≤ 7 := jI32 0 32
            exact ih_32 y46 G25 (by omega) (by have h9 := ti_rng p0; omega) (by have h9 := ti_rng p1; omega) (by have h9 := ti_rng p2; omega) (by have h9 := ti_rng p3; omega) (by have h9 := ti_rng p4; omega) (by have h9 := ti_rng p5; omega) (by have h9 := ti_rng y46; omega) hI26 (gu_un.tr (gu_un.tr gu_un.rf (gu_un.su jU32 rfl)) (gu_un.su hU27 rfl)) (⟨yNd.tr nd32.1 (yNd.tr yNd.rf (show yNd _ Gj32 G25 from (yNd.go (q31 rfl) hU27 rfl)) (Int.le_refl _)) (Int.le_refl _), yKe.nd (d' := (G 0 32).toInt + 1) nd32.2 (yNd.tr yNd.rf (show yNd _ Gj32 G25 from (yNd.go (q31 rfl) hU27 rfl)) (Int.le_refl _)) (by omega) (by omega)⟩) (by have e9_0_32 : G25 0 32 = (Gj32 0 32) := hU27 0 32 (by decide); (try simp only [e9_0_32, true_and, and_true]) <;> (first | omega | (simp only [Int32.reduceToInt, true_and, and_true, ne_eq, not_true_eq_false, false_and, or_false, false_or, true_or, or_true, false_implies] <;> omega)))
        · have q21 : (psMx (psHr (Gj32 14) s0 (G 3 0).toInt) ((G 3 0).toInt - 1).toNat - s2 * s3 < 1) := by have h9 := q21; (try simp only [(show Gj32 3 0 = (G 3 0) from jU32 3 0 (by decide)), (show Gj32 3 0 = (G 3 0) from jU32 3 0 (by decide))] at h9); exact h9
          refine v_if_eq F 73 dX13_until_47 (by decide) 0 rfl (fun c48 => ?_) (fun c48 => absurd c48 (by decide))
          refine g_aload_n F 0 dX13_until_73 rfl rfl ?_
          have b49 : (0 : Int) ≤ (Gj32 0 32).toInt ∧ (Gj32 0 32).toInt ≤ 7 := jI32 0 32
          refine u_callVv (k := 0) (n := 0) (b := a 0) (As := []) (st := []) F (fun sz => S_X13_putBack l D K a Gj32  (by (first | omega | (simp only [Int32.reduceToInt, true_and, and_true, ne_eq, not_true_eq_false, false_and, or_false, false_or, true_or, or_true, false_implies] <;> omega))) jI32 sz) (cwV 0 hts gX13_until_X13_putBack rfl rfl rfl (by decide +kernel) ⟨Nat.le_of_ble_eq_true rfl, Nat.le_of_ble_eq_true rfl⟩) rfl 0 yc_0 rfl (Nat.le_of_ble_eq_true rfl) ⟨Nat.zero_le _, Nat.zero_le _⟩ dX13_until_74 (fun G52 hw51 => ?_)
          have hI53 : yI G52 := hw51.1
          have hU54 : gu_un ycd [29, 33, 1400] Gj32 G52 := hw51.2.1
          have hp55 := hw51.2.2
          have b56 : (0 : Int) ≤ (G52 0 32).toInt ∧ (G52 0 32).toInt ≤ 7 := hI53 0 32
          have q57 : ((G52 0 32).toInt = (Gj32 0 32).toInt - 1) := hp55.1
          have q58 : ((∀ q : Nat, q < 96 → G52 14 q = (Gj32 19) (96 * ((Gj32 0 32).toInt - 1) + (q : Int)).toNat) ∧ G52 0 28 = (Gj32 20) ((Gj32 0 32).toInt - 1).toNat) := hp55.2.1
          have q59 : ((G52 15 = Gj32 15 ∧ G52 16 = Gj32 16 ∧ G52 17 = Gj32 17 ∧ G52 18 = Gj32 18) ∧ G52 19 = Gj32 19 ∧ G52 20 = Gj32 20) := hp55.2.2
          have bk60 : yNh G G52 := yNh.back (G := Gj32) (d := (G 0 32).toInt) nd32.1 nd32.2 rfl (fun q hq => by have h9 := q58.1 q hq; rw [show (Gj32 0 32).toInt - 1 = (G 0 32).toInt by omega] at h9; exact h9) (by have h9 := q58.2; rw [show (Gj32 0 32).toInt - 1 = (G 0 32).toInt by omega] at h9; exact h9) (yNd.tr yNd.rf (yNd.pl q59) (Int.le_refl _)) (by omega)
          clear hp55 hw51
          refine g_iload F 7 dX13_until_77 rfl ?_
          exact u_iret F hA hQ hr G52 (⟨hI53, (gu_un.tr (gu_un.tr gu_un.rf (gu_un.su jU32 rfl)) (gu_un.su hU54 rfl)), (by have h9 := ti_rng x32_7; omega), ((yNh.tr (show yNh G G from yNh.rf) (show yNh G G52 from bk60))), (by show ((G52 0 32).toInt = (G 0 32).toInt); (first | omega | (simp only [Int32.reduceToInt, true_and, and_true, ne_eq, not_true_eq_false, false_and, or_false, false_or, true_or, or_true, false_implies] <;> omega)))⟩) rfl rfl dX13_until_79
  refine g_aload_n F 0 dX13_until_0 rfl rfl ?_
  refine g_iload_n F 1 dX13_until_1 rfl rfl ?_
  refine g_iload_n F 2 dX13_until_2 rfl rfl ?_
  refine g_iload_n F 3 dX13_until_3 rfl rfl ?_
  refine g_iload F 4 dX13_until_4 rfl ?_
  refine u_callVi (k := 0) (n := 0) (b := a 0) (As := [.int p0, .int p1, .int p2, .int p3]) (st := []) F (fun sz => S_X13_isPass l D K a G p0 s0 p1 s1 p2 s2 p3 s3 e0 e1 e2 e3 hI sz) (cwV 4 hts gX13_until_X13_isPass rfl rfl rfl (by decide +kernel) ⟨Nat.le_of_ble_eq_true rfl, Nat.le_of_ble_eq_true rfl⟩) rfl 0 yc_0 rfl (Nat.le_of_ble_eq_true rfl) ⟨Nat.zero_le _, Nat.zero_le _⟩ dX13_until_6 (fun r61 _ hw62 => ?_)
  rcases hw62 with ⟨rfl, q64⟩ | ⟨rfl, q65⟩
  · have q64 : (0 ≤ s0 ∧ s0 < (G 3 1).toInt ∧ 1 ≤ s1 ∧ s1 ≤ 9 ∧ 1 ≤ s2 ∧ s2 ≤ 20 ∧ 1 ≤ s3 ∧ s3 ≤ 12) := q64
    refine v_if_eq F 22 dX13_until_9 (by decide) 1 rfl (fun c66 => absurd c66 (by decide)) (fun c66 => ?_)
    refine g_iload F 5 dX13_until_12 rfl ?_
    refine g_iload F 6 dX13_until_14 rfl ?_
    refine u_call0 (k := 0) (n := 0) (As := [.int p4, .int p5]) (st := []) F (fun sz => S_X13_isMachine l D p4 s4 p5 s5 e4 e5 sz) (va_cwS 2 hts gX13_until_X13_isMachine rfl rfl rfl (by decide +kernel) ⟨Nat.le_of_ble_eq_true rfl, Nat.le_of_ble_eq_true rfl⟩) rfl (Nat.le_of_ble_eq_true rfl) ⟨Nat.zero_le _, Nat.zero_le _⟩ dX13_until_16 (fun r67 _ hw68 => ?_)
    rcases hw68 with ⟨rfl, q70⟩ | ⟨rfl, q71⟩
    · refine v_if_ne F 25 dX13_until_19 (by decide) 1 rfl (fun c72 => ?_) (fun c72 => absurd c72 (by decide))
      refine g_aload_n F 0 dX13_until_25 rfl rfl ?_
      refine u_callVv (k := 0) (n := 0) (b := a 0) (As := []) (st := []) F (fun sz => S_X13_putBy l D K a G  (by (first | omega | (simp only [Int32.reduceToInt, true_and, and_true, ne_eq, not_true_eq_false, false_and, or_false, false_or, true_or, or_true, false_implies] <;> omega))) hI sz) (cwV 0 hts gX13_until_X13_putBy rfl rfl rfl (by decide +kernel) ⟨Nat.le_of_ble_eq_true rfl, Nat.le_of_ble_eq_true rfl⟩) rfl 0 yc_0 rfl (Nat.le_of_ble_eq_true rfl) ⟨Nat.zero_le _, Nat.zero_le _⟩ dX13_until_26 (fun G75 hw74 => ?_)
      have hI76 : yI G75 := hw74.1
      have hU77 : gu_un ycd [33, 1900, 2000] G G75 := hw74.2.1
      have hp78 := hw74.2.2
      have b79 : (0 : Int) ≤ (G75 0 32).toInt ∧ (G75 0 32).toInt ≤ 7 := hI76 0 32
      have q80 : ((G75 0 32).toInt = (G 0 32).toInt + 1) := hp78.1
      have q81 : ((∀ q : Nat, G75 19 q = sRow (G 19) (G 14) (96 * (G 0 32).toInt) 96 q) ∧ G75 20 = upd (G 20) ((G 0 32).toInt).toNat (G 0 28)) := hp78.2.1
      have q82 : ((G75 15 = G 15 ∧ G75 16 = G 16 ∧ G75 17 = G 17 ∧ G75 18 = G 18) ∧ G75 14 = G 14 ∧ G75 0 28 = G 0 28) := hp78.2.2
      clear hp78 hw74
      refine g_iconst F 0 dX13_until_29 (by decide) ?_
      refine g_istore F [(7, .int 0), (0, .ref (a 0)), (1, .int p0), (2, .int p1), (3, .int p2), (4, .int p3), (5, .int p4), (6, .int p5)] dX13_until_30 (by decide) rfl ?_
      refine g_locals [(0, .ref (a 0)), (1, .int p0), (2, .int p1), (3, .int p2), (4, .int p3), (5, .int p4), (6, .int p5), (7, .int 0)] [1, 2, 3, 4, 5, 6, 7, 0] rfl ?_
      exact J_32 _ 0 G75 (Nat.lt_succ_self _) (by have h9 := ti_rng p0; omega) (by have h9 := ti_rng p1; omega) (by have h9 := ti_rng p2; omega) (by have h9 := ti_rng p3; omega) (by have h9 := ti_rng p4; omega) (by have h9 := ti_rng p5; omega) (by decide) hI76 (gu_un.tr gu_un.rf (gu_un.su hU77 rfl)) (⟨yNd.tr (yNd.by q81.1 q81.2 q82.1 (by omega)) yNd.rf (Int.le_refl _), yKe.nd (d' := (G 0 32).toInt + 1) (yKe.by q81.1 q81.2 (by omega)) yNd.rf (by omega) (by omega)⟩) (by (first | omega | (simp only [Int32.reduceToInt, true_and, and_true, ne_eq, not_true_eq_false, false_and, or_false, false_or, true_or, or_true, false_implies] <;> omega)))
    · refine v_if_ne F 25 dX13_until_19 (by decide) 0 rfl (fun c83 => absurd c83 (by decide)) (fun c83 => ?_)
      refine g_bipush F (-2) dX13_until_22 (by decide) ?_
      exact u_iret F hA hQ hr G (⟨hI, gu_un.rf, (by decide), (yNh.rf), (by show ((G 0 32).toInt = (G 0 32).toInt); (first | omega | (simp only [Int32.reduceToInt, true_and, and_true, ne_eq, not_true_eq_false, false_and, or_false, false_or, true_or, or_true, false_implies] <;> omega)))⟩) rfl rfl dX13_until_24
  · have q65 : ¬ (0 ≤ s0 ∧ s0 < (G 3 1).toInt ∧ 1 ≤ s1 ∧ s1 ≤ 9 ∧ 1 ≤ s2 ∧ s2 ≤ 20 ∧ 1 ≤ s3 ∧ s3 ≤ 12) := q65
    refine v_if_eq F 22 dX13_until_9 (by decide) 0 rfl (fun c84 => ?_) (fun c84 => absurd c84 (by decide))
    refine g_bipush F (-2) dX13_until_22 (by decide) ?_
    exact u_iret F hA hQ hr G (⟨hI, gu_un.rf, (by decide), (yNh.rf), (by show ((G 0 32).toInt = (G 0 32).toInt); (first | omega | (simp only [Int32.reduceToInt, true_and, and_true, ne_eq, not_true_eq_false, false_and, or_false, false_or, true_or, or_true, false_implies] <;> omega)))⟩) rfl rfl dX13_until_24

theorem dX13_findVerdicts_0 : decode cX13_findVerdicts 0 = .ok (.aload_n 0, 1) := by decide +kernel
theorem dX13_findVerdicts_1 : decode cX13_findVerdicts 1 = .ok (.invokevirtual 412, 3) := by decide +kernel
theorem dX13_findVerdicts_4 : decode cX13_findVerdicts 4 = .ok (.iconst 0, 1) := by decide +kernel
theorem dX13_findVerdicts_5 : decode cX13_findVerdicts 5 = .ok (.istore_n 1, 1) := by decide +kernel
theorem dX13_findVerdicts_6 : decode cX13_findVerdicts 6 = .ok (.iload_n 1, 1) := by decide +kernel
theorem dX13_findVerdicts_7 : decode cX13_findVerdicts 7 = .ok (.bipush 16, 2) := by decide +kernel
theorem dX13_findVerdicts_9 : decode cX13_findVerdicts 9 = .ok (.if_icmp .ge 121, 3) := by decide +kernel
theorem dX13_findVerdicts_12 : decode cX13_findVerdicts 12 = .ok (.iconst 0, 1) := by decide +kernel
theorem dX13_findVerdicts_13 : decode cX13_findVerdicts 13 = .ok (.istore_n 2, 1) := by decide +kernel
theorem dX13_findVerdicts_14 : decode cX13_findVerdicts 14 = .ok (.iload_n 2, 1) := by decide +kernel
theorem dX13_findVerdicts_15 : decode cX13_findVerdicts 15 = .ok (.aload_n 0, 1) := by decide +kernel
theorem dX13_findVerdicts_16 : decode cX13_findVerdicts 16 = .ok (.getfield 338, 3) := by decide +kernel
theorem dX13_findVerdicts_19 : decode cX13_findVerdicts 19 = .ok (.if_icmp .ge 105, 3) := by decide +kernel
theorem dX13_findVerdicts_22 : decode cX13_findVerdicts 22 = .ok (.aload_n 0, 1) := by decide +kernel
theorem dX13_findVerdicts_23 : decode cX13_findVerdicts 23 = .ok (.iload_n 1, 1) := by decide +kernel
theorem dX13_findVerdicts_24 : decode cX13_findVerdicts 24 = .ok (.invokevirtual 502, 3) := by decide +kernel
theorem dX13_findVerdicts_27 : decode cX13_findVerdicts 27 = .ok (.ifCond .eq 97, 3) := by decide +kernel
theorem dX13_findVerdicts_30 : decode cX13_findVerdicts 30 = .ok (.iconst 0, 1) := by decide +kernel
theorem dX13_findVerdicts_31 : decode cX13_findVerdicts 31 = .ok (.istore_n 3, 1) := by decide +kernel
theorem dX13_findVerdicts_32 : decode cX13_findVerdicts 32 = .ok (.iload_n 3, 1) := by decide +kernel
theorem dX13_findVerdicts_33 : decode cX13_findVerdicts 33 = .ok (.bipush 96, 2) := by decide +kernel
theorem dX13_findVerdicts_35 : decode cX13_findVerdicts 35 = .ok (.if_icmp .ge 18, 3) := by decide +kernel
theorem dX13_findVerdicts_38 : decode cX13_findVerdicts 38 = .ok (.aload_n 0, 1) := by decide +kernel
theorem dX13_findVerdicts_39 : decode cX13_findVerdicts 39 = .ok (.getfield 214, 3) := by decide +kernel
theorem dX13_findVerdicts_42 : decode cX13_findVerdicts 42 = .ok (.iload_n 3, 1) := by decide +kernel
theorem dX13_findVerdicts_43 : decode cX13_findVerdicts 43 = .ok (.sipush 1000, 3) := by decide +kernel
theorem dX13_findVerdicts_46 : decode cX13_findVerdicts 46 = .ok (.iastore, 1) := by decide +kernel
theorem dX13_findVerdicts_47 : decode cX13_findVerdicts 47 = .ok (.iinc 3 1, 3) := by decide +kernel
theorem dX13_findVerdicts_50 : decode cX13_findVerdicts 50 = .ok (.goto (-18), 3) := by decide +kernel
theorem dX13_findVerdicts_53 : decode cX13_findVerdicts 53 = .ok (.aload_n 0, 1) := by decide +kernel
theorem dX13_findVerdicts_54 : decode cX13_findVerdicts 54 = .ok (.iconst 0, 1) := by decide +kernel
theorem dX13_findVerdicts_55 : decode cX13_findVerdicts 55 = .ok (.putfield 362, 3) := by decide +kernel
theorem dX13_findVerdicts_58 : decode cX13_findVerdicts 58 = .ok (.aload_n 0, 1) := by decide +kernel
theorem dX13_findVerdicts_59 : decode cX13_findVerdicts 59 = .ok (.getfield 307, 3) := by decide +kernel
theorem dX13_findVerdicts_62 : decode cX13_findVerdicts 62 = .ok (.bipush 10, 2) := by decide +kernel
theorem dX13_findVerdicts_64 : decode cX13_findVerdicts 64 = .ok (.iload_n 1, 1) := by decide +kernel
theorem dX13_findVerdicts_65 : decode cX13_findVerdicts 65 = .ok (.imul, 1) := by decide +kernel
theorem dX13_findVerdicts_66 : decode cX13_findVerdicts 66 = .ok (.iload_n 2, 1) := by decide +kernel
theorem dX13_findVerdicts_67 : decode cX13_findVerdicts 67 = .ok (.iadd, 1) := by decide +kernel
theorem dX13_findVerdicts_68 : decode cX13_findVerdicts 68 = .ok (.aload_n 0, 1) := by decide +kernel
theorem dX13_findVerdicts_69 : decode cX13_findVerdicts 69 = .ok (.aload_n 0, 1) := by decide +kernel
theorem dX13_findVerdicts_70 : decode cX13_findVerdicts 70 = .ok (.getfield 277, 3) := by decide +kernel
theorem dX13_findVerdicts_73 : decode cX13_findVerdicts 73 = .ok (.iload_n 2, 1) := by decide +kernel
theorem dX13_findVerdicts_74 : decode cX13_findVerdicts 74 = .ok (.iaload, 1) := by decide +kernel
theorem dX13_findVerdicts_75 : decode cX13_findVerdicts 75 = .ok (.aload_n 0, 1) := by decide +kernel
theorem dX13_findVerdicts_76 : decode cX13_findVerdicts 76 = .ok (.getfield 280, 3) := by decide +kernel
theorem dX13_findVerdicts_79 : decode cX13_findVerdicts 79 = .ok (.iload_n 2, 1) := by decide +kernel
theorem dX13_findVerdicts_80 : decode cX13_findVerdicts 80 = .ok (.iaload, 1) := by decide +kernel
theorem dX13_findVerdicts_81 : decode cX13_findVerdicts 81 = .ok (.aload_n 0, 1) := by decide +kernel
theorem dX13_findVerdicts_82 : decode cX13_findVerdicts 82 = .ok (.getfield 283, 3) := by decide +kernel
theorem dX13_findVerdicts_85 : decode cX13_findVerdicts 85 = .ok (.iload_n 2, 1) := by decide +kernel
theorem dX13_findVerdicts_86 : decode cX13_findVerdicts 86 = .ok (.iaload, 1) := by decide +kernel
theorem dX13_findVerdicts_87 : decode cX13_findVerdicts 87 = .ok (.aload_n 0, 1) := by decide +kernel
theorem dX13_findVerdicts_88 : decode cX13_findVerdicts 88 = .ok (.getfield 286, 3) := by decide +kernel
theorem dX13_findVerdicts_91 : decode cX13_findVerdicts 91 = .ok (.iload_n 2, 1) := by decide +kernel
theorem dX13_findVerdicts_92 : decode cX13_findVerdicts 92 = .ok (.iaload, 1) := by decide +kernel
theorem dX13_findVerdicts_93 : decode cX13_findVerdicts 93 = .ok (.aload_n 0, 1) := by decide +kernel
theorem dX13_findVerdicts_94 : decode cX13_findVerdicts 94 = .ok (.getfield 199, 3) := by decide +kernel
theorem dX13_findVerdicts_97 : decode cX13_findVerdicts 97 = .ok (.iconst 3, 1) := by decide +kernel
theorem dX13_findVerdicts_98 : decode cX13_findVerdicts 98 = .ok (.iaload, 1) := by decide +kernel
theorem dX13_findVerdicts_99 : decode cX13_findVerdicts 99 = .ok (.iload_n 1, 1) := by decide +kernel
theorem dX13_findVerdicts_100 : decode cX13_findVerdicts 100 = .ok (.iconst 4, 1) := by decide +kernel
theorem dX13_findVerdicts_101 : decode cX13_findVerdicts 101 = .ok (.idiv, 1) := by decide +kernel
theorem dX13_findVerdicts_102 : decode cX13_findVerdicts 102 = .ok (.iadd, 1) := by decide +kernel
theorem dX13_findVerdicts_103 : decode cX13_findVerdicts 103 = .ok (.aload_n 0, 1) := by decide +kernel
theorem dX13_findVerdicts_104 : decode cX13_findVerdicts 104 = .ok (.getfield 199, 3) := by decide +kernel
theorem dX13_findVerdicts_107 : decode cX13_findVerdicts 107 = .ok (.iconst 5, 1) := by decide +kernel
theorem dX13_findVerdicts_108 : decode cX13_findVerdicts 108 = .ok (.iaload, 1) := by decide +kernel
theorem dX13_findVerdicts_109 : decode cX13_findVerdicts 109 = .ok (.iload_n 1, 1) := by decide +kernel
theorem dX13_findVerdicts_110 : decode cX13_findVerdicts 110 = .ok (.iconst 4, 1) := by decide +kernel
theorem dX13_findVerdicts_111 : decode cX13_findVerdicts 111 = .ok (.irem, 1) := by decide +kernel
theorem dX13_findVerdicts_112 : decode cX13_findVerdicts 112 = .ok (.iadd, 1) := by decide +kernel
theorem dX13_findVerdicts_113 : decode cX13_findVerdicts 113 = .ok (.iconst (-1), 1) := by decide +kernel
theorem dX13_findVerdicts_114 : decode cX13_findVerdicts 114 = .ok (.invokevirtual 415, 3) := by decide +kernel
theorem dX13_findVerdicts_117 : decode cX13_findVerdicts 117 = .ok (.iastore, 1) := by decide +kernel
theorem dX13_findVerdicts_118 : decode cX13_findVerdicts 118 = .ok (.iinc 2 1, 3) := by decide +kernel
theorem dX13_findVerdicts_121 : decode cX13_findVerdicts 121 = .ok (.goto (-107), 3) := by decide +kernel
theorem dX13_findVerdicts_124 : decode cX13_findVerdicts 124 = .ok (.iinc 1 1, 3) := by decide +kernel
theorem dX13_findVerdicts_127 : decode cX13_findVerdicts 127 = .ok (.goto (-121), 3) := by decide +kernel
theorem dX13_findVerdicts_130 : decode cX13_findVerdicts 130 = .ok (.aload_n 0, 1) := by decide +kernel
theorem dX13_findVerdicts_131 : decode cX13_findVerdicts 131 = .ok (.invokevirtual 419, 3) := by decide +kernel
theorem dX13_findVerdicts_134 : decode cX13_findVerdicts 134 = .ok (.return_, 1) := by decide +kernel
set_option maxRecDepth 20000 in
theorem ggX13_findVerdicts_X13_go : GoodIn wsX13_findVerdicts wsX13_go := goodIn_r _ [25, 9, 26, 27, 28, 2, 29, 30, 31, 32, 33, 34, 35, 36, 3, 37, 38, 39, 13, 40, 41, 42, 43, 44, 45, 46, 47, 48, 49, 50, 51, 52, 53, 54, 55, 56, 57, 58, 59, 60, 61, 62, 63, 64, 65, 66, 67, 68, 69, 70, 71, 72, 73, 74, 75, 76, 77, 78, 79, 80, 81, 82, 83, 88, 89, 90, 91, 92, 93, 94, 95, 96, 97, 98, 99, 100, 101, 102, 103, 104, 105, 106, 107, 108, 109, 110, 111, 112, 113, 114, 115, 116, 117, 118, 119, 120, 121, 122, 123, 124, 125, 126, 127, 128, 129, 130, 131, 132, 133, 134, 135, 136, 137, 138, 139, 140, 141, 142, 143, 144, 145, 146, 147, 148, 149, 150, 151, 152, 153, 154, 155, 156, 157, 158, 159, 160] rfl (by decide +kernel)
set_option maxRecDepth 20000 in
theorem gX13_findVerdicts_X13_go : GoodIn wsX13_findVerdicts (wsV RX13 415 RX13 yX13_go wsX13_go) := goodIn_app (goodIn_of _ (by decide +kernel)) ggX13_findVerdicts_X13_go
set_option maxRecDepth 20000 in
theorem ggX13_findVerdicts_X13_isPair : GoodIn wsX13_findVerdicts wsX13_isPair := goodIn_r _ [21, 9, 88, 89, 90, 91, 92, 93, 94, 95, 96, 97, 98, 99, 100, 101, 102, 103, 104, 105, 106, 107, 108, 109, 110, 111, 112, 113, 114, 115, 116, 117, 118, 119, 120, 121, 122, 123, 124, 125, 126, 127, 128, 129, 130, 131, 132, 133, 134, 135, 136, 137, 138, 139, 140, 141, 142, 143, 144, 145, 146, 147, 148, 149, 150, 151, 152, 153, 154, 155, 156, 157, 158, 159, 160] rfl (by decide +kernel)
set_option maxRecDepth 20000 in
theorem gX13_findVerdicts_X13_isPair : GoodIn wsX13_findVerdicts (wsV RX13 502 RX13 yX13_isPair wsX13_isPair) := goodIn_app (goodIn_of _ (by decide +kernel)) ggX13_findVerdicts_X13_isPair
set_option maxRecDepth 20000 in
theorem ggX13_findVerdicts_X13_putBack : GoodIn wsX13_findVerdicts wsX13_putBack := goodIn_r _ [87, 16, 2, 15, 17, 3, 88, 89, 90, 91, 92, 93, 94, 95, 96, 97, 98, 99, 100, 101, 102, 103, 104, 105, 106, 107, 108, 109, 110, 111, 112, 113, 114, 115, 116, 117, 118, 119, 120, 121, 122, 123, 124, 125, 126, 127, 128, 129, 130, 131, 132, 133, 134, 135, 136, 137, 138, 139, 140, 141, 142, 143, 144, 145, 146, 147, 148, 149, 150, 151, 152, 153, 154, 155, 156, 157, 158, 159, 160] rfl (by decide +kernel)
set_option maxRecDepth 20000 in
theorem gX13_findVerdicts_X13_putBack : GoodIn wsX13_findVerdicts (wsV RX13 419 RX13 yX13_putBack wsX13_putBack) := goodIn_app (goodIn_of _ (by decide +kernel)) ggX13_findVerdicts_X13_putBack
set_option maxRecDepth 20000 in
theorem ggX13_findVerdicts_X13_putBy : GoodIn wsX13_findVerdicts wsX13_putBy := goodIn_r _ [14, 15, 16, 2, 17, 3, 88, 89, 90, 91, 92, 93, 94, 95, 96, 97, 98, 99, 100, 101, 102, 103, 104, 105, 106, 107, 108, 109, 110, 111, 112, 113, 114, 115, 116, 117, 118, 119, 120, 121, 122, 123, 124, 125, 126, 127, 128, 129, 130, 131, 132, 133, 134, 135, 136, 137, 138, 139, 140, 141, 142, 143, 144, 145, 146, 147, 148, 149, 150, 151, 152, 153, 154, 155, 156, 157, 158, 159, 160] rfl (by decide +kernel)
set_option maxRecDepth 20000 in
theorem gX13_findVerdicts_X13_putBy : GoodIn wsX13_findVerdicts (wsV RX13 412 RX13 yX13_putBy wsX13_putBy) := goodIn_app (goodIn_of _ (by decide +kernel)) ggX13_findVerdicts_X13_putBy
set_option maxHeartbeats 4000000 in
set_option maxRecDepth 100000 in
theorem S_X13_findVerdicts (l : Launch) (D : va_G) (K : Nat → ClassId) (a : Nat → Nat) (G : gS) (wf : yW3 G) (dl : ((G 0 32).toInt ≤ 6)) (hI : yI G) (sz : Nat) : Kv l yX13_findVerdicts wsX13_findVerdicts 6 177 0 0 D [.ref (a 0)] (yW K a G) (tK K) sz (fun (G' : gS) => (yI G') ∧ (gu_un ycd [29, 33, 36, 37, 1300, 1400, 1500, 1600, 1700, 1800, 1900, 2000, 2100, 4500] G G') ∧ (yNh G G') ∧ (((G' 0 32).toInt = (G 0 32).toInt))) (fun (G' : gS) => (yW K a G')) (fun _ => (tK K)) := by
  unfold Kv
  refine g_ofW (cc := cX13_findVerdicts) (lv := [(0, .ref (a 0))]) (by decide) rfl (Nat.le_of_ble_eq_true rfl) rfl ?_
  intro p e s m args below meth c A Q hA hQ F hr hnm
  have hts := F.2.2.2.2.1
  have w_0 : (Cond.fieldLink RX13 362 "QuietCutModel" "wear" "I").before args s = true := hts _ (List.mem_of_getElem? (i := 3) rfl)
  have i_X13 : ∀ w ∈ u_ws RX13 TX13 73, w ∈ wsX13_findVerdicts := fun _ h => List.mem_cons_of_mem _ (List.mem_append_right _ h)
  have w_1 : (Cond.fieldLink RX13 307 "QuietCutModel" "verdictOf" "[I").before args s = true := hts _ (List.mem_of_getElem? (i := 4) rfl)
  have w_2 : (Cond.fieldLink RX13 277 "QuietCutModel" "offerRing" "[I").before args s = true := hts _ (List.mem_of_getElem? (i := 5) rfl)
  have w_3 : (Cond.fieldLink RX13 280 "QuietCutModel" "offerSpeed" "[I").before args s = true := hts _ (List.mem_of_getElem? (i := 6) rfl)
  have w_4 : (Cond.fieldLink RX13 283 "QuietCutModel" "offerFeed" "[I").before args s = true := hts _ (List.mem_of_getElem? (i := 7) rfl)
  have w_5 : (Cond.fieldLink RX13 286 "QuietCutModel" "offerTurns" "[I").before args s = true := hts _ (List.mem_of_getElem? (i := 8) rfl)
  have w_6 : (Cond.fieldLink RX13 199 "QuietCutModel" "rule" "[I").before args s = true := hts _ (List.mem_of_getElem? (i := 9) rfl)
  have w_7 : (Cond.fieldLink RX13 214 "QuietCutModel" "height" "[I").before args s = true := hts _ (List.mem_of_getElem? (i := 2) rfl)
  have w_8 : (Cond.fieldLink RX13 338 "QuietCutModel" "offers" "I").before args s = true := hts _ (List.mem_of_getElem? (i := 1) rfl)
  have b1 : (0 : Int) ≤ (G 0 32).toInt ∧ (G 0 32).toInt ≤ 7 := hI 0 32
  have b2 : (4 : Int) ≤ (G 3 0).toInt ∧ (G 3 0).toInt ≤ 16 := hI 3 0
  have b3 : (0 : Int) ≤ (G 3 3).toInt ∧ (G 3 3).toInt ≤ 200 := hI 3 3
  have b4 : (0 : Int) ≤ (G 3 5).toInt ∧ (G 3 5).toInt ≤ 200 := hI 3 5
  have J_6 : ∀ (fuel : Nat) (x6_1 : Int32) (Gj6 : gS), (2147483647 - x6_1.toInt).toNat < fuel → (0 ≤ x6_1.toInt ∧ x6_1.toInt ≤ 16) → (yI Gj6) → (gu_un ycd [29, 33, 36, 37, 1300, 1400, 1500, 1600, 1700, 1800, 1900, 2000, 2100, 4500] G Gj6) → ((yNd (G 0 32).toInt G Gj6 ∧ yKe G Gj6 (G 0 32).toInt)) → (((Gj6 0 32).toInt = (G 0 32).toInt + 1)) → gG p l e (gR 6 0 0 177) s m args below meth c D A 4 Q 0 0 (yW K a Gj6) (tK K) [(0, .ref (a 0)), (1, .int x6_1)] 6 [] := by
    intro fuel
    induction fuel with
    | zero => intro x6_1 Gj6 hm; exact absurd hm (Nat.not_lt_zero _)
    | succ fuel_6 ih_6 =>
      intro x6_1 Gj6 hm_6 h6_1 jI6 jU6 nd6 dc_6
      have J_124 : ∀  (Gj124 : gS), (0 ≤ x6_1.toInt ∧ x6_1.toInt ≤ 15) → (yI Gj124) → (gu_un ycd [29, 36, 37, 1300, 1400, 1500, 1600, 1700, 1800, 2100, 4500] Gj6 Gj124) → ((yNd (G 0 32).toInt G Gj124 ∧ yKe G Gj124 (G 0 32).toInt)) → (((Gj6 0 32).toInt = (G 0 32).toInt + 1)) → gG p l e (gR 6 0 0 177) s m args below meth c D A 4 Q 0 0 (yW K a Gj124) (tK K) [(0, .ref (a 0)), (1, .int x6_1)] 124 [] := by
        intro Gj124 k124_1 jI124 jU124 nd124 dc_124
        refine u_iinc F (fun v_ => [(1, .int v_), (0, .ref (a 0))]) dX13_findVerdicts_124 (j := 1) rfl x6_1.toInt 1 rfl rfl (by omega) (by omega) (by decide) (fun _ => rfl) (fun y5 ey5 => ?_)
        refine g_goto F 6 dX13_findVerdicts_127 (by decide) ?_
        refine g_locals [(0, .ref (a 0)), (1, .int y5)] [1, 0] rfl ?_
        have b6 : (0 : Int) ≤ (Gj6 0 32).toInt ∧ (Gj6 0 32).toInt ≤ 7 := jI6 0 32
        exact ih_6 y5 Gj124 (by omega) (by have h9 := ti_rng y5; omega) jI124 (gu_un.tr (gu_un.tr gu_un.rf (gu_un.su jU6 rfl)) (gu_un.su jU124 rfl)) (⟨yNd.tr nd124.1 yNd.rf (Int.le_refl _), yKe.nd (d' := (G 0 32).toInt + 1) nd124.2 yNd.rf (by omega) (by omega)⟩) (by have e9_0_32 : Gj124 0 32 = (Gj6 0 32) := jU124 0 32 (by decide); (try simp only [e9_0_32, true_and, and_true]) <;> (first | omega | (simp only [Int32.reduceToInt, true_and, and_true, ne_eq, not_true_eq_false, false_and, or_false, false_or, true_or, or_true, false_implies] <;> omega)))
      have J_14 : ∀ (fuel : Nat) (x14_2 : Int32) (Gj14 : gS), (2147483647 - x14_2.toInt).toNat < fuel → (0 ≤ x6_1.toInt ∧ x6_1.toInt ≤ 15) → (0 ≤ x14_2.toInt ∧ x14_2.toInt ≤ 10) → (yI Gj14) → (gu_un ycd [29, 36, 37, 1300, 1400, 1500, 1600, 1700, 1800, 2100, 4500] Gj6 Gj14) → ((yNd (G 0 32).toInt G Gj14 ∧ yKe G Gj14 (G 0 32).toInt)) → (((Gj6 0 32).toInt = (G 0 32).toInt + 1)) → gG p l e (gR 6 0 0 177) s m args below meth c D A 4 Q 0 0 (yW K a Gj14) (tK K) [(0, .ref (a 0)), (1, .int x6_1), (2, .int x14_2)] 14 [] := by
        intro fuel
        induction fuel with
        | zero => intro x14_2 Gj14 hm; exact absurd hm (Nat.not_lt_zero _)
        | succ fuel_14 ih_14 =>
          intro x14_2 Gj14 hm_14 k14_1 h14_2 jI14 jU14 nd14 dc_14
          have J_32 : ∀ (fuel : Nat) (x32_3 : Int32) (Gj32 : gS), (2147483647 - x32_3.toInt).toNat < fuel → (0 ≤ x14_2.toInt ∧ x14_2.toInt ≤ 9) → (0 ≤ x32_3.toInt ∧ x32_3.toInt ≤ 96) → (yI Gj32) → (gu_un ycd [1400] Gj14 Gj32) → (∀ q : Nat, (q : Int) < x32_3.toInt → (Gj32 14 q).toInt = 1000) → ((yNd (G 0 32).toInt G Gj32 ∧ yKe G Gj32 (G 0 32).toInt)) → (((Gj6 0 32).toInt = (G 0 32).toInt + 1)) → gG p l e (gR 6 0 0 177) s m args below meth c D A 4 Q 0 0 (yW K a Gj32) (tK K) [(0, .ref (a 0)), (1, .int x6_1), (2, .int x14_2), (3, .int x32_3)] 32 [] := by
            intro fuel
            induction fuel with
            | zero => intro x32_3 Gj32 hm; exact absurd hm (Nat.not_lt_zero _)
            | succ fuel_32 ih_32 =>
              intro x32_3 Gj32 hm_32 k32_2 h32_3 jI32 jU32 fv nd32 dc_32
              refine g_iload_n F 3 dX13_findVerdicts_32 rfl rfl ?_
              refine g_bipush F 96 dX13_findVerdicts_33 (by decide) ?_
              refine v_icmp_ge F 53 dX13_findVerdicts_35 (by decide) x32_3.toInt 96 rfl rfl (fun c7 => ?_) (fun c7 => ?_)
              · refine g_aload_n F 0 dX13_findVerdicts_53 rfl rfl ?_
                refine g_iconst F 0 dX13_findVerdicts_54 (by decide) ?_
                refine yp_0_28 F i_X13 w_0 dX13_findVerdicts_55 ?_
                refine g_aload_n F 0 dX13_findVerdicts_58 rfl rfl ?_
                refine yg_0_69 F i_X13 w_1 dX13_findVerdicts_59 ?_
                refine g_bipush F 10 dX13_findVerdicts_62 (by decide) ?_
                refine g_iload_n F 1 dX13_findVerdicts_64 rfl rfl ?_
                refine u_imul F dX13_findVerdicts_65 10 x6_1.toInt rfl rfl (by omega) (by omega) (fun y8 ey8 => ?_)
                refine g_iload_n F 2 dX13_findVerdicts_66 rfl rfl ?_
                refine u_iadd F dX13_findVerdicts_67 y8.toInt x14_2.toInt rfl rfl (by omega) (by omega) (fun y9 ey9 => ?_)
                refine g_aload_n F 0 dX13_findVerdicts_68 rfl rfl ?_
                refine g_aload_n F 0 dX13_findVerdicts_69 rfl rfl ?_
                refine yg_0_59 F i_X13 w_2 dX13_findVerdicts_70 ?_
                refine g_iload_n F 2 dX13_findVerdicts_73 rfl rfl ?_
                refine u_iald F 35 0 yc_35 rfl x14_2.toInt rfl (by omega) (by omega) dX13_findVerdicts_74 (fun z => (0 : Int) ≤ z.toInt ∧ z.toInt ≤ 5) (fun k_ => (show yI (gu_up Gj32 0 28 0) from (gu_I.up (j := 0) (k := 28) (v := 0) jI32 (show (0 : Int) ≤ (0 : Int32).toInt by decide) (show (0 : Int32).toInt ≤ 30000 by decide))) 35 k_) (fun y10 by10 => ?_)
                refine g_aload_n F 0 dX13_findVerdicts_75 rfl rfl ?_
                refine yg_0_60 F i_X13 w_3 dX13_findVerdicts_76 ?_
                refine g_iload_n F 2 dX13_findVerdicts_79 rfl rfl ?_
                refine u_iald F 36 0 yc_36 rfl x14_2.toInt rfl (by omega) (by omega) dX13_findVerdicts_80 (fun z => (0 : Int) ≤ z.toInt ∧ z.toInt ≤ 9) (fun k_ => (show yI (gu_up Gj32 0 28 0) from (gu_I.up (j := 0) (k := 28) (v := 0) jI32 (show (0 : Int) ≤ (0 : Int32).toInt by decide) (show (0 : Int32).toInt ≤ 30000 by decide))) 36 k_) (fun y11 by11 => ?_)
                refine g_aload_n F 0 dX13_findVerdicts_81 rfl rfl ?_
                refine yg_0_61 F i_X13 w_4 dX13_findVerdicts_82 ?_
                refine g_iload_n F 2 dX13_findVerdicts_85 rfl rfl ?_
                refine u_iald F 37 0 yc_37 rfl x14_2.toInt rfl (by omega) (by omega) dX13_findVerdicts_86 (fun z => (0 : Int) ≤ z.toInt ∧ z.toInt ≤ 20) (fun k_ => (show yI (gu_up Gj32 0 28 0) from (gu_I.up (j := 0) (k := 28) (v := 0) jI32 (show (0 : Int) ≤ (0 : Int32).toInt by decide) (show (0 : Int32).toInt ≤ 30000 by decide))) 37 k_) (fun y12 by12 => ?_)
                refine g_aload_n F 0 dX13_findVerdicts_87 rfl rfl ?_
                refine yg_0_62 F i_X13 w_5 dX13_findVerdicts_88 ?_
                refine g_iload_n F 2 dX13_findVerdicts_91 rfl rfl ?_
                refine u_iald F 38 0 yc_38 rfl x14_2.toInt rfl (by omega) (by omega) dX13_findVerdicts_92 (fun z => (0 : Int) ≤ z.toInt ∧ z.toInt ≤ 12) (fun k_ => (show yI (gu_up Gj32 0 28 0) from (gu_I.up (j := 0) (k := 28) (v := 0) jI32 (show (0 : Int) ≤ (0 : Int32).toInt by decide) (show (0 : Int32).toInt ≤ 30000 by decide))) 38 k_) (fun y13 by13 => ?_)
                refine g_aload_n F 0 dX13_findVerdicts_93 rfl rfl ?_
                refine yg_0_10 F i_X13 w_6 dX13_findVerdicts_94 ?_
                refine g_iconst F 3 dX13_findVerdicts_97 (by decide) ?_
                refine u1_iald F 3 0 yc_3 rfl 3 rfl (by decide) (by decide) dX13_findVerdicts_98 (G 3 3) ((jU32 3 3 (by decide)).trans ((jU14 3 3 (by decide)).trans (jU6 3 3 (by decide)))) ?_
                refine g_iload_n F 1 dX13_findVerdicts_99 rfl rfl ?_
                refine g_iconst F 4 dX13_findVerdicts_100 (by decide) ?_
                refine u_idiv F dX13_findVerdicts_101 (by decide) x6_1.toInt 4 rfl rfl (by omega) (by omega) (fun y14 ey14 => ?_)
                refine u_iadd F dX13_findVerdicts_102 (G 3 3).toInt y14.toInt rfl rfl (by omega) (by omega) (fun y15 ey15 => ?_)
                refine g_aload_n F 0 dX13_findVerdicts_103 rfl rfl ?_
                refine yg_0_10 F i_X13 w_6 dX13_findVerdicts_104 ?_
                refine g_iconst F 5 dX13_findVerdicts_107 (by decide) ?_
                refine u1_iald F 3 0 yc_3 rfl 5 rfl (by decide) (by decide) dX13_findVerdicts_108 (G 3 5) ((jU32 3 5 (by decide)).trans ((jU14 3 5 (by decide)).trans (jU6 3 5 (by decide)))) ?_
                refine g_iload_n F 1 dX13_findVerdicts_109 rfl rfl ?_
                refine g_iconst F 4 dX13_findVerdicts_110 (by decide) ?_
                refine u_irem F dX13_findVerdicts_111 (by decide) x6_1.toInt 4 rfl rfl (by omega) (by omega) (fun y16 ey16 => ?_)
                refine u_iadd F dX13_findVerdicts_112 (G 3 5).toInt y16.toInt rfl rfl (by omega) (by omega) (fun y17 ey17 => ?_)
                refine g_iconst F (-1) dX13_findVerdicts_113 (by decide) ?_
                refine u_callVi (k := 0) (n := 0) (b := a 0) (As := [.int y10, .int y11, .int y12, .int y13, .int y15, .int y17, .int (-1)]) (st := [.int y9, .ref (a 45)]) F (fun sz => S_X13_go l D K a (gu_up Gj32 0 28 0) y10 y10.toInt y11 y11.toInt y12 y12.toInt y13 y13.toInt y15 y15.toInt y17 y17.toInt (-1) (-1) rfl (by omega) rfl (by omega) rfl (by omega) rfl (by omega) rfl (by omega) rfl (by omega) rfl (yW3.un wf (show gu_un ycd [29, 33, 36, 37, 1300, 1400, 1500, 1600, 1700, 1800, 1900, 2000, 2100, 4500] G (gu_up Gj32 0 28 0) from (gu_un.up (j := 0) (k := 28) (v := 0) (gu_un.tr (gu_un.tr (gu_un.tr gu_un.rf (gu_un.su jU6 rfl)) (gu_un.su jU14 rfl)) (gu_un.su jU32 rfl)) (show (29 : Nat) ∈ ([29, 33, 36, 37, 1300, 1400, 1500, 1600, 1700, 1800, 1900, 2000, 2100, 4500] : List Nat) by decide))) rfl) (by have hm := psMx_c (h := (gu_up Gj32 0 28 0) 14) (r := y10.toInt) (s := ((gu_up Gj32 0 28 0) 3 0).toInt) (c := 1000) (fun q hq => fv q (by omega)) (by omega) (by omega) (by have e9_3_0 : (gu_up Gj32 0 28 0) 3 0 = (G 3 0) := (jU32 3 0 (by decide)).trans ((jU14 3 0 (by decide)).trans (jU6 3 0 (by decide))); (try simp only [e9_3_0, true_and, and_true]) <;> omega) (by have e9_3_0 : (gu_up Gj32 0 28 0) 3 0 = (G 3 0) := (jU32 3 0 (by decide)).trans ((jU14 3 0 (by decide)).trans (jU6 3 0 (by decide))); (try simp only [e9_3_0, true_and, and_true]) <;> omega); rw [hm]; have m0 := Int.mul_nonneg (show (0 : Int) ≤ y12.toInt by omega) (show (0 : Int) ≤ y13.toInt by omega); have m1 : y12.toInt * y13.toInt ≤ 20 * 12 := Int.mul_le_mul (by omega) (by omega) (by omega) (by omega); omega) (gu_I.up (j := 0) (k := 28) (v := 0) jI32 (show (0 : Int) ≤ (0 : Int32).toInt by decide) (show (0 : Int32).toInt ≤ 30000 by decide)) sz) (cwV 7 hts gX13_findVerdicts_X13_go rfl rfl rfl (by decide +kernel) ⟨Nat.le_of_ble_eq_true rfl, Nat.le_of_ble_eq_true rfl⟩) rfl 0 yc_0 rfl (Nat.le_of_ble_eq_true rfl) ⟨Nat.zero_le _, Nat.zero_le _⟩ dX13_findVerdicts_114 (fun r18 G20 hw19 => ?_)
                have hI21 : yI G20 := hw19.1
                have hU22 : gu_un ycd [29, 36, 37, 1300, 1400, 1500, 1600, 1700, 1800, 2100] (gu_up Gj32 0 28 0) G20 := hw19.2.1
                have hp23 := hw19.2.2
                have q24 : yOut (gu_up Gj32 0 28 0) y10.toInt (-1) y12 y11 y13 y15 y17 G20 r18.toInt := hp23.2.1
                have q25 : yOt y10.toInt (G 3 0).toInt (gu_up Gj32 0 28 0) G20 := by have h9 := hp23.2.2.1; (try simp only [(show (gu_up Gj32 0 28 0) 3 0 = (G 3 0) from (jU32 3 0 (by decide)).trans ((jU14 3 0 (by decide)).trans (jU6 3 0 (by decide))))] at h9); first | exact h9 | omega
                have q26 : ((-1 : Int) = -1 → G20 15 = (gu_up Gj32 0 28 0) 15 ∧ G20 16 = (gu_up Gj32 0 28 0) 16 ∧ G20 17 = (gu_up Gj32 0 28 0) 17 ∧ G20 18 = (gu_up Gj32 0 28 0) 18) := hp23.2.2.2
                have rg27 := hp23.1
                clear hp23 hw19
                refine u_iast F 45 0 yc_45 rfl y9.toInt rfl (by omega) (by omega) (yW K a (gu_up G20 45 (y9.toInt).toNat r18)) (ys_45 _) dX13_findVerdicts_117 ?_
                refine u_iinc F (fun v_ => [(2, .int v_), (0, .ref (a 0)), (1, .int x6_1), (3, .int x32_3)]) dX13_findVerdicts_118 (j := 2) rfl x14_2.toInt 1 rfl rfl (by omega) (by omega) (by decide) (fun _ => rfl) (fun y28 ey28 => ?_)
                refine g_goto F 14 dX13_findVerdicts_121 (by decide) ?_
                refine g_locals [(0, .ref (a 0)), (1, .int x6_1), (2, .int y28)] [1, 2, 0] rfl ?_
                have b29 : (0 : Int) ≤ (Gj6 0 32).toInt ∧ (Gj6 0 32).toInt ≤ 7 := jI6 0 32
                exact ih_14 y28 (gu_up G20 45 (y9.toInt).toNat r18) (by omega) (by have h9 := ti_rng x6_1; omega) (by have h9 := ti_rng y28; omega) (gu_I.up (j := 45) (k := (y9.toInt).toNat) (v := r18) hI21 (ti_rng _).1 (ti_rng _).2) (gu_un.up (j := 45) (k := (y9.toInt).toNat) (v := r18) (gu_un.tr (gu_un.up (j := 0) (k := 28) (v := 0) (gu_un.tr (gu_un.tr gu_un.rf (gu_un.su jU14 rfl)) (gu_un.su jU32 rfl)) (show (29 : Nat) ∈ ([29, 36, 37, 1300, 1400, 1500, 1600, 1700, 1800, 2100, 4500] : List Nat) by decide)) (gu_un.su hU22 rfl)) (show (4500 : Nat) ∈ ([29, 36, 37, 1300, 1400, 1500, 1600, 1700, 1800, 2100, 4500] : List Nat) by decide)) (⟨yNd.tr nd32.1 (yNd.tr (yNd.tr (yNd.tr yNd.rf (yNd.un (show gu_un ycd [29] Gj32 (gu_up Gj32 0 28 0) from (gu_un.up (j := 0) (k := 28) (v := 0) gu_un.rf (show (29 : Nat) ∈ ([29] : List Nat) by decide))) rfl) (Int.le_refl _)) (show yNd _ (gu_up Gj32 0 28 0) G20 from (yNd.go (q26 rfl) hU22 rfl)) (Int.le_refl _)) (yNd.un (show gu_un ycd [4500] G20 (gu_up G20 45 (y9.toInt).toNat r18) from (gu_un.up (j := 45) (k := (y9.toInt).toNat) (v := r18) gu_un.rf (show (4500 : Nat) ∈ ([4500] : List Nat) by decide))) rfl) (Int.le_refl _)) (Int.le_refl _), yKe.nd (d' := (G 0 32).toInt + 1) nd32.2 (yNd.tr (yNd.tr (yNd.tr yNd.rf (yNd.un (show gu_un ycd [29] Gj32 (gu_up Gj32 0 28 0) from (gu_un.up (j := 0) (k := 28) (v := 0) gu_un.rf (show (29 : Nat) ∈ ([29] : List Nat) by decide))) rfl) (Int.le_refl _)) (show yNd _ (gu_up Gj32 0 28 0) G20 from (yNd.go (q26 rfl) hU22 rfl)) (Int.le_refl _)) (yNd.un (show gu_un ycd [4500] G20 (gu_up G20 45 (y9.toInt).toNat r18) from (gu_un.up (j := 45) (k := (y9.toInt).toNat) (v := r18) gu_un.rf (show (4500 : Nat) ∈ ([4500] : List Nat) by decide))) rfl) (Int.le_refl _)) (by omega) (by omega)⟩) (by have e9_0_32 : (gu_up G20 45 (y9.toInt).toNat r18) 0 32 = (Gj6 0 32) := (hU22 0 32 (by decide)).trans ((jU32 0 32 (by decide)).trans (jU14 0 32 (by decide))); (try simp only [e9_0_32, true_and, and_true]) <;> (first | omega | (simp only [Int32.reduceToInt, true_and, and_true, ne_eq, not_true_eq_false, false_and, or_false, false_or, true_or, or_true, false_implies] <;> omega)))
              · refine g_aload_n F 0 dX13_findVerdicts_38 rfl rfl ?_
                refine yg_0_23 F i_X13 w_7 dX13_findVerdicts_39 ?_
                refine g_iload_n F 3 dX13_findVerdicts_42 rfl rfl ?_
                refine g_sipush F 1000 dX13_findVerdicts_43 (by decide) ?_
                refine u_iast F 14 0 yc_14 rfl x32_3.toInt rfl (by omega) (by omega) (yW K a (gu_up Gj32 14 (x32_3.toInt).toNat 1000)) (ys_14 _) dX13_findVerdicts_46 ?_
                refine u_iinc F (fun v_ => [(3, .int v_), (0, .ref (a 0)), (1, .int x6_1), (2, .int x14_2)]) dX13_findVerdicts_47 (j := 3) rfl x32_3.toInt 1 rfl rfl (by omega) (by omega) (by decide) (fun _ => rfl) (fun y30 ey30 => ?_)
                refine g_goto F 32 dX13_findVerdicts_50 (by decide) ?_
                refine g_locals [(0, .ref (a 0)), (1, .int x6_1), (2, .int x14_2), (3, .int y30)] [1, 2, 3, 0] rfl ?_
                have b31 : (0 : Int) ≤ (Gj6 0 32).toInt ∧ (Gj6 0 32).toInt ≤ 7 := jI6 0 32
                exact ih_32 y30 (gu_up Gj32 14 (x32_3.toInt).toNat 1000) (by omega) (by have h9 := ti_rng x14_2; omega) (by have h9 := ti_rng y30; omega) (gu_I.up (j := 14) (k := (x32_3.toInt).toNat) (v := 1000) jI32 (show ((-9998) : Int) ≤ (1000 : Int32).toInt by decide) (show (1000 : Int32).toInt ≤ 5000 by decide)) (gu_un.up (j := 14) (k := (x32_3.toInt).toNat) (v := 1000) (gu_un.tr gu_un.rf (gu_un.su jU32 rfl)) (show (1400 : Nat) ∈ ([1400] : List Nat) by decide)) (fun q h1 => by have h2 := pfill_1 (f := fun q => Int32.ofInt (Gj32 14 q).toInt) (v := 1000) (x := x32_3.toInt) (by omega) (by omega) (fun q hq => by show Int32.ofInt (Gj32 14 q).toInt = 1000; rw [fv q hq]; rfl) q h1; by_cases e : q = (x32_3.toInt).toNat <;> first | (show (upd (Gj32 14) _ _ q).toInt = 1000; rw [show upd (Gj32 14) (x32_3.toInt).toNat 1000 q = 1000 from if_pos e]; rfl) | (show (upd (Gj32 14) _ _ q).toInt = 1000; rw [show upd (Gj32 14) (x32_3.toInt).toNat 1000 q = Gj32 14 q from if_neg e]; exact fv q (by omega))) (⟨yNd.tr nd32.1 (yNd.tr yNd.rf (yNd.un (show gu_un ycd [1400] Gj32 (gu_up Gj32 14 (x32_3.toInt).toNat 1000) from (gu_un.up (j := 14) (k := (x32_3.toInt).toNat) (v := 1000) gu_un.rf (show (1400 : Nat) ∈ ([1400] : List Nat) by decide))) rfl) (Int.le_refl _)) (Int.le_refl _), yKe.nd (d' := (G 0 32).toInt + 1) nd32.2 (yNd.tr yNd.rf (yNd.un (show gu_un ycd [1400] Gj32 (gu_up Gj32 14 (x32_3.toInt).toNat 1000) from (gu_un.up (j := 14) (k := (x32_3.toInt).toNat) (v := 1000) gu_un.rf (show (1400 : Nat) ∈ ([1400] : List Nat) by decide))) rfl) (Int.le_refl _)) (by omega) (by omega)⟩) (by have e9_0_32 : (gu_up Gj32 14 (x32_3.toInt).toNat 1000) 0 32 = (Gj6 0 32) := (jU32 0 32 (by decide)).trans (jU14 0 32 (by decide)); (try simp only [e9_0_32, true_and, and_true]) <;> (first | omega | (simp only [Int32.reduceToInt, true_and, and_true, ne_eq, not_true_eq_false, false_and, or_false, false_or, true_or, or_true, false_implies] <;> omega)))
          refine g_iload_n F 2 dX13_findVerdicts_14 rfl rfl ?_
          refine g_aload_n F 0 dX13_findVerdicts_15 rfl rfl ?_
          refine yg_0_55 F i_X13 w_8 dX13_findVerdicts_16 (G 0 55) ((jU14 0 55 (by decide)).trans (jU6 0 55 (by decide))) ?_
          have b32 : (0 : Int) ≤ (G 0 55).toInt ∧ (G 0 55).toInt ≤ 10 := hI 0 55
          refine v_icmp_ge F 124 dX13_findVerdicts_19 (by decide) x14_2.toInt (G 0 55).toInt rfl rfl (fun c33 => ?_) (fun c33 => ?_)
          · refine g_locals [(0, .ref (a 0)), (1, .int x6_1)] [0, 1] rfl ?_
            have b34 : (0 : Int) ≤ (Gj6 0 32).toInt ∧ (Gj6 0 32).toInt ≤ 7 := jI6 0 32
            exact J_124 Gj14 (by have h9 := ti_rng x6_1; omega) jI14 (gu_un.tr gu_un.rf (gu_un.su jU14 rfl)) (⟨yNd.tr nd14.1 yNd.rf (Int.le_refl _), yKe.nd (d' := (G 0 32).toInt + 1) nd14.2 yNd.rf (by omega) (by omega)⟩) (by have e9_0_32 : Gj14 0 32 = (Gj6 0 32) := jU14 0 32 (by decide); (try simp only [e9_0_32, true_and, and_true]) <;> (first | omega | (simp only [Int32.reduceToInt, true_and, and_true, ne_eq, not_true_eq_false, false_and, or_false, false_or, true_or, or_true, false_implies] <;> omega)))
          · refine g_aload_n F 0 dX13_findVerdicts_22 rfl rfl ?_
            refine g_iload_n F 1 dX13_findVerdicts_23 rfl rfl ?_
            refine u_callVi (k := 0) (n := 0) (b := a 0) (As := [.int x6_1]) (st := []) F (fun sz => S_X13_isPair l D K a Gj14 x6_1 x6_1.toInt rfl jI14 sz) (cwV 1 hts gX13_findVerdicts_X13_isPair rfl rfl rfl (by decide +kernel) ⟨Nat.le_of_ble_eq_true rfl, Nat.le_of_ble_eq_true rfl⟩) rfl 0 yc_0 rfl (Nat.le_of_ble_eq_true rfl) ⟨Nat.zero_le _, Nat.zero_le _⟩ dX13_findVerdicts_24 (fun r35 _ hw36 => ?_)
            have rg38 := hw36
            clear hw36
            refine v_if_eq F 124 dX13_findVerdicts_27 (by decide) r35.toInt rfl (fun c39 => ?_) (fun c39 => ?_)
            · refine g_locals [(0, .ref (a 0)), (1, .int x6_1)] [0, 1] rfl ?_
              have b40 : (0 : Int) ≤ (Gj6 0 32).toInt ∧ (Gj6 0 32).toInt ≤ 7 := jI6 0 32
              exact J_124 Gj14 (by have h9 := ti_rng x6_1; omega) jI14 (gu_un.tr gu_un.rf (gu_un.su jU14 rfl)) (⟨yNd.tr nd14.1 yNd.rf (Int.le_refl _), yKe.nd (d' := (G 0 32).toInt + 1) nd14.2 yNd.rf (by omega) (by omega)⟩) (by have e9_0_32 : Gj14 0 32 = (Gj6 0 32) := jU14 0 32 (by decide); (try simp only [e9_0_32, true_and, and_true]) <;> (first | omega | (simp only [Int32.reduceToInt, true_and, and_true, ne_eq, not_true_eq_false, false_and, or_false, false_or, true_or, or_true, false_implies] <;> omega)))
            · refine g_iconst F 0 dX13_findVerdicts_30 (by decide) ?_
              refine g_istore_n F [(3, .int 0), (0, .ref (a 0)), (1, .int x6_1), (2, .int x14_2)] dX13_findVerdicts_31 rfl (by decide) rfl ?_
              refine g_locals [(0, .ref (a 0)), (1, .int x6_1), (2, .int x14_2), (3, .int 0)] [1, 2, 3, 0] rfl ?_
              have b41 : (0 : Int) ≤ (Gj6 0 32).toInt ∧ (Gj6 0 32).toInt ≤ 7 := jI6 0 32
              exact J_32 _ 0 Gj14 (Nat.lt_succ_self _) (by have h9 := ti_rng x14_2; omega) (by decide) jI14 gu_un.rf (fun q h1 => by have h2 : (q : Int) < 0 := h1; omega) (⟨yNd.tr nd14.1 yNd.rf (Int.le_refl _), yKe.nd (d' := (G 0 32).toInt + 1) nd14.2 yNd.rf (by omega) (by omega)⟩) (by have e9_0_32 : Gj14 0 32 = (Gj6 0 32) := jU14 0 32 (by decide); (try simp only [e9_0_32, true_and, and_true]) <;> (first | omega | (simp only [Int32.reduceToInt, true_and, and_true, ne_eq, not_true_eq_false, false_and, or_false, false_or, true_or, or_true, false_implies] <;> omega)))
      refine g_iload_n F 1 dX13_findVerdicts_6 rfl rfl ?_
      refine g_bipush F 16 dX13_findVerdicts_7 (by decide) ?_
      refine v_icmp_ge F 130 dX13_findVerdicts_9 (by decide) x6_1.toInt 16 rfl rfl (fun c42 => ?_) (fun c42 => ?_)
      · refine g_aload_n F 0 dX13_findVerdicts_130 rfl rfl ?_
        have b43 : (0 : Int) ≤ (Gj6 0 32).toInt ∧ (Gj6 0 32).toInt ≤ 7 := jI6 0 32
        refine u_callVv (k := 0) (n := 0) (b := a 0) (As := []) (st := []) F (fun sz => S_X13_putBack l D K a Gj6  (by (first | omega | (simp only [Int32.reduceToInt, true_and, and_true, ne_eq, not_true_eq_false, false_and, or_false, false_or, true_or, or_true, false_implies] <;> omega))) jI6 sz) (cwV 0 hts gX13_findVerdicts_X13_putBack rfl rfl rfl (by decide +kernel) ⟨Nat.le_of_ble_eq_true rfl, Nat.le_of_ble_eq_true rfl⟩) rfl 0 yc_0 rfl (Nat.le_of_ble_eq_true rfl) ⟨Nat.zero_le _, Nat.zero_le _⟩ dX13_findVerdicts_131 (fun G46 hw45 => ?_)
        have hI47 : yI G46 := hw45.1
        have hU48 : gu_un ycd [29, 33, 1400] Gj6 G46 := hw45.2.1
        have hp49 := hw45.2.2
        have b50 : (0 : Int) ≤ (G46 0 32).toInt ∧ (G46 0 32).toInt ≤ 7 := hI47 0 32
        have q51 : ((G46 0 32).toInt = (Gj6 0 32).toInt - 1) := hp49.1
        have q52 : ((∀ q : Nat, q < 96 → G46 14 q = (Gj6 19) (96 * ((Gj6 0 32).toInt - 1) + (q : Int)).toNat) ∧ G46 0 28 = (Gj6 20) ((Gj6 0 32).toInt - 1).toNat) := hp49.2.1
        have q53 : ((G46 15 = Gj6 15 ∧ G46 16 = Gj6 16 ∧ G46 17 = Gj6 17 ∧ G46 18 = Gj6 18) ∧ G46 19 = Gj6 19 ∧ G46 20 = Gj6 20) := hp49.2.2
        have bk54 : yNh G G46 := yNh.back (G := Gj6) (d := (G 0 32).toInt) nd6.1 nd6.2 rfl (fun q hq => by have h9 := q52.1 q hq; rw [show (Gj6 0 32).toInt - 1 = (G 0 32).toInt by omega] at h9; exact h9) (by have h9 := q52.2; rw [show (Gj6 0 32).toInt - 1 = (G 0 32).toInt by omega] at h9; exact h9) (yNd.tr yNd.rf (yNd.pl q53) (Int.le_refl _)) (by omega)
        clear hp49 hw45
        exact u_vret F hA hQ hr G46 (⟨hI47, (gu_un.tr (gu_un.tr gu_un.rf (gu_un.su jU6 rfl)) (gu_un.su hU48 rfl)), ((yNh.tr (show yNh G G from yNh.rf) (show yNh G G46 from bk54))), (by show ((G46 0 32).toInt = (G 0 32).toInt); (first | omega | (simp only [Int32.reduceToInt, true_and, and_true, ne_eq, not_true_eq_false, false_and, or_false, false_or, true_or, or_true, false_implies] <;> omega)))⟩) rfl rfl dX13_findVerdicts_134
      · refine g_iconst F 0 dX13_findVerdicts_12 (by decide) ?_
        refine g_istore_n F [(2, .int 0), (0, .ref (a 0)), (1, .int x6_1)] dX13_findVerdicts_13 rfl (by decide) rfl ?_
        refine g_locals [(0, .ref (a 0)), (1, .int x6_1), (2, .int 0)] [1, 2, 0] rfl ?_
        have b55 : (0 : Int) ≤ (Gj6 0 32).toInt ∧ (Gj6 0 32).toInt ≤ 7 := jI6 0 32
        exact J_14 _ 0 Gj6 (Nat.lt_succ_self _) (by have h9 := ti_rng x6_1; omega) (by decide) jI6 gu_un.rf (⟨yNd.tr nd6.1 yNd.rf (Int.le_refl _), yKe.nd (d' := (G 0 32).toInt + 1) nd6.2 yNd.rf (by omega) (by omega)⟩) (by (first | omega | (simp only [Int32.reduceToInt, true_and, and_true, ne_eq, not_true_eq_false, false_and, or_false, false_or, true_or, or_true, false_implies] <;> omega)))
  refine g_aload_n F 0 dX13_findVerdicts_0 rfl rfl ?_
  refine u_callVv (k := 0) (n := 0) (b := a 0) (As := []) (st := []) F (fun sz => S_X13_putBy l D K a G  (by (first | omega | (simp only [Int32.reduceToInt, true_and, and_true, ne_eq, not_true_eq_false, false_and, or_false, false_or, true_or, or_true, false_implies] <;> omega))) hI sz) (cwV 0 hts gX13_findVerdicts_X13_putBy rfl rfl rfl (by decide +kernel) ⟨Nat.le_of_ble_eq_true rfl, Nat.le_of_ble_eq_true rfl⟩) rfl 0 yc_0 rfl (Nat.le_of_ble_eq_true rfl) ⟨Nat.zero_le _, Nat.zero_le _⟩ dX13_findVerdicts_1 (fun G58 hw57 => ?_)
  have hI59 : yI G58 := hw57.1
  have hU60 : gu_un ycd [33, 1900, 2000] G G58 := hw57.2.1
  have hp61 := hw57.2.2
  have b62 : (0 : Int) ≤ (G58 0 32).toInt ∧ (G58 0 32).toInt ≤ 7 := hI59 0 32
  have q63 : ((G58 0 32).toInt = (G 0 32).toInt + 1) := hp61.1
  have q64 : ((∀ q : Nat, G58 19 q = sRow (G 19) (G 14) (96 * (G 0 32).toInt) 96 q) ∧ G58 20 = upd (G 20) ((G 0 32).toInt).toNat (G 0 28)) := hp61.2.1
  have q65 : ((G58 15 = G 15 ∧ G58 16 = G 16 ∧ G58 17 = G 17 ∧ G58 18 = G 18) ∧ G58 14 = G 14 ∧ G58 0 28 = G 0 28) := hp61.2.2
  clear hp61 hw57
  refine g_iconst F 0 dX13_findVerdicts_4 (by decide) ?_
  refine g_istore_n F [(1, .int 0), (0, .ref (a 0))] dX13_findVerdicts_5 rfl (by decide) rfl ?_
  refine g_locals [(0, .ref (a 0)), (1, .int 0)] [1, 0] rfl ?_
  exact J_6 _ 0 G58 (Nat.lt_succ_self _) (by decide) hI59 (gu_un.tr gu_un.rf (gu_un.su hU60 rfl)) (⟨yNd.tr (yNd.by q64.1 q64.2 q65.1 (by omega)) yNd.rf (Int.le_refl _), yKe.nd (d' := (G 0 32).toInt + 1) (yKe.by q64.1 q64.2 (by omega)) yNd.rf (by omega) (by omega)⟩) (by (first | omega | (simp only [Int32.reduceToInt, true_and, and_true, ne_eq, not_true_eq_false, false_and, or_false, false_or, true_or, or_true, false_implies] <;> omega)))

theorem dX13_asKnown_0 : decode cX13_asKnown 0 = .ok (.aload_n 0, 1) := by decide +kernel
theorem dX13_asKnown_1 : decode cX13_asKnown 1 = .ok (.getfield 295, 3) := by decide +kernel
theorem dX13_asKnown_4 : decode cX13_asKnown 4 = .ok (.iload_n 1, 1) := by decide +kernel
theorem dX13_asKnown_5 : decode cX13_asKnown 5 = .ok (.iaload, 1) := by decide +kernel
theorem dX13_asKnown_6 : decode cX13_asKnown 6 = .ok (.iload_n 2, 1) := by decide +kernel
theorem dX13_asKnown_7 : decode cX13_asKnown 7 = .ok (.if_icmp .le 5, 3) := by decide +kernel
theorem dX13_asKnown_10 : decode cX13_asKnown 10 = .ok (.iconst (-1), 1) := by decide +kernel
theorem dX13_asKnown_11 : decode cX13_asKnown 11 = .ok (.ireturn, 1) := by decide +kernel
theorem dX13_asKnown_12 : decode cX13_asKnown 12 = .ok (.aload_n 0, 1) := by decide +kernel
theorem dX13_asKnown_13 : decode cX13_asKnown 13 = .ok (.getfield 292, 3) := by decide +kernel
theorem dX13_asKnown_16 : decode cX13_asKnown 16 = .ok (.iload_n 1, 1) := by decide +kernel
theorem dX13_asKnown_17 : decode cX13_asKnown 17 = .ok (.iaload, 1) := by decide +kernel
theorem dX13_asKnown_18 : decode cX13_asKnown 18 = .ok (.istore_n 3, 1) := by decide +kernel
theorem dX13_asKnown_19 : decode cX13_asKnown 19 = .ok (.iconst 0, 1) := by decide +kernel
theorem dX13_asKnown_20 : decode cX13_asKnown 20 = .ok (.istore 4, 2) := by decide +kernel
theorem dX13_asKnown_22 : decode cX13_asKnown 22 = .ok (.iload 4, 2) := by decide +kernel
theorem dX13_asKnown_24 : decode cX13_asKnown 24 = .ok (.aload_n 0, 1) := by decide +kernel
theorem dX13_asKnown_25 : decode cX13_asKnown 25 = .ok (.getfield 344, 3) := by decide +kernel
theorem dX13_asKnown_28 : decode cX13_asKnown 28 = .ok (.if_icmp .ge 39, 3) := by decide +kernel
theorem dX13_asKnown_31 : decode cX13_asKnown 31 = .ok (.aload_n 0, 1) := by decide +kernel
theorem dX13_asKnown_32 : decode cX13_asKnown 32 = .ok (.getfield 298, 3) := by decide +kernel
theorem dX13_asKnown_35 : decode cX13_asKnown 35 = .ok (.iload 4, 2) := by decide +kernel
theorem dX13_asKnown_37 : decode cX13_asKnown 37 = .ok (.iaload, 1) := by decide +kernel
theorem dX13_asKnown_38 : decode cX13_asKnown 38 = .ok (.iload_n 1, 1) := by decide +kernel
theorem dX13_asKnown_39 : decode cX13_asKnown 39 = .ok (.if_icmp .ne 22, 3) := by decide +kernel
theorem dX13_asKnown_42 : decode cX13_asKnown 42 = .ok (.aload_n 0, 1) := by decide +kernel
theorem dX13_asKnown_43 : decode cX13_asKnown 43 = .ok (.getfield 304, 3) := by decide +kernel
theorem dX13_asKnown_46 : decode cX13_asKnown 46 = .ok (.iload 4, 2) := by decide +kernel
theorem dX13_asKnown_48 : decode cX13_asKnown 48 = .ok (.iaload, 1) := by decide +kernel
theorem dX13_asKnown_49 : decode cX13_asKnown 49 = .ok (.iload_n 2, 1) := by decide +kernel
theorem dX13_asKnown_50 : decode cX13_asKnown 50 = .ok (.if_icmp .gt 11, 3) := by decide +kernel
theorem dX13_asKnown_53 : decode cX13_asKnown 53 = .ok (.aload_n 0, 1) := by decide +kernel
theorem dX13_asKnown_54 : decode cX13_asKnown 54 = .ok (.getfield 301, 3) := by decide +kernel
theorem dX13_asKnown_57 : decode cX13_asKnown 57 = .ok (.iload 4, 2) := by decide +kernel
theorem dX13_asKnown_59 : decode cX13_asKnown 59 = .ok (.iaload, 1) := by decide +kernel
theorem dX13_asKnown_60 : decode cX13_asKnown 60 = .ok (.istore_n 3, 1) := by decide +kernel
theorem dX13_asKnown_61 : decode cX13_asKnown 61 = .ok (.iinc 4 1, 3) := by decide +kernel
theorem dX13_asKnown_64 : decode cX13_asKnown 64 = .ok (.goto (-42), 3) := by decide +kernel
theorem dX13_asKnown_67 : decode cX13_asKnown 67 = .ok (.iload_n 3, 1) := by decide +kernel
theorem dX13_asKnown_68 : decode cX13_asKnown 68 = .ok (.ireturn, 1) := by decide +kernel
set_option maxHeartbeats 4000000 in
set_option maxRecDepth 100000 in
theorem S_X13_asKnown (l : Launch) (D : va_G) (K : Nat → ClassId) (a : Nat → Nat) (G : gS) (p0 : Int32) (s0 : Int) (p1 : Int32) (s1 : Int) (e0 : p0.toInt = s0) (h0 : 0 ≤ s0 ∧ s0 ≤ 29) (e1 : p1.toInt = s1) (hI : yI G) (sz : Nat) : Ki l yX13_asKnown wsX13_asKnown 1 40 0 0 D [.ref (a 0), .int p0, .int p1] (yW K a G) (tK K) sz (fun (r : Int32) (_ : Unit) => True) (fun (_ : Unit) => (yW K a G)) (fun _ => (tK K)) := by
  unfold Ki
  refine g_ofW (cc := cX13_asKnown) (lv := [(0, .ref (a 0)), (1, .int p0), (2, .int p1)]) (by decide) rfl (Nat.le_of_ble_eq_true rfl) rfl ?_
  intro p e s m args below meth c A Q hA hQ F hr hnm
  have hts := F.2.2.2.2.1
  have w_0 : (Cond.fieldLink RX13 344 "QuietCutModel" "rights" "I").before args s = true := hts _ (List.mem_of_getElem? (i := 3) rfl)
  have i_X13 : ∀ w ∈ u_ws RX13 TX13 73, w ∈ wsX13_asKnown := fun _ h => List.mem_cons_of_mem _ (List.mem_append_right _ h)
  have w_1 : (Cond.fieldLink RX13 298 "QuietCutModel" "rightOf" "[I").before args s = true := hts _ (List.mem_of_getElem? (i := 4) rfl)
  have w_2 : (Cond.fieldLink RX13 304 "QuietCutModel" "rightAt" "[I").before args s = true := hts _ (List.mem_of_getElem? (i := 5) rfl)
  have w_3 : (Cond.fieldLink RX13 301 "QuietCutModel" "rightVerdict" "[I").before args s = true := hts _ (List.mem_of_getElem? (i := 6) rfl)
  have w_4 : (Cond.fieldLink RX13 295 "QuietCutModel" "heardAt" "[I").before args s = true := hts _ (List.mem_of_getElem? (i := 1) rfl)
  have w_5 : (Cond.fieldLink RX13 292 "QuietCutModel" "heardVerdict" "[I").before args s = true := hts _ (List.mem_of_getElem? (i := 2) rfl)
  have rg1 : -2147483648 ≤ s1 ∧ s1 ≤ 2147483647 := e1 ▸ ti_rng p1
  have J_22 : ∀ (fuel : Nat) (x22_3 : Int32) (x22_4 : Int32), (2147483647 - x22_4.toInt).toNat < fuel → (0 ≤ x22_4.toInt ∧ x22_4.toInt ≤ 20) → gG p l e (gR 1 0 0 40) s m args below meth c D A 5 Q 0 0 (yW K a G) (tK K) [(0, .ref (a 0)), (1, .int p0), (2, .int p1), (3, .int x22_3), (4, .int x22_4)] 22 [] := by
    intro fuel
    induction fuel with
    | zero => intro x22_3 x22_4 hm; exact absurd hm (Nat.not_lt_zero _)
    | succ fuel_22 ih_22 =>
      intro x22_3 x22_4 hm_22 h22_4
      have J_61 : ∀  (x61_3 : Int32), (0 ≤ x22_4.toInt ∧ x22_4.toInt ≤ 19) → gG p l e (gR 1 0 0 40) s m args below meth c D A 5 Q 0 0 (yW K a G) (tK K) [(0, .ref (a 0)), (1, .int p0), (2, .int p1), (3, .int x61_3), (4, .int x22_4)] 61 [] := by
        intro x61_3 k61_4
        refine u_iinc F (fun v_ => [(4, .int v_), (0, .ref (a 0)), (1, .int p0), (2, .int p1), (3, .int x61_3)]) dX13_asKnown_61 (j := 4) rfl x22_4.toInt 1 rfl rfl (by omega) (by omega) (by decide) (fun _ => rfl) (fun y1 ey1 => ?_)
        refine g_goto F 22 dX13_asKnown_64 (by decide) ?_
        refine g_locals [(0, .ref (a 0)), (1, .int p0), (2, .int p1), (3, .int x61_3), (4, .int y1)] [1, 2, 3, 4, 0] rfl ?_
        exact ih_22 x61_3 y1 (by omega) (by have h9 := ti_rng y1; omega)
      refine g_iload F 4 dX13_asKnown_22 rfl ?_
      refine g_aload_n F 0 dX13_asKnown_24 rfl rfl ?_
      refine yg_0_57 F i_X13 w_0 dX13_asKnown_25 (G 0 57) (rfl) ?_
      have b2 : (0 : Int) ≤ (G 0 57).toInt ∧ (G 0 57).toInt ≤ 20 := hI 0 57
      refine v_icmp_ge F 67 dX13_asKnown_28 (by decide) x22_4.toInt (G 0 57).toInt rfl rfl (fun c3 => ?_) (fun c3 => ?_)
      · refine g_iload_n F 3 dX13_asKnown_67 rfl rfl ?_
        exact u_iret F hA hQ hr () (trivial) rfl rfl dX13_asKnown_68
      · refine g_aload_n F 0 dX13_asKnown_31 rfl rfl ?_
        refine yg_0_66 F i_X13 w_1 dX13_asKnown_32 ?_
        refine g_iload F 4 dX13_asKnown_35 rfl ?_
        refine u_iald F 42 0 yc_42 rfl x22_4.toInt rfl (by omega) (by omega) dX13_asKnown_37 (fun _ => True) (fun _ => trivial) (fun y4 by4 => ?_)
        refine g_iload_n F 1 dX13_asKnown_38 rfl rfl ?_
        have b5 := ti_rng y4
        refine v_icmp_ne F 61 dX13_asKnown_39 (by decide) y4.toInt s0 rfl e0 (fun c6 => ?_) (fun c6 => ?_)
        · exact J_61 x22_3 (by have h9 := ti_rng x22_4; omega)
        · refine g_aload_n F 0 dX13_asKnown_42 rfl rfl ?_
          refine yg_0_68 F i_X13 w_2 dX13_asKnown_43 ?_
          refine g_iload F 4 dX13_asKnown_46 rfl ?_
          refine u_iald F 44 0 yc_44 rfl x22_4.toInt rfl (by omega) (by omega) dX13_asKnown_48 (fun _ => True) (fun _ => trivial) (fun y7 by7 => ?_)
          refine g_iload_n F 2 dX13_asKnown_49 rfl rfl ?_
          have b8 := ti_rng y7
          refine v_icmp_gt F 61 dX13_asKnown_50 (by decide) y7.toInt s1 rfl e1 (fun c9 => ?_) (fun c9 => ?_)
          · exact J_61 x22_3 (by have h9 := ti_rng x22_4; omega)
          · refine g_aload_n F 0 dX13_asKnown_53 rfl rfl ?_
            refine yg_0_67 F i_X13 w_3 dX13_asKnown_54 ?_
            refine g_iload F 4 dX13_asKnown_57 rfl ?_
            refine u_iald F 43 0 yc_43 rfl x22_4.toInt rfl (by omega) (by omega) dX13_asKnown_59 (fun _ => True) (fun _ => trivial) (fun y10 by10 => ?_)
            refine g_istore_n F [(3, .int y10), (0, .ref (a 0)), (1, .int p0), (2, .int p1), (4, .int x22_4)] dX13_asKnown_60 rfl (by decide) rfl ?_
            refine g_locals [(0, .ref (a 0)), (1, .int p0), (2, .int p1), (3, .int y10), (4, .int x22_4)] [1, 2, 3, 0, 4] rfl ?_
            exact J_61 y10 (by have h9 := ti_rng x22_4; omega)
  refine g_aload_n F 0 dX13_asKnown_0 rfl rfl ?_
  refine yg_0_65 F i_X13 w_4 dX13_asKnown_1 ?_
  refine g_iload_n F 1 dX13_asKnown_4 rfl rfl ?_
  refine u_iald F 41 0 yc_41 rfl s0 e0 (by omega) (by omega) dX13_asKnown_5 (fun _ => True) (fun _ => trivial) (fun y11 by11 => ?_)
  refine g_iload_n F 2 dX13_asKnown_6 rfl rfl ?_
  have b12 := ti_rng y11
  refine v_icmp_le F 12 dX13_asKnown_7 (by decide) y11.toInt s1 rfl e1 (fun c13 => ?_) (fun c13 => ?_)
  · refine g_aload_n F 0 dX13_asKnown_12 rfl rfl ?_
    refine yg_0_64 F i_X13 w_5 dX13_asKnown_13 ?_
    refine g_iload_n F 1 dX13_asKnown_16 rfl rfl ?_
    refine u_iald F 40 0 yc_40 rfl s0 e0 (by omega) (by omega) dX13_asKnown_17 (fun _ => True) (fun _ => trivial) (fun y14 by14 => ?_)
    refine g_istore_n F [(3, .int y14), (0, .ref (a 0)), (1, .int p0), (2, .int p1)] dX13_asKnown_18 rfl (by decide) rfl ?_
    refine g_iconst F 0 dX13_asKnown_19 (by decide) ?_
    refine g_istore F [(4, .int 0), (3, .int y14), (0, .ref (a 0)), (1, .int p0), (2, .int p1)] dX13_asKnown_20 (by decide) rfl ?_
    refine g_locals [(0, .ref (a 0)), (1, .int p0), (2, .int p1), (3, .int y14), (4, .int 0)] [2, 3, 4, 1, 0] rfl ?_
    exact J_22 _ y14 0 (Nat.lt_succ_self _) (by decide)
  · refine g_iconst F (-1) dX13_asKnown_10 (by decide) ?_
    exact u_iret F hA hQ hr () (trivial) rfl rfl dX13_asKnown_11

theorem dX13_fitOf_0 : decode cX13_fitOf 0 = .ok (.aload_n 0, 1) := by decide +kernel
theorem dX13_fitOf_1 : decode cX13_fitOf 1 = .ok (.invokevirtual 505, 3) := by decide +kernel
theorem dX13_fitOf_4 : decode cX13_fitOf 4 = .ok (.iconst 0, 1) := by decide +kernel
theorem dX13_fitOf_5 : decode cX13_fitOf 5 = .ok (.istore_n 2, 1) := by decide +kernel
theorem dX13_fitOf_6 : decode cX13_fitOf 6 = .ok (.iconst 0, 1) := by decide +kernel
theorem dX13_fitOf_7 : decode cX13_fitOf 7 = .ok (.istore_n 3, 1) := by decide +kernel
theorem dX13_fitOf_8 : decode cX13_fitOf 8 = .ok (.iload_n 3, 1) := by decide +kernel
theorem dX13_fitOf_9 : decode cX13_fitOf 9 = .ok (.bipush 16, 2) := by decide +kernel
theorem dX13_fitOf_11 : decode cX13_fitOf 11 = .ok (.if_icmp .ge 99, 3) := by decide +kernel
theorem dX13_fitOf_14 : decode cX13_fitOf 14 = .ok (.aload_n 0, 1) := by decide +kernel
theorem dX13_fitOf_15 : decode cX13_fitOf 15 = .ok (.iload_n 3, 1) := by decide +kernel
theorem dX13_fitOf_16 : decode cX13_fitOf 16 = .ok (.invokevirtual 502, 3) := by decide +kernel
theorem dX13_fitOf_19 : decode cX13_fitOf 19 = .ok (.istore 4, 2) := by decide +kernel
theorem dX13_fitOf_21 : decode cX13_fitOf 21 = .ok (.iconst 0, 1) := by decide +kernel
theorem dX13_fitOf_22 : decode cX13_fitOf 22 = .ok (.istore 5, 2) := by decide +kernel
theorem dX13_fitOf_24 : decode cX13_fitOf 24 = .ok (.iload 5, 2) := by decide +kernel
theorem dX13_fitOf_26 : decode cX13_fitOf 26 = .ok (.aload_n 0, 1) := by decide +kernel
theorem dX13_fitOf_27 : decode cX13_fitOf 27 = .ok (.getfield 341, 3) := by decide +kernel
theorem dX13_fitOf_30 : decode cX13_fitOf 30 = .ok (.if_icmp .ge 59, 3) := by decide +kernel
theorem dX13_fitOf_33 : decode cX13_fitOf 33 = .ok (.iload 4, 2) := by decide +kernel
theorem dX13_fitOf_35 : decode cX13_fitOf 35 = .ok (.ifCond .eq 54, 3) := by decide +kernel
theorem dX13_fitOf_38 : decode cX13_fitOf 38 = .ok (.aload_n 0, 1) := by decide +kernel
theorem dX13_fitOf_39 : decode cX13_fitOf 39 = .ok (.iload 5, 2) := by decide +kernel
theorem dX13_fitOf_41 : decode cX13_fitOf 41 = .ok (.iload_n 1, 1) := by decide +kernel
theorem dX13_fitOf_42 : decode cX13_fitOf 42 = .ok (.invokevirtual 508, 3) := by decide +kernel
theorem dX13_fitOf_45 : decode cX13_fitOf 45 = .ok (.iconst (-1), 1) := by decide +kernel
theorem dX13_fitOf_46 : decode cX13_fitOf 46 = .ok (.if_icmp .eq 30, 3) := by decide +kernel
theorem dX13_fitOf_49 : decode cX13_fitOf 49 = .ok (.aload_n 0, 1) := by decide +kernel
theorem dX13_fitOf_50 : decode cX13_fitOf 50 = .ok (.iload 5, 2) := by decide +kernel
theorem dX13_fitOf_52 : decode cX13_fitOf 52 = .ok (.iload_n 1, 1) := by decide +kernel
theorem dX13_fitOf_53 : decode cX13_fitOf 53 = .ok (.invokevirtual 508, 3) := by decide +kernel
theorem dX13_fitOf_56 : decode cX13_fitOf 56 = .ok (.aload_n 0, 1) := by decide +kernel
theorem dX13_fitOf_57 : decode cX13_fitOf 57 = .ok (.getfield 307, 3) := by decide +kernel
theorem dX13_fitOf_60 : decode cX13_fitOf 60 = .ok (.bipush 10, 2) := by decide +kernel
theorem dX13_fitOf_62 : decode cX13_fitOf 62 = .ok (.iload_n 3, 1) := by decide +kernel
theorem dX13_fitOf_63 : decode cX13_fitOf 63 = .ok (.imul, 1) := by decide +kernel
theorem dX13_fitOf_64 : decode cX13_fitOf 64 = .ok (.aload_n 0, 1) := by decide +kernel
theorem dX13_fitOf_65 : decode cX13_fitOf 65 = .ok (.getfield 289, 3) := by decide +kernel
theorem dX13_fitOf_68 : decode cX13_fitOf 68 = .ok (.iload 5, 2) := by decide +kernel
theorem dX13_fitOf_70 : decode cX13_fitOf 70 = .ok (.iaload, 1) := by decide +kernel
theorem dX13_fitOf_71 : decode cX13_fitOf 71 = .ok (.iadd, 1) := by decide +kernel
theorem dX13_fitOf_72 : decode cX13_fitOf 72 = .ok (.iaload, 1) := by decide +kernel
theorem dX13_fitOf_73 : decode cX13_fitOf 73 = .ok (.if_icmp .ne 7, 3) := by decide +kernel
theorem dX13_fitOf_76 : decode cX13_fitOf 76 = .ok (.iconst 1, 1) := by decide +kernel
theorem dX13_fitOf_77 : decode cX13_fitOf 77 = .ok (.goto 4, 3) := by decide +kernel
theorem dX13_fitOf_80 : decode cX13_fitOf 80 = .ok (.iconst 0, 1) := by decide +kernel
theorem dX13_fitOf_81 : decode cX13_fitOf 81 = .ok (.istore 4, 2) := by decide +kernel
theorem dX13_fitOf_83 : decode cX13_fitOf 83 = .ok (.iinc 5 1, 3) := by decide +kernel
theorem dX13_fitOf_86 : decode cX13_fitOf 86 = .ok (.goto (-62), 3) := by decide +kernel
theorem dX13_fitOf_89 : decode cX13_fitOf 89 = .ok (.iload_n 2, 1) := by decide +kernel
theorem dX13_fitOf_90 : decode cX13_fitOf 90 = .ok (.iload 4, 2) := by decide +kernel
theorem dX13_fitOf_92 : decode cX13_fitOf 92 = .ok (.ifCond .eq 9, 3) := by decide +kernel
theorem dX13_fitOf_95 : decode cX13_fitOf 95 = .ok (.iconst 1, 1) := by decide +kernel
theorem dX13_fitOf_96 : decode cX13_fitOf 96 = .ok (.iload_n 3, 1) := by decide +kernel
theorem dX13_fitOf_97 : decode cX13_fitOf 97 = .ok (.ishl, 1) := by decide +kernel
theorem dX13_fitOf_98 : decode cX13_fitOf 98 = .ok (.goto 4, 3) := by decide +kernel
theorem dX13_fitOf_101 : decode cX13_fitOf 101 = .ok (.iconst 0, 1) := by decide +kernel
theorem dX13_fitOf_102 : decode cX13_fitOf 102 = .ok (.ior, 1) := by decide +kernel
theorem dX13_fitOf_103 : decode cX13_fitOf 103 = .ok (.istore_n 2, 1) := by decide +kernel
theorem dX13_fitOf_104 : decode cX13_fitOf 104 = .ok (.iinc 3 1, 3) := by decide +kernel
theorem dX13_fitOf_107 : decode cX13_fitOf 107 = .ok (.goto (-99), 3) := by decide +kernel
theorem dX13_fitOf_110 : decode cX13_fitOf 110 = .ok (.iload_n 2, 1) := by decide +kernel
theorem dX13_fitOf_111 : decode cX13_fitOf 111 = .ok (.ireturn, 1) := by decide +kernel
set_option maxRecDepth 20000 in
theorem ggX13_fitOf_X13_asKnown : GoodIn wsX13_fitOf wsX13_asKnown := goodIn_r _ [97, 98, 99, 100, 101, 102, 103, 104, 105, 106, 107, 108, 109, 110, 111, 112, 113, 114, 115, 116, 117, 118, 119, 120, 121, 122, 123, 124, 125, 126, 127, 128, 129, 130, 131, 132, 133, 134, 135, 136, 137, 138, 139, 140, 141, 142, 143, 144, 145, 146, 147, 148, 149, 150, 151, 152, 153, 154, 155, 156, 157, 158, 159, 160, 161, 162, 163, 164, 165, 166, 167, 168, 169, 170, 171, 172, 173, 174, 175, 176] rfl (by decide +kernel)
set_option maxRecDepth 20000 in
theorem gX13_fitOf_X13_asKnown : GoodIn wsX13_fitOf (wsV RX13 508 RX13 yX13_asKnown wsX13_asKnown) := goodIn_app (goodIn_of _ (by decide +kernel)) ggX13_fitOf_X13_asKnown
set_option maxRecDepth 20000 in
theorem ggX13_fitOf_X13_findVerdicts : GoodIn wsX13_fitOf wsX13_findVerdicts := goodIn_r _ [8, 9, 10, 11, 2, 12, 13, 14, 15, 16, 17, 18, 19, 7, 20, 21, 22, 23, 24, 25, 26, 27, 28, 29, 30, 31, 32, 33, 34, 35, 36, 37, 38, 39, 40, 41, 42, 43, 44, 45, 46, 47, 48, 49, 50, 51, 52, 53, 54, 55, 56, 57, 58, 59, 60, 61, 62, 63, 64, 65, 66, 67, 68, 69, 70, 71, 72, 73, 74, 75, 76, 77, 78, 79, 80, 81, 82, 83, 84, 85, 86, 87, 88, 89, 90, 91, 92, 93, 104, 105, 106, 107, 108, 109, 110, 111, 112, 113, 114, 115, 116, 117, 118, 119, 120, 121, 122, 123, 124, 125, 126, 127, 128, 129, 130, 131, 132, 133, 134, 135, 136, 137, 138, 139, 140, 141, 142, 143, 144, 145, 146, 147, 148, 149, 150, 151, 152, 153, 154, 155, 156, 157, 158, 159, 160, 161, 162, 163, 164, 165, 166, 167, 168, 169, 170, 171, 172, 173, 174, 175, 176] rfl (by decide +kernel)
set_option maxRecDepth 20000 in
theorem gX13_fitOf_X13_findVerdicts : GoodIn wsX13_fitOf (wsV RX13 505 RX13 yX13_findVerdicts wsX13_findVerdicts) := goodIn_app (goodIn_of _ (by decide +kernel)) ggX13_fitOf_X13_findVerdicts
set_option maxRecDepth 20000 in
theorem ggX13_fitOf_X13_isPair : GoodIn wsX13_fitOf wsX13_isPair := goodIn_r _ [27, 16, 104, 105, 106, 107, 108, 109, 110, 111, 112, 113, 114, 115, 116, 117, 118, 119, 120, 121, 122, 123, 124, 125, 126, 127, 128, 129, 130, 131, 132, 133, 134, 135, 136, 137, 138, 139, 140, 141, 142, 143, 144, 145, 146, 147, 148, 149, 150, 151, 152, 153, 154, 155, 156, 157, 158, 159, 160, 161, 162, 163, 164, 165, 166, 167, 168, 169, 170, 171, 172, 173, 174, 175, 176] rfl (by decide +kernel)
set_option maxRecDepth 20000 in
theorem gX13_fitOf_X13_isPair : GoodIn wsX13_fitOf (wsV RX13 502 RX13 yX13_isPair wsX13_isPair) := goodIn_app (goodIn_of _ (by decide +kernel)) ggX13_fitOf_X13_isPair
set_option maxHeartbeats 4000000 in
set_option maxRecDepth 100000 in
theorem S_X13_fitOf (l : Launch) (D : va_G) (K : Nat → ClassId) (a : Nat → Nat) (G : gS) (p0 : Int32) (s0 : Int) (e0 : p0.toInt = s0) (wf : yW3 G) (dl : ((G 0 32).toInt ≤ 6)) (hI : yI G) (sz : Nat) : Ki l yX13_fitOf wsX13_fitOf 7 200 0 0 D [.ref (a 0), .int p0] (yW K a G) (tK K) sz (fun (r : Int32) (G' : gS) => (yI G') ∧ (gu_un ycd [29, 33, 36, 37, 1300, 1400, 1500, 1600, 1700, 1800, 1900, 2000, 2100, 4500] G G') ∧ (yNh G G') ∧ (((G' 0 32).toInt = (G 0 32).toInt))) (fun (G' : gS) => (yW K a G')) (fun _ => (tK K)) := by
  unfold Ki
  refine g_ofW (cc := cX13_fitOf) (lv := [(0, .ref (a 0)), (1, .int p0)]) (by decide) rfl (Nat.le_of_ble_eq_true rfl) rfl ?_
  intro p e s m args below meth c A Q hA hQ F hr hnm
  have hts := F.2.2.2.2.1
  have w_0 : (Cond.fieldLink RX13 341 "QuietCutModel" "heards" "I").before args s = true := hts _ (List.mem_of_getElem? (i := 1) rfl)
  have i_X13 : ∀ w ∈ u_ws RX13 TX13 73, w ∈ wsX13_fitOf := fun _ h => List.mem_cons_of_mem _ (List.mem_append_right _ h)
  have w_1 : (Cond.fieldLink RX13 307 "QuietCutModel" "verdictOf" "[I").before args s = true := hts _ (List.mem_of_getElem? (i := 2) rfl)
  have w_2 : (Cond.fieldLink RX13 289 "QuietCutModel" "heardOffer" "[I").before args s = true := hts _ (List.mem_of_getElem? (i := 3) rfl)
  have rg0 : -2147483648 ≤ s0 ∧ s0 ≤ 2147483647 := e0 ▸ ti_rng p0
  have b1 : (0 : Int) ≤ (G 0 32).toInt ∧ (G 0 32).toInt ≤ 7 := hI 0 32
  have b2 : (4 : Int) ≤ (G 3 0).toInt ∧ (G 3 0).toInt ≤ 16 := hI 3 0
  have b3 : (1 : Int) ≤ (G 3 1).toInt ∧ (G 3 1).toInt ≤ 6 := hI 3 1
  have J_8 : ∀ (fuel : Nat) (x8_2 : Int32) (x8_3 : Int32) (Gj8 : gS), (2147483647 - x8_3.toInt).toNat < fuel → (0 ≤ x8_3.toInt ∧ x8_3.toInt ≤ 16) → (yI Gj8) → (gu_un ycd [29, 33, 36, 37, 1300, 1400, 1500, 1600, 1700, 1800, 1900, 2000, 2100, 4500] G Gj8) → (((Gj8 0 32).toInt = (G 0 32).toInt)) → (yNh G Gj8) → gG p l e (gR 7 0 0 200) s m args below meth c D A 6 Q 0 0 (yW K a Gj8) (tK K) [(0, .ref (a 0)), (1, .int p0), (2, .int x8_2), (3, .int x8_3)] 8 [] := by
    intro fuel
    induction fuel with
    | zero => intro x8_2 x8_3 Gj8 hm; exact absurd hm (Nat.not_lt_zero _)
    | succ fuel_8 ih_8 =>
      intro x8_2 x8_3 Gj8 hm_8 h8_3 jI8 jU8 dc_8 nh8
      have J_102 : ∀  (z102_0 : Int32), (0 ≤ x8_3.toInt ∧ x8_3.toInt ≤ 15) → (((Gj8 0 32).toInt = (G 0 32).toInt)) → gG p l e (gR 7 0 0 200) s m args below meth c D A 6 Q 0 0 (yW K a Gj8) (tK K) [(0, .ref (a 0)), (1, .int p0), (3, .int x8_3)] 102 [.int z102_0, .int x8_2] := by
        intro z102_0 k102_3 dc_102
        refine u0_ior F dX13_fitOf_102 (fun y4 => ?_)
        refine g_istore_n F [(2, .int y4), (0, .ref (a 0)), (1, .int p0), (3, .int x8_3)] dX13_fitOf_103 rfl (by decide) rfl ?_
        refine u_iinc F (fun v_ => [(3, .int v_), (2, .int y4), (0, .ref (a 0)), (1, .int p0)]) dX13_fitOf_104 (j := 3) rfl x8_3.toInt 1 rfl rfl (by omega) (by omega) (by decide) (fun _ => rfl) (fun y5 ey5 => ?_)
        refine g_goto F 8 dX13_fitOf_107 (by decide) ?_
        refine g_locals [(0, .ref (a 0)), (1, .int p0), (2, .int y4), (3, .int y5)] [2, 3, 1, 0] rfl ?_
        have b6 : (0 : Int) ≤ (Gj8 0 32).toInt ∧ (Gj8 0 32).toInt ≤ 7 := jI8 0 32
        exact ih_8 y4 y5 Gj8 (by omega) (by have h9 := ti_rng y5; omega) jI8 (gu_un.tr gu_un.rf (gu_un.su jU8 rfl)) (by (first | omega | (simp only [Int32.reduceToInt, true_and, and_true, ne_eq, not_true_eq_false, false_and, or_false, false_or, true_or, or_true, false_implies] <;> omega))) (nh8)
      have J_89 : ∀  (x89_4 : Int32), (0 ≤ x8_3.toInt ∧ x8_3.toInt ≤ 15) → (0 ≤ x89_4.toInt ∧ x89_4.toInt ≤ 1) → (((Gj8 0 32).toInt = (G 0 32).toInt)) → gG p l e (gR 7 0 0 200) s m args below meth c D A 6 Q 0 0 (yW K a Gj8) (tK K) [(0, .ref (a 0)), (1, .int p0), (2, .int x8_2), (3, .int x8_3), (4, .int x89_4)] 89 [] := by
        intro x89_4 k89_3 h89_4 dc_89
        refine g_iload_n F 2 dX13_fitOf_89 rfl rfl ?_
        refine g_iload F 4 dX13_fitOf_90 rfl ?_
        refine v_if_eq F 101 dX13_fitOf_92 (by decide) x89_4.toInt rfl (fun c7 => ?_) (fun c7 => ?_)
        · refine g_iconst F 0 dX13_fitOf_101 (by decide) ?_
          refine g_locals [(0, .ref (a 0)), (1, .int p0), (3, .int x8_3)] [0, 1, 3] rfl ?_
          have b8 : (0 : Int) ≤ (Gj8 0 32).toInt ∧ (Gj8 0 32).toInt ≤ 7 := jI8 0 32
          exact J_102 0 (by have h9 := ti_rng x8_3; omega) (by (first | omega | (simp only [Int32.reduceToInt, true_and, and_true, ne_eq, not_true_eq_false, false_and, or_false, false_or, true_or, or_true, false_implies] <;> omega)))
        · refine g_iconst F 1 dX13_fitOf_95 (by decide) ?_
          refine g_iload_n F 3 dX13_fitOf_96 rfl rfl ?_
          refine u0_ishl F dX13_fitOf_97 (fun y9 => ?_)
          refine g_goto F 102 dX13_fitOf_98 (by decide) ?_
          refine g_locals [(0, .ref (a 0)), (1, .int p0), (3, .int x8_3)] [0, 1, 3] rfl ?_
          have b10 : (0 : Int) ≤ (Gj8 0 32).toInt ∧ (Gj8 0 32).toInt ≤ 7 := jI8 0 32
          exact J_102 y9 (by have h9 := ti_rng x8_3; omega) (by (first | omega | (simp only [Int32.reduceToInt, true_and, and_true, ne_eq, not_true_eq_false, false_and, or_false, false_or, true_or, or_true, false_implies] <;> omega)))
      have J_24 : ∀ (fuel : Nat) (x24_4 : Int32) (x24_5 : Int32), (2147483647 - x24_5.toInt).toNat < fuel → (0 ≤ x8_3.toInt ∧ x8_3.toInt ≤ 15) → (0 ≤ x24_4.toInt ∧ x24_4.toInt ≤ 1) → (0 ≤ x24_5.toInt ∧ x24_5.toInt ≤ 30) → (((Gj8 0 32).toInt = (G 0 32).toInt)) → gG p l e (gR 7 0 0 200) s m args below meth c D A 6 Q 0 0 (yW K a Gj8) (tK K) [(0, .ref (a 0)), (1, .int p0), (2, .int x8_2), (3, .int x8_3), (4, .int x24_4), (5, .int x24_5)] 24 [] := by
        intro fuel
        induction fuel with
        | zero => intro x24_4 x24_5 hm; exact absurd hm (Nat.not_lt_zero _)
        | succ fuel_24 ih_24 =>
          intro x24_4 x24_5 hm_24 k24_3 h24_4 h24_5 dc_24
          have J_81 : ∀  (z81_0 : Int32), (0 ≤ x24_5.toInt ∧ x24_5.toInt ≤ 29) → (0 ≤ z81_0.toInt ∧ z81_0.toInt ≤ 1) → (((Gj8 0 32).toInt = (G 0 32).toInt)) → gG p l e (gR 7 0 0 200) s m args below meth c D A 6 Q 0 0 (yW K a Gj8) (tK K) [(0, .ref (a 0)), (1, .int p0), (2, .int x8_2), (3, .int x8_3), (5, .int x24_5)] 81 [.int z81_0] := by
            intro z81_0 k81_5 g81_0 dc_81
            refine g_istore F [(4, .int z81_0), (0, .ref (a 0)), (1, .int p0), (2, .int x8_2), (3, .int x8_3), (5, .int x24_5)] dX13_fitOf_81 (by decide) rfl ?_
            refine u_iinc F (fun v_ => [(5, .int v_), (4, .int z81_0), (0, .ref (a 0)), (1, .int p0), (2, .int x8_2), (3, .int x8_3)]) dX13_fitOf_83 (j := 5) rfl x24_5.toInt 1 rfl rfl (by omega) (by omega) (by decide) (fun _ => rfl) (fun y11 ey11 => ?_)
            refine g_goto F 24 dX13_fitOf_86 (by decide) ?_
            refine g_locals [(0, .ref (a 0)), (1, .int p0), (2, .int x8_2), (3, .int x8_3), (4, .int z81_0), (5, .int y11)] [2, 3, 4, 5, 1, 0] rfl ?_
            have b12 : (0 : Int) ≤ (Gj8 0 32).toInt ∧ (Gj8 0 32).toInt ≤ 7 := jI8 0 32
            exact ih_24 z81_0 y11 (by omega) (by have h9 := ti_rng x8_3; omega) (by have h9 := ti_rng z81_0; omega) (by have h9 := ti_rng y11; omega) (by (first | omega | (simp only [Int32.reduceToInt, true_and, and_true, ne_eq, not_true_eq_false, false_and, or_false, false_or, true_or, or_true, false_implies] <;> omega)))
          have J_76 : ∀ (_ : Unit), (0 ≤ x24_5.toInt ∧ x24_5.toInt ≤ 29) → (((Gj8 0 32).toInt = (G 0 32).toInt)) → gG p l e (gR 7 0 0 200) s m args below meth c D A 6 Q 0 0 (yW K a Gj8) (tK K) [(0, .ref (a 0)), (1, .int p0), (2, .int x8_2), (3, .int x8_3), (5, .int x24_5)] 76 [] := by
            intro _ k76_5 dc_76
            refine g_iconst F 1 dX13_fitOf_76 (by decide) ?_
            refine g_goto F 81 dX13_fitOf_77 (by decide) ?_
            have b13 : (0 : Int) ≤ (Gj8 0 32).toInt ∧ (Gj8 0 32).toInt ≤ 7 := jI8 0 32
            exact J_81 1 (by have h9 := ti_rng x24_5; omega) (by decide) (by (first | omega | (simp only [Int32.reduceToInt, true_and, and_true, ne_eq, not_true_eq_false, false_and, or_false, false_or, true_or, or_true, false_implies] <;> omega)))
          refine g_iload F 5 dX13_fitOf_24 rfl ?_
          refine g_aload_n F 0 dX13_fitOf_26 rfl rfl ?_
          refine yg_0_56 F i_X13 w_0 dX13_fitOf_27 (G 0 56) (jU8 0 56 (by decide)) ?_
          have b14 : (0 : Int) ≤ (G 0 56).toInt ∧ (G 0 56).toInt ≤ 30 := hI 0 56
          refine v_icmp_ge F 89 dX13_fitOf_30 (by decide) x24_5.toInt (G 0 56).toInt rfl rfl (fun c15 => ?_) (fun c15 => ?_)
          · refine g_locals [(0, .ref (a 0)), (1, .int p0), (2, .int x8_2), (3, .int x8_3), (4, .int x24_4)] [0, 1, 2, 3, 4] rfl ?_
            have b16 : (0 : Int) ≤ (Gj8 0 32).toInt ∧ (Gj8 0 32).toInt ≤ 7 := jI8 0 32
            exact J_89 x24_4 (by have h9 := ti_rng x8_3; omega) (by have h9 := ti_rng x24_4; omega) (by (first | omega | (simp only [Int32.reduceToInt, true_and, and_true, ne_eq, not_true_eq_false, false_and, or_false, false_or, true_or, or_true, false_implies] <;> omega)))
          · refine g_iload F 4 dX13_fitOf_33 rfl ?_
            refine v_if_eq F 89 dX13_fitOf_35 (by decide) x24_4.toInt rfl (fun c17 => ?_) (fun c17 => ?_)
            · refine g_locals [(0, .ref (a 0)), (1, .int p0), (2, .int x8_2), (3, .int x8_3), (4, .int x24_4)] [0, 1, 2, 3, 4] rfl ?_
              have b18 : (0 : Int) ≤ (Gj8 0 32).toInt ∧ (Gj8 0 32).toInt ≤ 7 := jI8 0 32
              exact J_89 x24_4 (by have h9 := ti_rng x8_3; omega) (by have h9 := ti_rng x24_4; omega) (by (first | omega | (simp only [Int32.reduceToInt, true_and, and_true, ne_eq, not_true_eq_false, false_and, or_false, false_or, true_or, or_true, false_implies] <;> omega)))
            · refine g_aload_n F 0 dX13_fitOf_38 rfl rfl ?_
              refine g_iload F 5 dX13_fitOf_39 rfl ?_
              refine g_iload_n F 1 dX13_fitOf_41 rfl rfl ?_
              refine u_callVi (k := 0) (n := 0) (b := a 0) (As := [.int x24_5, .int p0]) (st := []) F (fun sz => S_X13_asKnown l D K a Gj8 x24_5 x24_5.toInt p0 s0 rfl (by omega) e0 jI8 sz) (cwV 2 hts gX13_fitOf_X13_asKnown rfl rfl rfl (by decide +kernel) ⟨Nat.le_of_ble_eq_true rfl, Nat.le_of_ble_eq_true rfl⟩) rfl 0 yc_0 rfl (Nat.le_of_ble_eq_true rfl) ⟨Nat.zero_le _, Nat.zero_le _⟩ dX13_fitOf_42 (fun r19 _ hw20 => ?_)
              refine g_iconst F (-1) dX13_fitOf_45 (by decide) ?_
              refine v_icmp_eq F 76 dX13_fitOf_46 (by decide) r19.toInt (-1) rfl rfl (fun c22 => ?_) (fun c22 => ?_)
              · refine g_locals [(0, .ref (a 0)), (1, .int p0), (2, .int x8_2), (3, .int x8_3), (5, .int x24_5)] [0, 1, 2, 3, 5] rfl ?_
                have b23 : (0 : Int) ≤ (Gj8 0 32).toInt ∧ (Gj8 0 32).toInt ≤ 7 := jI8 0 32
                exact J_76 () (by have h9 := ti_rng x24_5; omega) (by (first | omega | (simp only [Int32.reduceToInt, true_and, and_true, ne_eq, not_true_eq_false, false_and, or_false, false_or, true_or, or_true, false_implies] <;> omega)))
              · refine g_aload_n F 0 dX13_fitOf_49 rfl rfl ?_
                refine g_iload F 5 dX13_fitOf_50 rfl ?_
                refine g_iload_n F 1 dX13_fitOf_52 rfl rfl ?_
                refine u_callVi (k := 0) (n := 0) (b := a 0) (As := [.int x24_5, .int p0]) (st := []) F (fun sz => S_X13_asKnown l D K a Gj8 x24_5 x24_5.toInt p0 s0 rfl (by omega) e0 jI8 sz) (cwV 2 hts gX13_fitOf_X13_asKnown rfl rfl rfl (by decide +kernel) ⟨Nat.le_of_ble_eq_true rfl, Nat.le_of_ble_eq_true rfl⟩) rfl 0 yc_0 rfl (Nat.le_of_ble_eq_true rfl) ⟨Nat.zero_le _, Nat.zero_le _⟩ dX13_fitOf_53 (fun r24 _ hw25 => ?_)
                refine g_aload_n F 0 dX13_fitOf_56 rfl rfl ?_
                refine yg_0_69 F i_X13 w_1 dX13_fitOf_57 ?_
                refine g_bipush F 10 dX13_fitOf_60 (by decide) ?_
                refine g_iload_n F 3 dX13_fitOf_62 rfl rfl ?_
                refine u_imul F dX13_fitOf_63 10 x8_3.toInt rfl rfl (by omega) (by omega) (fun y27 ey27 => ?_)
                refine g_aload_n F 0 dX13_fitOf_64 rfl rfl ?_
                refine yg_0_63 F i_X13 w_2 dX13_fitOf_65 ?_
                refine g_iload F 5 dX13_fitOf_68 rfl ?_
                refine u_iald F 39 0 yc_39 rfl x24_5.toInt rfl (by omega) (by omega) dX13_fitOf_70 (fun z => (0 : Int) ≤ z.toInt ∧ z.toInt ≤ 9) (fun k_ => jI8 39 k_) (fun y28 by28 => ?_)
                refine u_iadd F dX13_fitOf_71 y27.toInt y28.toInt rfl rfl (by omega) (by omega) (fun y29 ey29 => ?_)
                refine u_iald F 45 0 yc_45 rfl y29.toInt rfl (by omega) (by omega) dX13_fitOf_72 (fun _ => True) (fun _ => trivial) (fun y30 by30 => ?_)
                have b31 := ti_rng r24
                have b32 := ti_rng y30
                refine v_icmp_ne F 80 dX13_fitOf_73 (by decide) r24.toInt y30.toInt rfl rfl (fun c33 => ?_) (fun c33 => ?_)
                · refine g_iconst F 0 dX13_fitOf_80 (by decide) ?_
                  refine g_locals [(0, .ref (a 0)), (1, .int p0), (2, .int x8_2), (3, .int x8_3), (5, .int x24_5)] [0, 1, 2, 3, 5] rfl ?_
                  have b34 : (0 : Int) ≤ (Gj8 0 32).toInt ∧ (Gj8 0 32).toInt ≤ 7 := jI8 0 32
                  exact J_81 0 (by have h9 := ti_rng x24_5; omega) (by decide) (by (first | omega | (simp only [Int32.reduceToInt, true_and, and_true, ne_eq, not_true_eq_false, false_and, or_false, false_or, true_or, or_true, false_implies] <;> omega)))
                · refine g_locals [(0, .ref (a 0)), (1, .int p0), (2, .int x8_2), (3, .int x8_3), (5, .int x24_5)] [0, 1, 2, 3, 5] rfl ?_
                  have b35 : (0 : Int) ≤ (Gj8 0 32).toInt ∧ (Gj8 0 32).toInt ≤ 7 := jI8 0 32
                  exact J_76 () (by have h9 := ti_rng x24_5; omega) (by (first | omega | (simp only [Int32.reduceToInt, true_and, and_true, ne_eq, not_true_eq_false, false_and, or_false, false_or, true_or, or_true, false_implies] <;> omega)))
      refine g_iload_n F 3 dX13_fitOf_8 rfl rfl ?_
      refine g_bipush F 16 dX13_fitOf_9 (by decide) ?_
      refine v_icmp_ge F 110 dX13_fitOf_11 (by decide) x8_3.toInt 16 rfl rfl (fun c36 => ?_) (fun c36 => ?_)
      · refine g_iload_n F 2 dX13_fitOf_110 rfl rfl ?_
        have b37 : (0 : Int) ≤ (Gj8 0 32).toInt ∧ (Gj8 0 32).toInt ≤ 7 := jI8 0 32
        exact u_iret F hA hQ hr Gj8 (⟨jI8, (gu_un.tr gu_un.rf (gu_un.su jU8 rfl)), (nh8), (by show ((Gj8 0 32).toInt = (G 0 32).toInt); (first | omega | (simp only [Int32.reduceToInt, true_and, and_true, ne_eq, not_true_eq_false, false_and, or_false, false_or, true_or, or_true, false_implies] <;> omega)))⟩) rfl rfl dX13_fitOf_111
      · refine g_aload_n F 0 dX13_fitOf_14 rfl rfl ?_
        refine g_iload_n F 3 dX13_fitOf_15 rfl rfl ?_
        refine u_callVi (k := 0) (n := 0) (b := a 0) (As := [.int x8_3]) (st := []) F (fun sz => S_X13_isPair l D K a Gj8 x8_3 x8_3.toInt rfl jI8 sz) (cwV 1 hts gX13_fitOf_X13_isPair rfl rfl rfl (by decide +kernel) ⟨Nat.le_of_ble_eq_true rfl, Nat.le_of_ble_eq_true rfl⟩) rfl 0 yc_0 rfl (Nat.le_of_ble_eq_true rfl) ⟨Nat.zero_le _, Nat.zero_le _⟩ dX13_fitOf_16 (fun r38 _ hw39 => ?_)
        have rg41 := hw39
        clear hw39
        refine g_istore F [(4, .int r38), (0, .ref (a 0)), (1, .int p0), (2, .int x8_2), (3, .int x8_3)] dX13_fitOf_19 (by decide) rfl ?_
        refine g_iconst F 0 dX13_fitOf_21 (by decide) ?_
        refine g_istore F [(5, .int 0), (4, .int r38), (0, .ref (a 0)), (1, .int p0), (2, .int x8_2), (3, .int x8_3)] dX13_fitOf_22 (by decide) rfl ?_
        refine g_locals [(0, .ref (a 0)), (1, .int p0), (2, .int x8_2), (3, .int x8_3), (4, .int r38), (5, .int 0)] [2, 3, 4, 5, 1, 0] rfl ?_
        have b42 : (0 : Int) ≤ (Gj8 0 32).toInt ∧ (Gj8 0 32).toInt ≤ 7 := jI8 0 32
        exact J_24 _ r38 0 (Nat.lt_succ_self _) (by have h9 := ti_rng x8_3; omega) (by have h9 := ti_rng r38; omega) (by decide) (by (first | omega | (simp only [Int32.reduceToInt, true_and, and_true, ne_eq, not_true_eq_false, false_and, or_false, false_or, true_or, or_true, false_implies] <;> omega)))
  refine g_aload_n F 0 dX13_fitOf_0 rfl rfl ?_
  refine u_callVv (k := 0) (n := 0) (b := a 0) (As := []) (st := []) F (fun sz => S_X13_findVerdicts l D K a G  (wf) (by (first | omega | (simp only [Int32.reduceToInt, true_and, and_true, ne_eq, not_true_eq_false, false_and, or_false, false_or, true_or, or_true, false_implies] <;> omega))) hI sz) (cwV 0 hts gX13_fitOf_X13_findVerdicts rfl rfl rfl (by decide +kernel) ⟨Nat.le_of_ble_eq_true rfl, Nat.le_of_ble_eq_true rfl⟩) rfl 0 yc_0 rfl (Nat.le_of_ble_eq_true rfl) ⟨Nat.zero_le _, Nat.zero_le _⟩ dX13_fitOf_1 (fun G45 hw44 => ?_)
  have hI46 : yI G45 := hw44.1
  have hU47 : gu_un ycd [29, 33, 36, 37, 1300, 1400, 1500, 1600, 1700, 1800, 1900, 2000, 2100, 4500] G G45 := hw44.2.1
  have hp48 := hw44.2.2
  have q49 : yNh G G45 := hp48.1
  have b50 : (0 : Int) ≤ (G45 0 32).toInt ∧ (G45 0 32).toInt ≤ 7 := hI46 0 32
  have q51 : ((G45 0 32).toInt = (G 0 32).toInt) := hp48.2
  clear hp48 hw44
  refine g_iconst F 0 dX13_fitOf_4 (by decide) ?_
  refine g_istore_n F [(2, .int 0), (0, .ref (a 0)), (1, .int p0)] dX13_fitOf_5 rfl (by decide) rfl ?_
  refine g_iconst F 0 dX13_fitOf_6 (by decide) ?_
  refine g_istore_n F [(3, .int 0), (2, .int 0), (0, .ref (a 0)), (1, .int p0)] dX13_fitOf_7 rfl (by decide) rfl ?_
  refine g_locals [(0, .ref (a 0)), (1, .int p0), (2, .int 0), (3, .int 0)] [2, 3, 1, 0] rfl ?_
  exact J_8 _ 0 0 G45 (Nat.lt_succ_self _) (by decide) hI46 (gu_un.tr gu_un.rf (gu_un.su hU47 rfl)) (by (first | omega | (simp only [Int32.reduceToInt, true_and, and_true, ne_eq, not_true_eq_false, false_and, or_false, false_or, true_or, or_true, false_implies] <;> omega))) ((yNh.tr (show yNh G G from yNh.rf) (show yNh G G45 from q49)))

theorem dX13_fit_0 : decode cX13_fit 0 = .ok (.iload_n 1, 1) := by decide +kernel
theorem dX13_fit_1 : decode cX13_fit 1 = .ok (.i2l, 1) := by decide +kernel
theorem dX13_fit_2 : decode cX13_fit 2 = .ok (.lconst 0, 1) := by decide +kernel
theorem dX13_fit_3 : decode cX13_fit 3 = .ok (.ldc2_w 500, 3) := by decide +kernel
theorem dX13_fit_6 : decode cX13_fit 6 = .ok (.invokestatic 61, 3) := by decide +kernel
theorem dX13_fit_9 : decode cX13_fit 9 = .ok (.ifCond .eq 11, 3) := by decide +kernel
theorem dX13_fit_12 : decode cX13_fit 12 = .ok (.aload_n 0, 1) := by decide +kernel
theorem dX13_fit_13 : decode cX13_fit 13 = .ok (.iload_n 1, 1) := by decide +kernel
theorem dX13_fit_14 : decode cX13_fit 14 = .ok (.invokevirtual 511, 3) := by decide +kernel
theorem dX13_fit_17 : decode cX13_fit 17 = .ok (.goto 5, 3) := by decide +kernel
theorem dX13_fit_20 : decode cX13_fit 20 = .ok (.bipush (-2), 2) := by decide +kernel
theorem dX13_fit_22 : decode cX13_fit 22 = .ok (.ireturn, 1) := by decide +kernel
set_option maxRecDepth 20000 in
theorem ggX13_fit_X13_fitOf : GoodIn wsX13_fit wsX13_fitOf := goodIn_r _ [9, 10, 11, 12, 13, 14, 15, 4, 16, 17, 18, 19, 20, 21, 22, 23, 24, 25, 26, 27, 28, 29, 30, 31, 32, 33, 34, 35, 36, 37, 38, 39, 40, 41, 42, 43, 44, 45, 46, 47, 48, 49, 50, 51, 52, 53, 54, 55, 56, 57, 58, 59, 60, 61, 62, 63, 64, 65, 66, 67, 68, 69, 70, 71, 72, 73, 74, 75, 76, 77, 78, 79, 80, 81, 82, 83, 84, 85, 86, 87, 88, 89, 90, 91, 92, 93, 94, 95, 96, 97, 98, 99, 100, 101, 102, 103, 104, 105, 106, 107, 108, 109, 110, 111, 112, 113, 114, 115, 116, 117, 118, 119, 120, 121, 122, 123, 124, 125, 126, 127, 128, 129, 130, 131, 132, 133, 134, 135, 136, 137, 138, 139, 140, 141, 142, 143, 144, 145, 146, 147, 148, 149, 150, 151, 152, 153, 154, 155, 156, 157, 158, 159, 160, 161, 162, 163, 164, 165, 166, 167, 168, 169, 170, 171, 172, 173, 174, 175, 176, 177, 178, 179, 180, 181, 182, 183, 184] rfl (by decide +kernel)
set_option maxRecDepth 20000 in
theorem gX13_fit_X13_fitOf : GoodIn wsX13_fit (wsV RX13 511 RX13 yX13_fitOf wsX13_fitOf) := goodIn_app (goodIn_of _ (by decide +kernel)) ggX13_fit_X13_fitOf
set_option maxRecDepth 20000 in
theorem ggX13_fit_X13_in : GoodIn wsX13_fit wsX13_in := goodIn_r _ [5] rfl (by decide +kernel)
set_option maxRecDepth 20000 in
theorem gX13_fit_X13_in : GoodIn wsX13_fit (va_wsS RX13 61 yX13_in wsX13_in) := goodIn_app (goodIn_of _ (by decide +kernel)) ggX13_fit_X13_in
set_option maxHeartbeats 4000000 in
set_option maxRecDepth 100000 in
theorem S_X13_fit (l : Launch) (D : va_G) (K : Nat → ClassId) (a : Nat → Nat) (G : gS) (p0 : Int32) (s0 : Int) (e0 : p0.toInt = s0) (wf : yW3 G) (dl : ((G 0 32).toInt ≤ 6)) (hI : yI G) (sz : Nat) : Ki l yX13_fit wsX13_fit 8 225 0 0 D [.ref (a 0), .int p0] (yW K a G) (tK K) sz (fun (r : Int32) (G' : gS) => (yI G') ∧ (gu_un ycd [29, 33, 36, 37, 1300, 1400, 1500, 1600, 1700, 1800, 1900, 2000, 2100, 4500] G G') ∧ (yNh G G') ∧ (((G' 0 32).toInt = (G 0 32).toInt))) (fun (G' : gS) => (yW K a G')) (fun _ => (tK K)) := by
  unfold Ki
  refine g_ofW (cc := cX13_fit) (lv := [(0, .ref (a 0)), (1, .int p0)]) (by decide) rfl (Nat.le_of_ble_eq_true rfl) rfl ?_
  intro p e s m args below meth c A Q hA hQ F hr hnm
  have hts := F.2.2.2.2.1
  have w_0 : (Cond.constantLong RX13 500 (999)).before args s = true := hts _ (List.mem_of_getElem? (i := 1) rfl)
  have rg0 : -2147483648 ≤ s0 ∧ s0 ≤ 2147483647 := e0 ▸ ti_rng p0
  have b1 : (0 : Int) ≤ (G 0 32).toInt ∧ (G 0 32).toInt ≤ 7 := hI 0 32
  have b2 : (4 : Int) ≤ (G 3 0).toInt ∧ (G 3 0).toInt ≤ 16 := hI 3 0
  have b3 : (1 : Int) ≤ (G 3 1).toInt ∧ (G 3 1).toInt ≤ 6 := hI 3 1
  refine g_iload_n F 1 dX13_fit_0 rfl rfl ?_
  refine g_i2l F dX13_fit_1 ?_
  refine g_lconst F 0 dX13_fit_2 (by decide) ?_
  refine g_ldc2 F w_0 dX13_fit_3 ?_
  refine u_call0 (k := 0) (n := 0) (As := [.long (Int32.toInt64 p0), .long 0, .long 999]) (st := []) F (fun sz => S_X13_in l D (Int32.toInt64 p0) s0 0 0 999 999 (ti_i2l e0) rfl rfl sz) (va_cwS 3 hts gX13_fit_X13_in rfl rfl rfl (by decide +kernel) ⟨Nat.le_of_ble_eq_true rfl, Nat.le_of_ble_eq_true rfl⟩) rfl (Nat.le_of_ble_eq_true rfl) ⟨Nat.zero_le _, Nat.zero_le _⟩ dX13_fit_6 (fun r4 _ hw5 => ?_)
  rcases hw5 with ⟨rfl, q7⟩ | ⟨rfl, q8⟩
  · refine v_if_eq F 20 dX13_fit_9 (by decide) 1 rfl (fun c9 => absurd c9 (by decide)) (fun c9 => ?_)
    refine g_aload_n F 0 dX13_fit_12 rfl rfl ?_
    refine g_iload_n F 1 dX13_fit_13 rfl rfl ?_
    refine u_callVi (k := 0) (n := 0) (b := a 0) (As := [.int p0]) (st := []) F (fun sz => S_X13_fitOf l D K a G p0 s0 e0 (wf) (by (first | omega | (simp only [Int32.reduceToInt, true_and, and_true, ne_eq, not_true_eq_false, false_and, or_false, false_or, true_or, or_true, false_implies] <;> omega))) hI sz) (cwV 1 hts gX13_fit_X13_fitOf rfl rfl rfl (by decide +kernel) ⟨Nat.le_of_ble_eq_true rfl, Nat.le_of_ble_eq_true rfl⟩) rfl 0 yc_0 rfl (Nat.le_of_ble_eq_true rfl) ⟨Nat.zero_le _, Nat.zero_le _⟩ dX13_fit_14 (fun r10 G12 hw11 => ?_)
    have hI13 : yI G12 := hw11.1
    have hU14 : gu_un ycd [29, 33, 36, 37, 1300, 1400, 1500, 1600, 1700, 1800, 1900, 2000, 2100, 4500] G G12 := hw11.2.1
    have hp15 := hw11.2.2
    have q16 : yNh G G12 := hp15.1
    have b17 : (0 : Int) ≤ (G12 0 32).toInt ∧ (G12 0 32).toInt ≤ 7 := hI13 0 32
    have q18 : ((G12 0 32).toInt = (G 0 32).toInt) := hp15.2
    clear hp15 hw11
    refine g_goto F 22 dX13_fit_17 (by decide) ?_
    exact u_iret F hA hQ hr G12 (⟨hI13, (gu_un.tr gu_un.rf (gu_un.su hU14 rfl)), ((yNh.tr (show yNh G G from yNh.rf) (show yNh G G12 from q16))), (by show ((G12 0 32).toInt = (G 0 32).toInt); (first | omega | (simp only [Int32.reduceToInt, true_and, and_true, ne_eq, not_true_eq_false, false_and, or_false, false_or, true_or, or_true, false_implies] <;> omega)))⟩) rfl rfl dX13_fit_22
  · refine v_if_eq F 20 dX13_fit_9 (by decide) 0 rfl (fun c19 => ?_) (fun c19 => absurd c19 (by decide))
    refine g_bipush F (-2) dX13_fit_20 (by decide) ?_
    exact u_iret F hA hQ hr G (⟨hI, gu_un.rf, (yNh.rf), (by show ((G 0 32).toInt = (G 0 32).toInt); (first | omega | (simp only [Int32.reduceToInt, true_and, and_true, ne_eq, not_true_eq_false, false_and, or_false, false_or, true_or, or_true, false_implies] <;> omega)))⟩) rfl rfl dX13_fit_22

theorem dX13_next_0 : decode cX13_next 0 = .ok (.aload_n 0, 1) := by decide +kernel
theorem dX13_next_1 : decode cX13_next 1 = .ok (.sipush 999, 3) := by decide +kernel
theorem dX13_next_4 : decode cX13_next 4 = .ok (.invokevirtual 511, 3) := by decide +kernel
theorem dX13_next_7 : decode cX13_next 7 = .ok (.istore_n 1, 1) := by decide +kernel
theorem dX13_next_8 : decode cX13_next 8 = .ok (.iconst (-1), 1) := by decide +kernel
theorem dX13_next_9 : decode cX13_next 9 = .ok (.istore_n 2, 1) := by decide +kernel
theorem dX13_next_10 : decode cX13_next 10 = .ok (.iload_n 1, 1) := by decide +kernel
theorem dX13_next_11 : decode cX13_next 11 = .ok (.invokestatic 490, 3) := by decide +kernel
theorem dX13_next_14 : decode cX13_next 14 = .ok (.istore_n 3, 1) := by decide +kernel
theorem dX13_next_15 : decode cX13_next 15 = .ok (.iconst 0, 1) := by decide +kernel
theorem dX13_next_16 : decode cX13_next 16 = .ok (.istore 4, 2) := by decide +kernel
theorem dX13_next_18 : decode cX13_next 18 = .ok (.iload 4, 2) := by decide +kernel
theorem dX13_next_20 : decode cX13_next 20 = .ok (.aload_n 0, 1) := by decide +kernel
theorem dX13_next_21 : decode cX13_next 21 = .ok (.getfield 338, 3) := by decide +kernel
theorem dX13_next_24 : decode cX13_next 24 = .ok (.if_icmp .ge 108, 3) := by decide +kernel
theorem dX13_next_27 : decode cX13_next 27 = .ok (.iconst 0, 1) := by decide +kernel
theorem dX13_next_28 : decode cX13_next 28 = .ok (.istore 5, 2) := by decide +kernel
theorem dX13_next_30 : decode cX13_next 30 = .ok (.iconst 0, 1) := by decide +kernel
theorem dX13_next_31 : decode cX13_next 31 = .ok (.istore 6, 2) := by decide +kernel
theorem dX13_next_33 : decode cX13_next 33 = .ok (.iload 6, 2) := by decide +kernel
theorem dX13_next_35 : decode cX13_next 35 = .ok (.iconst 2, 1) := by decide +kernel
theorem dX13_next_36 : decode cX13_next 36 = .ok (.if_icmp .gt 75, 3) := by decide +kernel
theorem dX13_next_39 : decode cX13_next 39 = .ok (.iconst 0, 1) := by decide +kernel
theorem dX13_next_40 : decode cX13_next 40 = .ok (.istore 7, 2) := by decide +kernel
theorem dX13_next_42 : decode cX13_next 42 = .ok (.iconst 0, 1) := by decide +kernel
theorem dX13_next_43 : decode cX13_next 43 = .ok (.istore 8, 2) := by decide +kernel
theorem dX13_next_45 : decode cX13_next 45 = .ok (.iload 8, 2) := by decide +kernel
theorem dX13_next_47 : decode cX13_next 47 = .ok (.bipush 16, 2) := by decide +kernel
theorem dX13_next_49 : decode cX13_next 49 = .ok (.if_icmp .ge 47, 3) := by decide +kernel
theorem dX13_next_52 : decode cX13_next 52 = .ok (.iload 7, 2) := by decide +kernel
theorem dX13_next_54 : decode cX13_next 54 = .ok (.iload_n 1, 1) := by decide +kernel
theorem dX13_next_55 : decode cX13_next 55 = .ok (.iload 8, 2) := by decide +kernel
theorem dX13_next_57 : decode cX13_next 57 = .ok (.ishr, 1) := by decide +kernel
theorem dX13_next_58 : decode cX13_next 58 = .ok (.iconst 1, 1) := by decide +kernel
theorem dX13_next_59 : decode cX13_next 59 = .ok (.iand, 1) := by decide +kernel
theorem dX13_next_60 : decode cX13_next 60 = .ok (.iconst 1, 1) := by decide +kernel
theorem dX13_next_61 : decode cX13_next 61 = .ok (.if_icmp .ne 25, 3) := by decide +kernel
theorem dX13_next_64 : decode cX13_next 64 = .ok (.aload_n 0, 1) := by decide +kernel
theorem dX13_next_65 : decode cX13_next 65 = .ok (.getfield 307, 3) := by decide +kernel
theorem dX13_next_68 : decode cX13_next 68 = .ok (.bipush 10, 2) := by decide +kernel
theorem dX13_next_70 : decode cX13_next 70 = .ok (.iload 8, 2) := by decide +kernel
theorem dX13_next_72 : decode cX13_next 72 = .ok (.imul, 1) := by decide +kernel
theorem dX13_next_73 : decode cX13_next 73 = .ok (.iload 4, 2) := by decide +kernel
theorem dX13_next_75 : decode cX13_next 75 = .ok (.iadd, 1) := by decide +kernel
theorem dX13_next_76 : decode cX13_next 76 = .ok (.iaload, 1) := by decide +kernel
theorem dX13_next_77 : decode cX13_next 77 = .ok (.iload 6, 2) := by decide +kernel
theorem dX13_next_79 : decode cX13_next 79 = .ok (.if_icmp .ne 7, 3) := by decide +kernel
theorem dX13_next_82 : decode cX13_next 82 = .ok (.iconst 1, 1) := by decide +kernel
theorem dX13_next_83 : decode cX13_next 83 = .ok (.goto 4, 3) := by decide +kernel
theorem dX13_next_86 : decode cX13_next 86 = .ok (.iconst 0, 1) := by decide +kernel
theorem dX13_next_87 : decode cX13_next 87 = .ok (.iadd, 1) := by decide +kernel
theorem dX13_next_88 : decode cX13_next 88 = .ok (.istore 7, 2) := by decide +kernel
theorem dX13_next_90 : decode cX13_next 90 = .ok (.iinc 8 1, 3) := by decide +kernel
theorem dX13_next_93 : decode cX13_next 93 = .ok (.goto (-48), 3) := by decide +kernel
theorem dX13_next_96 : decode cX13_next 96 = .ok (.iload 5, 2) := by decide +kernel
theorem dX13_next_98 : decode cX13_next 98 = .ok (.iload 7, 2) := by decide +kernel
theorem dX13_next_100 : decode cX13_next 100 = .ok (.invokestatic 152, 3) := by decide +kernel
theorem dX13_next_103 : decode cX13_next 103 = .ok (.istore 5, 2) := by decide +kernel
theorem dX13_next_105 : decode cX13_next 105 = .ok (.iinc 6 1, 3) := by decide +kernel
theorem dX13_next_108 : decode cX13_next 108 = .ok (.goto (-75), 3) := by decide +kernel
theorem dX13_next_111 : decode cX13_next 111 = .ok (.iload 5, 2) := by decide +kernel
theorem dX13_next_113 : decode cX13_next 113 = .ok (.iload_n 3, 1) := by decide +kernel
theorem dX13_next_114 : decode cX13_next 114 = .ok (.if_icmp .lt 6, 3) := by decide +kernel
theorem dX13_next_117 : decode cX13_next 117 = .ok (.goto 9, 3) := by decide +kernel
theorem dX13_next_120 : decode cX13_next 120 = .ok (.iload 5, 2) := by decide +kernel
theorem dX13_next_122 : decode cX13_next 122 = .ok (.istore_n 3, 1) := by decide +kernel
theorem dX13_next_123 : decode cX13_next 123 = .ok (.iload 4, 2) := by decide +kernel
theorem dX13_next_125 : decode cX13_next 125 = .ok (.istore_n 2, 1) := by decide +kernel
theorem dX13_next_126 : decode cX13_next 126 = .ok (.iinc 4 1, 3) := by decide +kernel
theorem dX13_next_129 : decode cX13_next 129 = .ok (.goto (-111), 3) := by decide +kernel
theorem dX13_next_132 : decode cX13_next 132 = .ok (.iload_n 2, 1) := by decide +kernel
theorem dX13_next_133 : decode cX13_next 133 = .ok (.ireturn, 1) := by decide +kernel
set_option maxRecDepth 20000 in
theorem ggX13_next_X13_bits : GoodIn wsX13_next wsX13_bits := goodIn_r _ [110] rfl (by decide +kernel)
set_option maxRecDepth 20000 in
theorem gX13_next_X13_bits : GoodIn wsX13_next (va_wsS RX13 490 yX13_bits wsX13_bits) := goodIn_app (goodIn_of _ (by decide +kernel)) ggX13_next_X13_bits
set_option maxRecDepth 20000 in
theorem ggX13_next_X13_fitOf : GoodIn wsX13_next wsX13_fitOf := goodIn_r _ [11, 12, 2, 13, 14, 15, 16, 10, 17, 1, 18, 19, 20, 21, 22, 23, 24, 25, 26, 27, 28, 29, 30, 31, 32, 33, 34, 35, 36, 37, 38, 39, 40, 41, 42, 43, 44, 45, 5, 46, 3, 4, 6, 47, 48, 49, 50, 51, 52, 53, 54, 55, 56, 57, 58, 59, 60, 61, 62, 63, 64, 65, 66, 67, 68, 69, 70, 71, 72, 73, 74, 75, 76, 77, 78, 79, 80, 81, 82, 83, 84, 85, 86, 87, 88, 89, 90, 91, 92, 93, 94, 95, 96, 97, 98, 99, 100, 101, 102, 103, 104, 105, 106, 107, 111, 112, 113, 114, 115, 116, 117, 118, 119, 120, 121, 122, 123, 124, 125, 126, 127, 128, 129, 130, 131, 132, 133, 134, 135, 136, 137, 138, 139, 140, 141, 142, 143, 144, 145, 146, 147, 148, 149, 150, 151, 152, 153, 154, 155, 156, 157, 158, 159, 160, 161, 162, 163, 164, 165, 166, 167, 168, 169, 170, 171, 172, 173, 174, 175, 176, 177, 178, 179, 180, 181, 182, 183] rfl (by decide +kernel)
set_option maxRecDepth 20000 in
theorem gX13_next_X13_fitOf : GoodIn wsX13_next (wsV RX13 511 RX13 yX13_fitOf wsX13_fitOf) := goodIn_app (goodIn_of _ (by decide +kernel)) ggX13_next_X13_fitOf
set_option maxHeartbeats 4000000 in
set_option maxRecDepth 100000 in
theorem S_X13_next (l : Launch) (D : va_G) (K : Nat → ClassId) (a : Nat → Nat) (G : gS) (wf : yW3 G) (dl : ((G 0 32).toInt ≤ 6)) (hI : yI G) (sz : Nat) : Ki l yX13_next wsX13_next 8 225 0 0 D [.ref (a 0)] (yW K a G) (tK K) sz (fun (r : Int32) (G' : gS) => (yI G') ∧ (gu_un ycd [29, 33, 36, 37, 1300, 1400, 1500, 1600, 1700, 1800, 1900, 2000, 2100, 4500] G G') ∧ ((-1) ≤ r.toInt ∧ r.toInt ≤ 9) ∧ (yNh G G') ∧ (((G' 0 32).toInt = (G 0 32).toInt))) (fun (G' : gS) => (yW K a G')) (fun _ => (tK K)) := by
  unfold Ki
  refine g_ofW (cc := cX13_next) (lv := [(0, .ref (a 0))]) (by decide) rfl (Nat.le_of_ble_eq_true rfl) rfl ?_
  intro p e s m args below meth c A Q hA hQ F hr hnm
  have hts := F.2.2.2.2.1
  have w_0 : (Cond.methodLink RX13 152 Lib.Math.max.name).before args s = true := hts _ (List.mem_of_getElem? (i := 3) rfl)
  have w_1 : (Cond.static Lib.Math.max.name).before args s = true := hts _ (List.mem_of_getElem? (i := 4) rfl)
  have w_2 : (Cond.initialized "java/lang/Math").before args s = true := hts _ (List.mem_of_getElem? (i := 5) rfl)
  have w_3 : (Cond.code Lib.Math.max.name Lib.Math.max.code 2 (some .int)).before args s = true := hts _ (List.mem_of_getElem? (i := 6) rfl)
  have w_4 : (Cond.fieldLink RX13 307 "QuietCutModel" "verdictOf" "[I").before args s = true := hts _ (List.mem_of_getElem? (i := 2) rfl)
  have i_X13 : ∀ w ∈ u_ws RX13 TX13 73, w ∈ wsX13_next := fun _ h => List.mem_cons_of_mem _ (List.mem_append_right _ h)
  have w_5 : (Cond.fieldLink RX13 338 "QuietCutModel" "offers" "I").before args s = true := hts _ (List.mem_of_getElem? (i := 1) rfl)
  have b1 : (0 : Int) ≤ (G 0 32).toInt ∧ (G 0 32).toInt ≤ 7 := hI 0 32
  have b2 : (4 : Int) ≤ (G 3 0).toInt ∧ (G 3 0).toInt ≤ 16 := hI 3 0
  have b3 : (1 : Int) ≤ (G 3 1).toInt ∧ (G 3 1).toInt ≤ 6 := hI 3 1
  have J_18 : ∀ (fuel : Nat) (x18_1 : Int32) (x18_2 : Int32) (x18_3 : Int32) (x18_4 : Int32) (Gj18 : gS), (2147483647 - x18_4.toInt).toNat < fuel → ((-1) ≤ x18_2.toInt ∧ x18_2.toInt ≤ 9) → (0 ≤ x18_4.toInt ∧ x18_4.toInt ≤ 10) → (yI Gj18) → (gu_un ycd [29, 33, 36, 37, 1300, 1400, 1500, 1600, 1700, 1800, 1900, 2000, 2100, 4500] G Gj18) → (((Gj18 0 32).toInt = (G 0 32).toInt)) → (yNh G Gj18) → gG p l e (gR 8 0 0 225) s m args below meth c D A 9 Q 0 0 (yW K a Gj18) (tK K) [(0, .ref (a 0)), (1, .int x18_1), (2, .int x18_2), (3, .int x18_3), (4, .int x18_4)] 18 [] := by
    intro fuel
    induction fuel with
    | zero => intro x18_1 x18_2 x18_3 x18_4 Gj18 hm; exact absurd hm (Nat.not_lt_zero _)
    | succ fuel_18 ih_18 =>
      intro x18_1 x18_2 x18_3 x18_4 Gj18 hm_18 h18_2 h18_4 jI18 jU18 dc_18 nh18
      have J_126 : ∀  (x126_2 : Int32) (x126_3 : Int32), ((-1) ≤ x126_2.toInt ∧ x126_2.toInt ≤ 9) → (0 ≤ x18_4.toInt ∧ x18_4.toInt ≤ 9) → (((Gj18 0 32).toInt = (G 0 32).toInt)) → gG p l e (gR 8 0 0 225) s m args below meth c D A 9 Q 0 0 (yW K a Gj18) (tK K) [(0, .ref (a 0)), (1, .int x18_1), (2, .int x126_2), (3, .int x126_3), (4, .int x18_4)] 126 [] := by
        intro x126_2 x126_3 h126_2 k126_4 dc_126
        refine u_iinc F (fun v_ => [(4, .int v_), (0, .ref (a 0)), (1, .int x18_1), (2, .int x126_2), (3, .int x126_3)]) dX13_next_126 (j := 4) rfl x18_4.toInt 1 rfl rfl (by omega) (by omega) (by decide) (fun _ => rfl) (fun y4 ey4 => ?_)
        refine g_goto F 18 dX13_next_129 (by decide) ?_
        refine g_locals [(0, .ref (a 0)), (1, .int x18_1), (2, .int x126_2), (3, .int x126_3), (4, .int y4)] [1, 2, 3, 4, 0] rfl ?_
        have b5 : (0 : Int) ≤ (Gj18 0 32).toInt ∧ (Gj18 0 32).toInt ≤ 7 := jI18 0 32
        exact ih_18 x18_1 x126_2 x126_3 y4 Gj18 (by omega) (by have h9 := ti_rng x126_2; omega) (by have h9 := ti_rng y4; omega) jI18 (gu_un.tr gu_un.rf (gu_un.su jU18 rfl)) (by (first | omega | (simp only [Int32.reduceToInt, true_and, and_true, ne_eq, not_true_eq_false, false_and, or_false, false_or, true_or, or_true, false_implies] <;> omega))) (nh18)
      have J_33 : ∀ (fuel : Nat) (x33_5 : Int32) (x33_6 : Int32), (2147483647 - x33_6.toInt).toNat < fuel → (0 ≤ x18_4.toInt ∧ x18_4.toInt ≤ 9) → (0 ≤ x33_5.toInt ∧ x33_5.toInt ≤ 2147483647) → (0 ≤ x33_6.toInt ∧ x33_6.toInt ≤ 3) → (((Gj18 0 32).toInt = (G 0 32).toInt)) → gG p l e (gR 8 0 0 225) s m args below meth c D A 9 Q 0 0 (yW K a Gj18) (tK K) [(0, .ref (a 0)), (1, .int x18_1), (2, .int x18_2), (3, .int x18_3), (4, .int x18_4), (5, .int x33_5), (6, .int x33_6)] 33 [] := by
        intro fuel
        induction fuel with
        | zero => intro x33_5 x33_6 hm; exact absurd hm (Nat.not_lt_zero _)
        | succ fuel_33 ih_33 =>
          intro x33_5 x33_6 hm_33 k33_4 h33_5 h33_6 dc_33
          have J_45 : ∀ (fuel : Nat) (x45_7 : Int32) (x45_8 : Int32), (2147483647 - x45_8.toInt).toNat < fuel → (0 ≤ x33_6.toInt ∧ x33_6.toInt ≤ 2) → (0 ≤ x45_8.toInt ∧ x45_8.toInt ≤ 16) → (((Gj18 0 32).toInt = (G 0 32).toInt)) → gG p l e (gR 8 0 0 225) s m args below meth c D A 9 Q 0 0 (yW K a Gj18) (tK K) [(0, .ref (a 0)), (1, .int x18_1), (2, .int x18_2), (3, .int x18_3), (4, .int x18_4), (5, .int x33_5), (6, .int x33_6), (7, .int x45_7), (8, .int x45_8)] 45 [] := by
            intro fuel
            induction fuel with
            | zero => intro x45_7 x45_8 hm; exact absurd hm (Nat.not_lt_zero _)
            | succ fuel_45 ih_45 =>
              intro x45_7 x45_8 hm_45 k45_6 h45_8 dc_45
              have J_87 : ∀  (z87_0 : Int32), (0 ≤ x45_8.toInt ∧ x45_8.toInt ≤ 15) → (0 ≤ z87_0.toInt ∧ z87_0.toInt ≤ 1) → (((Gj18 0 32).toInt = (G 0 32).toInt)) → gG p l e (gR 8 0 0 225) s m args below meth c D A 9 Q 0 0 (yW K a Gj18) (tK K) [(0, .ref (a 0)), (1, .int x18_1), (2, .int x18_2), (3, .int x18_3), (4, .int x18_4), (5, .int x33_5), (6, .int x33_6), (8, .int x45_8)] 87 [.int z87_0, .int x45_7] := by
                intro z87_0 k87_8 g87_0 dc_87
                refine u0_iadd F dX13_next_87 (fun y6 => ?_)
                refine g_istore F [(7, .int y6), (0, .ref (a 0)), (1, .int x18_1), (2, .int x18_2), (3, .int x18_3), (4, .int x18_4), (5, .int x33_5), (6, .int x33_6), (8, .int x45_8)] dX13_next_88 (by decide) rfl ?_
                refine u_iinc F (fun v_ => [(8, .int v_), (7, .int y6), (0, .ref (a 0)), (1, .int x18_1), (2, .int x18_2), (3, .int x18_3), (4, .int x18_4), (5, .int x33_5), (6, .int x33_6)]) dX13_next_90 (j := 8) rfl x45_8.toInt 1 rfl rfl (by omega) (by omega) (by decide) (fun _ => rfl) (fun y7 ey7 => ?_)
                refine g_goto F 45 dX13_next_93 (by decide) ?_
                refine g_locals [(0, .ref (a 0)), (1, .int x18_1), (2, .int x18_2), (3, .int x18_3), (4, .int x18_4), (5, .int x33_5), (6, .int x33_6), (7, .int y6), (8, .int y7)] [2, 3, 4, 5, 6, 7, 8, 1, 0] rfl ?_
                have b8 : (0 : Int) ≤ (Gj18 0 32).toInt ∧ (Gj18 0 32).toInt ≤ 7 := jI18 0 32
                exact ih_45 y6 y7 (by omega) (by have h9 := ti_rng x33_6; omega) (by have h9 := ti_rng y7; omega) (by (first | omega | (simp only [Int32.reduceToInt, true_and, and_true, ne_eq, not_true_eq_false, false_and, or_false, false_or, true_or, or_true, false_implies] <;> omega)))
              have J_86 : ∀ (_ : Unit), (0 ≤ x45_8.toInt ∧ x45_8.toInt ≤ 15) → (((Gj18 0 32).toInt = (G 0 32).toInt)) → gG p l e (gR 8 0 0 225) s m args below meth c D A 9 Q 0 0 (yW K a Gj18) (tK K) [(0, .ref (a 0)), (1, .int x18_1), (2, .int x18_2), (3, .int x18_3), (4, .int x18_4), (5, .int x33_5), (6, .int x33_6), (8, .int x45_8)] 86 [.int x45_7] := by
                intro _ k86_8 dc_86
                refine g_iconst F 0 dX13_next_86 (by decide) ?_
                have b9 : (0 : Int) ≤ (Gj18 0 32).toInt ∧ (Gj18 0 32).toInt ≤ 7 := jI18 0 32
                exact J_87 0 (by have h9 := ti_rng x45_8; omega) (by decide) (by (first | omega | (simp only [Int32.reduceToInt, true_and, and_true, ne_eq, not_true_eq_false, false_and, or_false, false_or, true_or, or_true, false_implies] <;> omega)))
              refine g_iload F 8 dX13_next_45 rfl ?_
              refine g_bipush F 16 dX13_next_47 (by decide) ?_
              refine v_icmp_ge F 96 dX13_next_49 (by decide) x45_8.toInt 16 rfl rfl (fun c10 => ?_) (fun c10 => ?_)
              · refine g_iload F 5 dX13_next_96 rfl ?_
                refine g_iload F 7 dX13_next_98 rfl ?_
                have b12 := ti_rng x33_5
                refine u_mmax F w_0 w_1 w_2 w_3 (Nat.le_of_ble_eq_true rfl) (Nat.le_of_ble_eq_true rfl) (Nat.le_of_ble_eq_true rfl) (Nat.le_of_ble_eq_true rfl) dX13_next_100 x33_5.toInt x45_7.toInt rfl rfl (fun y11 ey11 => ?_)
                refine g_istore F [(5, .int y11), (0, .ref (a 0)), (1, .int x18_1), (2, .int x18_2), (3, .int x18_3), (4, .int x18_4), (6, .int x33_6), (7, .int x45_7), (8, .int x45_8)] dX13_next_103 (by decide) rfl ?_
                refine u_iinc F (fun v_ => [(6, .int v_), (5, .int y11), (0, .ref (a 0)), (1, .int x18_1), (2, .int x18_2), (3, .int x18_3), (4, .int x18_4), (7, .int x45_7), (8, .int x45_8)]) dX13_next_105 (j := 6) rfl x33_6.toInt 1 rfl rfl (by omega) (by omega) (by decide) (fun _ => rfl) (fun y13 ey13 => ?_)
                refine g_goto F 33 dX13_next_108 (by decide) ?_
                refine g_locals [(0, .ref (a 0)), (1, .int x18_1), (2, .int x18_2), (3, .int x18_3), (4, .int x18_4), (5, .int y11), (6, .int y13)] [2, 3, 4, 5, 6, 1, 0] rfl ?_
                have b14 : (0 : Int) ≤ (Gj18 0 32).toInt ∧ (Gj18 0 32).toInt ≤ 7 := jI18 0 32
                exact ih_33 y11 y13 (by omega) (by have h9 := ti_rng x18_4; omega) (by have h9 := ti_rng y11; omega) (by have h9 := ti_rng y13; omega) (by (first | omega | (simp only [Int32.reduceToInt, true_and, and_true, ne_eq, not_true_eq_false, false_and, or_false, false_or, true_or, or_true, false_implies] <;> omega)))
              · refine g_iload F 7 dX13_next_52 rfl ?_
                refine g_iload_n F 1 dX13_next_54 rfl rfl ?_
                refine g_iload F 8 dX13_next_55 rfl ?_
                refine u0_ishr F dX13_next_57 (fun y15 => ?_)
                refine g_iconst F 1 dX13_next_58 (by decide) ?_
                refine u_iand F dX13_next_59 _ 1 rfl rfl (by omega) (fun y16 ey16 => ?_)
                refine g_iconst F 1 dX13_next_60 (by decide) ?_
                refine v_icmp_ne F 86 dX13_next_61 (by decide) y16.toInt 1 rfl rfl (fun c17 => ?_) (fun c17 => ?_)
                · refine g_locals [(0, .ref (a 0)), (1, .int x18_1), (2, .int x18_2), (3, .int x18_3), (4, .int x18_4), (5, .int x33_5), (6, .int x33_6), (8, .int x45_8)] [0, 1, 2, 3, 4, 5, 6, 8] rfl ?_
                  have b18 : (0 : Int) ≤ (Gj18 0 32).toInt ∧ (Gj18 0 32).toInt ≤ 7 := jI18 0 32
                  exact J_86 () (by have h9 := ti_rng x45_8; omega) (by (first | omega | (simp only [Int32.reduceToInt, true_and, and_true, ne_eq, not_true_eq_false, false_and, or_false, false_or, true_or, or_true, false_implies] <;> omega)))
                · refine g_aload_n F 0 dX13_next_64 rfl rfl ?_
                  refine yg_0_69 F i_X13 w_4 dX13_next_65 ?_
                  refine g_bipush F 10 dX13_next_68 (by decide) ?_
                  refine g_iload F 8 dX13_next_70 rfl ?_
                  refine u_imul F dX13_next_72 10 x45_8.toInt rfl rfl (by omega) (by omega) (fun y19 ey19 => ?_)
                  refine g_iload F 4 dX13_next_73 rfl ?_
                  refine u_iadd F dX13_next_75 y19.toInt x18_4.toInt rfl rfl (by omega) (by omega) (fun y20 ey20 => ?_)
                  refine u_iald F 45 0 yc_45 rfl y20.toInt rfl (by omega) (by omega) dX13_next_76 (fun _ => True) (fun _ => trivial) (fun y21 by21 => ?_)
                  refine g_iload F 6 dX13_next_77 rfl ?_
                  have b22 := ti_rng y21
                  refine v_icmp_ne F 86 dX13_next_79 (by decide) y21.toInt x33_6.toInt rfl rfl (fun c23 => ?_) (fun c23 => ?_)
                  · refine g_locals [(0, .ref (a 0)), (1, .int x18_1), (2, .int x18_2), (3, .int x18_3), (4, .int x18_4), (5, .int x33_5), (6, .int x33_6), (8, .int x45_8)] [0, 1, 2, 3, 4, 5, 6, 8] rfl ?_
                    have b24 : (0 : Int) ≤ (Gj18 0 32).toInt ∧ (Gj18 0 32).toInt ≤ 7 := jI18 0 32
                    exact J_86 () (by have h9 := ti_rng x45_8; omega) (by (first | omega | (simp only [Int32.reduceToInt, true_and, and_true, ne_eq, not_true_eq_false, false_and, or_false, false_or, true_or, or_true, false_implies] <;> omega)))
                  · refine g_iconst F 1 dX13_next_82 (by decide) ?_
                    refine g_goto F 87 dX13_next_83 (by decide) ?_
                    refine g_locals [(0, .ref (a 0)), (1, .int x18_1), (2, .int x18_2), (3, .int x18_3), (4, .int x18_4), (5, .int x33_5), (6, .int x33_6), (8, .int x45_8)] [0, 1, 2, 3, 4, 5, 6, 8] rfl ?_
                    have b25 : (0 : Int) ≤ (Gj18 0 32).toInt ∧ (Gj18 0 32).toInt ≤ 7 := jI18 0 32
                    exact J_87 1 (by have h9 := ti_rng x45_8; omega) (by decide) (by (first | omega | (simp only [Int32.reduceToInt, true_and, and_true, ne_eq, not_true_eq_false, false_and, or_false, false_or, true_or, or_true, false_implies] <;> omega)))
          refine g_iload F 6 dX13_next_33 rfl ?_
          refine g_iconst F 2 dX13_next_35 (by decide) ?_
          refine v_icmp_gt F 111 dX13_next_36 (by decide) x33_6.toInt 2 rfl rfl (fun c26 => ?_) (fun c26 => ?_)
          · refine g_iload F 5 dX13_next_111 rfl ?_
            refine g_iload_n F 3 dX13_next_113 rfl rfl ?_
            have b27 := ti_rng x33_5
            have b28 := ti_rng x18_3
            refine v_icmp_lt F 120 dX13_next_114 (by decide) x33_5.toInt x18_3.toInt rfl rfl (fun c29 => ?_) (fun c29 => ?_)
            · refine g_iload F 5 dX13_next_120 rfl ?_
              refine g_istore_n F [(3, .int x33_5), (0, .ref (a 0)), (1, .int x18_1), (2, .int x18_2), (4, .int x18_4), (5, .int x33_5), (6, .int x33_6)] dX13_next_122 rfl (by decide) rfl ?_
              refine g_iload F 4 dX13_next_123 rfl ?_
              refine g_istore_n F [(2, .int x18_4), (3, .int x33_5), (0, .ref (a 0)), (1, .int x18_1), (4, .int x18_4), (5, .int x33_5), (6, .int x33_6)] dX13_next_125 rfl (by decide) rfl ?_
              refine g_locals [(0, .ref (a 0)), (1, .int x18_1), (2, .int x18_4), (3, .int x33_5), (4, .int x18_4)] [2, 3, 0, 1, 4] rfl ?_
              have b30 : (0 : Int) ≤ (Gj18 0 32).toInt ∧ (Gj18 0 32).toInt ≤ 7 := jI18 0 32
              exact J_126 x18_4 x33_5 (by have h9 := ti_rng x18_4; omega) (by have h9 := ti_rng x18_4; omega) (by (first | omega | (simp only [Int32.reduceToInt, true_and, and_true, ne_eq, not_true_eq_false, false_and, or_false, false_or, true_or, or_true, false_implies] <;> omega)))
            · refine g_goto F 126 dX13_next_117 (by decide) ?_
              refine g_locals [(0, .ref (a 0)), (1, .int x18_1), (2, .int x18_2), (3, .int x18_3), (4, .int x18_4)] [0, 1, 2, 3, 4] rfl ?_
              have b31 : (0 : Int) ≤ (Gj18 0 32).toInt ∧ (Gj18 0 32).toInt ≤ 7 := jI18 0 32
              exact J_126 x18_2 x18_3 (by have h9 := ti_rng x18_2; omega) (by have h9 := ti_rng x18_4; omega) (by (first | omega | (simp only [Int32.reduceToInt, true_and, and_true, ne_eq, not_true_eq_false, false_and, or_false, false_or, true_or, or_true, false_implies] <;> omega)))
          · refine g_iconst F 0 dX13_next_39 (by decide) ?_
            refine g_istore F [(7, .int 0), (0, .ref (a 0)), (1, .int x18_1), (2, .int x18_2), (3, .int x18_3), (4, .int x18_4), (5, .int x33_5), (6, .int x33_6)] dX13_next_40 (by decide) rfl ?_
            refine g_iconst F 0 dX13_next_42 (by decide) ?_
            refine g_istore F [(8, .int 0), (7, .int 0), (0, .ref (a 0)), (1, .int x18_1), (2, .int x18_2), (3, .int x18_3), (4, .int x18_4), (5, .int x33_5), (6, .int x33_6)] dX13_next_43 (by decide) rfl ?_
            refine g_locals [(0, .ref (a 0)), (1, .int x18_1), (2, .int x18_2), (3, .int x18_3), (4, .int x18_4), (5, .int x33_5), (6, .int x33_6), (7, .int 0), (8, .int 0)] [2, 3, 4, 5, 6, 7, 8, 1, 0] rfl ?_
            have b32 : (0 : Int) ≤ (Gj18 0 32).toInt ∧ (Gj18 0 32).toInt ≤ 7 := jI18 0 32
            exact J_45 _ 0 0 (Nat.lt_succ_self _) (by have h9 := ti_rng x33_6; omega) (by decide) (by (first | omega | (simp only [Int32.reduceToInt, true_and, and_true, ne_eq, not_true_eq_false, false_and, or_false, false_or, true_or, or_true, false_implies] <;> omega)))
      refine g_iload F 4 dX13_next_18 rfl ?_
      refine g_aload_n F 0 dX13_next_20 rfl rfl ?_
      refine yg_0_55 F i_X13 w_5 dX13_next_21 (G 0 55) (jU18 0 55 (by decide)) ?_
      have b33 : (0 : Int) ≤ (G 0 55).toInt ∧ (G 0 55).toInt ≤ 10 := hI 0 55
      refine v_icmp_ge F 132 dX13_next_24 (by decide) x18_4.toInt (G 0 55).toInt rfl rfl (fun c34 => ?_) (fun c34 => ?_)
      · refine g_iload_n F 2 dX13_next_132 rfl rfl ?_
        have b35 : (0 : Int) ≤ (Gj18 0 32).toInt ∧ (Gj18 0 32).toInt ≤ 7 := jI18 0 32
        exact u_iret F hA hQ hr Gj18 (⟨jI18, (gu_un.tr gu_un.rf (gu_un.su jU18 rfl)), (by have h9 := ti_rng x18_2; omega), (nh18), (by show ((Gj18 0 32).toInt = (G 0 32).toInt); (first | omega | (simp only [Int32.reduceToInt, true_and, and_true, ne_eq, not_true_eq_false, false_and, or_false, false_or, true_or, or_true, false_implies] <;> omega)))⟩) rfl rfl dX13_next_133
      · refine g_iconst F 0 dX13_next_27 (by decide) ?_
        refine g_istore F [(5, .int 0), (0, .ref (a 0)), (1, .int x18_1), (2, .int x18_2), (3, .int x18_3), (4, .int x18_4)] dX13_next_28 (by decide) rfl ?_
        refine g_iconst F 0 dX13_next_30 (by decide) ?_
        refine g_istore F [(6, .int 0), (5, .int 0), (0, .ref (a 0)), (1, .int x18_1), (2, .int x18_2), (3, .int x18_3), (4, .int x18_4)] dX13_next_31 (by decide) rfl ?_
        refine g_locals [(0, .ref (a 0)), (1, .int x18_1), (2, .int x18_2), (3, .int x18_3), (4, .int x18_4), (5, .int 0), (6, .int 0)] [2, 3, 4, 5, 6, 1, 0] rfl ?_
        have b36 : (0 : Int) ≤ (Gj18 0 32).toInt ∧ (Gj18 0 32).toInt ≤ 7 := jI18 0 32
        exact J_33 _ 0 0 (Nat.lt_succ_self _) (by have h9 := ti_rng x18_4; omega) (by decide) (by decide) (by (first | omega | (simp only [Int32.reduceToInt, true_and, and_true, ne_eq, not_true_eq_false, false_and, or_false, false_or, true_or, or_true, false_implies] <;> omega)))
  refine g_aload_n F 0 dX13_next_0 rfl rfl ?_
  refine g_sipush F 999 dX13_next_1 (by decide) ?_
  refine u_callVi (k := 0) (n := 0) (b := a 0) (As := [.int 999]) (st := []) F (fun sz => S_X13_fitOf l D K a G 999 999 rfl (wf) (by (first | omega | (simp only [Int32.reduceToInt, true_and, and_true, ne_eq, not_true_eq_false, false_and, or_false, false_or, true_or, or_true, false_implies] <;> omega))) hI sz) (cwV 1 hts gX13_next_X13_fitOf rfl rfl rfl (by decide +kernel) ⟨Nat.le_of_ble_eq_true rfl, Nat.le_of_ble_eq_true rfl⟩) rfl 0 yc_0 rfl (Nat.le_of_ble_eq_true rfl) ⟨Nat.zero_le _, Nat.zero_le _⟩ dX13_next_4 (fun r37 G39 hw38 => ?_)
  have hI40 : yI G39 := hw38.1
  have hU41 : gu_un ycd [29, 33, 36, 37, 1300, 1400, 1500, 1600, 1700, 1800, 1900, 2000, 2100, 4500] G G39 := hw38.2.1
  have hp42 := hw38.2.2
  have q43 : yNh G G39 := hp42.1
  have b44 : (0 : Int) ≤ (G39 0 32).toInt ∧ (G39 0 32).toInt ≤ 7 := hI40 0 32
  have q45 : ((G39 0 32).toInt = (G 0 32).toInt) := hp42.2
  clear hp42 hw38
  refine g_istore_n F [(1, .int r37), (0, .ref (a 0))] dX13_next_7 rfl (by decide) rfl ?_
  refine g_iconst F (-1) dX13_next_8 (by decide) ?_
  refine g_istore_n F [(2, .int (-1)), (1, .int r37), (0, .ref (a 0))] dX13_next_9 rfl (by decide) rfl ?_
  refine g_iload_n F 1 dX13_next_10 rfl rfl ?_
  refine u_call0 (k := 0) (n := 0) (As := [.int r37]) (st := []) F (fun sz => S_X13_bits l D r37 r37.toInt rfl sz) (va_cwS 1 hts gX13_next_X13_bits rfl rfl rfl (by decide +kernel) ⟨Nat.le_of_ble_eq_true rfl, Nat.le_of_ble_eq_true rfl⟩) rfl (Nat.le_of_ble_eq_true rfl) ⟨Nat.zero_le _, Nat.zero_le _⟩ dX13_next_11 (fun r46 _ hw47 => ?_)
  refine g_istore_n F [(3, .int r46), (2, .int (-1)), (1, .int r37), (0, .ref (a 0))] dX13_next_14 rfl (by decide) rfl ?_
  refine g_iconst F 0 dX13_next_15 (by decide) ?_
  refine g_istore F [(4, .int 0), (3, .int r46), (2, .int (-1)), (1, .int r37), (0, .ref (a 0))] dX13_next_16 (by decide) rfl ?_
  refine g_locals [(0, .ref (a 0)), (1, .int r37), (2, .int (-1)), (3, .int r46), (4, .int 0)] [4, 3, 2, 1, 0] rfl ?_
  exact J_18 _ r37 (-1) r46 0 G39 (Nat.lt_succ_self _) (by decide) (by decide) hI40 (gu_un.tr gu_un.rf (gu_un.su hU41 rfl)) (by (first | omega | (simp only [Int32.reduceToInt, true_and, and_true, ne_eq, not_true_eq_false, false_and, or_false, false_or, true_or, or_true, false_implies] <;> omega))) ((yNh.tr (show yNh G G from yNh.rf) (show yNh G G39 from q43)))

theorem dX13_ringsOut_0 : decode cX13_ringsOut 0 = .ok (.iload_n 1, 1) := by decide +kernel
theorem dX13_ringsOut_1 : decode cX13_ringsOut 1 = .ok (.i2l, 1) := by decide +kernel
theorem dX13_ringsOut_2 : decode cX13_ringsOut 2 = .ok (.lconst 1, 1) := by decide +kernel
theorem dX13_ringsOut_3 : decode cX13_ringsOut 3 = .ok (.ldc2_w 520, 3) := by decide +kernel
theorem dX13_ringsOut_6 : decode cX13_ringsOut 6 = .ok (.invokestatic 61, 3) := by decide +kernel
theorem dX13_ringsOut_9 : decode cX13_ringsOut 9 = .ok (.ifCond .eq 39, 3) := by decide +kernel
theorem dX13_ringsOut_12 : decode cX13_ringsOut 12 = .ok (.iload_n 2, 1) := by decide +kernel
theorem dX13_ringsOut_13 : decode cX13_ringsOut 13 = .ok (.i2l, 1) := by decide +kernel
theorem dX13_ringsOut_14 : decode cX13_ringsOut 14 = .ok (.lconst 1, 1) := by decide +kernel
theorem dX13_ringsOut_15 : decode cX13_ringsOut 15 = .ok (.ldc2_w 520, 3) := by decide +kernel
theorem dX13_ringsOut_18 : decode cX13_ringsOut 18 = .ok (.invokestatic 61, 3) := by decide +kernel
theorem dX13_ringsOut_21 : decode cX13_ringsOut 21 = .ok (.ifCond .eq 27, 3) := by decide +kernel
theorem dX13_ringsOut_24 : decode cX13_ringsOut 24 = .ok (.iload_n 3, 1) := by decide +kernel
theorem dX13_ringsOut_25 : decode cX13_ringsOut 25 = .ok (.i2l, 1) := by decide +kernel
theorem dX13_ringsOut_26 : decode cX13_ringsOut 26 = .ok (.lconst 1, 1) := by decide +kernel
theorem dX13_ringsOut_27 : decode cX13_ringsOut 27 = .ok (.iload_n 2, 1) := by decide +kernel
theorem dX13_ringsOut_28 : decode cX13_ringsOut 28 = .ok (.i2l, 1) := by decide +kernel
theorem dX13_ringsOut_29 : decode cX13_ringsOut 29 = .ok (.invokestatic 61, 3) := by decide +kernel
theorem dX13_ringsOut_32 : decode cX13_ringsOut 32 = .ok (.ifCond .eq 16, 3) := by decide +kernel
theorem dX13_ringsOut_35 : decode cX13_ringsOut 35 = .ok (.iload 4, 2) := by decide +kernel
theorem dX13_ringsOut_37 : decode cX13_ringsOut 37 = .ok (.i2l, 1) := by decide +kernel
theorem dX13_ringsOut_38 : decode cX13_ringsOut 38 = .ok (.lconst 0, 1) := by decide +kernel
theorem dX13_ringsOut_39 : decode cX13_ringsOut 39 = .ok (.ldc2_w 522, 3) := by decide +kernel
theorem dX13_ringsOut_42 : decode cX13_ringsOut 42 = .ok (.invokestatic 61, 3) := by decide +kernel
theorem dX13_ringsOut_45 : decode cX13_ringsOut 45 = .ok (.ifCond .ne 6, 3) := by decide +kernel
theorem dX13_ringsOut_48 : decode cX13_ringsOut 48 = .ok (.bipush (-2), 2) := by decide +kernel
theorem dX13_ringsOut_50 : decode cX13_ringsOut 50 = .ok (.ireturn, 1) := by decide +kernel
theorem dX13_ringsOut_51 : decode cX13_ringsOut 51 = .ok (.iload_n 1, 1) := by decide +kernel
theorem dX13_ringsOut_52 : decode cX13_ringsOut 52 = .ok (.istore 5, 2) := by decide +kernel
theorem dX13_ringsOut_54 : decode cX13_ringsOut 54 = .ok (.iload 5, 2) := by decide +kernel
theorem dX13_ringsOut_56 : decode cX13_ringsOut 56 = .ok (.aload_n 0, 1) := by decide +kernel
theorem dX13_ringsOut_57 : decode cX13_ringsOut 57 = .ok (.getfield 517, 3) := by decide +kernel
theorem dX13_ringsOut_60 : decode cX13_ringsOut 60 = .ok (.if_icmp .ge 68, 3) := by decide +kernel
theorem dX13_ringsOut_63 : decode cX13_ringsOut 63 = .ok (.iconst 0, 1) := by decide +kernel
theorem dX13_ringsOut_64 : decode cX13_ringsOut 64 = .ok (.istore 6, 2) := by decide +kernel
theorem dX13_ringsOut_66 : decode cX13_ringsOut 66 = .ok (.iload_n 1, 1) := by decide +kernel
theorem dX13_ringsOut_67 : decode cX13_ringsOut 67 = .ok (.iload 5, 2) := by decide +kernel
theorem dX13_ringsOut_69 : decode cX13_ringsOut 69 = .ok (.iload_n 2, 1) := by decide +kernel
theorem dX13_ringsOut_70 : decode cX13_ringsOut 70 = .ok (.isub, 1) := by decide +kernel
theorem dX13_ringsOut_71 : decode cX13_ringsOut 71 = .ok (.iconst 1, 1) := by decide +kernel
theorem dX13_ringsOut_72 : decode cX13_ringsOut 72 = .ok (.iadd, 1) := by decide +kernel
theorem dX13_ringsOut_73 : decode cX13_ringsOut 73 = .ok (.invokestatic 152, 3) := by decide +kernel
theorem dX13_ringsOut_76 : decode cX13_ringsOut 76 = .ok (.istore 7, 2) := by decide +kernel
theorem dX13_ringsOut_78 : decode cX13_ringsOut 78 = .ok (.iload 7, 2) := by decide +kernel
theorem dX13_ringsOut_80 : decode cX13_ringsOut 80 = .ok (.iload 5, 2) := by decide +kernel
theorem dX13_ringsOut_82 : decode cX13_ringsOut 82 = .ok (.if_icmp .gt 31, 3) := by decide +kernel
theorem dX13_ringsOut_85 : decode cX13_ringsOut 85 = .ok (.iload 6, 2) := by decide +kernel
theorem dX13_ringsOut_87 : decode cX13_ringsOut 87 = .ok (.aload_n 0, 1) := by decide +kernel
theorem dX13_ringsOut_88 : decode cX13_ringsOut 88 = .ok (.iload 7, 2) := by decide +kernel
theorem dX13_ringsOut_90 : decode cX13_ringsOut 90 = .ok (.iload_n 1, 1) := by decide +kernel
theorem dX13_ringsOut_91 : decode cX13_ringsOut 91 = .ok (.invokevirtual 524, 3) := by decide +kernel
theorem dX13_ringsOut_94 : decode cX13_ringsOut 94 = .ok (.iload 4, 2) := by decide +kernel
theorem dX13_ringsOut_96 : decode cX13_ringsOut 96 = .ok (.if_icmp .le 7, 3) := by decide +kernel
theorem dX13_ringsOut_99 : decode cX13_ringsOut 99 = .ok (.iconst 1, 1) := by decide +kernel
theorem dX13_ringsOut_100 : decode cX13_ringsOut 100 = .ok (.goto 4, 3) := by decide +kernel
theorem dX13_ringsOut_103 : decode cX13_ringsOut 103 = .ok (.iconst 0, 1) := by decide +kernel
theorem dX13_ringsOut_104 : decode cX13_ringsOut 104 = .ok (.iadd, 1) := by decide +kernel
theorem dX13_ringsOut_105 : decode cX13_ringsOut 105 = .ok (.istore 6, 2) := by decide +kernel
theorem dX13_ringsOut_107 : decode cX13_ringsOut 107 = .ok (.iinc 7 1, 3) := by decide +kernel
theorem dX13_ringsOut_110 : decode cX13_ringsOut 110 = .ok (.goto (-32), 3) := by decide +kernel
theorem dX13_ringsOut_113 : decode cX13_ringsOut 113 = .ok (.iload 6, 2) := by decide +kernel
theorem dX13_ringsOut_115 : decode cX13_ringsOut 115 = .ok (.iload_n 3, 1) := by decide +kernel
theorem dX13_ringsOut_116 : decode cX13_ringsOut 116 = .ok (.if_icmp .lt 6, 3) := by decide +kernel
theorem dX13_ringsOut_119 : decode cX13_ringsOut 119 = .ok (.iload 5, 2) := by decide +kernel
theorem dX13_ringsOut_121 : decode cX13_ringsOut 121 = .ok (.ireturn, 1) := by decide +kernel
theorem dX13_ringsOut_122 : decode cX13_ringsOut 122 = .ok (.iinc 5 1, 3) := by decide +kernel
theorem dX13_ringsOut_125 : decode cX13_ringsOut 125 = .ok (.goto (-71), 3) := by decide +kernel
theorem dX13_ringsOut_128 : decode cX13_ringsOut 128 = .ok (.iconst (-1), 1) := by decide +kernel
theorem dX13_ringsOut_129 : decode cX13_ringsOut 129 = .ok (.ireturn, 1) := by decide +kernel
set_option maxRecDepth 20000 in
theorem ggX13_ringsOut_X13_changeAt : GoodIn wsX13_ringsOut wsX13_changeAt := goodIn_r _ [15, 16, 17, 18, 6, 19, 20, 21, 22, 23, 24, 25, 26, 27, 28, 29, 30, 31, 32, 33, 34, 35, 36, 37, 38, 39, 40, 41, 42, 43, 44, 45, 46, 47, 48, 49, 50, 51, 52, 53, 54, 55, 56, 57, 58, 59, 60, 61, 62, 63, 64, 65, 66, 67, 68, 69, 70, 71, 72, 73, 74, 75, 76, 77, 78, 79, 80, 81, 82, 83, 84, 85, 86, 87, 88, 89, 90, 91, 92] rfl (by decide +kernel)
set_option maxRecDepth 20000 in
theorem gX13_ringsOut_X13_changeAt : GoodIn wsX13_ringsOut (wsV RX13 524 RX13 yX13_changeAt wsX13_changeAt) := goodIn_app (goodIn_of _ (by decide +kernel)) ggX13_ringsOut_X13_changeAt
set_option maxRecDepth 20000 in
theorem ggX13_ringsOut_X13_in : GoodIn wsX13_ringsOut wsX13_in := goodIn_r _ [11] rfl (by decide +kernel)
set_option maxRecDepth 20000 in
theorem gX13_ringsOut_X13_in : GoodIn wsX13_ringsOut (va_wsS RX13 61 yX13_in wsX13_in) := goodIn_app (goodIn_of _ (by decide +kernel)) ggX13_ringsOut_X13_in
set_option maxHeartbeats 4000000 in
set_option maxRecDepth 100000 in
theorem S_X13_ringsOut (l : Launch) (D : va_G) (K : Nat → ClassId) (a : Nat → Nat) (G : gS) (p0 : Int32) (s0 : Int) (p1 : Int32) (s1 : Int) (p2 : Int32) (s2 : Int) (p3 : Int32) (s3 : Int) (e0 : p0.toInt = s0) (e1 : p1.toInt = s1) (e2 : p2.toInt = s2) (e3 : p3.toInt = s3) (hI : yI G) (sz : Nat) : Ki l yX13_ringsOut wsX13_ringsOut 2 65 0 0 D [.ref (a 0), .int p0, .int p1, .int p2, .int p3] (yW K a G) (tK K) sz (fun (r : Int32) (_ : Unit) => ((-2) ≤ r.toInt ∧ r.toInt ≤ 149) ∧ (((r.toInt = -2 ∧ ¬ (1 ≤ s0 ∧ s0 ≤ 60 ∧ 1 ≤ s1 ∧ s1 ≤ 60 ∧ 1 ≤ s2 ∧ s2 ≤ s1 ∧ 0 ≤ s3 ∧ s3 ≤ 9999)) ∨ ((1 ≤ s0 ∧ s0 ≤ 60 ∧ 1 ≤ s1 ∧ s1 ≤ 60 ∧ 1 ≤ s2 ∧ s2 ≤ s1 ∧ 0 ≤ s3 ∧ s3 ≤ 9999) ∧ rO (G 46) (G 0 72).toInt s0 s1 s2 s3 r.toInt)))) (fun (_ : Unit) => (yW K a G)) (fun _ => (tK K)) := by
  unfold Ki
  refine g_ofW (cc := cX13_ringsOut) (lv := [(0, .ref (a 0)), (1, .int p0), (2, .int p1), (3, .int p2), (4, .int p3)]) (by decide) rfl (Nat.le_of_ble_eq_true rfl) rfl ?_
  intro p e s m args below meth c A Q hA hQ F hr hnm
  have hts := F.2.2.2.2.1
  have w_0 : (Cond.fieldLink RX13 517 "QuietCutModel" "sounds" "I").before args s = true := hts _ (List.mem_of_getElem? (i := 3) rfl)
  have i_X13 : ∀ w ∈ u_ws RX13 TX13 73, w ∈ wsX13_ringsOut := fun _ h => List.mem_cons_of_mem _ (List.mem_append_right _ h)
  have w_1 : (Cond.methodLink RX13 152 Lib.Math.max.name).before args s = true := hts _ (List.mem_of_getElem? (i := 4) rfl)
  have w_2 : (Cond.static Lib.Math.max.name).before args s = true := hts _ (List.mem_of_getElem? (i := 5) rfl)
  have w_3 : (Cond.initialized "java/lang/Math").before args s = true := hts _ (List.mem_of_getElem? (i := 6) rfl)
  have w_4 : (Cond.code Lib.Math.max.name Lib.Math.max.code 2 (some .int)).before args s = true := hts _ (List.mem_of_getElem? (i := 7) rfl)
  have w_5 : (Cond.constantLong RX13 520 (60)).before args s = true := hts _ (List.mem_of_getElem? (i := 1) rfl)
  have w_6 : (Cond.constantLong RX13 522 (9999)).before args s = true := hts _ (List.mem_of_getElem? (i := 2) rfl)
  have rg0 : -2147483648 ≤ s0 ∧ s0 ≤ 2147483647 := e0 ▸ ti_rng p0
  have rg1 : -2147483648 ≤ s1 ∧ s1 ≤ 2147483647 := e1 ▸ ti_rng p1
  have rg2 : -2147483648 ≤ s2 ∧ s2 ≤ 2147483647 := e2 ▸ ti_rng p2
  have rg3 : -2147483648 ≤ s3 ∧ s3 ≤ 2147483647 := e3 ▸ ti_rng p3
  have b1 : (0 : Int) ≤ (G 0 72).toInt ∧ (G 0 72).toInt ≤ 150 := hI 0 72
  have J_54 : ∀ (fuel : Nat) (x54_5 : Int32), (2147483647 - x54_5.toInt).toNat < fuel → (1 ≤ s0 ∧ s0 ≤ 60) → (1 ≤ s1 ∧ s1 ≤ 60) → (1 ≤ s2 ∧ s2 ≤ 60) → (0 ≤ s3 ∧ s3 ≤ 9999) → (1 ≤ x54_5.toInt ∧ x54_5.toInt ≤ 150) → (∀ i : Int, s0 ≤ i → i < x54_5.toInt → wW (G 46) s0 s3 s1 i < s2) → ((s0 ≤ x54_5.toInt ∧ s2 ≤ s1)) → gG p l e (gR 2 0 0 65) s m args below meth c D A 8 Q 0 0 (yW K a G) (tK K) [(0, .ref (a 0)), (1, .int p0), (2, .int p1), (3, .int p2), (4, .int p3), (5, .int x54_5)] 54 [] := by
    intro fuel
    induction fuel with
    | zero => intro x54_5 hm; exact absurd hm (Nat.not_lt_zero _)
    | succ fuel_54 ih_54 =>
      intro x54_5 hm_54 k54_1 k54_2 k54_3 k54_4 h54_5 ro i5
      have J_78 : ∀ (fuel : Nat) (x78_6 : Int32) (x78_7 : Int32), (2147483647 - x78_7.toInt).toNat < fuel → (1 ≤ x54_5.toInt ∧ x54_5.toInt ≤ 149) → (0 ≤ x78_6.toInt ∧ x78_6.toInt ≤ 200) → (1 ≤ x78_7.toInt ∧ x78_7.toInt ≤ 150) → ((s0 ≤ x78_7.toInt ∧ x54_5.toInt < (G 0 72).toInt)) → (x78_6.toInt = wN (G 46) s0 s3 (max s0 (x54_5.toInt - s1 + 1)) (x78_7.toInt - (max s0 (x54_5.toInt - s1 + 1))).toNat) → ((0 ≤ x78_6.toInt ∧ x78_6.toInt ≤ x78_7.toInt - (max s0 (x54_5.toInt - s1 + 1)) ∧ (max s0 (x54_5.toInt - s1 + 1)) ≤ x78_7.toInt ∧ x78_7.toInt ≤ x54_5.toInt + 1)) → gG p l e (gR 2 0 0 65) s m args below meth c D A 8 Q 0 0 (yW K a G) (tK K) [(0, .ref (a 0)), (1, .int p0), (2, .int p1), (3, .int p2), (4, .int p3), (5, .int x54_5), (6, .int x78_6), (7, .int x78_7)] 78 [] := by
        intro fuel
        induction fuel with
        | zero => intro x78_6 x78_7 hm; exact absurd hm (Nat.not_lt_zero _)
        | succ fuel_78 ih_78 =>
          intro x78_6 x78_7 hm_78 k78_5 h78_6 h78_7 kt wk w0
          refine g_iload F 7 dX13_ringsOut_78 rfl ?_
          refine g_iload F 5 dX13_ringsOut_80 rfl ?_
          refine v_icmp_gt F 113 dX13_ringsOut_82 (by decide) x78_7.toInt x54_5.toInt rfl rfl (fun c2 => ?_) (fun c2 => ?_)
          · refine g_iload F 6 dX13_ringsOut_113 rfl ?_
            refine g_iload_n F 3 dX13_ringsOut_115 rfl rfl ?_
            refine v_icmp_lt F 122 dX13_ringsOut_116 (by decide) x78_6.toInt s2 rfl e2 (fun c3 => ?_) (fun c3 => ?_)
            · refine u_iinc F (fun v_ => [(5, .int v_), (0, .ref (a 0)), (1, .int p0), (2, .int p1), (3, .int p2), (4, .int p3), (6, .int x78_6), (7, .int x78_7)]) dX13_ringsOut_122 (j := 5) rfl x54_5.toInt 1 rfl rfl (by omega) (by omega) (by decide) (fun _ => rfl) (fun y4 ey4 => ?_)
              refine g_goto F 54 dX13_ringsOut_125 (by decide) ?_
              refine g_locals [(0, .ref (a 0)), (1, .int p0), (2, .int p1), (3, .int p2), (4, .int p3), (5, .int y4)] [1, 2, 3, 4, 5, 0] rfl ?_
              exact ih_54 y4 (by omega) (by have h9 := ti_rng p0; omega) (by have h9 := ti_rng p1; omega) (by have h9 := ti_rng p2; omega) (by have h9 := ti_rng p3; omega) (by have h9 := ti_rng y4; omega) (fun i h1 h2 => by by_cases e : i = x54_5.toInt <;> first | exact ro i h1 (by omega) | (rw [e]; unfold wW; rw [show (x54_5.toInt + 1 - (max s0 (x54_5.toInt - s1 + 1))).toNat = (x78_7.toInt - (max s0 (x54_5.toInt - s1 + 1))).toNat by omega, ← wk]; omega)) (by (first | omega | (simp only [Int32.reduceToInt, true_and, and_true, ne_eq, not_true_eq_false, false_and, or_false, false_or, true_or, or_true, false_implies] <;> omega)))
            · refine g_iload F 5 dX13_ringsOut_119 rfl ?_
              exact u_iret F hA hQ hr () (⟨(by have h9 := ti_rng x54_5; omega), (Or.inr ⟨by omega, Or.inr ⟨by omega, by omega, by unfold wW; rw [show (x54_5.toInt + 1 - (max s0 (x54_5.toInt - s1 + 1))).toNat = (x78_7.toInt - (max s0 (x54_5.toInt - s1 + 1))).toNat by omega, ← wk]; omega, ro⟩⟩)⟩) rfl rfl dX13_ringsOut_121
          · refine g_iload F 6 dX13_ringsOut_85 rfl ?_
            refine g_aload_n F 0 dX13_ringsOut_87 rfl rfl ?_
            refine g_iload F 7 dX13_ringsOut_88 rfl ?_
            refine g_iload_n F 1 dX13_ringsOut_90 rfl rfl ?_
            refine u_callVi (k := 0) (n := 0) (b := a 0) (As := [.int x78_7, .int p0]) (st := [.int x78_6]) F (fun sz => S_X13_changeAt l D K a G x78_7 x78_7.toInt p0 s0 rfl (by omega) e0 (by omega) (by (first | omega | (simp only [Int32.reduceToInt, true_and, and_true, ne_eq, not_true_eq_false, false_and, or_false, false_or, true_or, or_true, false_implies] <;> omega))) hI sz) (cwV 2 hts gX13_ringsOut_X13_changeAt rfl rfl rfl (by decide +kernel) ⟨Nat.le_of_ble_eq_true rfl, Nat.le_of_ble_eq_true rfl⟩) rfl 0 yc_0 rfl (Nat.le_of_ble_eq_true rfl) ⟨Nat.zero_le _, Nat.zero_le _⟩ dX13_ringsOut_91 (fun r5 _ hw6 => ?_)
            have q8 : (r5.toInt = cCh (G 46) x78_7.toInt s0) := hw6.2
            have rg9 := hw6.1
            clear hw6
            refine g_iload F 4 dX13_ringsOut_94 rfl ?_
            refine v_icmp_le F 103 dX13_ringsOut_96 (by decide) r5.toInt s3 rfl e3 (fun c10 => ?_) (fun c10 => ?_)
            · refine g_iconst F 0 dX13_ringsOut_103 (by decide) ?_
              refine u_iadd F dX13_ringsOut_104 x78_6.toInt 0 rfl rfl (by omega) (by omega) (fun y11 ey11 => ?_)
              refine g_istore F [(6, .int y11), (0, .ref (a 0)), (1, .int p0), (2, .int p1), (3, .int p2), (4, .int p3), (5, .int x54_5), (7, .int x78_7)] dX13_ringsOut_105 (by decide) rfl ?_
              refine u_iinc F (fun v_ => [(7, .int v_), (6, .int y11), (0, .ref (a 0)), (1, .int p0), (2, .int p1), (3, .int p2), (4, .int p3), (5, .int x54_5)]) dX13_ringsOut_107 (j := 7) rfl x78_7.toInt 1 rfl rfl (by omega) (by omega) (by decide) (fun _ => rfl) (fun y12 ey12 => ?_)
              refine g_goto F 78 dX13_ringsOut_110 (by decide) ?_
              refine g_locals [(0, .ref (a 0)), (1, .int p0), (2, .int p1), (3, .int p2), (4, .int p3), (5, .int x54_5), (6, .int y11), (7, .int y12)] [2, 3, 4, 5, 6, 7, 1, 0] rfl ?_
              exact ih_78 y11 y12 (by omega) (by have h9 := ti_rng x54_5; omega) (by have h9 := ti_rng y11; omega) (by have h9 := ti_rng y12; omega) (by (first | omega | (simp only [Int32.reduceToInt, true_and, and_true, ne_eq, not_true_eq_false, false_and, or_false, false_or, true_or, or_true, false_implies] <;> omega))) (wN_1 wk (by omega) (by rw [← q8]; split <;> omega) (by omega)) (by (first | omega | (simp only [Int32.reduceToInt, true_and, and_true, ne_eq, not_true_eq_false, false_and, or_false, false_or, true_or, or_true, false_implies] <;> omega)))
            · refine g_iconst F 1 dX13_ringsOut_99 (by decide) ?_
              refine g_goto F 104 dX13_ringsOut_100 (by decide) ?_
              refine u_iadd F dX13_ringsOut_104 x78_6.toInt 1 rfl rfl (by omega) (by omega) (fun y13 ey13 => ?_)
              refine g_istore F [(6, .int y13), (0, .ref (a 0)), (1, .int p0), (2, .int p1), (3, .int p2), (4, .int p3), (5, .int x54_5), (7, .int x78_7)] dX13_ringsOut_105 (by decide) rfl ?_
              refine u_iinc F (fun v_ => [(7, .int v_), (6, .int y13), (0, .ref (a 0)), (1, .int p0), (2, .int p1), (3, .int p2), (4, .int p3), (5, .int x54_5)]) dX13_ringsOut_107 (j := 7) rfl x78_7.toInt 1 rfl rfl (by omega) (by omega) (by decide) (fun _ => rfl) (fun y14 ey14 => ?_)
              refine g_goto F 78 dX13_ringsOut_110 (by decide) ?_
              refine g_locals [(0, .ref (a 0)), (1, .int p0), (2, .int p1), (3, .int p2), (4, .int p3), (5, .int x54_5), (6, .int y13), (7, .int y14)] [2, 3, 4, 5, 6, 7, 1, 0] rfl ?_
              exact ih_78 y13 y14 (by omega) (by have h9 := ti_rng x54_5; omega) (by have h9 := ti_rng y13; omega) (by have h9 := ti_rng y14; omega) (by (first | omega | (simp only [Int32.reduceToInt, true_and, and_true, ne_eq, not_true_eq_false, false_and, or_false, false_or, true_or, or_true, false_implies] <;> omega))) (wN_1 wk (by omega) (by rw [← q8]; split <;> omega) (by omega)) (by (first | omega | (simp only [Int32.reduceToInt, true_and, and_true, ne_eq, not_true_eq_false, false_and, or_false, false_or, true_or, or_true, false_implies] <;> omega)))
      refine g_iload F 5 dX13_ringsOut_54 rfl ?_
      refine g_aload_n F 0 dX13_ringsOut_56 rfl rfl ?_
      refine yg_0_72 F i_X13 w_0 dX13_ringsOut_57 (G 0 72) (rfl) ?_
      refine v_icmp_ge F 128 dX13_ringsOut_60 (by decide) x54_5.toInt (G 0 72).toInt rfl rfl (fun c15 => ?_) (fun c15 => ?_)
      · refine g_iconst F (-1) dX13_ringsOut_128 (by decide) ?_
        exact u_iret F hA hQ hr () (⟨(by decide), (Or.inr ⟨by omega, Or.inl ⟨by decide, fun i h1 h2 => ro i h1 (by omega)⟩⟩)⟩) rfl rfl dX13_ringsOut_129
      · refine g_iconst F 0 dX13_ringsOut_63 (by decide) ?_
        refine g_istore F [(6, .int 0), (0, .ref (a 0)), (1, .int p0), (2, .int p1), (3, .int p2), (4, .int p3), (5, .int x54_5)] dX13_ringsOut_64 (by decide) rfl ?_
        refine g_iload_n F 2 dX13_ringsOut_66 rfl rfl ?_
        refine g_iload F 6 dX13_ringsOut_67 rfl ?_
        refine g_iload_n F 3 dX13_ringsOut_69 rfl rfl ?_
        refine u_isub F dX13_ringsOut_70 x54_5.toInt s1 rfl e1 (by omega) (by omega) (fun y16 ey16 => ?_)
        refine g_iconst F 1 dX13_ringsOut_71 (by decide) ?_
        refine u_iadd F dX13_ringsOut_72 y16.toInt 1 rfl rfl (by omega) (by omega) (fun y17 ey17 => ?_)
        refine u_mmax F w_1 w_2 w_3 w_4 (Nat.le_of_ble_eq_true rfl) (Nat.le_of_ble_eq_true rfl) (Nat.le_of_ble_eq_true rfl) (Nat.le_of_ble_eq_true rfl) dX13_ringsOut_73 s0 y17.toInt e0 rfl (fun y18 ey18 => ?_)
        refine g_istore F [(7, .int y18), (6, .int 0), (0, .ref (a 0)), (1, .int p0), (2, .int p1), (3, .int p2), (4, .int p3), (5, .int x54_5)] dX13_ringsOut_76 (by decide) rfl ?_
        refine g_locals [(0, .ref (a 0)), (1, .int p0), (2, .int p1), (3, .int p2), (4, .int p3), (5, .int x54_5), (6, .int 0), (7, .int y18)] [2, 3, 4, 5, 6, 7, 1, 0] rfl ?_
        exact J_78 _ 0 y18 (Nat.lt_succ_self _) (by have h9 := ti_rng x54_5; omega) (by decide) (by have h9 := ti_rng y18; omega) (by (first | omega | (simp only [Int32.reduceToInt, true_and, and_true, ne_eq, not_true_eq_false, false_and, or_false, false_or, true_or, or_true, false_implies] <;> omega))) (by rw [show (y18.toInt - (max s0 (x54_5.toInt - s1 + 1))).toNat = 0 by omega]; rfl) (by (first | omega | (simp only [Int32.reduceToInt, true_and, and_true, ne_eq, not_true_eq_false, false_and, or_false, false_or, true_or, or_true, false_implies] <;> omega)))
  refine g_iload_n F 1 dX13_ringsOut_0 rfl rfl ?_
  refine g_i2l F dX13_ringsOut_1 ?_
  refine g_lconst F 1 dX13_ringsOut_2 (by decide) ?_
  refine g_ldc2 F w_5 dX13_ringsOut_3 ?_
  refine u_call0 (k := 0) (n := 0) (As := [.long (Int32.toInt64 p0), .long 1, .long 60]) (st := []) F (fun sz => S_X13_in l D (Int32.toInt64 p0) s0 1 1 60 60 (ti_i2l e0) rfl rfl sz) (va_cwS 3 hts gX13_ringsOut_X13_in rfl rfl rfl (by decide +kernel) ⟨Nat.le_of_ble_eq_true rfl, Nat.le_of_ble_eq_true rfl⟩) rfl (Nat.le_of_ble_eq_true rfl) ⟨Nat.zero_le _, Nat.zero_le _⟩ dX13_ringsOut_6 (fun r19 _ hw20 => ?_)
  rcases hw20 with ⟨rfl, q22⟩ | ⟨rfl, q23⟩
  · refine v_if_eq F 48 dX13_ringsOut_9 (by decide) 1 rfl (fun c24 => absurd c24 (by decide)) (fun c24 => ?_)
    refine g_iload_n F 2 dX13_ringsOut_12 rfl rfl ?_
    refine g_i2l F dX13_ringsOut_13 ?_
    refine g_lconst F 1 dX13_ringsOut_14 (by decide) ?_
    refine g_ldc2 F w_5 dX13_ringsOut_15 ?_
    refine u_call0 (k := 0) (n := 0) (As := [.long (Int32.toInt64 p1), .long 1, .long 60]) (st := []) F (fun sz => S_X13_in l D (Int32.toInt64 p1) s1 1 1 60 60 (ti_i2l e1) rfl rfl sz) (va_cwS 3 hts gX13_ringsOut_X13_in rfl rfl rfl (by decide +kernel) ⟨Nat.le_of_ble_eq_true rfl, Nat.le_of_ble_eq_true rfl⟩) rfl (Nat.le_of_ble_eq_true rfl) ⟨Nat.zero_le _, Nat.zero_le _⟩ dX13_ringsOut_18 (fun r25 _ hw26 => ?_)
    rcases hw26 with ⟨rfl, q28⟩ | ⟨rfl, q29⟩
    · refine v_if_eq F 48 dX13_ringsOut_21 (by decide) 1 rfl (fun c30 => absurd c30 (by decide)) (fun c30 => ?_)
      refine g_iload_n F 3 dX13_ringsOut_24 rfl rfl ?_
      refine g_i2l F dX13_ringsOut_25 ?_
      refine g_lconst F 1 dX13_ringsOut_26 (by decide) ?_
      refine g_iload_n F 2 dX13_ringsOut_27 rfl rfl ?_
      refine g_i2l F dX13_ringsOut_28 ?_
      refine u_call0 (k := 0) (n := 0) (As := [.long (Int32.toInt64 p2), .long 1, .long (Int32.toInt64 p1)]) (st := []) F (fun sz => S_X13_in l D (Int32.toInt64 p2) s2 1 1 (Int32.toInt64 p1) s1 (ti_i2l e2) rfl (ti_i2l e1) sz) (va_cwS 3 hts gX13_ringsOut_X13_in rfl rfl rfl (by decide +kernel) ⟨Nat.le_of_ble_eq_true rfl, Nat.le_of_ble_eq_true rfl⟩) rfl (Nat.le_of_ble_eq_true rfl) ⟨Nat.zero_le _, Nat.zero_le _⟩ dX13_ringsOut_29 (fun r31 _ hw32 => ?_)
      rcases hw32 with ⟨rfl, q34⟩ | ⟨rfl, q35⟩
      · refine v_if_eq F 48 dX13_ringsOut_32 (by decide) 1 rfl (fun c36 => absurd c36 (by decide)) (fun c36 => ?_)
        refine g_iload F 4 dX13_ringsOut_35 rfl ?_
        refine g_i2l F dX13_ringsOut_37 ?_
        refine g_lconst F 0 dX13_ringsOut_38 (by decide) ?_
        refine g_ldc2 F w_6 dX13_ringsOut_39 ?_
        refine u_call0 (k := 0) (n := 0) (As := [.long (Int32.toInt64 p3), .long 0, .long 9999]) (st := []) F (fun sz => S_X13_in l D (Int32.toInt64 p3) s3 0 0 9999 9999 (ti_i2l e3) rfl rfl sz) (va_cwS 3 hts gX13_ringsOut_X13_in rfl rfl rfl (by decide +kernel) ⟨Nat.le_of_ble_eq_true rfl, Nat.le_of_ble_eq_true rfl⟩) rfl (Nat.le_of_ble_eq_true rfl) ⟨Nat.zero_le _, Nat.zero_le _⟩ dX13_ringsOut_42 (fun r37 _ hw38 => ?_)
        rcases hw38 with ⟨rfl, q40⟩ | ⟨rfl, q41⟩
        · refine v_if_ne F 51 dX13_ringsOut_45 (by decide) 1 rfl (fun c42 => ?_) (fun c42 => absurd c42 (by decide))
          refine g_iload_n F 1 dX13_ringsOut_51 rfl rfl ?_
          refine g_istore F [(5, .int p0), (0, .ref (a 0)), (1, .int p0), (2, .int p1), (3, .int p2), (4, .int p3)] dX13_ringsOut_52 (by decide) rfl ?_
          refine g_locals [(0, .ref (a 0)), (1, .int p0), (2, .int p1), (3, .int p2), (4, .int p3), (5, .int p0)] [1, 2, 3, 4, 5, 0] rfl ?_
          exact J_54 _ p0 (Nat.lt_succ_self _) (by have h9 := ti_rng p0; omega) (by have h9 := ti_rng p1; omega) (by have h9 := ti_rng p2; omega) (by have h9 := ti_rng p3; omega) (by have h9 := ti_rng p0; omega) (fun i h1 h2 => by omega) (by (first | omega | (simp only [Int32.reduceToInt, true_and, and_true, ne_eq, not_true_eq_false, false_and, or_false, false_or, true_or, or_true, false_implies] <;> omega)))
        · refine v_if_ne F 51 dX13_ringsOut_45 (by decide) 0 rfl (fun c43 => absurd c43 (by decide)) (fun c43 => ?_)
          refine g_bipush F (-2) dX13_ringsOut_48 (by decide) ?_
          exact u_iret F hA hQ hr () (⟨(by decide), (Or.inl ⟨by decide, by omega⟩)⟩) rfl rfl dX13_ringsOut_50
      · refine v_if_eq F 48 dX13_ringsOut_32 (by decide) 0 rfl (fun c44 => ?_) (fun c44 => absurd c44 (by decide))
        refine g_bipush F (-2) dX13_ringsOut_48 (by decide) ?_
        exact u_iret F hA hQ hr () (⟨(by decide), (Or.inl ⟨by decide, by omega⟩)⟩) rfl rfl dX13_ringsOut_50
    · refine v_if_eq F 48 dX13_ringsOut_21 (by decide) 0 rfl (fun c45 => ?_) (fun c45 => absurd c45 (by decide))
      refine g_bipush F (-2) dX13_ringsOut_48 (by decide) ?_
      exact u_iret F hA hQ hr () (⟨(by decide), (Or.inl ⟨by decide, by omega⟩)⟩) rfl rfl dX13_ringsOut_50
  · refine v_if_eq F 48 dX13_ringsOut_9 (by decide) 0 rfl (fun c46 => ?_) (fun c46 => absurd c46 (by decide))
    refine g_bipush F (-2) dX13_ringsOut_48 (by decide) ?_
    exact u_iret F hA hQ hr () (⟨(by decide), (Or.inl ⟨by decide, by omega⟩)⟩) rfl rfl dX13_ringsOut_50

theorem dX13_forced_0 : decode cX13_forced 0 = .ok (.iload_n 1, 1) := by decide +kernel
theorem dX13_forced_1 : decode cX13_forced 1 = .ok (.i2l, 1) := by decide +kernel
theorem dX13_forced_2 : decode cX13_forced 2 = .ok (.lconst 1, 1) := by decide +kernel
theorem dX13_forced_3 : decode cX13_forced 3 = .ok (.ldc2_w 520, 3) := by decide +kernel
theorem dX13_forced_6 : decode cX13_forced 6 = .ok (.invokestatic 61, 3) := by decide +kernel
theorem dX13_forced_9 : decode cX13_forced 9 = .ok (.ifCond .ne 6, 3) := by decide +kernel
theorem dX13_forced_12 : decode cX13_forced 12 = .ok (.bipush (-2), 2) := by decide +kernel
theorem dX13_forced_14 : decode cX13_forced 14 = .ok (.ireturn, 1) := by decide +kernel
theorem dX13_forced_15 : decode cX13_forced 15 = .ok (.aload_n 0, 1) := by decide +kernel
theorem dX13_forced_16 : decode cX13_forced 16 = .ok (.getfield 517, 3) := by decide +kernel
theorem dX13_forced_19 : decode cX13_forced 19 = .ok (.iload_n 1, 1) := by decide +kernel
theorem dX13_forced_20 : decode cX13_forced 20 = .ok (.if_icmp .gt 5, 3) := by decide +kernel
theorem dX13_forced_23 : decode cX13_forced 23 = .ok (.iconst (-1), 1) := by decide +kernel
theorem dX13_forced_24 : decode cX13_forced 24 = .ok (.ireturn, 1) := by decide +kernel
theorem dX13_forced_25 : decode cX13_forced 25 = .ok (.iconst 0, 1) := by decide +kernel
theorem dX13_forced_26 : decode cX13_forced 26 = .ok (.istore_n 2, 1) := by decide +kernel
theorem dX13_forced_27 : decode cX13_forced 27 = .ok (.iconst 0, 1) := by decide +kernel
theorem dX13_forced_28 : decode cX13_forced 28 = .ok (.istore_n 3, 1) := by decide +kernel
theorem dX13_forced_29 : decode cX13_forced 29 = .ok (.iload_n 1, 1) := by decide +kernel
theorem dX13_forced_30 : decode cX13_forced 30 = .ok (.istore 4, 2) := by decide +kernel
theorem dX13_forced_32 : decode cX13_forced 32 = .ok (.iload 4, 2) := by decide +kernel
theorem dX13_forced_34 : decode cX13_forced 34 = .ok (.aload_n 0, 1) := by decide +kernel
theorem dX13_forced_35 : decode cX13_forced 35 = .ok (.getfield 517, 3) := by decide +kernel
theorem dX13_forced_38 : decode cX13_forced 38 = .ok (.if_icmp .ge 32, 3) := by decide +kernel
theorem dX13_forced_41 : decode cX13_forced 41 = .ok (.iload_n 2, 1) := by decide +kernel
theorem dX13_forced_42 : decode cX13_forced 42 = .ok (.aload_n 0, 1) := by decide +kernel
theorem dX13_forced_43 : decode cX13_forced 43 = .ok (.iload 4, 2) := by decide +kernel
theorem dX13_forced_45 : decode cX13_forced 45 = .ok (.iload_n 1, 1) := by decide +kernel
theorem dX13_forced_46 : decode cX13_forced 46 = .ok (.invokevirtual 524, 3) := by decide +kernel
theorem dX13_forced_49 : decode cX13_forced 49 = .ok (.iadd, 1) := by decide +kernel
theorem dX13_forced_50 : decode cX13_forced 50 = .ok (.istore_n 2, 1) := by decide +kernel
theorem dX13_forced_51 : decode cX13_forced 51 = .ok (.iload_n 3, 1) := by decide +kernel
theorem dX13_forced_52 : decode cX13_forced 52 = .ok (.aload_n 0, 1) := by decide +kernel
theorem dX13_forced_53 : decode cX13_forced 53 = .ok (.getfield 310, 3) := by decide +kernel
theorem dX13_forced_56 : decode cX13_forced 56 = .ok (.iload 4, 2) := by decide +kernel
theorem dX13_forced_58 : decode cX13_forced 58 = .ok (.iaload, 1) := by decide +kernel
theorem dX13_forced_59 : decode cX13_forced 59 = .ok (.invokestatic 409, 3) := by decide +kernel
theorem dX13_forced_62 : decode cX13_forced 62 = .ok (.iadd, 1) := by decide +kernel
theorem dX13_forced_63 : decode cX13_forced 63 = .ok (.istore_n 3, 1) := by decide +kernel
theorem dX13_forced_64 : decode cX13_forced 64 = .ok (.iinc 4 1, 3) := by decide +kernel
theorem dX13_forced_67 : decode cX13_forced 67 = .ok (.goto (-35), 3) := by decide +kernel
theorem dX13_forced_70 : decode cX13_forced 70 = .ok (.iconst 2, 1) := by decide +kernel
theorem dX13_forced_71 : decode cX13_forced 71 = .ok (.iload_n 2, 1) := by decide +kernel
theorem dX13_forced_72 : decode cX13_forced 72 = .ok (.imul, 1) := by decide +kernel
theorem dX13_forced_73 : decode cX13_forced 73 = .ok (.iload_n 3, 1) := by decide +kernel
theorem dX13_forced_74 : decode cX13_forced 74 = .ok (.if_icmp .gt 7, 3) := by decide +kernel
theorem dX13_forced_77 : decode cX13_forced 77 = .ok (.iconst 1, 1) := by decide +kernel
theorem dX13_forced_78 : decode cX13_forced 78 = .ok (.goto 4, 3) := by decide +kernel
theorem dX13_forced_81 : decode cX13_forced 81 = .ok (.iconst 0, 1) := by decide +kernel
theorem dX13_forced_82 : decode cX13_forced 82 = .ok (.ireturn, 1) := by decide +kernel
set_option maxRecDepth 20000 in
theorem ggX13_forced_X13_changeAt : GoodIn wsX13_forced wsX13_changeAt := goodIn_r _ [15, 3, 4, 5, 6, 7, 16, 17, 18, 19, 20, 21, 22, 23, 24, 25, 26, 27, 28, 29, 30, 31, 32, 33, 34, 35, 36, 37, 38, 39, 40, 41, 42, 43, 44, 45, 46, 47, 48, 49, 50, 51, 52, 53, 54, 55, 56, 57, 58, 59, 60, 61, 62, 63, 64, 65, 66, 67, 68, 69, 70, 71, 72, 73, 74, 75, 76, 77, 78, 79, 80, 81, 82, 83, 84, 85, 86, 87, 88] rfl (by decide +kernel)
set_option maxRecDepth 20000 in
theorem gX13_forced_X13_changeAt : GoodIn wsX13_forced (wsV RX13 524 RX13 yX13_changeAt wsX13_changeAt) := goodIn_app (goodIn_of _ (by decide +kernel)) ggX13_forced_X13_changeAt
set_option maxRecDepth 20000 in
theorem ggX13_forced_X13_in : GoodIn wsX13_forced wsX13_in := goodIn_r _ [11] rfl (by decide +kernel)
set_option maxRecDepth 20000 in
theorem gX13_forced_X13_in : GoodIn wsX13_forced (va_wsS RX13 61 yX13_in wsX13_in) := goodIn_app (goodIn_of _ (by decide +kernel)) ggX13_forced_X13_in
set_option maxHeartbeats 4000000 in
set_option maxRecDepth 100000 in
theorem S_X13_forced (l : Launch) (D : va_G) (K : Nat → ClassId) (a : Nat → Nat) (G : gS) (p0 : Int32) (s0 : Int) (e0 : p0.toInt = s0) (hI : yI G) (sz : Nat) : Ki l yX13_forced wsX13_forced 2 65 0 0 D [.ref (a 0), .int p0] (yW K a G) (tK K) sz (fun (r : Int32) (_ : Unit) => ((-2) ≤ r.toInt ∧ r.toInt ≤ 1) ∧ (((r.toInt = -2 ∧ (s0 < 1 ∨ 60 < s0)) ∨ (1 ≤ s0 ∧ s0 ≤ 60 ∧ ((r.toInt = -1 ∧ (G 0 72).toInt ≤ s0) ∨ (s0 < (G 0 72).toInt ∧ r.toInt = fF (G 46) (G 0 72).toInt s0)))))) (fun (_ : Unit) => (yW K a G)) (fun _ => (tK K)) := by
  unfold Ki
  refine g_ofW (cc := cX13_forced) (lv := [(0, .ref (a 0)), (1, .int p0)]) (by decide) rfl (Nat.le_of_ble_eq_true rfl) rfl ?_
  intro p e s m args below meth c A Q hA hQ F hr hnm
  have hts := F.2.2.2.2.1
  have w_0 : (Cond.fieldLink RX13 517 "QuietCutModel" "sounds" "I").before args s = true := hts _ (List.mem_of_getElem? (i := 2) rfl)
  have i_X13 : ∀ w ∈ u_ws RX13 TX13 73, w ∈ wsX13_forced := fun _ h => List.mem_cons_of_mem _ (List.mem_append_right _ h)
  have w_1 : (Cond.fieldLink RX13 310 "QuietCutModel" "sound" "[I").before args s = true := hts _ (List.mem_of_getElem? (i := 3) rfl)
  have w_2 : (Cond.methodLink RX13 409 Lib.Math.abs.name).before args s = true := hts _ (List.mem_of_getElem? (i := 4) rfl)
  have w_3 : (Cond.static Lib.Math.abs.name).before args s = true := hts _ (List.mem_of_getElem? (i := 5) rfl)
  have w_4 : (Cond.initialized "java/lang/Math").before args s = true := hts _ (List.mem_of_getElem? (i := 6) rfl)
  have w_5 : (Cond.code Lib.Math.abs.name Lib.Math.abs.code 1 (some .int)).before args s = true := hts _ (List.mem_of_getElem? (i := 7) rfl)
  have w_6 : (Cond.constantLong RX13 520 (60)).before args s = true := hts _ (List.mem_of_getElem? (i := 1) rfl)
  have rg0 : -2147483648 ≤ s0 ∧ s0 ≤ 2147483647 := e0 ▸ ti_rng p0
  have b1 : (0 : Int) ≤ (G 0 72).toInt ∧ (G 0 72).toInt ≤ 150 := hI 0 72
  have J_32 : ∀ (fuel : Nat) (x32_2 : Int32) (x32_3 : Int32) (x32_4 : Int32), (2147483647 - x32_4.toInt).toNat < fuel → (1 ≤ s0 ∧ s0 ≤ 60) → (0 ≤ x32_2.toInt ∧ x32_2.toInt ≤ 4000000) → (0 ≤ x32_3.toInt ∧ x32_3.toInt ≤ 2000000) → (1 ≤ x32_4.toInt ∧ x32_4.toInt ≤ 150) → ((s0 ≤ x32_4.toInt)) → ((x32_2.toInt = sS (fun i => cCh (G 46) i s0) s0 (x32_4.toInt - s0).toNat ∧ x32_3.toInt = sS (cAb (G 46)) s0 (x32_4.toInt - s0).toNat)) → ((s0 < (G 0 72).toInt ∧ 0 ≤ x32_2.toInt ∧ x32_2.toInt ≤ 19998 * (x32_4.toInt - s0) ∧ 0 ≤ x32_3.toInt ∧ x32_3.toInt ≤ 9999 * (x32_4.toInt - s0) ∧ x32_4.toInt ≤ (G 0 72).toInt)) → gG p l e (gR 2 0 0 65) s m args below meth c D A 5 Q 0 0 (yW K a G) (tK K) [(0, .ref (a 0)), (1, .int p0), (2, .int x32_2), (3, .int x32_3), (4, .int x32_4)] 32 [] := by
    intro fuel
    induction fuel with
    | zero => intro x32_2 x32_3 x32_4 hm; exact absurd hm (Nat.not_lt_zero _)
    | succ fuel_32 ih_32 =>
      intro x32_2 x32_3 x32_4 hm_32 k32_1 h32_2 h32_3 h32_4 kt fs fb
      refine g_iload F 4 dX13_forced_32 rfl ?_
      refine g_aload_n F 0 dX13_forced_34 rfl rfl ?_
      refine yg_0_72 F i_X13 w_0 dX13_forced_35 (G 0 72) (rfl) ?_
      refine v_icmp_ge F 70 dX13_forced_38 (by decide) x32_4.toInt (G 0 72).toInt rfl rfl (fun c2 => ?_) (fun c2 => ?_)
      · refine g_iconst F 2 dX13_forced_70 (by decide) ?_
        refine g_iload_n F 2 dX13_forced_71 rfl rfl ?_
        refine u_imul F dX13_forced_72 2 x32_2.toInt rfl rfl (by omega) (by omega) (fun y3 ey3 => ?_)
        refine g_iload_n F 3 dX13_forced_73 rfl rfl ?_
        refine v_icmp_gt F 81 dX13_forced_74 (by decide) y3.toInt x32_3.toInt rfl rfl (fun c4 => ?_) (fun c4 => ?_)
        · refine g_iconst F 0 dX13_forced_81 (by decide) ?_
          exact u_iret F hA hQ hr () (⟨(by decide), (Or.inr ⟨by omega, by omega, Or.inr ⟨by omega, by unfold fF; have h9 := fs; rw [show x32_4.toInt = (G 0 72).toInt by omega] at h9; rw [← h9.1, ← h9.2]; split <;> first | rfl | (exfalso; omega)⟩⟩)⟩) rfl rfl dX13_forced_82
        · refine g_iconst F 1 dX13_forced_77 (by decide) ?_
          refine g_goto F 82 dX13_forced_78 (by decide) ?_
          exact u_iret F hA hQ hr () (⟨(by decide), (Or.inr ⟨by omega, by omega, Or.inr ⟨by omega, by unfold fF; have h9 := fs; rw [show x32_4.toInt = (G 0 72).toInt by omega] at h9; rw [← h9.1, ← h9.2]; split <;> first | rfl | (exfalso; omega)⟩⟩)⟩) rfl rfl dX13_forced_82
      · refine g_iload_n F 2 dX13_forced_41 rfl rfl ?_
        refine g_aload_n F 0 dX13_forced_42 rfl rfl ?_
        refine g_iload F 4 dX13_forced_43 rfl ?_
        refine g_iload_n F 1 dX13_forced_45 rfl rfl ?_
        refine u_callVi (k := 0) (n := 0) (b := a 0) (As := [.int x32_4, .int p0]) (st := [.int x32_2]) F (fun sz => S_X13_changeAt l D K a G x32_4 x32_4.toInt p0 s0 rfl (by omega) e0 (by omega) (by (first | omega | (simp only [Int32.reduceToInt, true_and, and_true, ne_eq, not_true_eq_false, false_and, or_false, false_or, true_or, or_true, false_implies] <;> omega))) hI sz) (cwV 2 hts gX13_forced_X13_changeAt rfl rfl rfl (by decide +kernel) ⟨Nat.le_of_ble_eq_true rfl, Nat.le_of_ble_eq_true rfl⟩) rfl 0 yc_0 rfl (Nat.le_of_ble_eq_true rfl) ⟨Nat.zero_le _, Nat.zero_le _⟩ dX13_forced_46 (fun r5 _ hw6 => ?_)
        have q8 : (r5.toInt = cCh (G 46) x32_4.toInt s0) := hw6.2
        have rg9 := hw6.1
        clear hw6
        refine u_iadd F dX13_forced_49 x32_2.toInt r5.toInt rfl rfl (by omega) (by omega) (fun y10 ey10 => ?_)
        refine g_istore_n F [(2, .int y10), (0, .ref (a 0)), (1, .int p0), (3, .int x32_3), (4, .int x32_4)] dX13_forced_50 rfl (by decide) rfl ?_
        refine g_iload_n F 3 dX13_forced_51 rfl rfl ?_
        refine g_aload_n F 1 dX13_forced_52 rfl rfl ?_
        refine yg_0_70 F i_X13 w_1 dX13_forced_53 ?_
        refine g_iload F 4 dX13_forced_56 rfl ?_
        refine u1_iald F 46 0 yc_46 rfl x32_4.toInt rfl (by omega) (by omega) dX13_forced_58 ((G 46) (x32_4.toInt).toNat) (rfl) ?_
        have b11 : ((-9999) : Int) ≤ ((G 46) (x32_4.toInt).toNat).toInt ∧ ((G 46) (x32_4.toInt).toNat).toInt ≤ 9999 := hI 46 _
        refine u_mabs F w_2 w_3 w_4 w_5 (Nat.le_of_ble_eq_true rfl) (Nat.le_of_ble_eq_true rfl) (Nat.le_of_ble_eq_true rfl) (Nat.le_of_ble_eq_true rfl) dX13_forced_59 ((G 46) (x32_4.toInt).toNat).toInt rfl (by omega) (fun y12 ey12 => ?_)
        refine u_iadd F dX13_forced_62 x32_3.toInt y12.toInt rfl rfl (by omega) (by omega) (fun y13 ey13 => ?_)
        refine g_istore_n F [(3, .int y13), (2, .int y10), (0, .ref (a 0)), (1, .int p0), (4, .int x32_4)] dX13_forced_63 rfl (by decide) rfl ?_
        refine u_iinc F (fun v_ => [(4, .int v_), (3, .int y13), (2, .int y10), (0, .ref (a 0)), (1, .int p0)]) dX13_forced_64 (j := 4) rfl x32_4.toInt 1 rfl rfl (by omega) (by omega) (by decide) (fun _ => rfl) (fun y14 ey14 => ?_)
        refine g_goto F 32 dX13_forced_67 (by decide) ?_
        refine g_locals [(0, .ref (a 0)), (1, .int p0), (2, .int y10), (3, .int y13), (4, .int y14)] [3, 4, 2, 1, 0] rfl ?_
        exact ih_32 y10 y13 y14 (by omega) (by have h9 := ti_rng p0; omega) (by have h9 := ti_rng y10; omega) (by have h9 := ti_rng y13; omega) (by have h9 := ti_rng y14; omega) (by (first | omega | (simp only [Int32.reduceToInt, true_and, and_true, ne_eq, not_true_eq_false, false_and, or_false, false_or, true_or, or_true, false_implies] <;> omega))) (⟨sS_1 fs.1 (by omega) (by have h9 := q8; show _ = _ + cCh (G 46) x32_4.toInt s0; omega) (by omega), sS_1 fs.2 (by omega) (by show _ = _ + cAb (G 46) x32_4.toInt; unfold cAb; omega) (by omega)⟩) (by (first | omega | (simp only [Int32.reduceToInt, true_and, and_true, ne_eq, not_true_eq_false, false_and, or_false, false_or, true_or, or_true, false_implies] <;> omega)))
  refine g_iload_n F 1 dX13_forced_0 rfl rfl ?_
  refine g_i2l F dX13_forced_1 ?_
  refine g_lconst F 1 dX13_forced_2 (by decide) ?_
  refine g_ldc2 F w_6 dX13_forced_3 ?_
  refine u_call0 (k := 0) (n := 0) (As := [.long (Int32.toInt64 p0), .long 1, .long 60]) (st := []) F (fun sz => S_X13_in l D (Int32.toInt64 p0) s0 1 1 60 60 (ti_i2l e0) rfl rfl sz) (va_cwS 3 hts gX13_forced_X13_in rfl rfl rfl (by decide +kernel) ⟨Nat.le_of_ble_eq_true rfl, Nat.le_of_ble_eq_true rfl⟩) rfl (Nat.le_of_ble_eq_true rfl) ⟨Nat.zero_le _, Nat.zero_le _⟩ dX13_forced_6 (fun r15 _ hw16 => ?_)
  rcases hw16 with ⟨rfl, q18⟩ | ⟨rfl, q19⟩
  · refine v_if_ne F 15 dX13_forced_9 (by decide) 1 rfl (fun c20 => ?_) (fun c20 => absurd c20 (by decide))
    refine g_aload_n F 0 dX13_forced_15 rfl rfl ?_
    refine yg_0_72 F i_X13 w_0 dX13_forced_16 (G 0 72) (rfl) ?_
    refine g_iload_n F 1 dX13_forced_19 rfl rfl ?_
    refine v_icmp_gt F 25 dX13_forced_20 (by decide) (G 0 72).toInt s0 rfl e0 (fun c21 => ?_) (fun c21 => ?_)
    · refine g_iconst F 0 dX13_forced_25 (by decide) ?_
      refine g_istore_n F [(2, .int 0), (0, .ref (a 0)), (1, .int p0)] dX13_forced_26 rfl (by decide) rfl ?_
      refine g_iconst F 0 dX13_forced_27 (by decide) ?_
      refine g_istore_n F [(3, .int 0), (2, .int 0), (0, .ref (a 0)), (1, .int p0)] dX13_forced_28 rfl (by decide) rfl ?_
      refine g_iload_n F 3 dX13_forced_29 rfl rfl ?_
      refine g_istore F [(4, .int p0), (3, .int 0), (2, .int 0), (0, .ref (a 0)), (1, .int p0)] dX13_forced_30 (by decide) rfl ?_
      refine g_locals [(0, .ref (a 0)), (1, .int p0), (2, .int 0), (3, .int 0), (4, .int p0)] [3, 4, 2, 1, 0] rfl ?_
      exact J_32 _ 0 0 p0 (Nat.lt_succ_self _) (by have h9 := ti_rng p0; omega) (by decide) (by decide) (by have h9 := ti_rng p0; omega) (by (first | omega | (simp only [Int32.reduceToInt, true_and, and_true, ne_eq, not_true_eq_false, false_and, or_false, false_or, true_or, or_true, false_implies] <;> omega))) (by rw [e0, show (s0 - s0).toNat = 0 by omega]; exact ⟨rfl, rfl⟩) (by (first | omega | (simp only [Int32.reduceToInt, true_and, and_true, ne_eq, not_true_eq_false, false_and, or_false, false_or, true_or, or_true, false_implies] <;> omega)))
    · refine g_iconst F (-1) dX13_forced_23 (by decide) ?_
      exact u_iret F hA hQ hr () (⟨(by decide), (Or.inr ⟨by omega, by omega, Or.inl ⟨by decide, by omega⟩⟩)⟩) rfl rfl dX13_forced_24
  · refine v_if_ne F 15 dX13_forced_9 (by decide) 0 rfl (fun c22 => absurd c22 (by decide)) (fun c22 => ?_)
    refine g_bipush F (-2) dX13_forced_12 (by decide) ?_
    exact u_iret F hA hQ hr () (⟨(by decide), (Or.inl ⟨by decide, by omega⟩)⟩) rfl rfl dX13_forced_14
