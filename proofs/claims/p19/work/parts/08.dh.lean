theorem dX13_trial_0 : decode cX13_trial 0 = .ok (.aload_n 0, 1) := by decide +kernel
theorem dX13_trial_1 : decode cX13_trial 1 = .ok (.invokevirtual 412, 3) := by decide +kernel
theorem dX13_trial_4 : decode cX13_trial 4 = .ok (.aload_n 0, 1) := by decide +kernel
theorem dX13_trial_5 : decode cX13_trial 5 = .ok (.iload_n 1, 1) := by decide +kernel
theorem dX13_trial_6 : decode cX13_trial 6 = .ok (.iload_n 2, 1) := by decide +kernel
theorem dX13_trial_7 : decode cX13_trial 7 = .ok (.iload_n 3, 1) := by decide +kernel
theorem dX13_trial_8 : decode cX13_trial 8 = .ok (.iload 4, 2) := by decide +kernel
theorem dX13_trial_10 : decode cX13_trial 10 = .ok (.iload 5, 2) := by decide +kernel
theorem dX13_trial_12 : decode cX13_trial 12 = .ok (.iload 6, 2) := by decide +kernel
theorem dX13_trial_14 : decode cX13_trial 14 = .ok (.iconst (-1), 1) := by decide +kernel
theorem dX13_trial_15 : decode cX13_trial 15 = .ok (.invokevirtual 415, 3) := by decide +kernel
theorem dX13_trial_18 : decode cX13_trial 18 = .ok (.istore 7, 2) := by decide +kernel
theorem dX13_trial_20 : decode cX13_trial 20 = .ok (.aload_n 0, 1) := by decide +kernel
theorem dX13_trial_21 : decode cX13_trial 21 = .ok (.invokevirtual 419, 3) := by decide +kernel
theorem dX13_trial_24 : decode cX13_trial 24 = .ok (.iload 7, 2) := by decide +kernel
theorem dX13_trial_26 : decode cX13_trial 26 = .ok (.ireturn, 1) := by decide +kernel
set_option maxRecDepth 20000 in
theorem ggX13_trial_X13_go : GoodIn wsX13_trial wsX13_go := goodIn_r _ [14, 15, 16, 17, 18, 8, 19, 20, 21, 22, 23, 24, 25, 26, 10, 27, 28, 29, 4, 30, 31, 32, 33, 34, 35, 36, 37, 38, 39, 40, 41, 42, 43, 44, 45, 46, 47, 48, 49, 50, 51, 52, 53, 54, 55, 56, 57, 58, 59, 60, 61, 62, 63, 64, 65, 66, 67, 68, 69, 70, 71, 72, 73, 78, 79, 80, 81, 82, 83, 84, 85, 86, 87, 88, 89, 90, 91, 92, 93, 94, 95, 96, 97, 98, 99, 100, 101, 102, 103, 104, 105, 106, 107, 108, 109, 110, 111, 112, 113, 114, 115, 116, 117, 118, 119, 120, 121, 122, 123, 124, 125, 126, 127, 128, 129, 130, 131, 132, 133, 134, 135, 136, 137, 138, 139, 140, 141, 142, 143, 144, 145, 146, 147, 148, 149, 150] rfl (by decide +kernel)
set_option maxRecDepth 20000 in
theorem gX13_trial_X13_go : GoodIn wsX13_trial (wsV RX13 415 RX13 yX13_go wsX13_go) := goodIn_app (goodIn_of _ (by decide +kernel)) ggX13_trial_X13_go
set_option maxRecDepth 20000 in
theorem ggX13_trial_X13_putBack : GoodIn wsX13_trial wsX13_putBack := goodIn_r _ [77, 7, 8, 6, 9, 10, 78, 79, 80, 81, 82, 83, 84, 85, 86, 87, 88, 89, 90, 91, 92, 93, 94, 95, 96, 97, 98, 99, 100, 101, 102, 103, 104, 105, 106, 107, 108, 109, 110, 111, 112, 113, 114, 115, 116, 117, 118, 119, 120, 121, 122, 123, 124, 125, 126, 127, 128, 129, 130, 131, 132, 133, 134, 135, 136, 137, 138, 139, 140, 141, 142, 143, 144, 145, 146, 147, 148, 149, 150] rfl (by decide +kernel)
set_option maxRecDepth 20000 in
theorem gX13_trial_X13_putBack : GoodIn wsX13_trial (wsV RX13 419 RX13 yX13_putBack wsX13_putBack) := goodIn_app (goodIn_of _ (by decide +kernel)) ggX13_trial_X13_putBack
set_option maxRecDepth 20000 in
theorem ggX13_trial_X13_putBy : GoodIn wsX13_trial wsX13_putBy := goodIn_r _ [5, 6, 7, 8, 9, 10, 78, 79, 80, 81, 82, 83, 84, 85, 86, 87, 88, 89, 90, 91, 92, 93, 94, 95, 96, 97, 98, 99, 100, 101, 102, 103, 104, 105, 106, 107, 108, 109, 110, 111, 112, 113, 114, 115, 116, 117, 118, 119, 120, 121, 122, 123, 124, 125, 126, 127, 128, 129, 130, 131, 132, 133, 134, 135, 136, 137, 138, 139, 140, 141, 142, 143, 144, 145, 146, 147, 148, 149, 150] rfl (by decide +kernel)
set_option maxRecDepth 20000 in
theorem gX13_trial_X13_putBy : GoodIn wsX13_trial (wsV RX13 412 RX13 yX13_putBy wsX13_putBy) := goodIn_app (goodIn_of _ (by decide +kernel)) ggX13_trial_X13_putBy
set_option maxHeartbeats 4000000 in
set_option maxRecDepth 100000 in
theorem S_X13_trial (l : Launch) (D : va_G) (K : Nat → ClassId) (a : Nat → Nat) (G : gS) (p0 : Int32) (s0 : Int) (p1 : Int32) (s1 : Int) (p2 : Int32) (s2 : Int) (p3 : Int32) (s3 : Int) (p4 : Int32) (s4 : Int) (p5 : Int32) (s5 : Int) (e0 : p0.toInt = s0) (h0 : 0 ≤ s0 ∧ s0 ≤ 5) (e1 : p1.toInt = s1) (h1 : 0 ≤ s1 ∧ s1 ≤ 9) (e2 : p2.toInt = s2) (h2 : 0 ≤ s2 ∧ s2 ≤ 20) (e3 : p3.toInt = s3) (h3 : 0 ≤ s3 ∧ s3 ≤ 12) (e4 : p4.toInt = s4) (h4 : 0 ≤ s4 ∧ s4 ≤ 300) (e5 : p5.toInt = s5) (h5 : 0 ≤ s5 ∧ s5 ≤ 300) (wf : yW3 G) (cb : (1 ≤ psMx (psHr (G 14) s0 (G 3 0).toInt) ((G 3 0).toInt - 1).toNat - s2 * s3)) (dl : ((G 0 32).toInt ≤ 6)) (hI : yI G) (sz : Nat) : Ki l yX13_trial wsX13_trial 6 177 0 0 D [.ref (a 0), .int p0, .int p1, .int p2, .int p3, .int p4, .int p5] (yW K a G) (tK K) sz (fun (r : Int32) (G' : gS) => (yI G') ∧ (gu_un ycd [29, 33, 36, 37, 1300, 1400, 1500, 1600, 1700, 1800, 1900, 2000, 2100] G G') ∧ (0 ≤ r.toInt ∧ r.toInt ≤ 2) ∧ (yNh G G') ∧ ((∀ (Q : gS) (C : Nat → List Int), ySq G Q C → s0 < (G 3 1).toInt → 1 ≤ s3 → r.toInt = pvV Q (pvS Q C (G 14) (G 0 28) s0 p1 p2 p3 p4 p5) ∧ pvN Q (pvS Q C (G 14) (G 0 28) s0 p1 p2 p3 p4 p5) (G' 21 0) (G' 21 1) (G' 21 2) (G' 21 3) (G' 21 4) (G' 21 5) (G' 21 6))) ∧ (((G' 0 32).toInt = (G 0 32).toInt))) (fun (G' : gS) => (yW K a G')) (fun _ => (tK K)) := by
  unfold Ki
  refine g_ofW (cc := cX13_trial) (lv := [(0, .ref (a 0)), (1, .int p0), (2, .int p1), (3, .int p2), (4, .int p3), (5, .int p4), (6, .int p5)]) (by decide) rfl (Nat.le_of_ble_eq_true rfl) rfl ?_
  intro p e s m args below meth c A Q hA hQ F hr hnm
  have hts := F.2.2.2.2.1
  have b1 : (0 : Int) ≤ (G 0 32).toInt ∧ (G 0 32).toInt ≤ 7 := hI 0 32
  have b2 : (4 : Int) ≤ (G 3 0).toInt ∧ (G 3 0).toInt ≤ 16 := hI 3 0
  have b3 : (1 : Int) ≤ (G 3 1).toInt ∧ (G 3 1).toInt ≤ 6 := hI 3 1
  refine g_aload_n F 0 dX13_trial_0 rfl rfl ?_
  refine u_callVv (k := 0) (n := 0) (b := a 0) (As := []) (st := []) F (fun sz => S_X13_putBy l D K a G  (by (first | omega | (simp only [Int32.reduceToInt, true_and, and_true, ne_eq, not_true_eq_false, false_and, or_false, false_or, true_or, or_true, false_implies] <;> omega))) hI sz) (cwV 0 hts gX13_trial_X13_putBy rfl rfl rfl (by decide +kernel) ⟨Nat.le_of_ble_eq_true rfl, Nat.le_of_ble_eq_true rfl⟩) rfl 0 yc_0 rfl (Nat.le_of_ble_eq_true rfl) ⟨Nat.zero_le _, Nat.zero_le _⟩ dX13_trial_1 (fun G6 hw5 => ?_)
  have hI7 : yI G6 := hw5.1
  have hU8 : gu_un ycd [33, 1900, 2000] G G6 := hw5.2.1
  have hp9 := hw5.2.2
  have b10 : (0 : Int) ≤ (G6 0 32).toInt ∧ (G6 0 32).toInt ≤ 7 := hI7 0 32
  have q11 : ((G6 0 32).toInt = (G 0 32).toInt + 1) := hp9.1
  have q12 : ((∀ q : Nat, G6 19 q = sRow (G 19) (G 14) (96 * (G 0 32).toInt) 96 q) ∧ G6 20 = upd (G 20) ((G 0 32).toInt).toNat (G 0 28)) := hp9.2.1
  have q13 : ((G6 15 = G 15 ∧ G6 16 = G 16 ∧ G6 17 = G 17 ∧ G6 18 = G 18) ∧ G6 14 = G 14 ∧ G6 0 28 = G 0 28) := hp9.2.2
  clear hp9 hw5
  refine g_aload_n F 0 dX13_trial_4 rfl rfl ?_
  refine g_iload_n F 1 dX13_trial_5 rfl rfl ?_
  refine g_iload_n F 2 dX13_trial_6 rfl rfl ?_
  refine g_iload_n F 3 dX13_trial_7 rfl rfl ?_
  refine g_iload F 4 dX13_trial_8 rfl ?_
  refine g_iload F 5 dX13_trial_10 rfl ?_
  refine g_iload F 6 dX13_trial_12 rfl ?_
  refine g_iconst F (-1) dX13_trial_14 (by decide) ?_
  refine u_callVi (k := 0) (n := 0) (b := a 0) (As := [.int p0, .int p1, .int p2, .int p3, .int p4, .int p5, .int (-1)]) (st := []) F (fun sz => S_X13_go l D K a G6 p0 s0 p1 s1 p2 s2 p3 s3 p4 s4 p5 s5 (-1) (-1) e0 (by omega) e1 (by omega) e2 (by omega) e3 (by omega) e4 (by omega) e5 (by omega) rfl (yW3.un wf (show gu_un ycd [33, 1900, 2000] G G6 from (gu_un.tr gu_un.rf (gu_un.su hU8 rfl))) rfl) (by rw [show G6 14 = G 14 from q13.2.1, (show G6 3 0 = G 3 0 from (show gu_un ycd [33, 1900, 2000] G G6 from (gu_un.tr gu_un.rf (gu_un.su hU8 rfl))) 3 0 (by decide))]; exact cb) hI7 sz) (cwV 7 hts gX13_trial_X13_go rfl rfl rfl (by decide +kernel) ⟨Nat.le_of_ble_eq_true rfl, Nat.le_of_ble_eq_true rfl⟩) rfl 0 yc_0 rfl (Nat.le_of_ble_eq_true rfl) ⟨Nat.zero_le _, Nat.zero_le _⟩ dX13_trial_15 (fun r14 G16 hw15 => ?_)
  have hI17 : yI G16 := hw15.1
  have hU18 : gu_un ycd [29, 36, 37, 1300, 1400, 1500, 1600, 1700, 1800, 2100] G6 G16 := hw15.2.1
  have hp19 := hw15.2.2
  have q20 : yOut G6 s0 (-1) p2 p1 p3 p4 p5 G16 r14.toInt := hp19.2.1
  have q21 : yOt s0 (G 3 0).toInt G6 G16 := by have h9 := hp19.2.2.1; (try simp only [(show G6 3 0 = (G 3 0) from hU8 3 0 (by decide))] at h9); first | exact h9 | omega
  have q22 : ((-1 : Int) = -1 → G16 15 = G6 15 ∧ G16 16 = G6 16 ∧ G16 17 = G6 17 ∧ G16 18 = G6 18) := hp19.2.2.2
  have rg23 := hp19.1
  clear hp19 hw15
  refine g_istore F [(7, .int r14), (0, .ref (a 0)), (1, .int p0), (2, .int p1), (3, .int p2), (4, .int p3), (5, .int p4), (6, .int p5)] dX13_trial_18 (by decide) rfl ?_
  refine g_aload_n F 1 dX13_trial_20 rfl rfl ?_
  refine u_callVv (k := 0) (n := 0) (b := a 0) (As := []) (st := []) F (fun sz => S_X13_putBack l D K a G16  (by have e9_0_32 : G16 0 32 = (G6 0 32) := hU18 0 32 (by decide); (try simp only [e9_0_32, true_and, and_true]) <;> (first | omega | (simp only [Int32.reduceToInt, true_and, and_true, ne_eq, not_true_eq_false, false_and, or_false, false_or, true_or, or_true, false_implies] <;> omega))) hI17 sz) (cwV 0 hts gX13_trial_X13_putBack rfl rfl rfl (by decide +kernel) ⟨Nat.le_of_ble_eq_true rfl, Nat.le_of_ble_eq_true rfl⟩) rfl 0 yc_0 rfl (Nat.le_of_ble_eq_true rfl) ⟨Nat.zero_le _, Nat.zero_le _⟩ dX13_trial_21 (fun G26 hw25 => ?_)
  have hI27 : yI G26 := hw25.1
  have hU28 : gu_un ycd [29, 33, 1400] G16 G26 := hw25.2.1
  have hp29 := hw25.2.2
  have b30 : (0 : Int) ≤ (G26 0 32).toInt ∧ (G26 0 32).toInt ≤ 7 := hI27 0 32
  have q31 : ((G26 0 32).toInt = (G6 0 32).toInt - 1) := by have h9 := hp29.1; (try simp only [(show G16 0 32 = (G6 0 32) from hU18 0 32 (by decide))] at h9); first | exact h9 | omega
  have q32 : ((∀ q : Nat, q < 96 → G26 14 q = (G6 19) (96 * ((G6 0 32).toInt - 1) + (q : Int)).toNat) ∧ G26 0 28 = (G6 20) ((G6 0 32).toInt - 1).toNat) := by have h9 := hp29.2.1; (try simp only [(show G16 0 32 = (G6 0 32) from hU18 0 32 (by decide)), (show G16 0 32 = (G6 0 32) from hU18 0 32 (by decide)), (show G16 19 = (G6 19) from (show G16 19 = G6 19 from funext fun k_ => hU18 19 k_ (show (1900 : Nat) ∉ ([29, 36, 37, 1300, 1400, 1500, 1600, 1700, 1800, 2100] : List Nat) by decide))), (show G16 20 = (G6 20) from (show G16 20 = G6 20 from funext fun k_ => hU18 20 k_ (show (2000 : Nat) ∉ ([29, 36, 37, 1300, 1400, 1500, 1600, 1700, 1800, 2100] : List Nat) by decide)))] at h9); first | exact h9 | omega
  have q33 : ((G26 15 = G16 15 ∧ G26 16 = G16 16 ∧ G26 17 = G16 17 ∧ G26 18 = G16 18) ∧ G26 19 = G16 19 ∧ G26 20 = G16 20) := hp29.2.2
  have bk34 : yNh G G26 := yNh.back (G := G6) (d := (G 0 32).toInt) (yNd.by q12.1 q12.2 q13.1 (by omega)) (yKe.by q12.1 q12.2 (by omega)) rfl (fun q hq => by have h9 := q32.1 q hq; rw [show (G6 0 32).toInt - 1 = (G 0 32).toInt by omega] at h9; exact h9) (by have h9 := q32.2; rw [show (G6 0 32).toInt - 1 = (G 0 32).toInt by omega] at h9; exact h9) (yNd.tr (yNd.tr yNd.rf (show yNd _ G6 G16 from (yNd.go (q22 rfl) hU18 rfl)) (Int.le_refl _)) (yNd.pl q33) (Int.le_refl _)) (by omega)
  clear hp29 hw25
  refine g_iload F 0 dX13_trial_24 rfl ?_
  exact u_iret F hA hQ hr G26 (⟨hI27, (gu_un.tr (gu_un.tr (gu_un.tr gu_un.rf (gu_un.su hU8 rfl)) (gu_un.su hU18 rfl)) (gu_un.su hU28 rfl)), (by have h9 := ti_rng r14; omega), ((yNh.tr (show yNh G G from yNh.rf) (show yNh G G26 from bk34))), (fun Q C hq hr ht => by have h9 := yOut.pv q20 (ySq.un hq (show gu_un ycd [33, 1900, 2000] G G6 from (gu_un.tr gu_un.rf (gu_un.su hU8 rfl))) rfl) (by rw [(show G6 3 1 = G 3 1 from (show gu_un ycd [33, 1900, 2000] G G6 from (gu_un.tr gu_un.rf (gu_un.su hU8 rfl))) 3 1 (by decide))]; omega) (by omega) (by rw [(show G6 3 0 = G 3 0 from (show gu_un ycd [33, 1900, 2000] G G6 from (gu_un.tr gu_un.rf (gu_un.su hU8 rfl))) 3 0 (by decide))]; omega); rw [show G6 14 = G 14 from q13.2.1, show G6 0 28 = G 0 28 from q13.2.2] at h9; exact ⟨h9.1, pvN.at h9.2.2.2.1 (show G26 21 0 = G16 21 0 from (show gu_un ycd [29, 33, 1400] G16 G26 from (gu_un.tr gu_un.rf (gu_un.su hU28 rfl))) 21 0 (by decide)) (show G26 21 1 = G16 21 1 from (show gu_un ycd [29, 33, 1400] G16 G26 from (gu_un.tr gu_un.rf (gu_un.su hU28 rfl))) 21 1 (by decide)) (show G26 21 2 = G16 21 2 from (show gu_un ycd [29, 33, 1400] G16 G26 from (gu_un.tr gu_un.rf (gu_un.su hU28 rfl))) 21 2 (by decide)) (show G26 21 3 = G16 21 3 from (show gu_un ycd [29, 33, 1400] G16 G26 from (gu_un.tr gu_un.rf (gu_un.su hU28 rfl))) 21 3 (by decide)) (show G26 21 4 = G16 21 4 from (show gu_un ycd [29, 33, 1400] G16 G26 from (gu_un.tr gu_un.rf (gu_un.su hU28 rfl))) 21 4 (by decide)) (show G26 21 5 = G16 21 5 from (show gu_un ycd [29, 33, 1400] G16 G26 from (gu_un.tr gu_un.rf (gu_un.su hU28 rfl))) 21 5 (by decide)) (show G26 21 6 = G16 21 6 from (show gu_un ycd [29, 33, 1400] G16 G26 from (gu_un.tr gu_un.rf (gu_un.su hU28 rfl))) 21 6 (by decide))⟩), (by show ((G26 0 32).toInt = (G 0 32).toInt); (first | omega | (simp only [Int32.reduceToInt, true_and, and_true, ne_eq, not_true_eq_false, false_and, or_false, false_or, true_or, or_true, false_implies] <;> omega)))⟩) rfl rfl dX13_trial_26

theorem dX13_attempt_0 : decode cX13_attempt 0 = .ok (.aload_n 0, 1) := by decide +kernel
theorem dX13_attempt_1 : decode cX13_attempt 1 = .ok (.iload_n 1, 1) := by decide +kernel
theorem dX13_attempt_2 : decode cX13_attempt 2 = .ok (.iload_n 2, 1) := by decide +kernel
theorem dX13_attempt_3 : decode cX13_attempt 3 = .ok (.iload_n 3, 1) := by decide +kernel
theorem dX13_attempt_4 : decode cX13_attempt 4 = .ok (.iload 4, 2) := by decide +kernel
theorem dX13_attempt_6 : decode cX13_attempt 6 = .ok (.invokevirtual 431, 3) := by decide +kernel
theorem dX13_attempt_9 : decode cX13_attempt 9 = .ok (.ifCond .eq 13, 3) := by decide +kernel
theorem dX13_attempt_12 : decode cX13_attempt 12 = .ok (.iload 5, 2) := by decide +kernel
theorem dX13_attempt_14 : decode cX13_attempt 14 = .ok (.iload 6, 2) := by decide +kernel
theorem dX13_attempt_16 : decode cX13_attempt 16 = .ok (.invokestatic 435, 3) := by decide +kernel
theorem dX13_attempt_19 : decode cX13_attempt 19 = .ok (.ifCond .ne 6, 3) := by decide +kernel
theorem dX13_attempt_22 : decode cX13_attempt 22 = .ok (.bipush (-2), 2) := by decide +kernel
theorem dX13_attempt_24 : decode cX13_attempt 24 = .ok (.ireturn, 1) := by decide +kernel
theorem dX13_attempt_25 : decode cX13_attempt 25 = .ok (.aload_n 0, 1) := by decide +kernel
theorem dX13_attempt_26 : decode cX13_attempt 26 = .ok (.iload_n 1, 1) := by decide +kernel
theorem dX13_attempt_27 : decode cX13_attempt 27 = .ok (.iload_n 3, 1) := by decide +kernel
theorem dX13_attempt_28 : decode cX13_attempt 28 = .ok (.iload 4, 2) := by decide +kernel
theorem dX13_attempt_30 : decode cX13_attempt 30 = .ok (.invokevirtual 438, 3) := by decide +kernel
theorem dX13_attempt_33 : decode cX13_attempt 33 = .ok (.ifCond .ne 6, 3) := by decide +kernel
theorem dX13_attempt_36 : decode cX13_attempt 36 = .ok (.bipush (-4), 2) := by decide +kernel
theorem dX13_attempt_38 : decode cX13_attempt 38 = .ok (.ireturn, 1) := by decide +kernel
theorem dX13_attempt_39 : decode cX13_attempt 39 = .ok (.aload_n 0, 1) := by decide +kernel
theorem dX13_attempt_40 : decode cX13_attempt 40 = .ok (.iload_n 1, 1) := by decide +kernel
theorem dX13_attempt_41 : decode cX13_attempt 41 = .ok (.iload_n 2, 1) := by decide +kernel
theorem dX13_attempt_42 : decode cX13_attempt 42 = .ok (.iload_n 3, 1) := by decide +kernel
theorem dX13_attempt_43 : decode cX13_attempt 43 = .ok (.iload 4, 2) := by decide +kernel
theorem dX13_attempt_45 : decode cX13_attempt 45 = .ok (.iload 5, 2) := by decide +kernel
theorem dX13_attempt_47 : decode cX13_attempt 47 = .ok (.iload 6, 2) := by decide +kernel
theorem dX13_attempt_49 : decode cX13_attempt 49 = .ok (.invokevirtual 442, 3) := by decide +kernel
theorem dX13_attempt_52 : decode cX13_attempt 52 = .ok (.istore 7, 2) := by decide +kernel
theorem dX13_attempt_54 : decode cX13_attempt 54 = .ok (.aload_n 0, 1) := by decide +kernel
theorem dX13_attempt_55 : decode cX13_attempt 55 = .ok (.invokevirtual 445, 3) := by decide +kernel
theorem dX13_attempt_58 : decode cX13_attempt 58 = .ok (.iload 7, 2) := by decide +kernel
theorem dX13_attempt_60 : decode cX13_attempt 60 = .ok (.ireturn, 1) := by decide +kernel
set_option maxRecDepth 20000 in
theorem ggX13_attempt_X13_canBe : GoodIn wsX13_attempt wsX13_canBe := goodIn_r _ [24, 25, 26, 27, 4, 28, 29, 13, 30, 31, 32, 33, 34, 35, 36, 110, 111, 112, 113, 114, 115, 116, 117, 118, 119, 120, 121, 122, 123, 124, 125, 126, 127, 128, 129, 130, 131, 132, 133, 134, 135, 136, 137, 138, 139, 140, 141, 142, 143, 144, 145, 146, 147, 148, 149, 150, 151, 152, 153, 154, 155, 156, 157, 158, 159, 160, 161, 162, 163, 164, 165, 166, 167, 168, 169, 170, 171, 172, 173, 174, 175, 176, 177, 178, 179, 180, 181, 182] rfl (by decide +kernel)
set_option maxRecDepth 20000 in
theorem gX13_attempt_X13_canBe : GoodIn wsX13_attempt (wsV RX13 438 RX13 yX13_canBe wsX13_canBe) := goodIn_app (goodIn_of _ (by decide +kernel)) ggX13_attempt_X13_canBe
set_option maxRecDepth 20000 in
theorem ggX13_attempt_X13_isMachine : GoodIn wsX13_attempt wsX13_isMachine := goodIn_r _ [19, 20, 14, 15, 4, 16] rfl (by decide +kernel)
set_option maxRecDepth 20000 in
theorem gX13_attempt_X13_isMachine : GoodIn wsX13_attempt (va_wsS RX13 435 yX13_isMachine wsX13_isMachine) := goodIn_app (goodIn_of _ (by decide +kernel)) ggX13_attempt_X13_isMachine
set_option maxRecDepth 20000 in
theorem ggX13_attempt_X13_isPass : GoodIn wsX13_attempt wsX13_isPass := goodIn_r _ [5, 6, 7, 8, 9, 10, 11, 4, 12, 13, 14, 15, 16, 110, 111, 112, 113, 114, 115, 116, 117, 118, 119, 120, 121, 122, 123, 124, 125, 126, 127, 128, 129, 130, 131, 132, 133, 134, 135, 136, 137, 138, 139, 140, 141, 142, 143, 144, 145, 146, 147, 148, 149, 150, 151, 152, 153, 154, 155, 156, 157, 158, 159, 160, 161, 162, 163, 164, 165, 166, 167, 168, 169, 170, 171, 172, 173, 174, 175, 176, 177, 178, 179, 180, 181, 182] rfl (by decide +kernel)
set_option maxRecDepth 20000 in
theorem gX13_attempt_X13_isPass : GoodIn wsX13_attempt (wsV RX13 431 RX13 yX13_isPass wsX13_isPass) := goodIn_app (goodIn_of _ (by decide +kernel)) ggX13_attempt_X13_isPass
set_option maxRecDepth 20000 in
theorem ggX13_attempt_X13_notePassed : GoodIn wsX13_attempt wsX13_notePassed := goodIn_r _ [107, 108, 53, 109, 110, 111, 112, 113, 114, 115, 116, 117, 118, 119, 120, 121, 122, 123, 124, 125, 126, 127, 128, 129, 130, 131, 132, 133, 134, 135, 136, 137, 138, 139, 140, 141, 142, 143, 144, 145, 146, 147, 148, 149, 150, 151, 152, 153, 154, 155, 156, 157, 158, 159, 160, 161, 162, 163, 164, 165, 166, 167, 168, 169, 170, 171, 172, 173, 174, 175, 176, 177, 178, 179, 180, 181, 182] rfl (by decide +kernel)
set_option maxRecDepth 20000 in
theorem gX13_attempt_X13_notePassed : GoodIn wsX13_attempt (wsV RX13 445 RX13 yX13_notePassed wsX13_notePassed) := goodIn_app (goodIn_of _ (by decide +kernel)) ggX13_attempt_X13_notePassed
set_option maxRecDepth 20000 in
theorem ggX13_attempt_X13_trial : GoodIn wsX13_attempt wsX13_trial := goodIn_r _ [40, 41, 42, 43, 4, 44, 45, 46, 29, 47, 48, 49, 50, 51, 52, 13, 53, 54, 55, 56, 57, 58, 32, 59, 30, 31, 33, 25, 26, 27, 28, 34, 35, 36, 60, 61, 62, 63, 64, 65, 66, 67, 68, 69, 70, 71, 72, 73, 74, 75, 76, 77, 78, 79, 80, 81, 82, 83, 84, 85, 86, 87, 88, 89, 90, 91, 92, 93, 94, 95, 96, 97, 98, 99, 100, 101, 102, 103, 110, 111, 112, 113, 114, 115, 116, 117, 118, 119, 120, 121, 122, 123, 124, 125, 126, 127, 128, 129, 130, 131, 132, 133, 134, 135, 136, 137, 138, 139, 140, 141, 142, 143, 144, 145, 146, 147, 148, 149, 150, 151, 152, 153, 154, 155, 156, 157, 158, 159, 160, 161, 162, 163, 164, 165, 166, 167, 168, 169, 170, 171, 172, 173, 174, 175, 176, 177, 178, 179, 180, 181, 182] rfl (by decide +kernel)
set_option maxRecDepth 20000 in
theorem gX13_attempt_X13_trial : GoodIn wsX13_attempt (wsV RX13 442 RX13 yX13_trial wsX13_trial) := goodIn_app (goodIn_of _ (by decide +kernel)) ggX13_attempt_X13_trial
set_option maxHeartbeats 4000000 in
set_option maxRecDepth 100000 in
theorem S_X13_attempt (l : Launch) (D : va_G) (K : Nat → ClassId) (a : Nat → Nat) (G : gS) (p0 : Int32) (s0 : Int) (p1 : Int32) (s1 : Int) (p2 : Int32) (s2 : Int) (p3 : Int32) (s3 : Int) (p4 : Int32) (s4 : Int) (p5 : Int32) (s5 : Int) (e0 : p0.toInt = s0) (e1 : p1.toInt = s1) (e2 : p2.toInt = s2) (e3 : p3.toInt = s3) (e4 : p4.toInt = s4) (e5 : p5.toInt = s5) (wf : yW3 G) (dl : ((G 0 32).toInt ≤ 6)) (hI : yI G) (sz : Nat) : Ki l yX13_attempt wsX13_attempt 7 204 0 0 D [.ref (a 0), .int p0, .int p1, .int p2, .int p3, .int p4, .int p5] (yW K a G) (tK K) sz (fun (r : Int32) (G' : gS) => (yI G') ∧ (gu_un ycd [29, 33, 36, 37, 38, 1300, 1400, 1500, 1600, 1700, 1800, 1900, 2000, 2100, 2200] G G') ∧ ((-4) ≤ r.toInt ∧ r.toInt ≤ 2) ∧ (yNh G G') ∧ ((∀ (Q : gS) (C : Nat → List Int), ySq G Q C → atR Q C (yPc G) (yPc G') s0 p1 p2 p3 p4 p5 r.toInt)) ∧ (((G' 0 32).toInt = (G 0 32).toInt))) (fun (G' : gS) => (yW K a G')) (fun _ => (tK K)) := by
  unfold Ki
  refine g_ofW (cc := cX13_attempt) (lv := [(0, .ref (a 0)), (1, .int p0), (2, .int p1), (3, .int p2), (4, .int p3), (5, .int p4), (6, .int p5)]) (by decide) rfl (Nat.le_of_ble_eq_true rfl) rfl ?_
  intro p e s m args below meth c A Q hA hQ F hr hnm
  have hts := F.2.2.2.2.1
  have rg0 : -2147483648 ≤ s0 ∧ s0 ≤ 2147483647 := e0 ▸ ti_rng p0
  have rg1 : -2147483648 ≤ s1 ∧ s1 ≤ 2147483647 := e1 ▸ ti_rng p1
  have rg2 : -2147483648 ≤ s2 ∧ s2 ≤ 2147483647 := e2 ▸ ti_rng p2
  have rg3 : -2147483648 ≤ s3 ∧ s3 ≤ 2147483647 := e3 ▸ ti_rng p3
  have rg4 : -2147483648 ≤ s4 ∧ s4 ≤ 2147483647 := e4 ▸ ti_rng p4
  have rg5 : -2147483648 ≤ s5 ∧ s5 ≤ 2147483647 := e5 ▸ ti_rng p5
  have b1 : (0 : Int) ≤ (G 0 32).toInt ∧ (G 0 32).toInt ≤ 7 := hI 0 32
  have b2 : (4 : Int) ≤ (G 3 0).toInt ∧ (G 3 0).toInt ≤ 16 := hI 3 0
  have b3 : (1 : Int) ≤ (G 3 1).toInt ∧ (G 3 1).toInt ≤ 6 := hI 3 1
  refine g_aload_n F 0 dX13_attempt_0 rfl rfl ?_
  refine g_iload_n F 1 dX13_attempt_1 rfl rfl ?_
  refine g_iload_n F 2 dX13_attempt_2 rfl rfl ?_
  refine g_iload_n F 3 dX13_attempt_3 rfl rfl ?_
  refine g_iload F 4 dX13_attempt_4 rfl ?_
  refine u_callVi (k := 0) (n := 0) (b := a 0) (As := [.int p0, .int p1, .int p2, .int p3]) (st := []) F (fun sz => S_X13_isPass l D K a G p0 s0 p1 s1 p2 s2 p3 s3 e0 e1 e2 e3 hI sz) (cwV 4 hts gX13_attempt_X13_isPass rfl rfl rfl (by decide +kernel) ⟨Nat.le_of_ble_eq_true rfl, Nat.le_of_ble_eq_true rfl⟩) rfl 0 yc_0 rfl (Nat.le_of_ble_eq_true rfl) ⟨Nat.zero_le _, Nat.zero_le _⟩ dX13_attempt_6 (fun r4 _ hw5 => ?_)
  rcases hw5 with ⟨rfl, q7⟩ | ⟨rfl, q8⟩
  · have q7 : (0 ≤ s0 ∧ s0 < (G 3 1).toInt ∧ 1 ≤ s1 ∧ s1 ≤ 9 ∧ 1 ≤ s2 ∧ s2 ≤ 20 ∧ 1 ≤ s3 ∧ s3 ≤ 12) := q7
    refine v_if_eq F 22 dX13_attempt_9 (by decide) 1 rfl (fun c9 => absurd c9 (by decide)) (fun c9 => ?_)
    refine g_iload F 5 dX13_attempt_12 rfl ?_
    refine g_iload F 6 dX13_attempt_14 rfl ?_
    refine u_call0 (k := 0) (n := 0) (As := [.int p4, .int p5]) (st := []) F (fun sz => S_X13_isMachine l D p4 s4 p5 s5 e4 e5 sz) (va_cwS 2 hts gX13_attempt_X13_isMachine rfl rfl rfl (by decide +kernel) ⟨Nat.le_of_ble_eq_true rfl, Nat.le_of_ble_eq_true rfl⟩) rfl (Nat.le_of_ble_eq_true rfl) ⟨Nat.zero_le _, Nat.zero_le _⟩ dX13_attempt_16 (fun r10 _ hw11 => ?_)
    rcases hw11 with ⟨rfl, q13⟩ | ⟨rfl, q14⟩
    · refine v_if_ne F 25 dX13_attempt_19 (by decide) 1 rfl (fun c15 => ?_) (fun c15 => absurd c15 (by decide))
      refine g_aload_n F 0 dX13_attempt_25 rfl rfl ?_
      refine g_iload_n F 1 dX13_attempt_26 rfl rfl ?_
      refine g_iload_n F 3 dX13_attempt_27 rfl rfl ?_
      refine g_iload F 4 dX13_attempt_28 rfl ?_
      refine u_callVi (k := 0) (n := 0) (b := a 0) (As := [.int p0, .int p2, .int p3]) (st := []) F (fun sz => S_X13_canBe l D K a G p0 s0 p2 s2 p3 s3 e0 (by omega) e2 (by omega) e3 (by omega) hI sz) (cwV 3 hts gX13_attempt_X13_canBe rfl rfl rfl (by decide +kernel) ⟨Nat.le_of_ble_eq_true rfl, Nat.le_of_ble_eq_true rfl⟩) rfl 0 yc_0 rfl (Nat.le_of_ble_eq_true rfl) ⟨Nat.zero_le _, Nat.zero_le _⟩ dX13_attempt_30 (fun r16 _ hw17 => ?_)
      rcases hw17 with ⟨rfl, q19⟩ | ⟨rfl, q20⟩
      · have q19 : (1 ≤ psMx (psHr (G 14) s0 (G 3 0).toInt) ((G 3 0).toInt - 1).toNat - s2 * s3) := q19
        refine v_if_ne F 39 dX13_attempt_33 (by decide) 1 rfl (fun c21 => ?_) (fun c21 => absurd c21 (by decide))
        refine g_aload_n F 0 dX13_attempt_39 rfl rfl ?_
        refine g_iload_n F 1 dX13_attempt_40 rfl rfl ?_
        refine g_iload_n F 2 dX13_attempt_41 rfl rfl ?_
        refine g_iload_n F 3 dX13_attempt_42 rfl rfl ?_
        refine g_iload F 4 dX13_attempt_43 rfl ?_
        refine g_iload F 5 dX13_attempt_45 rfl ?_
        refine g_iload F 6 dX13_attempt_47 rfl ?_
        refine u_callVi (k := 0) (n := 0) (b := a 0) (As := [.int p0, .int p1, .int p2, .int p3, .int p4, .int p5]) (st := []) F (fun sz => S_X13_trial l D K a G p0 s0 p1 s1 p2 s2 p3 s3 p4 s4 p5 s5 e0 (by omega) e1 (by omega) e2 (by omega) e3 (by omega) e4 (by omega) e5 (by omega) (wf) (by (first | omega | (simp only [Int32.reduceToInt, true_and, and_true, ne_eq, not_true_eq_false, false_and, or_false, false_or, true_or, or_true, false_implies] <;> omega))) (by (first | omega | (simp only [Int32.reduceToInt, true_and, and_true, ne_eq, not_true_eq_false, false_and, or_false, false_or, true_or, or_true, false_implies] <;> omega))) hI sz) (cwV 6 hts gX13_attempt_X13_trial rfl rfl rfl (by decide +kernel) ⟨Nat.le_of_ble_eq_true rfl, Nat.le_of_ble_eq_true rfl⟩) rfl 0 yc_0 rfl (Nat.le_of_ble_eq_true rfl) ⟨Nat.zero_le _, Nat.zero_le _⟩ dX13_attempt_49 (fun r22 G24 hw23 => ?_)
        have hI25 : yI G24 := hw23.1
        have hU26 : gu_un ycd [29, 33, 36, 37, 1300, 1400, 1500, 1600, 1700, 1800, 1900, 2000, 2100] G G24 := hw23.2.1
        have hp27 := hw23.2.2
        have q28 : yNh G G24 := hp27.2.1
        have q29 : (∀ (Q : gS) (C : Nat → List Int), ySq G Q C → s0 < (G 3 1).toInt → 1 ≤ s3 → r22.toInt = pvV Q (pvS Q C (G 14) (G 0 28) s0 p1 p2 p3 p4 p5) ∧ pvN Q (pvS Q C (G 14) (G 0 28) s0 p1 p2 p3 p4 p5) (G24 21 0) (G24 21 1) (G24 21 2) (G24 21 3) (G24 21 4) (G24 21 5) (G24 21 6)) := hp27.2.2.1
        have b30 : (0 : Int) ≤ (G24 0 32).toInt ∧ (G24 0 32).toInt ≤ 7 := hI25 0 32
        have q31 : ((G24 0 32).toInt = (G 0 32).toInt) := hp27.2.2.2
        have rg32 := hp27.1
        clear hp27 hw23
        refine g_istore F [(7, .int r22), (0, .ref (a 0)), (1, .int p0), (2, .int p1), (3, .int p2), (4, .int p3), (5, .int p4), (6, .int p5)] dX13_attempt_52 (by decide) rfl ?_
        refine g_aload_n F 1 dX13_attempt_54 rfl rfl ?_
        refine u_callVv (k := 0) (n := 0) (b := a 0) (As := []) (st := []) F (fun sz => S_X13_notePassed l D K a G24  hI25 sz) (cwV 0 hts gX13_attempt_X13_notePassed rfl rfl rfl (by decide +kernel) ⟨Nat.le_of_ble_eq_true rfl, Nat.le_of_ble_eq_true rfl⟩) rfl 0 yc_0 rfl (Nat.le_of_ble_eq_true rfl) ⟨Nat.zero_le _, Nat.zero_le _⟩ dX13_attempt_55 (fun G35 hw34 => ?_)
        have hI36 : yI G35 := hw34.1
        have hU37 : gu_un ycd [38, 2200] G24 G35 := hw34.2.1
        have hp38 := hw34.2.2
        have q39 : (G35 0 37 = 1 ∧ ∀ q : Nat, q < 7 → G35 22 q = (G24 21) q) := hp38
        clear hp38 hw34
        refine g_iload F 0 dX13_attempt_58 rfl ?_
        exact u_iret F hA hQ hr G35 (⟨hI36, (gu_un.tr (gu_un.tr gu_un.rf (gu_un.su hU26 rfl)) (gu_un.su hU37 rfl)), (by have h9 := ti_rng r22; omega), ((yNh.tr (show yNh G G24 from (yNh.tr (show yNh G G from yNh.rf) (show yNh G G24 from q28))) (show yNh G24 G35 from (yNh.un hU37 rfl)))), (fun Q C hq => by have h9 := q29 Q C hq (by omega) (by omega); exact Or.inr (Or.inr ⟨(by unfold pvArg; rw [hq.1 1 (by decide) (by decide)]; omega), (by unfold pvOk; rw [hq.1 0 (by decide) (by decide)]; show 1 ≤ psMx (psHr (G 14) s0 (G 3 0).toInt) ((G 3 0).toInt - 1).toNat - p2.toInt * p3.toInt; rw [e2, e3]; omega), h9.1, pcB.nh (yNh.tr (show yNh G G24 from (yNh.tr (show yNh G G from yNh.rf) (show yNh G G24 from q28))) (show yNh G24 G35 from (yNh.un hU37 rfl))) (show G35 0 29 = G 0 29 from (show gu_un ycd [29, 33, 36, 37, 38, 1300, 1400, 1500, 1600, 1700, 1800, 1900, 2000, 2100, 2200] G G35 from (gu_un.tr (gu_un.tr gu_un.rf (gu_un.su hU26 rfl)) (gu_un.su hU37 rfl))) 0 29 (by decide)), ⟨q39.1, pvN.at h9.2 ((q39.2 0 (by decide)).trans rfl) ((q39.2 1 (by decide)).trans rfl) ((q39.2 2 (by decide)).trans rfl) ((q39.2 3 (by decide)).trans rfl) ((q39.2 4 (by decide)).trans rfl) ((q39.2 5 (by decide)).trans rfl) ((q39.2 6 (by decide)).trans rfl)⟩⟩)), (by show ((G35 0 32).toInt = (G 0 32).toInt); have e9_0_32 : G35 0 32 = (G24 0 32) := hU37 0 32 (by decide); (try simp only [e9_0_32, true_and, and_true]) <;> (first | omega | (simp only [Int32.reduceToInt, true_and, and_true, ne_eq, not_true_eq_false, false_and, or_false, false_or, true_or, or_true, false_implies] <;> omega)))⟩) rfl rfl dX13_attempt_60
      · have q20 : (psMx (psHr (G 14) s0 (G 3 0).toInt) ((G 3 0).toInt - 1).toNat - s2 * s3 < 1) := q20
        refine v_if_ne F 39 dX13_attempt_33 (by decide) 0 rfl (fun c40 => absurd c40 (by decide)) (fun c40 => ?_)
        refine g_bipush F (-4) dX13_attempt_36 (by decide) ?_
        exact u_iret F hA hQ hr G (⟨hI, gu_un.rf, (by decide), (yNh.rf), (fun Q C hq => Or.inr (Or.inl ⟨(by unfold pvArg; rw [hq.1 1 (by decide) (by decide)]; omega), (fun ho => by unfold pvOk at ho; rw [hq.1 0 (by decide) (by decide)] at ho; have ho2 : 1 ≤ psMx (psHr (G 14) s0 (G 3 0).toInt) ((G 3 0).toInt - 1).toNat - p2.toInt * p3.toInt := ho; rw [e2, e3] at ho2; omega), by decide, pcB.yun (show gu_un ycd [] G G from gu_un.rf) rfl, pcK.yun (show gu_un ycd [] G G from gu_un.rf) rfl⟩)), (by show ((G 0 32).toInt = (G 0 32).toInt); (first | omega | (simp only [Int32.reduceToInt, true_and, and_true, ne_eq, not_true_eq_false, false_and, or_false, false_or, true_or, or_true, false_implies] <;> omega)))⟩) rfl rfl dX13_attempt_38
    · refine v_if_ne F 25 dX13_attempt_19 (by decide) 0 rfl (fun c41 => absurd c41 (by decide)) (fun c41 => ?_)
      refine g_bipush F (-2) dX13_attempt_22 (by decide) ?_
      exact u_iret F hA hQ hr G (⟨hI, gu_un.rf, (by decide), (yNh.rf), (fun Q C hq => Or.inl ⟨fun ha => by obtain ⟨b0, b1, b2, b3, b4, b5, b6, b7, b8, b9, b10, b11⟩ := ha; rw [hq.1 1 (by decide) (by decide)] at b1; omega, by decide, pcB.yun (show gu_un ycd [] G G from gu_un.rf) rfl, pcK.yun (show gu_un ycd [] G G from gu_un.rf) rfl⟩), (by show ((G 0 32).toInt = (G 0 32).toInt); (first | omega | (simp only [Int32.reduceToInt, true_and, and_true, ne_eq, not_true_eq_false, false_and, or_false, false_or, true_or, or_true, false_implies] <;> omega)))⟩) rfl rfl dX13_attempt_24
  · have q8 : ¬ (0 ≤ s0 ∧ s0 < (G 3 1).toInt ∧ 1 ≤ s1 ∧ s1 ≤ 9 ∧ 1 ≤ s2 ∧ s2 ≤ 20 ∧ 1 ≤ s3 ∧ s3 ≤ 12) := q8
    refine v_if_eq F 22 dX13_attempt_9 (by decide) 0 rfl (fun c42 => ?_) (fun c42 => absurd c42 (by decide))
    refine g_bipush F (-2) dX13_attempt_22 (by decide) ?_
    exact u_iret F hA hQ hr G (⟨hI, gu_un.rf, (by decide), (yNh.rf), (fun Q C hq => Or.inl ⟨fun ha => by obtain ⟨b0, b1, b2, b3, b4, b5, b6, b7, b8, b9, b10, b11⟩ := ha; rw [hq.1 1 (by decide) (by decide)] at b1; omega, by decide, pcB.yun (show gu_un ycd [] G G from gu_un.rf) rfl, pcK.yun (show gu_un ycd [] G G from gu_un.rf) rfl⟩), (by show ((G 0 32).toInt = (G 0 32).toInt); (first | omega | (simp only [Int32.reduceToInt, true_and, and_true, ne_eq, not_true_eq_false, false_and, or_false, false_or, true_or, or_true, false_implies] <;> omega)))⟩) rfl rfl dX13_attempt_24

theorem dX13_cut_0 : decode cX13_cut 0 = .ok (.aload_n 0, 1) := by decide +kernel
theorem dX13_cut_1 : decode cX13_cut 1 = .ok (.iload_n 1, 1) := by decide +kernel
theorem dX13_cut_2 : decode cX13_cut 2 = .ok (.iload_n 2, 1) := by decide +kernel
theorem dX13_cut_3 : decode cX13_cut 3 = .ok (.iload_n 3, 1) := by decide +kernel
theorem dX13_cut_4 : decode cX13_cut 4 = .ok (.iload 4, 2) := by decide +kernel
theorem dX13_cut_6 : decode cX13_cut 6 = .ok (.invokevirtual 431, 3) := by decide +kernel
theorem dX13_cut_9 : decode cX13_cut 9 = .ok (.ifCond .eq 13, 3) := by decide +kernel
theorem dX13_cut_12 : decode cX13_cut 12 = .ok (.iload 5, 2) := by decide +kernel
theorem dX13_cut_14 : decode cX13_cut 14 = .ok (.iload 6, 2) := by decide +kernel
theorem dX13_cut_16 : decode cX13_cut 16 = .ok (.invokestatic 435, 3) := by decide +kernel
theorem dX13_cut_19 : decode cX13_cut 19 = .ok (.ifCond .ne 6, 3) := by decide +kernel
theorem dX13_cut_22 : decode cX13_cut 22 = .ok (.bipush (-2), 2) := by decide +kernel
theorem dX13_cut_24 : decode cX13_cut 24 = .ok (.ireturn, 1) := by decide +kernel
theorem dX13_cut_25 : decode cX13_cut 25 = .ok (.aload_n 0, 1) := by decide +kernel
theorem dX13_cut_26 : decode cX13_cut 26 = .ok (.iload_n 1, 1) := by decide +kernel
theorem dX13_cut_27 : decode cX13_cut 27 = .ok (.iload_n 3, 1) := by decide +kernel
theorem dX13_cut_28 : decode cX13_cut 28 = .ok (.iload 4, 2) := by decide +kernel
theorem dX13_cut_30 : decode cX13_cut 30 = .ok (.invokevirtual 438, 3) := by decide +kernel
theorem dX13_cut_33 : decode cX13_cut 33 = .ok (.ifCond .ne 6, 3) := by decide +kernel
theorem dX13_cut_36 : decode cX13_cut 36 = .ok (.bipush (-4), 2) := by decide +kernel
theorem dX13_cut_38 : decode cX13_cut 38 = .ok (.ireturn, 1) := by decide +kernel
theorem dX13_cut_39 : decode cX13_cut 39 = .ok (.aload_n 0, 1) := by decide +kernel
theorem dX13_cut_40 : decode cX13_cut 40 = .ok (.getfield 364, 3) := by decide +kernel
theorem dX13_cut_43 : decode cX13_cut 43 = .ok (.sipush 200, 3) := by decide +kernel
theorem dX13_cut_46 : decode cX13_cut 46 = .ok (.if_icmp .ne 6, 3) := by decide +kernel
theorem dX13_cut_49 : decode cX13_cut 49 = .ok (.bipush (-3), 2) := by decide +kernel
theorem dX13_cut_51 : decode cX13_cut 51 = .ok (.ireturn, 1) := by decide +kernel
theorem dX13_cut_52 : decode cX13_cut 52 = .ok (.aload_n 0, 1) := by decide +kernel
theorem dX13_cut_53 : decode cX13_cut 53 = .ok (.iload_n 1, 1) := by decide +kernel
theorem dX13_cut_54 : decode cX13_cut 54 = .ok (.iload_n 2, 1) := by decide +kernel
theorem dX13_cut_55 : decode cX13_cut 55 = .ok (.iload_n 3, 1) := by decide +kernel
theorem dX13_cut_56 : decode cX13_cut 56 = .ok (.iload 4, 2) := by decide +kernel
theorem dX13_cut_58 : decode cX13_cut 58 = .ok (.iload 5, 2) := by decide +kernel
theorem dX13_cut_60 : decode cX13_cut 60 = .ok (.iload 6, 2) := by decide +kernel
theorem dX13_cut_62 : decode cX13_cut 62 = .ok (.aload_n 0, 1) := by decide +kernel
theorem dX13_cut_63 : decode cX13_cut 63 = .ok (.getfield 364, 3) := by decide +kernel
theorem dX13_cut_66 : decode cX13_cut 66 = .ok (.invokevirtual 415, 3) := by decide +kernel
theorem dX13_cut_69 : decode cX13_cut 69 = .ok (.istore 7, 2) := by decide +kernel
theorem dX13_cut_71 : decode cX13_cut 71 = .ok (.aload_n 0, 1) := by decide +kernel
theorem dX13_cut_72 : decode cX13_cut 72 = .ok (.dup, 1) := by decide +kernel
theorem dX13_cut_73 : decode cX13_cut 73 = .ok (.getfield 364, 3) := by decide +kernel
theorem dX13_cut_76 : decode cX13_cut 76 = .ok (.iconst 1, 1) := by decide +kernel
theorem dX13_cut_77 : decode cX13_cut 77 = .ok (.iadd, 1) := by decide +kernel
theorem dX13_cut_78 : decode cX13_cut 78 = .ok (.putfield 364, 3) := by decide +kernel
theorem dX13_cut_81 : decode cX13_cut 81 = .ok (.aload_n 0, 1) := by decide +kernel
theorem dX13_cut_82 : decode cX13_cut 82 = .ok (.invokevirtual 445, 3) := by decide +kernel
theorem dX13_cut_85 : decode cX13_cut 85 = .ok (.iload 7, 2) := by decide +kernel
theorem dX13_cut_87 : decode cX13_cut 87 = .ok (.ireturn, 1) := by decide +kernel
set_option maxRecDepth 20000 in
theorem ggX13_cut_X13_canBe : GoodIn wsX13_cut wsX13_canBe := goodIn_r _ [25, 26, 27, 28, 5, 29, 30, 14, 31, 32, 33, 34, 35, 36, 37, 96, 97, 98, 99, 100, 101, 102, 103, 104, 105, 106, 107, 108, 109, 110, 111, 112, 113, 114, 115, 116, 117, 118, 119, 120, 121, 122, 123, 124, 125, 126, 127, 128, 129, 130, 131, 132, 133, 134, 135, 136, 137, 138, 139, 140, 141, 142, 143, 144, 145, 146, 147, 148, 149, 150, 151, 152, 153, 154, 155, 156, 157, 158, 159, 160, 161, 162, 163, 164, 165, 166, 167, 168] rfl (by decide +kernel)
set_option maxRecDepth 20000 in
theorem gX13_cut_X13_canBe : GoodIn wsX13_cut (wsV RX13 438 RX13 yX13_canBe wsX13_canBe) := goodIn_app (goodIn_of _ (by decide +kernel)) ggX13_cut_X13_canBe
set_option maxRecDepth 20000 in
theorem ggX13_cut_X13_go : GoodIn wsX13_cut wsX13_go := goodIn_r _ [41, 14, 42, 43, 44, 30, 45, 46, 47, 33, 48, 31, 32, 34, 49, 26, 27, 28, 5, 29, 35, 36, 37, 50, 51, 52, 53, 54, 55, 56, 57, 58, 59, 60, 61, 62, 63, 64, 65, 66, 67, 68, 69, 70, 71, 72, 73, 74, 75, 76, 77, 78, 79, 80, 81, 82, 83, 84, 85, 86, 87, 88, 89, 96, 97, 98, 99, 100, 101, 102, 103, 104, 105, 106, 107, 108, 109, 110, 111, 112, 113, 114, 115, 116, 117, 118, 119, 120, 121, 122, 123, 124, 125, 126, 127, 128, 129, 130, 131, 132, 133, 134, 135, 136, 137, 138, 139, 140, 141, 142, 143, 144, 145, 146, 147, 148, 149, 150, 151, 152, 153, 154, 155, 156, 157, 158, 159, 160, 161, 162, 163, 164, 165, 166, 167, 168] rfl (by decide +kernel)
set_option maxRecDepth 20000 in
theorem gX13_cut_X13_go : GoodIn wsX13_cut (wsV RX13 415 RX13 yX13_go wsX13_go) := goodIn_app (goodIn_of _ (by decide +kernel)) ggX13_cut_X13_go
set_option maxRecDepth 20000 in
theorem ggX13_cut_X13_isMachine : GoodIn wsX13_cut wsX13_isMachine := goodIn_r _ [20, 21, 15, 16, 5, 17] rfl (by decide +kernel)
set_option maxRecDepth 20000 in
theorem gX13_cut_X13_isMachine : GoodIn wsX13_cut (va_wsS RX13 435 yX13_isMachine wsX13_isMachine) := goodIn_app (goodIn_of _ (by decide +kernel)) ggX13_cut_X13_isMachine
set_option maxRecDepth 20000 in
theorem ggX13_cut_X13_isPass : GoodIn wsX13_cut wsX13_isPass := goodIn_r _ [6, 7, 8, 9, 10, 11, 12, 5, 13, 14, 15, 16, 17, 96, 97, 98, 99, 100, 101, 102, 103, 104, 105, 106, 107, 108, 109, 110, 111, 112, 113, 114, 115, 116, 117, 118, 119, 120, 121, 122, 123, 124, 125, 126, 127, 128, 129, 130, 131, 132, 133, 134, 135, 136, 137, 138, 139, 140, 141, 142, 143, 144, 145, 146, 147, 148, 149, 150, 151, 152, 153, 154, 155, 156, 157, 158, 159, 160, 161, 162, 163, 164, 165, 166, 167, 168] rfl (by decide +kernel)
set_option maxRecDepth 20000 in
theorem gX13_cut_X13_isPass : GoodIn wsX13_cut (wsV RX13 431 RX13 yX13_isPass wsX13_isPass) := goodIn_app (goodIn_of _ (by decide +kernel)) ggX13_cut_X13_isPass
set_option maxRecDepth 20000 in
theorem ggX13_cut_X13_notePassed : GoodIn wsX13_cut wsX13_notePassed := goodIn_r _ [93, 94, 42, 95, 96, 97, 98, 99, 100, 101, 102, 103, 104, 105, 106, 107, 108, 109, 110, 111, 112, 113, 114, 115, 116, 117, 118, 119, 120, 121, 122, 123, 124, 125, 126, 127, 128, 129, 130, 131, 132, 133, 134, 135, 136, 137, 138, 139, 140, 141, 142, 143, 144, 145, 146, 147, 148, 149, 150, 151, 152, 153, 154, 155, 156, 157, 158, 159, 160, 161, 162, 163, 164, 165, 166, 167, 168] rfl (by decide +kernel)
set_option maxRecDepth 20000 in
theorem gX13_cut_X13_notePassed : GoodIn wsX13_cut (wsV RX13 445 RX13 yX13_notePassed wsX13_notePassed) := goodIn_app (goodIn_of _ (by decide +kernel)) ggX13_cut_X13_notePassed
set_option maxHeartbeats 4000000 in
set_option maxRecDepth 100000 in
theorem S_X13_cut (l : Launch) (D : va_G) (K : Nat → ClassId) (a : Nat → Nat) (G : gS) (p0 : Int32) (s0 : Int) (p1 : Int32) (s1 : Int) (p2 : Int32) (s2 : Int) (p3 : Int32) (s3 : Int) (p4 : Int32) (s4 : Int) (p5 : Int32) (s5 : Int) (e0 : p0.toInt = s0) (e1 : p1.toInt = s1) (e2 : p2.toInt = s2) (e3 : p3.toInt = s3) (e4 : p4.toInt = s4) (e5 : p5.toInt = s5) (wf : yW3 G) (hI : yI G) (sz : Nat) : Ki l yX13_cut wsX13_cut 6 177 0 0 D [.ref (a 0), .int p0, .int p1, .int p2, .int p3, .int p4, .int p5] (yW K a G) (tK K) sz (fun (r : Int32) (G' : gS) => (yI G') ∧ (gu_un ycd [29, 30, 36, 37, 38, 1300, 1400, 1500, 1600, 1700, 1800, 2100, 2200] G G') ∧ ((-4) ≤ r.toInt ∧ r.toInt ≤ 2) ∧ ((∀ (Q : gS) (C : Nat → List Int), ySq G Q C → cuR Q C (yPc G) (yPc G') s0 p1 p2 p3 p4 p5 r.toInt))) (fun (G' : gS) => (yW K a G')) (fun _ => (tK K)) := by
  unfold Ki
  refine g_ofW (cc := cX13_cut) (lv := [(0, .ref (a 0)), (1, .int p0), (2, .int p1), (3, .int p2), (4, .int p3), (5, .int p4), (6, .int p5)]) (by decide) rfl (Nat.le_of_ble_eq_true rfl) rfl ?_
  intro p e s m args below meth c A Q hA hQ F hr hnm
  have hts := F.2.2.2.2.1
  have w_0 : (Cond.fieldLink RX13 364 "QuietCutModel" "cuts" "I").before args s = true := hts _ (List.mem_of_getElem? (i := 1) rfl)
  have i_X13 : ∀ w ∈ u_ws RX13 TX13 73, w ∈ wsX13_cut := fun _ h => List.mem_cons_of_mem _ (List.mem_append_right _ h)
  have rg0 : -2147483648 ≤ s0 ∧ s0 ≤ 2147483647 := e0 ▸ ti_rng p0
  have rg1 : -2147483648 ≤ s1 ∧ s1 ≤ 2147483647 := e1 ▸ ti_rng p1
  have rg2 : -2147483648 ≤ s2 ∧ s2 ≤ 2147483647 := e2 ▸ ti_rng p2
  have rg3 : -2147483648 ≤ s3 ∧ s3 ≤ 2147483647 := e3 ▸ ti_rng p3
  have rg4 : -2147483648 ≤ s4 ∧ s4 ≤ 2147483647 := e4 ▸ ti_rng p4
  have rg5 : -2147483648 ≤ s5 ∧ s5 ≤ 2147483647 := e5 ▸ ti_rng p5
  have b1 : (0 : Int) ≤ (G 0 29).toInt ∧ (G 0 29).toInt ≤ 200 := hI 0 29
  have b2 : (4 : Int) ≤ (G 3 0).toInt ∧ (G 3 0).toInt ≤ 16 := hI 3 0
  have b3 : (1 : Int) ≤ (G 3 1).toInt ∧ (G 3 1).toInt ≤ 6 := hI 3 1
  refine g_aload_n F 0 dX13_cut_0 rfl rfl ?_
  refine g_iload_n F 1 dX13_cut_1 rfl rfl ?_
  refine g_iload_n F 2 dX13_cut_2 rfl rfl ?_
  refine g_iload_n F 3 dX13_cut_3 rfl rfl ?_
  refine g_iload F 4 dX13_cut_4 rfl ?_
  refine u_callVi (k := 0) (n := 0) (b := a 0) (As := [.int p0, .int p1, .int p2, .int p3]) (st := []) F (fun sz => S_X13_isPass l D K a G p0 s0 p1 s1 p2 s2 p3 s3 e0 e1 e2 e3 hI sz) (cwV 4 hts gX13_cut_X13_isPass rfl rfl rfl (by decide +kernel) ⟨Nat.le_of_ble_eq_true rfl, Nat.le_of_ble_eq_true rfl⟩) rfl 0 yc_0 rfl (Nat.le_of_ble_eq_true rfl) ⟨Nat.zero_le _, Nat.zero_le _⟩ dX13_cut_6 (fun r4 _ hw5 => ?_)
  rcases hw5 with ⟨rfl, q7⟩ | ⟨rfl, q8⟩
  · have q7 : (0 ≤ s0 ∧ s0 < (G 3 1).toInt ∧ 1 ≤ s1 ∧ s1 ≤ 9 ∧ 1 ≤ s2 ∧ s2 ≤ 20 ∧ 1 ≤ s3 ∧ s3 ≤ 12) := q7
    refine v_if_eq F 22 dX13_cut_9 (by decide) 1 rfl (fun c9 => absurd c9 (by decide)) (fun c9 => ?_)
    refine g_iload F 5 dX13_cut_12 rfl ?_
    refine g_iload F 6 dX13_cut_14 rfl ?_
    refine u_call0 (k := 0) (n := 0) (As := [.int p4, .int p5]) (st := []) F (fun sz => S_X13_isMachine l D p4 s4 p5 s5 e4 e5 sz) (va_cwS 2 hts gX13_cut_X13_isMachine rfl rfl rfl (by decide +kernel) ⟨Nat.le_of_ble_eq_true rfl, Nat.le_of_ble_eq_true rfl⟩) rfl (Nat.le_of_ble_eq_true rfl) ⟨Nat.zero_le _, Nat.zero_le _⟩ dX13_cut_16 (fun r10 _ hw11 => ?_)
    rcases hw11 with ⟨rfl, q13⟩ | ⟨rfl, q14⟩
    · refine v_if_ne F 25 dX13_cut_19 (by decide) 1 rfl (fun c15 => ?_) (fun c15 => absurd c15 (by decide))
      refine g_aload_n F 0 dX13_cut_25 rfl rfl ?_
      refine g_iload_n F 1 dX13_cut_26 rfl rfl ?_
      refine g_iload_n F 3 dX13_cut_27 rfl rfl ?_
      refine g_iload F 4 dX13_cut_28 rfl ?_
      refine u_callVi (k := 0) (n := 0) (b := a 0) (As := [.int p0, .int p2, .int p3]) (st := []) F (fun sz => S_X13_canBe l D K a G p0 s0 p2 s2 p3 s3 e0 (by omega) e2 (by omega) e3 (by omega) hI sz) (cwV 3 hts gX13_cut_X13_canBe rfl rfl rfl (by decide +kernel) ⟨Nat.le_of_ble_eq_true rfl, Nat.le_of_ble_eq_true rfl⟩) rfl 0 yc_0 rfl (Nat.le_of_ble_eq_true rfl) ⟨Nat.zero_le _, Nat.zero_le _⟩ dX13_cut_30 (fun r16 _ hw17 => ?_)
      rcases hw17 with ⟨rfl, q19⟩ | ⟨rfl, q20⟩
      · have q19 : (1 ≤ psMx (psHr (G 14) s0 (G 3 0).toInt) ((G 3 0).toInt - 1).toNat - s2 * s3) := q19
        refine v_if_ne F 39 dX13_cut_33 (by decide) 1 rfl (fun c21 => ?_) (fun c21 => absurd c21 (by decide))
        refine g_aload_n F 0 dX13_cut_39 rfl rfl ?_
        refine yg_0_29 F i_X13 w_0 dX13_cut_40 (G 0 29) (rfl) ?_
        refine g_sipush F 200 dX13_cut_43 (by decide) ?_
        refine v_icmp_ne F 52 dX13_cut_46 (by decide) (G 0 29).toInt 200 rfl rfl (fun c22 => ?_) (fun c22 => ?_)
        · refine g_aload_n F 0 dX13_cut_52 rfl rfl ?_
          refine g_iload_n F 1 dX13_cut_53 rfl rfl ?_
          refine g_iload_n F 2 dX13_cut_54 rfl rfl ?_
          refine g_iload_n F 3 dX13_cut_55 rfl rfl ?_
          refine g_iload F 4 dX13_cut_56 rfl ?_
          refine g_iload F 5 dX13_cut_58 rfl ?_
          refine g_iload F 6 dX13_cut_60 rfl ?_
          refine g_aload_n F 0 dX13_cut_62 rfl rfl ?_
          refine yg_0_29 F i_X13 w_0 dX13_cut_63 (G 0 29) (rfl) ?_
          refine u_callVi (k := 0) (n := 0) (b := a 0) (As := [.int p0, .int p1, .int p2, .int p3, .int p4, .int p5, .int (G 0 29)]) (st := []) F (fun sz => S_X13_go l D K a G p0 s0 p1 s1 p2 s2 p3 s3 p4 s4 p5 s5 (G 0 29) (G 0 29).toInt e0 (by omega) e1 (by omega) e2 (by omega) e3 (by omega) e4 (by omega) e5 (by omega) rfl (wf) (by (first | omega | (simp only [Int32.reduceToInt, true_and, and_true, ne_eq, not_true_eq_false, false_and, or_false, false_or, true_or, or_true, false_implies] <;> omega))) hI sz) (cwV 7 hts gX13_cut_X13_go rfl rfl rfl (by decide +kernel) ⟨Nat.le_of_ble_eq_true rfl, Nat.le_of_ble_eq_true rfl⟩) rfl 0 yc_0 rfl (Nat.le_of_ble_eq_true rfl) ⟨Nat.zero_le _, Nat.zero_le _⟩ dX13_cut_66 (fun r23 G25 hw24 => ?_)
          have hI26 : yI G25 := hw24.1
          have hU27 : gu_un ycd [29, 36, 37, 1300, 1400, 1500, 1600, 1700, 1800, 2100] G G25 := hw24.2.1
          have hp28 := hw24.2.2
          have q29 : yOut G s0 (G 0 29) p2 p1 p3 p4 p5 G25 r23.toInt := hp28.2.1
          have q30 : yOt s0 (G 3 0).toInt G G25 := hp28.2.2.1
          have q31 : ((G 0 29).toInt = -1 → G25 15 = G 15 ∧ G25 16 = G 16 ∧ G25 17 = G 17 ∧ G25 18 = G 18) := hp28.2.2.2
          have rg32 := hp28.1
          clear hp28 hw24
          refine g_istore F [(7, .int r23), (0, .ref (a 0)), (1, .int p0), (2, .int p1), (3, .int p2), (4, .int p3), (5, .int p4), (6, .int p5)] dX13_cut_69 (by decide) rfl ?_
          refine g_aload_n F 1 dX13_cut_71 rfl rfl ?_
          refine g_dup F dX13_cut_72 rfl ?_
          refine yg_0_29 F i_X13 w_0 dX13_cut_73 (G 0 29) (hU27 0 29 (by decide)) ?_
          refine g_iconst F 1 dX13_cut_76 (by decide) ?_
          refine g_iadd F dX13_cut_77 ?_
          have cc9 : (((G 0 29) + 1) : Int32).toInt = (G 0 29).toInt + 1 := ti_add rfl rfl (by omega) (by omega)
          refine yp_0_29 F i_X13 w_0 dX13_cut_78 ?_
          refine g_aload_n F 1 dX13_cut_81 rfl rfl ?_
          refine u_callVv (k := 0) (n := 0) (b := a 0) (As := []) (st := []) F (fun sz => S_X13_notePassed l D K a (gu_up G25 0 29 ((G 0 29) + 1))  (gu_I.up (j := 0) (k := 29) (v := ((G 0 29) + 1)) hI26 (show (0 : Int) ≤ Int32.toInt ((G 0 29) + 1) by omega) (show Int32.toInt ((G 0 29) + 1) ≤ 200 by omega)) sz) (cwV 0 hts gX13_cut_X13_notePassed rfl rfl rfl (by decide +kernel) ⟨Nat.le_of_ble_eq_true rfl, Nat.le_of_ble_eq_true rfl⟩) rfl 0 yc_0 rfl (Nat.le_of_ble_eq_true rfl) ⟨Nat.zero_le _, Nat.zero_le _⟩ dX13_cut_82 (fun G35 hw34 => ?_)
          have hI36 : yI G35 := hw34.1
          have hU37 : gu_un ycd [38, 2200] (gu_up G25 0 29 ((G 0 29) + 1)) G35 := hw34.2.1
          have hp38 := hw34.2.2
          have q39 : (G35 0 37 = 1 ∧ ∀ q : Nat, q < 7 → G35 22 q = (G25 21) q) := hp38
          clear hp38 hw34
          refine g_iload F 0 dX13_cut_85 rfl ?_
          exact u_iret F hA hQ hr G35 (⟨hI36, (gu_un.tr (gu_un.up (j := 0) (k := 29) (v := ((G 0 29) + 1)) (gu_un.tr gu_un.rf (gu_un.su hU27 rfl)) (show (30 : Nat) ∈ ([29, 30, 36, 37, 38, 1300, 1400, 1500, 1600, 1700, 1800, 2100, 2200] : List Nat) by decide)) (gu_un.su hU37 rfl)), (by have h9 := ti_rng r23; omega), (fun Q C hq => by have h9 := yOut.pv q29 hq (by omega) (by omega) (by omega); exact Or.inr (Or.inr (Or.inr ⟨(by unfold pvArg; rw [hq.1 1 (by decide) (by decide)]; omega), (by unfold pvOk; rw [hq.1 0 (by decide) (by decide)]; show 1 ≤ psMx (psHr (G 14) s0 (G 3 0).toInt) ((G 3 0).toInt - 1).toNat - p2.toInt * p3.toInt; rw [e2, e3]; omega), by show (G 0 29).toInt < 200; omega, h9.1, cu_y h9.2.1 (h9.2.2.1 (by omega)) h9.2.2.2.2 (by rw [hq.1 0 (by decide) (by decide)]; exact q30) rfl (show gu_un ycd [30, 38, 2200] G25 G35 from (gu_un.tr (gu_un.up (j := 0) (k := 29) (v := ((G 0 29) + 1)) gu_un.rf (show (30 : Nat) ∈ ([30, 38, 2200] : List Nat) by decide)) (gu_un.su hU37 rfl))) rfl (hU37 0 29 (by decide)), ⟨q39.1, pvN.at h9.2.2.2.1 ((q39.2 0 (by decide)).trans rfl) ((q39.2 1 (by decide)).trans rfl) ((q39.2 2 (by decide)).trans rfl) ((q39.2 3 (by decide)).trans rfl) ((q39.2 4 (by decide)).trans rfl) ((q39.2 5 (by decide)).trans rfl) ((q39.2 6 (by decide)).trans rfl)⟩⟩)))⟩) rfl rfl dX13_cut_87
        · refine g_bipush F (-3) dX13_cut_49 (by decide) ?_
          exact u_iret F hA hQ hr G (⟨hI, gu_un.rf, (by decide), (fun Q C hq => Or.inr (Or.inr (Or.inl ⟨(by unfold pvArg; rw [hq.1 1 (by decide) (by decide)]; omega), (by unfold pvOk; rw [hq.1 0 (by decide) (by decide)]; show 1 ≤ psMx (psHr (G 14) s0 (G 3 0).toInt) ((G 3 0).toInt - 1).toNat - p2.toInt * p3.toInt; rw [e2, e3]; omega), by show 200 ≤ (G 0 29).toInt; omega, by decide, pcB.yun (show gu_un ycd [] G G from gu_un.rf) rfl, pcK.yun (show gu_un ycd [] G G from gu_un.rf) rfl⟩)))⟩) rfl rfl dX13_cut_51
      · have q20 : (psMx (psHr (G 14) s0 (G 3 0).toInt) ((G 3 0).toInt - 1).toNat - s2 * s3 < 1) := q20
        refine v_if_ne F 39 dX13_cut_33 (by decide) 0 rfl (fun c40 => absurd c40 (by decide)) (fun c40 => ?_)
        refine g_bipush F (-4) dX13_cut_36 (by decide) ?_
        exact u_iret F hA hQ hr G (⟨hI, gu_un.rf, (by decide), (fun Q C hq => Or.inr (Or.inl ⟨(by unfold pvArg; rw [hq.1 1 (by decide) (by decide)]; omega), (fun ho => by unfold pvOk at ho; rw [hq.1 0 (by decide) (by decide)] at ho; have ho2 : 1 ≤ psMx (psHr (G 14) s0 (G 3 0).toInt) ((G 3 0).toInt - 1).toNat - p2.toInt * p3.toInt := ho; rw [e2, e3] at ho2; omega), by decide, pcB.yun (show gu_un ycd [] G G from gu_un.rf) rfl, pcK.yun (show gu_un ycd [] G G from gu_un.rf) rfl⟩))⟩) rfl rfl dX13_cut_38
    · refine v_if_ne F 25 dX13_cut_19 (by decide) 0 rfl (fun c41 => absurd c41 (by decide)) (fun c41 => ?_)
      refine g_bipush F (-2) dX13_cut_22 (by decide) ?_
      exact u_iret F hA hQ hr G (⟨hI, gu_un.rf, (by decide), (fun Q C hq => Or.inl ⟨fun ha => by obtain ⟨b0, b1, b2, b3, b4, b5, b6, b7, b8, b9, b10, b11⟩ := ha; rw [hq.1 1 (by decide) (by decide)] at b1; omega, by decide, pcB.yun (show gu_un ycd [] G G from gu_un.rf) rfl, pcK.yun (show gu_un ycd [] G G from gu_un.rf) rfl⟩)⟩) rfl rfl dX13_cut_24
  · have q8 : ¬ (0 ≤ s0 ∧ s0 < (G 3 1).toInt ∧ 1 ≤ s1 ∧ s1 ≤ 9 ∧ 1 ≤ s2 ∧ s2 ≤ 20 ∧ 1 ≤ s3 ∧ s3 ≤ 12) := q8
    refine v_if_eq F 22 dX13_cut_9 (by decide) 0 rfl (fun c42 => ?_) (fun c42 => absurd c42 (by decide))
    refine g_bipush F (-2) dX13_cut_22 (by decide) ?_
    exact u_iret F hA hQ hr G (⟨hI, gu_un.rf, (by decide), (fun Q C hq => Or.inl ⟨fun ha => by obtain ⟨b0, b1, b2, b3, b4, b5, b6, b7, b8, b9, b10, b11⟩ := ha; rw [hq.1 1 (by decide) (by decide)] at b1; omega, by decide, pcB.yun (show gu_un ycd [] G G from gu_un.rf) rfl, pcK.yun (show gu_un ycd [] G G from gu_un.rf) rfl⟩)⟩) rfl rfl dX13_cut_24

theorem dX13_sure_0 : decode cX13_sure 0 = .ok (.aload_n 0, 1) := by decide +kernel
theorem dX13_sure_1 : decode cX13_sure 1 = .ok (.iload_n 1, 1) := by decide +kernel
theorem dX13_sure_2 : decode cX13_sure 2 = .ok (.iload_n 2, 1) := by decide +kernel
theorem dX13_sure_3 : decode cX13_sure 3 = .ok (.iload_n 3, 1) := by decide +kernel
theorem dX13_sure_4 : decode cX13_sure 4 = .ok (.iload 4, 2) := by decide +kernel
theorem dX13_sure_6 : decode cX13_sure 6 = .ok (.invokevirtual 431, 3) := by decide +kernel
theorem dX13_sure_9 : decode cX13_sure 9 = .ok (.ifCond .ne 6, 3) := by decide +kernel
theorem dX13_sure_12 : decode cX13_sure 12 = .ok (.bipush (-2), 2) := by decide +kernel
theorem dX13_sure_14 : decode cX13_sure 14 = .ok (.ireturn, 1) := by decide +kernel
theorem dX13_sure_15 : decode cX13_sure 15 = .ok (.aload_n 0, 1) := by decide +kernel
theorem dX13_sure_16 : decode cX13_sure 16 = .ok (.iload_n 1, 1) := by decide +kernel
theorem dX13_sure_17 : decode cX13_sure 17 = .ok (.iload_n 3, 1) := by decide +kernel
theorem dX13_sure_18 : decode cX13_sure 18 = .ok (.iload 4, 2) := by decide +kernel
theorem dX13_sure_20 : decode cX13_sure 20 = .ok (.invokevirtual 438, 3) := by decide +kernel
theorem dX13_sure_23 : decode cX13_sure 23 = .ok (.ifCond .ne 6, 3) := by decide +kernel
theorem dX13_sure_26 : decode cX13_sure 26 = .ok (.bipush (-4), 2) := by decide +kernel
theorem dX13_sure_28 : decode cX13_sure 28 = .ok (.ireturn, 1) := by decide +kernel
theorem dX13_sure_29 : decode cX13_sure 29 = .ok (.iconst 0, 1) := by decide +kernel
theorem dX13_sure_30 : decode cX13_sure 30 = .ok (.istore 5, 2) := by decide +kernel
theorem dX13_sure_32 : decode cX13_sure 32 = .ok (.iconst 0, 1) := by decide +kernel
theorem dX13_sure_33 : decode cX13_sure 33 = .ok (.istore 6, 2) := by decide +kernel
theorem dX13_sure_35 : decode cX13_sure 35 = .ok (.aload_n 0, 1) := by decide +kernel
theorem dX13_sure_36 : decode cX13_sure 36 = .ok (.getfield 199, 3) := by decide +kernel
theorem dX13_sure_39 : decode cX13_sure 39 = .ok (.iconst 3, 1) := by decide +kernel
theorem dX13_sure_40 : decode cX13_sure 40 = .ok (.iaload, 1) := by decide +kernel
theorem dX13_sure_41 : decode cX13_sure 41 = .ok (.istore 7, 2) := by decide +kernel
theorem dX13_sure_43 : decode cX13_sure 43 = .ok (.iload 7, 2) := by decide +kernel
theorem dX13_sure_45 : decode cX13_sure 45 = .ok (.aload_n 0, 1) := by decide +kernel
theorem dX13_sure_46 : decode cX13_sure 46 = .ok (.getfield 199, 3) := by decide +kernel
theorem dX13_sure_49 : decode cX13_sure 49 = .ok (.iconst 4, 1) := by decide +kernel
theorem dX13_sure_50 : decode cX13_sure 50 = .ok (.iaload, 1) := by decide +kernel
theorem dX13_sure_51 : decode cX13_sure 51 = .ok (.if_icmp .gt 64, 3) := by decide +kernel
theorem dX13_sure_54 : decode cX13_sure 54 = .ok (.aload_n 0, 1) := by decide +kernel
theorem dX13_sure_55 : decode cX13_sure 55 = .ok (.getfield 199, 3) := by decide +kernel
theorem dX13_sure_58 : decode cX13_sure 58 = .ok (.iconst 5, 1) := by decide +kernel
theorem dX13_sure_59 : decode cX13_sure 59 = .ok (.iaload, 1) := by decide +kernel
theorem dX13_sure_60 : decode cX13_sure 60 = .ok (.istore 8, 2) := by decide +kernel
theorem dX13_sure_62 : decode cX13_sure 62 = .ok (.iload 8, 2) := by decide +kernel
theorem dX13_sure_64 : decode cX13_sure 64 = .ok (.aload_n 0, 1) := by decide +kernel
theorem dX13_sure_65 : decode cX13_sure 65 = .ok (.getfield 199, 3) := by decide +kernel
theorem dX13_sure_68 : decode cX13_sure 68 = .ok (.bipush 6, 2) := by decide +kernel
theorem dX13_sure_70 : decode cX13_sure 70 = .ok (.iaload, 1) := by decide +kernel
theorem dX13_sure_71 : decode cX13_sure 71 = .ok (.if_icmp .gt 38, 3) := by decide +kernel
theorem dX13_sure_74 : decode cX13_sure 74 = .ok (.iload 5, 2) := by decide +kernel
theorem dX13_sure_76 : decode cX13_sure 76 = .ok (.aload_n 0, 1) := by decide +kernel
theorem dX13_sure_77 : decode cX13_sure 77 = .ok (.iload_n 1, 1) := by decide +kernel
theorem dX13_sure_78 : decode cX13_sure 78 = .ok (.iload_n 2, 1) := by decide +kernel
theorem dX13_sure_79 : decode cX13_sure 79 = .ok (.iload_n 3, 1) := by decide +kernel
theorem dX13_sure_80 : decode cX13_sure 80 = .ok (.iload 4, 2) := by decide +kernel
theorem dX13_sure_82 : decode cX13_sure 82 = .ok (.iload 7, 2) := by decide +kernel
theorem dX13_sure_84 : decode cX13_sure 84 = .ok (.iload 8, 2) := by decide +kernel
theorem dX13_sure_86 : decode cX13_sure 86 = .ok (.invokevirtual 442, 3) := by decide +kernel
theorem dX13_sure_89 : decode cX13_sure 89 = .ok (.ifCond .ne 7, 3) := by decide +kernel
theorem dX13_sure_92 : decode cX13_sure 92 = .ok (.iconst 1, 1) := by decide +kernel
theorem dX13_sure_93 : decode cX13_sure 93 = .ok (.goto 4, 3) := by decide +kernel
theorem dX13_sure_96 : decode cX13_sure 96 = .ok (.iconst 0, 1) := by decide +kernel
theorem dX13_sure_97 : decode cX13_sure 97 = .ok (.iadd, 1) := by decide +kernel
theorem dX13_sure_98 : decode cX13_sure 98 = .ok (.istore 5, 2) := by decide +kernel
theorem dX13_sure_100 : decode cX13_sure 100 = .ok (.iinc 6 1, 3) := by decide +kernel
theorem dX13_sure_103 : decode cX13_sure 103 = .ok (.iinc 8 1, 3) := by decide +kernel
theorem dX13_sure_106 : decode cX13_sure 106 = .ok (.goto (-44), 3) := by decide +kernel
theorem dX13_sure_109 : decode cX13_sure 109 = .ok (.iinc 7 1, 3) := by decide +kernel
theorem dX13_sure_112 : decode cX13_sure 112 = .ok (.goto (-69), 3) := by decide +kernel
theorem dX13_sure_115 : decode cX13_sure 115 = .ok (.iload 5, 2) := by decide +kernel
theorem dX13_sure_117 : decode cX13_sure 117 = .ok (.iload 6, 2) := by decide +kernel
theorem dX13_sure_119 : decode cX13_sure 119 = .ok (.if_icmp .ne 7, 3) := by decide +kernel
theorem dX13_sure_122 : decode cX13_sure 122 = .ok (.iconst 1, 1) := by decide +kernel
theorem dX13_sure_123 : decode cX13_sure 123 = .ok (.goto 13, 3) := by decide +kernel
theorem dX13_sure_126 : decode cX13_sure 126 = .ok (.iload 5, 2) := by decide +kernel
theorem dX13_sure_128 : decode cX13_sure 128 = .ok (.ifCond .ne 7, 3) := by decide +kernel
theorem dX13_sure_131 : decode cX13_sure 131 = .ok (.iconst 0, 1) := by decide +kernel
theorem dX13_sure_132 : decode cX13_sure 132 = .ok (.goto 4, 3) := by decide +kernel
theorem dX13_sure_135 : decode cX13_sure 135 = .ok (.iconst 2, 1) := by decide +kernel
theorem dX13_sure_136 : decode cX13_sure 136 = .ok (.ireturn, 1) := by decide +kernel
set_option maxRecDepth 20000 in
theorem ggX13_sure_X13_canBe : GoodIn wsX13_sure wsX13_canBe := goodIn_r _ [20, 21, 22, 23, 5, 24, 25, 1, 26, 27, 28, 29, 30, 31, 32, 100, 101, 102, 103, 104, 105, 106, 107, 108, 109, 110, 111, 112, 113, 114, 115, 116, 117, 118, 119, 120, 121, 122, 123, 124, 125, 126, 127, 128, 129, 130, 131, 132, 133, 134, 135, 136, 137, 138, 139, 140, 141, 142, 143, 144, 145, 146, 147, 148, 149, 150, 151, 152, 153, 154, 155, 156, 157, 158, 159, 160, 161, 162, 163, 164, 165, 166, 167, 168, 169, 170, 171, 172] rfl (by decide +kernel)
set_option maxRecDepth 20000 in
theorem gX13_sure_X13_canBe : GoodIn wsX13_sure (wsV RX13 438 RX13 yX13_canBe wsX13_canBe) := goodIn_app (goodIn_of _ (by decide +kernel)) ggX13_sure_X13_canBe
set_option maxRecDepth 20000 in
theorem ggX13_sure_X13_isPass : GoodIn wsX13_sure wsX13_isPass := goodIn_r _ [6, 7, 8, 9, 10, 11, 12, 5, 13, 1, 14, 15, 16, 100, 101, 102, 103, 104, 105, 106, 107, 108, 109, 110, 111, 112, 113, 114, 115, 116, 117, 118, 119, 120, 121, 122, 123, 124, 125, 126, 127, 128, 129, 130, 131, 132, 133, 134, 135, 136, 137, 138, 139, 140, 141, 142, 143, 144, 145, 146, 147, 148, 149, 150, 151, 152, 153, 154, 155, 156, 157, 158, 159, 160, 161, 162, 163, 164, 165, 166, 167, 168, 169, 170, 171, 172] rfl (by decide +kernel)
set_option maxRecDepth 20000 in
theorem gX13_sure_X13_isPass : GoodIn wsX13_sure (wsV RX13 431 RX13 yX13_isPass wsX13_isPass) := goodIn_app (goodIn_of _ (by decide +kernel)) ggX13_sure_X13_isPass
set_option maxRecDepth 20000 in
theorem ggX13_sure_X13_trial : GoodIn wsX13_sure wsX13_trial := goodIn_r _ [36, 37, 38, 39, 5, 40, 41, 42, 25, 43, 44, 45, 46, 47, 48, 1, 49, 50, 51, 52, 53, 54, 28, 55, 26, 27, 29, 21, 22, 23, 24, 30, 31, 32, 56, 57, 58, 59, 60, 61, 62, 63, 64, 65, 66, 67, 68, 69, 70, 71, 72, 73, 74, 75, 76, 77, 78, 79, 80, 81, 82, 83, 84, 85, 86, 87, 88, 89, 90, 91, 92, 93, 94, 95, 96, 97, 98, 99, 100, 101, 102, 103, 104, 105, 106, 107, 108, 109, 110, 111, 112, 113, 114, 115, 116, 117, 118, 119, 120, 121, 122, 123, 124, 125, 126, 127, 128, 129, 130, 131, 132, 133, 134, 135, 136, 137, 138, 139, 140, 141, 142, 143, 144, 145, 146, 147, 148, 149, 150, 151, 152, 153, 154, 155, 156, 157, 158, 159, 160, 161, 162, 163, 164, 165, 166, 167, 168, 169, 170, 171, 172] rfl (by decide +kernel)
set_option maxRecDepth 20000 in
theorem gX13_sure_X13_trial : GoodIn wsX13_sure (wsV RX13 442 RX13 yX13_trial wsX13_trial) := goodIn_app (goodIn_of _ (by decide +kernel)) ggX13_sure_X13_trial
set_option maxHeartbeats 4000000 in
set_option maxRecDepth 100000 in
theorem S_X13_sure (l : Launch) (D : va_G) (K : Nat → ClassId) (a : Nat → Nat) (G : gS) (p0 : Int32) (s0 : Int) (p1 : Int32) (s1 : Int) (p2 : Int32) (s2 : Int) (p3 : Int32) (s3 : Int) (e0 : p0.toInt = s0) (e1 : p1.toInt = s1) (e2 : p2.toInt = s2) (e3 : p3.toInt = s3) (wf : yW3 G) (dl : ((G 0 32).toInt ≤ 6)) (hI : yI G) (sz : Nat) : Ki l yX13_sure wsX13_sure 7 204 0 0 D [.ref (a 0), .int p0, .int p1, .int p2, .int p3] (yW K a G) (tK K) sz (fun (r : Int32) (G' : gS) => (yI G') ∧ (gu_un ycd [29, 33, 36, 37, 1300, 1400, 1500, 1600, 1700, 1800, 1900, 2000, 2100] G G') ∧ ((-4) ≤ r.toInt ∧ r.toInt ≤ 2) ∧ (yNh G G') ∧ ((∀ (Q : gS) (C : Nat → List Int), ySq G Q C → ((r.toInt = -2 ∧ ¬ pvAs Q s0 p1 p2 p3) ∨ (pvAs Q s0 p1 p2 p3 ∧ suR Q C (G 14) (G 0 28) s0 p1 p2 p3 r.toInt)))) ∧ (((G' 0 32).toInt = (G 0 32).toInt))) (fun (G' : gS) => (yW K a G')) (fun _ => (tK K)) := by
  unfold Ki
  refine g_ofW (cc := cX13_sure) (lv := [(0, .ref (a 0)), (1, .int p0), (2, .int p1), (3, .int p2), (4, .int p3)]) (by decide) rfl (Nat.le_of_ble_eq_true rfl) rfl ?_
  intro p e s m args below meth c A Q hA hQ F hr hnm
  have hts := F.2.2.2.2.1
  have w_0 : (Cond.fieldLink RX13 199 "QuietCutModel" "rule" "[I").before args s = true := hts _ (List.mem_of_getElem? (i := 1) rfl)
  have i_X13 : ∀ w ∈ u_ws RX13 TX13 73, w ∈ wsX13_sure := fun _ h => List.mem_cons_of_mem _ (List.mem_append_right _ h)
  have rg0 : -2147483648 ≤ s0 ∧ s0 ≤ 2147483647 := e0 ▸ ti_rng p0
  have rg1 : -2147483648 ≤ s1 ∧ s1 ≤ 2147483647 := e1 ▸ ti_rng p1
  have rg2 : -2147483648 ≤ s2 ∧ s2 ≤ 2147483647 := e2 ▸ ti_rng p2
  have rg3 : -2147483648 ≤ s3 ∧ s3 ≤ 2147483647 := e3 ▸ ti_rng p3
  have b1 : (0 : Int) ≤ (G 0 32).toInt ∧ (G 0 32).toInt ≤ 7 := hI 0 32
  have b2 : (4 : Int) ≤ (G 3 0).toInt ∧ (G 3 0).toInt ≤ 16 := hI 3 0
  have b3 : (1 : Int) ≤ (G 3 1).toInt ∧ (G 3 1).toInt ≤ 6 := hI 3 1
  have b4 : (0 : Int) ≤ (G 3 3).toInt ∧ (G 3 3).toInt ≤ 200 := hI 3 3
  have b5 : (0 : Int) ≤ (G 3 4).toInt ∧ (G 3 4).toInt ≤ 200 := hI 3 4
  have b6 : (0 : Int) ≤ (G 3 5).toInt ∧ (G 3 5).toInt ≤ 200 := hI 3 5
  have b7 : (0 : Int) ≤ (G 3 6).toInt ∧ (G 3 6).toInt ≤ 200 := hI 3 6
  have J_43 : ∀ (fuel : Nat) (x43_5 : Int32) (x43_6 : Int32) (x43_7 : Int32) (Gj43 : gS), (2147483647 - x43_7.toInt).toNat < fuel → (0 ≤ s0 ∧ s0 ≤ 5) → (1 ≤ s1 ∧ s1 ≤ 9) → (1 ≤ s2 ∧ s2 ≤ 20) → (1 ≤ s3 ∧ s3 ≤ 12) → (0 ≤ x43_5.toInt ∧ x43_5.toInt ≤ 100000) → (0 ≤ x43_6.toInt ∧ x43_6.toInt ≤ 100000) → (0 ≤ x43_7.toInt ∧ x43_7.toInt ≤ 201) → (yI Gj43) → (gu_un ycd [29, 33, 36, 37, 1300, 1400, 1500, 1600, 1700, 1800, 1900, 2000, 2100] G Gj43) → (∀ (Q : gS) (C : Nat → List Int), ySq G Q C → s0 < (G 3 1).toInt → suC Q (pvB Q C (G 14) (G 0 28) s0 p1 p2 p3) x43_5.toInt x43_6.toInt x43_7.toInt (Q 0 5).toInt) → (((G 3 3).toInt ≤ x43_7.toInt)) → ((0 ≤ x43_5.toInt ∧ x43_5.toInt ≤ x43_6.toInt ∧ x43_6.toInt ≤ 302 * (x43_7.toInt - (G 3 3).toInt))) → (((Gj43 0 32).toInt = (G 0 32).toInt)) → ((1 ≤ psMx (psHr (G 14) s0 (G 3 0).toInt) ((G 3 0).toInt - 1).toNat - s2 * s3)) → ((s0 < (G 3 1).toInt ∧ 1 ≤ s1 ∧ s1 ≤ 9 ∧ 1 ≤ s2 ∧ s2 ≤ 20 ∧ 1 ≤ s3 ∧ s3 ≤ 12 ∧ 0 ≤ s0)) → (yNh G Gj43) → gG p l e (gR 7 0 0 204) s m args below meth c D A 9 Q 0 0 (yW K a Gj43) (tK K) [(0, .ref (a 0)), (1, .int p0), (2, .int p1), (3, .int p2), (4, .int p3), (5, .int x43_5), (6, .int x43_6), (7, .int x43_7)] 43 [] := by
    intro fuel
    induction fuel with
    | zero => intro x43_5 x43_6 x43_7 Gj43 hm; exact absurd hm (Nat.not_lt_zero _)
    | succ fuel_43 ih_43 =>
      intro x43_5 x43_6 x43_7 Gj43 hm_43 k43_1 k43_2 k43_3 k43_4 h43_5 h43_6 h43_7 jI43 jU43 y1 b4 c4 dc_43 cbk_43 rgk_43 nh43
      have J_62 : ∀ (fuel : Nat) (x62_5 : Int32) (x62_6 : Int32) (x62_8 : Int32) (Gj62 : gS), (2147483647 - x62_8.toInt).toNat < fuel → (0 ≤ x62_5.toInt ∧ x62_5.toInt ≤ 100000) → (0 ≤ x62_6.toInt ∧ x62_6.toInt ≤ 100000) → (0 ≤ x43_7.toInt ∧ x43_7.toInt ≤ 200) → (0 ≤ x62_8.toInt ∧ x62_8.toInt ≤ 201) → (yI Gj62) → (gu_un ycd [29, 33, 36, 37, 1300, 1400, 1500, 1600, 1700, 1800, 1900, 2000, 2100] Gj43 Gj62) → (∀ (Q : gS) (C : Nat → List Int), ySq G Q C → s0 < (G 3 1).toInt → suC Q (pvB Q C (G 14) (G 0 28) s0 p1 p2 p3) x62_5.toInt x62_6.toInt x43_7.toInt x62_8.toInt) → (((G 3 5).toInt ≤ x62_8.toInt ∧ (G 3 3).toInt ≤ x43_7.toInt ∧ x43_7.toInt ≤ (G 3 4).toInt)) → ((0 ≤ x62_5.toInt ∧ x62_5.toInt ≤ x62_6.toInt ∧ x62_6.toInt ≤ 302 * (x43_7.toInt - (G 3 3).toInt) + (x62_8.toInt - (G 3 5).toInt))) → (((Gj62 0 32).toInt = (G 0 32).toInt)) → ((1 ≤ psMx (psHr (G 14) s0 (G 3 0).toInt) ((G 3 0).toInt - 1).toNat - s2 * s3)) → ((s0 < (G 3 1).toInt ∧ 1 ≤ s1 ∧ s1 ≤ 9 ∧ 1 ≤ s2 ∧ s2 ≤ 20 ∧ 1 ≤ s3 ∧ s3 ≤ 12 ∧ 0 ≤ s0)) → (yNh G Gj62) → gG p l e (gR 7 0 0 204) s m args below meth c D A 9 Q 0 0 (yW K a Gj62) (tK K) [(0, .ref (a 0)), (1, .int p0), (2, .int p1), (3, .int p2), (4, .int p3), (5, .int x62_5), (6, .int x62_6), (7, .int x43_7), (8, .int x62_8)] 62 [] := by
        intro fuel
        induction fuel with
        | zero => intro x62_5 x62_6 x62_8 Gj62 hm; exact absurd hm (Nat.not_lt_zero _)
        | succ fuel_62 ih_62 =>
          intro x62_5 x62_6 x62_8 Gj62 hm_62 h62_5 h62_6 k62_7 h62_8 jI62 jU62 y2 b5 c5 dc_62 cbk_62 rgk_62 nh62
          refine g_iload F 8 dX13_sure_62 rfl ?_
          refine g_aload_n F 0 dX13_sure_64 rfl rfl ?_
          refine yg_0_10 F i_X13 w_0 dX13_sure_65 ?_
          refine g_bipush F 6 dX13_sure_68 (by decide) ?_
          refine u1_iald F 3 0 yc_3 rfl 6 rfl (by decide) (by decide) dX13_sure_70 (G 3 6) ((jU62 3 6 (by decide)).trans (jU43 3 6 (by decide))) ?_
          refine v_icmp_gt F 109 dX13_sure_71 (by decide) x62_8.toInt (G 3 6).toInt rfl rfl (fun c8 => ?_) (fun c8 => ?_)
          · refine u_iinc F (fun v_ => [(7, .int v_), (0, .ref (a 0)), (1, .int p0), (2, .int p1), (3, .int p2), (4, .int p3), (5, .int x62_5), (6, .int x62_6), (8, .int x62_8)]) dX13_sure_109 (j := 7) rfl x43_7.toInt 1 rfl rfl (by omega) (by omega) (by decide) (fun _ => rfl) (fun y9 ey9 => ?_)
            refine g_goto F 43 dX13_sure_112 (by decide) ?_
            refine g_locals [(0, .ref (a 0)), (1, .int p0), (2, .int p1), (3, .int p2), (4, .int p3), (5, .int x62_5), (6, .int x62_6), (7, .int y9)] [1, 2, 3, 4, 5, 6, 7, 0] rfl ?_
            have b10 : (0 : Int) ≤ (Gj62 0 32).toInt ∧ (Gj62 0 32).toInt ≤ 7 := jI62 0 32
            exact ih_43 x62_5 x62_6 y9 Gj62 (by omega) (by have h9 := ti_rng p0; omega) (by have h9 := ti_rng p1; omega) (by have h9 := ti_rng p2; omega) (by have h9 := ti_rng p3; omega) (by have h9 := ti_rng x62_5; omega) (by have h9 := ti_rng x62_6; omega) (by have h9 := ti_rng y9; omega) jI62 (gu_un.tr (gu_un.tr gu_un.rf (gu_un.su jU43 rfl)) (gu_un.su jU62 rfl)) (fun Q C hq hr => suC.row (y2 Q C hq hr) (by rw [hq.1 6 (by decide) (by decide)]; omega) (by omega) rfl) (by have e9_3_3 : Gj62 3 3 = (G 3 3) := (jU62 3 3 (by decide)).trans (jU43 3 3 (by decide)); (try simp only [e9_3_3, true_and, and_true]) <;> (first | omega | (simp only [Int32.reduceToInt, true_and, and_true, ne_eq, not_true_eq_false, false_and, or_false, false_or, true_or, or_true, false_implies] <;> omega))) (by have e9_3_3 : Gj62 3 3 = (G 3 3) := (jU62 3 3 (by decide)).trans (jU43 3 3 (by decide)); (try simp only [e9_3_3, true_and, and_true]) <;> (first | omega | (simp only [Int32.reduceToInt, true_and, and_true, ne_eq, not_true_eq_false, false_and, or_false, false_or, true_or, or_true, false_implies] <;> omega))) (by (first | omega | (simp only [Int32.reduceToInt, true_and, and_true, ne_eq, not_true_eq_false, false_and, or_false, false_or, true_or, or_true, false_implies] <;> omega))) (by (first | omega | (simp only [Int32.reduceToInt, true_and, and_true, ne_eq, not_true_eq_false, false_and, or_false, false_or, true_or, or_true, false_implies] <;> omega))) (by have e9_3_1 : Gj62 3 1 = (G 3 1) := (jU62 3 1 (by decide)).trans (jU43 3 1 (by decide)); (try simp only [e9_3_1, true_and, and_true]) <;> (first | omega | (simp only [Int32.reduceToInt, true_and, and_true, ne_eq, not_true_eq_false, false_and, or_false, false_or, true_or, or_true, false_implies] <;> omega))) (nh62)
          · refine g_iload F 5 dX13_sure_74 rfl ?_
            refine g_aload_n F 0 dX13_sure_76 rfl rfl ?_
            refine g_iload_n F 1 dX13_sure_77 rfl rfl ?_
            refine g_iload_n F 2 dX13_sure_78 rfl rfl ?_
            refine g_iload_n F 3 dX13_sure_79 rfl rfl ?_
            refine g_iload F 4 dX13_sure_80 rfl ?_
            refine g_iload F 7 dX13_sure_82 rfl ?_
            refine g_iload F 8 dX13_sure_84 rfl ?_
            have b11 : (0 : Int) ≤ (Gj62 0 32).toInt ∧ (Gj62 0 32).toInt ≤ 7 := jI62 0 32
            refine u_callVi (k := 0) (n := 0) (b := a 0) (As := [.int p0, .int p1, .int p2, .int p3, .int x43_7, .int x62_8]) (st := [.int x62_5]) F (fun sz => S_X13_trial l D K a Gj62 p0 s0 p1 s1 p2 s2 p3 s3 x43_7 x43_7.toInt x62_8 x62_8.toInt e0 (by omega) e1 (by omega) e2 (by omega) e3 (by omega) rfl (by omega) rfl (by omega) (yW3.un wf (show gu_un ycd [29, 33, 36, 37, 1300, 1400, 1500, 1600, 1700, 1800, 1900, 2000, 2100] G Gj62 from (gu_un.tr (gu_un.tr gu_un.rf (gu_un.su jU43 rfl)) (gu_un.su jU62 rfl))) rfl) (by have h8 := (show yNh G Gj62 from nh62).1; rw [show Gj62 3 0 = G 3 0 from (show Gj62 3 0 = G 3 0 from (show gu_un ycd [29, 33, 36, 37, 1300, 1400, 1500, 1600, 1700, 1800, 1900, 2000, 2100] G Gj62 from (gu_un.tr (gu_un.tr gu_un.rf (gu_un.su jU43 rfl)) (gu_un.su jU62 rfl))) 3 0 (by decide)), psHr_eq (h := Gj62 14) (g := G 14) h8 (by omega) (by omega) (by omega)]; omega) (by (first | omega | (simp only [Int32.reduceToInt, true_and, and_true, ne_eq, not_true_eq_false, false_and, or_false, false_or, true_or, or_true, false_implies] <;> omega))) jI62 sz) (cwV 6 hts gX13_sure_X13_trial rfl rfl rfl (by decide +kernel) ⟨Nat.le_of_ble_eq_true rfl, Nat.le_of_ble_eq_true rfl⟩) rfl 0 yc_0 rfl (Nat.le_of_ble_eq_true rfl) ⟨Nat.zero_le _, Nat.zero_le _⟩ dX13_sure_86 (fun r12 G14 hw13 => ?_)
            have hI15 : yI G14 := hw13.1
            have hU16 : gu_un ycd [29, 33, 36, 37, 1300, 1400, 1500, 1600, 1700, 1800, 1900, 2000, 2100] Gj62 G14 := hw13.2.1
            have hp17 := hw13.2.2
            have q18 : yNh Gj62 G14 := hp17.2.1
            have q19 : (∀ (Q : gS) (C : Nat → List Int), ySq Gj62 Q C → s0 < (G 3 1).toInt → 1 ≤ s3 → r12.toInt = pvV Q (pvS Q C (Gj62 14) (Gj62 0 28) s0 p1 p2 p3 x43_7 x62_8) ∧ pvN Q (pvS Q C (Gj62 14) (Gj62 0 28) s0 p1 p2 p3 x43_7 x62_8) (G14 21 0) (G14 21 1) (G14 21 2) (G14 21 3) (G14 21 4) (G14 21 5) (G14 21 6)) := by have h9 := hp17.2.2.1; (try simp only [(show Gj62 3 1 = (G 3 1) from (jU62 3 1 (by decide)).trans (jU43 3 1 (by decide)))] at h9); first | exact h9 | omega
            have b20 : (0 : Int) ≤ (G14 0 32).toInt ∧ (G14 0 32).toInt ≤ 7 := hI15 0 32
            have q21 : ((G14 0 32).toInt = (Gj62 0 32).toInt) := hp17.2.2.2
            have rg22 := hp17.1
            clear hp17 hw13
            refine v_if_ne F 96 dX13_sure_89 (by decide) r12.toInt rfl (fun c23 => ?_) (fun c23 => ?_)
            · refine g_iconst F 0 dX13_sure_96 (by decide) ?_
              refine u_iadd F dX13_sure_97 x62_5.toInt 0 rfl rfl (by omega) (by omega) (fun y24 ey24 => ?_)
              refine g_istore F [(5, .int y24), (0, .ref (a 0)), (1, .int p0), (2, .int p1), (3, .int p2), (4, .int p3), (6, .int x62_6), (7, .int x43_7), (8, .int x62_8)] dX13_sure_98 (by decide) rfl ?_
              refine u_iinc F (fun v_ => [(6, .int v_), (5, .int y24), (0, .ref (a 0)), (1, .int p0), (2, .int p1), (3, .int p2), (4, .int p3), (7, .int x43_7), (8, .int x62_8)]) dX13_sure_100 (j := 6) rfl x62_6.toInt 1 rfl rfl (by omega) (by omega) (by decide) (fun _ => rfl) (fun y25 ey25 => ?_)
              refine u_iinc F (fun v_ => [(8, .int v_), (6, .int y25), (5, .int y24), (0, .ref (a 0)), (1, .int p0), (2, .int p1), (3, .int p2), (4, .int p3), (7, .int x43_7)]) dX13_sure_103 (j := 8) rfl x62_8.toInt 1 rfl rfl (by omega) (by omega) (by decide) (fun _ => rfl) (fun y26 ey26 => ?_)
              refine g_goto F 62 dX13_sure_106 (by decide) ?_
              refine g_locals [(0, .ref (a 0)), (1, .int p0), (2, .int p1), (3, .int p2), (4, .int p3), (5, .int y24), (6, .int y25), (7, .int x43_7), (8, .int y26)] [3, 4, 5, 6, 7, 2, 1, 8, 0] rfl ?_
              exact ih_62 y24 y25 y26 G14 (by omega) (by have h9 := ti_rng y24; omega) (by have h9 := ti_rng y25; omega) (by have h9 := ti_rng x43_7; omega) (by have h9 := ti_rng y26; omega) hI15 (gu_un.tr (gu_un.tr gu_un.rf (gu_un.su jU62 rfl)) (gu_un.su hU16 rfl)) (fun Q C hq hr => by have nh9 : yNh G Gj62 := nh62; have hv := (q19 Q C (ySq.un hq (show gu_un ycd [29, 33, 36, 37, 1300, 1400, 1500, 1600, 1700, 1800, 1900, 2000, 2100] G Gj62 from (gu_un.tr (gu_un.tr gu_un.rf (gu_un.su jU43 rfl)) (gu_un.su jU62 rfl))) rfl) (by omega) (by omega)).1; rw [pvS_eq (h := Gj62 14) (g := G 14) nh9.1 (by omega) (by omega) (by rw [hq.1 1 (by decide) (by decide)]; omega) (by rw [hq.1 0 (by decide) (by decide)]; omega), nh9.2.1] at hv; have hb := pvB_run hv; exact suC.step (y2 Q C hq hr) (by unfold pvIn; rw [hq.1 3 (by decide) (by decide), hq.1 4 (by decide) (by decide), hq.1 5 (by decide) (by decide), hq.1 6 (by decide) (by decide)]; omega) (fun hb0 => by rw [hb] at hb0; omega) (fun hb0 => by rw [hb] at hb0; omega) (by omega) (by omega)) (by have e9_3_3 : G14 3 3 = (G 3 3) := (hU16 3 3 (by decide)).trans ((jU62 3 3 (by decide)).trans (jU43 3 3 (by decide))); have e9_3_4 : G14 3 4 = (G 3 4) := (hU16 3 4 (by decide)).trans ((jU62 3 4 (by decide)).trans (jU43 3 4 (by decide))); have e9_3_5 : G14 3 5 = (G 3 5) := (hU16 3 5 (by decide)).trans ((jU62 3 5 (by decide)).trans (jU43 3 5 (by decide))); (try simp only [e9_3_3, e9_3_4, e9_3_5, true_and, and_true]) <;> (first | omega | (simp only [Int32.reduceToInt, true_and, and_true, ne_eq, not_true_eq_false, false_and, or_false, false_or, true_or, or_true, false_implies] <;> omega))) (by have e9_3_3 : G14 3 3 = (G 3 3) := (hU16 3 3 (by decide)).trans ((jU62 3 3 (by decide)).trans (jU43 3 3 (by decide))); have e9_3_5 : G14 3 5 = (G 3 5) := (hU16 3 5 (by decide)).trans ((jU62 3 5 (by decide)).trans (jU43 3 5 (by decide))); (try simp only [e9_3_3, e9_3_5, true_and, and_true]) <;> (first | omega | (simp only [Int32.reduceToInt, true_and, and_true, ne_eq, not_true_eq_false, false_and, or_false, false_or, true_or, or_true, false_implies] <;> omega))) (by (first | omega | (simp only [Int32.reduceToInt, true_and, and_true, ne_eq, not_true_eq_false, false_and, or_false, false_or, true_or, or_true, false_implies] <;> omega))) (by (first | omega | (simp only [Int32.reduceToInt, true_and, and_true, ne_eq, not_true_eq_false, false_and, or_false, false_or, true_or, or_true, false_implies] <;> omega))) (by have e9_3_1 : G14 3 1 = (G 3 1) := (hU16 3 1 (by decide)).trans ((jU62 3 1 (by decide)).trans (jU43 3 1 (by decide))); (try simp only [e9_3_1, true_and, and_true]) <;> (first | omega | (simp only [Int32.reduceToInt, true_and, and_true, ne_eq, not_true_eq_false, false_and, or_false, false_or, true_or, or_true, false_implies] <;> omega))) ((yNh.tr (show yNh G Gj62 from nh62) (show yNh Gj62 G14 from q18)))
            · refine g_iconst F 1 dX13_sure_92 (by decide) ?_
              refine g_goto F 97 dX13_sure_93 (by decide) ?_
              refine u_iadd F dX13_sure_97 x62_5.toInt 1 rfl rfl (by omega) (by omega) (fun y27 ey27 => ?_)
              refine g_istore F [(5, .int y27), (0, .ref (a 0)), (1, .int p0), (2, .int p1), (3, .int p2), (4, .int p3), (6, .int x62_6), (7, .int x43_7), (8, .int x62_8)] dX13_sure_98 (by decide) rfl ?_
              refine u_iinc F (fun v_ => [(6, .int v_), (5, .int y27), (0, .ref (a 0)), (1, .int p0), (2, .int p1), (3, .int p2), (4, .int p3), (7, .int x43_7), (8, .int x62_8)]) dX13_sure_100 (j := 6) rfl x62_6.toInt 1 rfl rfl (by omega) (by omega) (by decide) (fun _ => rfl) (fun y28 ey28 => ?_)
              refine u_iinc F (fun v_ => [(8, .int v_), (6, .int y28), (5, .int y27), (0, .ref (a 0)), (1, .int p0), (2, .int p1), (3, .int p2), (4, .int p3), (7, .int x43_7)]) dX13_sure_103 (j := 8) rfl x62_8.toInt 1 rfl rfl (by omega) (by omega) (by decide) (fun _ => rfl) (fun y29 ey29 => ?_)
              refine g_goto F 62 dX13_sure_106 (by decide) ?_
              refine g_locals [(0, .ref (a 0)), (1, .int p0), (2, .int p1), (3, .int p2), (4, .int p3), (5, .int y27), (6, .int y28), (7, .int x43_7), (8, .int y29)] [3, 4, 5, 6, 7, 2, 1, 8, 0] rfl ?_
              exact ih_62 y27 y28 y29 G14 (by omega) (by have h9 := ti_rng y27; omega) (by have h9 := ti_rng y28; omega) (by have h9 := ti_rng x43_7; omega) (by have h9 := ti_rng y29; omega) hI15 (gu_un.tr (gu_un.tr gu_un.rf (gu_un.su jU62 rfl)) (gu_un.su hU16 rfl)) (fun Q C hq hr => by have nh9 : yNh G Gj62 := nh62; have hv := (q19 Q C (ySq.un hq (show gu_un ycd [29, 33, 36, 37, 1300, 1400, 1500, 1600, 1700, 1800, 1900, 2000, 2100] G Gj62 from (gu_un.tr (gu_un.tr gu_un.rf (gu_un.su jU43 rfl)) (gu_un.su jU62 rfl))) rfl) (by omega) (by omega)).1; rw [pvS_eq (h := Gj62 14) (g := G 14) nh9.1 (by omega) (by omega) (by rw [hq.1 1 (by decide) (by decide)]; omega) (by rw [hq.1 0 (by decide) (by decide)]; omega), nh9.2.1] at hv; have hb := pvB_run hv; exact suC.step (y2 Q C hq hr) (by unfold pvIn; rw [hq.1 3 (by decide) (by decide), hq.1 4 (by decide) (by decide), hq.1 5 (by decide) (by decide), hq.1 6 (by decide) (by decide)]; omega) (fun hb0 => by rw [hb] at hb0; omega) (fun hb0 => by rw [hb] at hb0; omega) (by omega) (by omega)) (by have e9_3_3 : G14 3 3 = (G 3 3) := (hU16 3 3 (by decide)).trans ((jU62 3 3 (by decide)).trans (jU43 3 3 (by decide))); have e9_3_4 : G14 3 4 = (G 3 4) := (hU16 3 4 (by decide)).trans ((jU62 3 4 (by decide)).trans (jU43 3 4 (by decide))); have e9_3_5 : G14 3 5 = (G 3 5) := (hU16 3 5 (by decide)).trans ((jU62 3 5 (by decide)).trans (jU43 3 5 (by decide))); (try simp only [e9_3_3, e9_3_4, e9_3_5, true_and, and_true]) <;> (first | omega | (simp only [Int32.reduceToInt, true_and, and_true, ne_eq, not_true_eq_false, false_and, or_false, false_or, true_or, or_true, false_implies] <;> omega))) (by have e9_3_3 : G14 3 3 = (G 3 3) := (hU16 3 3 (by decide)).trans ((jU62 3 3 (by decide)).trans (jU43 3 3 (by decide))); have e9_3_5 : G14 3 5 = (G 3 5) := (hU16 3 5 (by decide)).trans ((jU62 3 5 (by decide)).trans (jU43 3 5 (by decide))); (try simp only [e9_3_3, e9_3_5, true_and, and_true]) <;> (first | omega | (simp only [Int32.reduceToInt, true_and, and_true, ne_eq, not_true_eq_false, false_and, or_false, false_or, true_or, or_true, false_implies] <;> omega))) (by (first | omega | (simp only [Int32.reduceToInt, true_and, and_true, ne_eq, not_true_eq_false, false_and, or_false, false_or, true_or, or_true, false_implies] <;> omega))) (by (first | omega | (simp only [Int32.reduceToInt, true_and, and_true, ne_eq, not_true_eq_false, false_and, or_false, false_or, true_or, or_true, false_implies] <;> omega))) (by have e9_3_1 : G14 3 1 = (G 3 1) := (hU16 3 1 (by decide)).trans ((jU62 3 1 (by decide)).trans (jU43 3 1 (by decide))); (try simp only [e9_3_1, true_and, and_true]) <;> (first | omega | (simp only [Int32.reduceToInt, true_and, and_true, ne_eq, not_true_eq_false, false_and, or_false, false_or, true_or, or_true, false_implies] <;> omega))) ((yNh.tr (show yNh G Gj62 from nh62) (show yNh Gj62 G14 from q18)))
      refine g_iload F 7 dX13_sure_43 rfl ?_
      refine g_aload_n F 0 dX13_sure_45 rfl rfl ?_
      refine yg_0_10 F i_X13 w_0 dX13_sure_46 ?_
      refine g_iconst F 4 dX13_sure_49 (by decide) ?_
      refine u1_iald F 3 0 yc_3 rfl 4 rfl (by decide) (by decide) dX13_sure_50 (G 3 4) (jU43 3 4 (by decide)) ?_
      refine v_icmp_gt F 115 dX13_sure_51 (by decide) x43_7.toInt (G 3 4).toInt rfl rfl (fun c30 => ?_) (fun c30 => ?_)
      · refine g_iload F 5 dX13_sure_115 rfl ?_
        refine g_iload F 6 dX13_sure_117 rfl ?_
        refine v_icmp_ne F 126 dX13_sure_119 (by decide) x43_5.toInt x43_6.toInt rfl rfl (fun c31 => ?_) (fun c31 => ?_)
        · refine g_iload F 5 dX13_sure_126 rfl ?_
          refine v_if_ne F 135 dX13_sure_128 (by decide) x43_5.toInt rfl (fun c32 => ?_) (fun c32 => ?_)
          · refine g_iconst F 2 dX13_sure_135 (by decide) ?_
            have b33 : (0 : Int) ≤ (Gj43 0 32).toInt ∧ (Gj43 0 32).toInt ≤ 7 := jI43 0 32
            exact u_iret F hA hQ hr Gj43 (⟨jI43, (gu_un.tr gu_un.rf (gu_un.su jU43 rfl)), (by decide), (nh43), (fun Q C hq => Or.inr ⟨(by unfold pvAs; rw [hq.1 1 (by decide) (by decide)]; omega), Or.inr ⟨by unfold pvOk; rw [hq.1 0 (by decide) (by decide)]; show 1 ≤ psMx (psHr (G 14) s0 (G 3 0).toInt) ((G 3 0).toInt - 1).toNat - p2.toInt * p3.toInt; rw [e2, e3]; omega, suC.fin (y1 Q C hq (by omega)) (by rw [hq.1 4 (by decide) (by decide)]; omega) (by first | omega | (simp only [Int32.reduceToInt, true_and, and_true, ne_eq, not_true_eq_false, false_and, or_false, false_or, true_or, or_true, false_implies] <;> omega))⟩⟩), (by show ((Gj43 0 32).toInt = (G 0 32).toInt); (first | omega | (simp only [Int32.reduceToInt, true_and, and_true, ne_eq, not_true_eq_false, false_and, or_false, false_or, true_or, or_true, false_implies] <;> omega)))⟩) rfl rfl dX13_sure_136
          · refine g_iconst F 0 dX13_sure_131 (by decide) ?_
            refine g_goto F 136 dX13_sure_132 (by decide) ?_
            have b34 : (0 : Int) ≤ (Gj43 0 32).toInt ∧ (Gj43 0 32).toInt ≤ 7 := jI43 0 32
            exact u_iret F hA hQ hr Gj43 (⟨jI43, (gu_un.tr gu_un.rf (gu_un.su jU43 rfl)), (by decide), (nh43), (fun Q C hq => Or.inr ⟨(by unfold pvAs; rw [hq.1 1 (by decide) (by decide)]; omega), Or.inr ⟨by unfold pvOk; rw [hq.1 0 (by decide) (by decide)]; show 1 ≤ psMx (psHr (G 14) s0 (G 3 0).toInt) ((G 3 0).toInt - 1).toNat - p2.toInt * p3.toInt; rw [e2, e3]; omega, suC.fin (y1 Q C hq (by omega)) (by rw [hq.1 4 (by decide) (by decide)]; omega) (by first | omega | (simp only [Int32.reduceToInt, true_and, and_true, ne_eq, not_true_eq_false, false_and, or_false, false_or, true_or, or_true, false_implies] <;> omega))⟩⟩), (by show ((Gj43 0 32).toInt = (G 0 32).toInt); (first | omega | (simp only [Int32.reduceToInt, true_and, and_true, ne_eq, not_true_eq_false, false_and, or_false, false_or, true_or, or_true, false_implies] <;> omega)))⟩) rfl rfl dX13_sure_136
        · refine g_iconst F 1 dX13_sure_122 (by decide) ?_
          refine g_goto F 136 dX13_sure_123 (by decide) ?_
          have b35 : (0 : Int) ≤ (Gj43 0 32).toInt ∧ (Gj43 0 32).toInt ≤ 7 := jI43 0 32
          exact u_iret F hA hQ hr Gj43 (⟨jI43, (gu_un.tr gu_un.rf (gu_un.su jU43 rfl)), (by decide), (nh43), (fun Q C hq => Or.inr ⟨(by unfold pvAs; rw [hq.1 1 (by decide) (by decide)]; omega), Or.inr ⟨by unfold pvOk; rw [hq.1 0 (by decide) (by decide)]; show 1 ≤ psMx (psHr (G 14) s0 (G 3 0).toInt) ((G 3 0).toInt - 1).toNat - p2.toInt * p3.toInt; rw [e2, e3]; omega, suC.fin (y1 Q C hq (by omega)) (by rw [hq.1 4 (by decide) (by decide)]; omega) (by first | omega | (simp only [Int32.reduceToInt, true_and, and_true, ne_eq, not_true_eq_false, false_and, or_false, false_or, true_or, or_true, false_implies] <;> omega))⟩⟩), (by show ((Gj43 0 32).toInt = (G 0 32).toInt); (first | omega | (simp only [Int32.reduceToInt, true_and, and_true, ne_eq, not_true_eq_false, false_and, or_false, false_or, true_or, or_true, false_implies] <;> omega)))⟩) rfl rfl dX13_sure_136
      · refine g_aload_n F 0 dX13_sure_54 rfl rfl ?_
        refine yg_0_10 F i_X13 w_0 dX13_sure_55 ?_
        refine g_iconst F 5 dX13_sure_58 (by decide) ?_
        refine u1_iald F 3 0 yc_3 rfl 5 rfl (by decide) (by decide) dX13_sure_59 (G 3 5) (jU43 3 5 (by decide)) ?_
        refine g_istore F [(8, .int (G 3 5)), (0, .ref (a 0)), (1, .int p0), (2, .int p1), (3, .int p2), (4, .int p3), (5, .int x43_5), (6, .int x43_6), (7, .int x43_7)] dX13_sure_60 (by decide) rfl ?_
        refine g_locals [(0, .ref (a 0)), (1, .int p0), (2, .int p1), (3, .int p2), (4, .int p3), (5, .int x43_5), (6, .int x43_6), (7, .int x43_7), (8, .int (G 3 5))] [1, 2, 3, 4, 5, 6, 7, 8, 0] rfl ?_
        have b36 : (0 : Int) ≤ (Gj43 0 32).toInt ∧ (Gj43 0 32).toInt ≤ 7 := jI43 0 32
        exact J_62 _ x43_5 x43_6 (G 3 5) Gj43 (Nat.lt_succ_self _) (by have h9 := ti_rng x43_5; omega) (by have h9 := ti_rng x43_6; omega) (by have h9 := ti_rng x43_7; omega) (by have h9 := ti_rng (G 3 5); omega) jI43 gu_un.rf (fun Q C hq hr => by have g1 := y1 Q C hq hr; rw [hq.1 5 (by decide) (by decide)] at g1; exact g1) (by have e9_3_3 : Gj43 3 3 = (G 3 3) := jU43 3 3 (by decide); have e9_3_4 : Gj43 3 4 = (G 3 4) := jU43 3 4 (by decide); have e9_3_5 : Gj43 3 5 = (G 3 5) := jU43 3 5 (by decide); (try simp only [e9_3_3, e9_3_4, e9_3_5, true_and, and_true]) <;> (first | omega | (simp only [Int32.reduceToInt, true_and, and_true, ne_eq, not_true_eq_false, false_and, or_false, false_or, true_or, or_true, false_implies] <;> omega))) (by have e9_3_3 : Gj43 3 3 = (G 3 3) := jU43 3 3 (by decide); have e9_3_5 : Gj43 3 5 = (G 3 5) := jU43 3 5 (by decide); (try simp only [e9_3_3, e9_3_5, true_and, and_true]) <;> (first | omega | (simp only [Int32.reduceToInt, true_and, and_true, ne_eq, not_true_eq_false, false_and, or_false, false_or, true_or, or_true, false_implies] <;> omega))) (by (first | omega | (simp only [Int32.reduceToInt, true_and, and_true, ne_eq, not_true_eq_false, false_and, or_false, false_or, true_or, or_true, false_implies] <;> omega))) (by (first | omega | (simp only [Int32.reduceToInt, true_and, and_true, ne_eq, not_true_eq_false, false_and, or_false, false_or, true_or, or_true, false_implies] <;> omega))) (by have e9_3_1 : Gj43 3 1 = (G 3 1) := jU43 3 1 (by decide); (try simp only [e9_3_1, true_and, and_true]) <;> (first | omega | (simp only [Int32.reduceToInt, true_and, and_true, ne_eq, not_true_eq_false, false_and, or_false, false_or, true_or, or_true, false_implies] <;> omega))) (nh43)
  refine g_aload_n F 0 dX13_sure_0 rfl rfl ?_
  refine g_iload_n F 1 dX13_sure_1 rfl rfl ?_
  refine g_iload_n F 2 dX13_sure_2 rfl rfl ?_
  refine g_iload_n F 3 dX13_sure_3 rfl rfl ?_
  refine g_iload F 4 dX13_sure_4 rfl ?_
  refine u_callVi (k := 0) (n := 0) (b := a 0) (As := [.int p0, .int p1, .int p2, .int p3]) (st := []) F (fun sz => S_X13_isPass l D K a G p0 s0 p1 s1 p2 s2 p3 s3 e0 e1 e2 e3 hI sz) (cwV 4 hts gX13_sure_X13_isPass rfl rfl rfl (by decide +kernel) ⟨Nat.le_of_ble_eq_true rfl, Nat.le_of_ble_eq_true rfl⟩) rfl 0 yc_0 rfl (Nat.le_of_ble_eq_true rfl) ⟨Nat.zero_le _, Nat.zero_le _⟩ dX13_sure_6 (fun r37 _ hw38 => ?_)
  rcases hw38 with ⟨rfl, q40⟩ | ⟨rfl, q41⟩
  · have q40 : (0 ≤ s0 ∧ s0 < (G 3 1).toInt ∧ 1 ≤ s1 ∧ s1 ≤ 9 ∧ 1 ≤ s2 ∧ s2 ≤ 20 ∧ 1 ≤ s3 ∧ s3 ≤ 12) := q40
    refine v_if_ne F 15 dX13_sure_9 (by decide) 1 rfl (fun c42 => ?_) (fun c42 => absurd c42 (by decide))
    refine g_aload_n F 0 dX13_sure_15 rfl rfl ?_
    refine g_iload_n F 1 dX13_sure_16 rfl rfl ?_
    refine g_iload_n F 3 dX13_sure_17 rfl rfl ?_
    refine g_iload F 4 dX13_sure_18 rfl ?_
    refine u_callVi (k := 0) (n := 0) (b := a 0) (As := [.int p0, .int p2, .int p3]) (st := []) F (fun sz => S_X13_canBe l D K a G p0 s0 p2 s2 p3 s3 e0 (by omega) e2 (by omega) e3 (by omega) hI sz) (cwV 3 hts gX13_sure_X13_canBe rfl rfl rfl (by decide +kernel) ⟨Nat.le_of_ble_eq_true rfl, Nat.le_of_ble_eq_true rfl⟩) rfl 0 yc_0 rfl (Nat.le_of_ble_eq_true rfl) ⟨Nat.zero_le _, Nat.zero_le _⟩ dX13_sure_20 (fun r43 _ hw44 => ?_)
    rcases hw44 with ⟨rfl, q46⟩ | ⟨rfl, q47⟩
    · have q46 : (1 ≤ psMx (psHr (G 14) s0 (G 3 0).toInt) ((G 3 0).toInt - 1).toNat - s2 * s3) := q46
      refine v_if_ne F 29 dX13_sure_23 (by decide) 1 rfl (fun c48 => ?_) (fun c48 => absurd c48 (by decide))
      refine g_iconst F 0 dX13_sure_29 (by decide) ?_
      refine g_istore F [(5, .int 0), (0, .ref (a 0)), (1, .int p0), (2, .int p1), (3, .int p2), (4, .int p3)] dX13_sure_30 (by decide) rfl ?_
      refine g_iconst F 0 dX13_sure_32 (by decide) ?_
      refine g_istore F [(6, .int 0), (5, .int 0), (0, .ref (a 0)), (1, .int p0), (2, .int p1), (3, .int p2), (4, .int p3)] dX13_sure_33 (by decide) rfl ?_
      refine g_aload_n F 2 dX13_sure_35 rfl rfl ?_
      refine yg_0_10 F i_X13 w_0 dX13_sure_36 ?_
      refine g_iconst F 3 dX13_sure_39 (by decide) ?_
      refine u1_iald F 3 0 yc_3 rfl 3 rfl (by decide) (by decide) dX13_sure_40 (G 3 3) (rfl) ?_
      refine g_istore F [(7, .int (G 3 3)), (6, .int 0), (5, .int 0), (0, .ref (a 0)), (1, .int p0), (2, .int p1), (3, .int p2), (4, .int p3)] dX13_sure_41 (by decide) rfl ?_
      refine g_locals [(0, .ref (a 0)), (1, .int p0), (2, .int p1), (3, .int p2), (4, .int p3), (5, .int 0), (6, .int 0), (7, .int (G 3 3))] [3, 4, 5, 6, 7, 2, 1, 0] rfl ?_
      exact J_43 _ 0 0 (G 3 3) G (Nat.lt_succ_self _) (by have h9 := ti_rng p0; omega) (by have h9 := ti_rng p1; omega) (by have h9 := ti_rng p2; omega) (by have h9 := ti_rng p3; omega) (by decide) (by decide) (by have h9 := ti_rng (G 3 3); omega) hI gu_un.rf (fun Q C hq hr => suC.zero (by decide) (by decide) (by rw [hq.1 3 (by decide) (by decide)]; exact Int.le_refl _) (Int.le_refl _)) (by (first | omega | (simp only [Int32.reduceToInt, true_and, and_true, ne_eq, not_true_eq_false, false_and, or_false, false_or, true_or, or_true, false_implies] <;> omega))) (by (first | omega | (simp only [Int32.reduceToInt, true_and, and_true, ne_eq, not_true_eq_false, false_and, or_false, false_or, true_or, or_true, false_implies] <;> omega))) (by (first | omega | (simp only [Int32.reduceToInt, true_and, and_true, ne_eq, not_true_eq_false, false_and, or_false, false_or, true_or, or_true, false_implies] <;> omega))) (by (first | omega | (simp only [Int32.reduceToInt, true_and, and_true, ne_eq, not_true_eq_false, false_and, or_false, false_or, true_or, or_true, false_implies] <;> omega))) (by (first | omega | (simp only [Int32.reduceToInt, true_and, and_true, ne_eq, not_true_eq_false, false_and, or_false, false_or, true_or, or_true, false_implies] <;> omega))) (yNh.rf)
    · have q47 : (psMx (psHr (G 14) s0 (G 3 0).toInt) ((G 3 0).toInt - 1).toNat - s2 * s3 < 1) := q47
      refine v_if_ne F 29 dX13_sure_23 (by decide) 0 rfl (fun c49 => absurd c49 (by decide)) (fun c49 => ?_)
      refine g_bipush F (-4) dX13_sure_26 (by decide) ?_
      exact u_iret F hA hQ hr G (⟨hI, gu_un.rf, (by decide), (yNh.rf), (fun Q C hq => Or.inr ⟨(by unfold pvAs; rw [hq.1 1 (by decide) (by decide)]; omega), Or.inl ⟨fun ho => by unfold pvOk at ho; rw [hq.1 0 (by decide) (by decide)] at ho; have ho2 : 1 ≤ psMx (psHr (G 14) s0 (G 3 0).toInt) ((G 3 0).toInt - 1).toNat - p2.toInt * p3.toInt := ho; rw [e2, e3] at ho2; omega, by decide⟩⟩), (by show ((G 0 32).toInt = (G 0 32).toInt); (first | omega | (simp only [Int32.reduceToInt, true_and, and_true, ne_eq, not_true_eq_false, false_and, or_false, false_or, true_or, or_true, false_implies] <;> omega)))⟩) rfl rfl dX13_sure_28
  · have q41 : ¬ (0 ≤ s0 ∧ s0 < (G 3 1).toInt ∧ 1 ≤ s1 ∧ s1 ≤ 9 ∧ 1 ≤ s2 ∧ s2 ≤ 20 ∧ 1 ≤ s3 ∧ s3 ≤ 12) := q41
    refine v_if_ne F 15 dX13_sure_9 (by decide) 0 rfl (fun c50 => absurd c50 (by decide)) (fun c50 => ?_)
    refine g_bipush F (-2) dX13_sure_12 (by decide) ?_
    exact u_iret F hA hQ hr G (⟨hI, gu_un.rf, (by decide), (yNh.rf), (fun Q C hq => Or.inl ⟨by decide, fun ha => by obtain ⟨b0, b1, b2, b3, b4, b5, b6, b7⟩ := ha; rw [hq.1 1 (by decide) (by decide)] at b1; omega⟩), (by show ((G 0 32).toInt = (G 0 32).toInt); (first | omega | (simp only [Int32.reduceToInt, true_and, and_true, ne_eq, not_true_eq_false, false_and, or_false, false_or, true_or, or_true, false_implies] <;> omega)))⟩) rfl rfl dX13_sure_14

theorem dX13_isSure_0 : decode cX13_isSure 0 = .ok (.aload_n 0, 1) := by decide +kernel
theorem dX13_isSure_1 : decode cX13_isSure 1 = .ok (.iload_n 1, 1) := by decide +kernel
theorem dX13_isSure_2 : decode cX13_isSure 2 = .ok (.iload_n 3, 1) := by decide +kernel
theorem dX13_isSure_3 : decode cX13_isSure 3 = .ok (.aload_n 0, 1) := by decide +kernel
theorem dX13_isSure_4 : decode cX13_isSure 4 = .ok (.getfield 199, 3) := by decide +kernel
theorem dX13_isSure_7 : decode cX13_isSure 7 = .ok (.bipush 9, 2) := by decide +kernel
theorem dX13_isSure_9 : decode cX13_isSure 9 = .ok (.iaload, 1) := by decide +kernel
theorem dX13_isSure_10 : decode cX13_isSure 10 = .ok (.invokevirtual 438, 3) := by decide +kernel
theorem dX13_isSure_13 : decode cX13_isSure 13 = .ok (.ifCond .ne 5, 3) := by decide +kernel
theorem dX13_isSure_16 : decode cX13_isSure 16 = .ok (.iconst 0, 1) := by decide +kernel
theorem dX13_isSure_17 : decode cX13_isSure 17 = .ok (.ireturn, 1) := by decide +kernel
theorem dX13_isSure_18 : decode cX13_isSure 18 = .ok (.aload_n 0, 1) := by decide +kernel
theorem dX13_isSure_19 : decode cX13_isSure 19 = .ok (.getfield 199, 3) := by decide +kernel
theorem dX13_isSure_22 : decode cX13_isSure 22 = .ok (.iconst 3, 1) := by decide +kernel
theorem dX13_isSure_23 : decode cX13_isSure 23 = .ok (.iaload, 1) := by decide +kernel
theorem dX13_isSure_24 : decode cX13_isSure 24 = .ok (.istore 4, 2) := by decide +kernel
theorem dX13_isSure_26 : decode cX13_isSure 26 = .ok (.iload 4, 2) := by decide +kernel
theorem dX13_isSure_28 : decode cX13_isSure 28 = .ok (.aload_n 0, 1) := by decide +kernel
theorem dX13_isSure_29 : decode cX13_isSure 29 = .ok (.getfield 199, 3) := by decide +kernel
theorem dX13_isSure_32 : decode cX13_isSure 32 = .ok (.iconst 4, 1) := by decide +kernel
theorem dX13_isSure_33 : decode cX13_isSure 33 = .ok (.iaload, 1) := by decide +kernel
theorem dX13_isSure_34 : decode cX13_isSure 34 = .ok (.if_icmp .gt 58, 3) := by decide +kernel
theorem dX13_isSure_37 : decode cX13_isSure 37 = .ok (.aload_n 0, 1) := by decide +kernel
theorem dX13_isSure_38 : decode cX13_isSure 38 = .ok (.getfield 199, 3) := by decide +kernel
theorem dX13_isSure_41 : decode cX13_isSure 41 = .ok (.iconst 5, 1) := by decide +kernel
theorem dX13_isSure_42 : decode cX13_isSure 42 = .ok (.iaload, 1) := by decide +kernel
theorem dX13_isSure_43 : decode cX13_isSure 43 = .ok (.istore 5, 2) := by decide +kernel
theorem dX13_isSure_45 : decode cX13_isSure 45 = .ok (.iload 5, 2) := by decide +kernel
theorem dX13_isSure_47 : decode cX13_isSure 47 = .ok (.aload_n 0, 1) := by decide +kernel
theorem dX13_isSure_48 : decode cX13_isSure 48 = .ok (.getfield 199, 3) := by decide +kernel
theorem dX13_isSure_51 : decode cX13_isSure 51 = .ok (.bipush 6, 2) := by decide +kernel
theorem dX13_isSure_53 : decode cX13_isSure 53 = .ok (.iaload, 1) := by decide +kernel
theorem dX13_isSure_54 : decode cX13_isSure 54 = .ok (.if_icmp .gt 32, 3) := by decide +kernel
theorem dX13_isSure_57 : decode cX13_isSure 57 = .ok (.aload_n 0, 1) := by decide +kernel
theorem dX13_isSure_58 : decode cX13_isSure 58 = .ok (.iload_n 1, 1) := by decide +kernel
theorem dX13_isSure_59 : decode cX13_isSure 59 = .ok (.iload_n 2, 1) := by decide +kernel
theorem dX13_isSure_60 : decode cX13_isSure 60 = .ok (.iload_n 3, 1) := by decide +kernel
theorem dX13_isSure_61 : decode cX13_isSure 61 = .ok (.aload_n 0, 1) := by decide +kernel
theorem dX13_isSure_62 : decode cX13_isSure 62 = .ok (.getfield 199, 3) := by decide +kernel
theorem dX13_isSure_65 : decode cX13_isSure 65 = .ok (.bipush 9, 2) := by decide +kernel
theorem dX13_isSure_67 : decode cX13_isSure 67 = .ok (.iaload, 1) := by decide +kernel
theorem dX13_isSure_68 : decode cX13_isSure 68 = .ok (.iload 4, 2) := by decide +kernel
theorem dX13_isSure_70 : decode cX13_isSure 70 = .ok (.iload 5, 2) := by decide +kernel
theorem dX13_isSure_72 : decode cX13_isSure 72 = .ok (.invokevirtual 442, 3) := by decide +kernel
theorem dX13_isSure_75 : decode cX13_isSure 75 = .ok (.ifCond .eq 5, 3) := by decide +kernel
theorem dX13_isSure_78 : decode cX13_isSure 78 = .ok (.iconst 0, 1) := by decide +kernel
theorem dX13_isSure_79 : decode cX13_isSure 79 = .ok (.ireturn, 1) := by decide +kernel
theorem dX13_isSure_80 : decode cX13_isSure 80 = .ok (.iinc 5 1, 3) := by decide +kernel
theorem dX13_isSure_83 : decode cX13_isSure 83 = .ok (.goto (-38), 3) := by decide +kernel
theorem dX13_isSure_86 : decode cX13_isSure 86 = .ok (.iinc 4 1, 3) := by decide +kernel
theorem dX13_isSure_89 : decode cX13_isSure 89 = .ok (.goto (-63), 3) := by decide +kernel
theorem dX13_isSure_92 : decode cX13_isSure 92 = .ok (.iconst 1, 1) := by decide +kernel
theorem dX13_isSure_93 : decode cX13_isSure 93 = .ok (.ireturn, 1) := by decide +kernel
set_option maxRecDepth 20000 in
theorem ggX13_isSure_X13_canBe : GoodIn wsX13_isSure wsX13_canBe := goodIn_r _ [6, 7, 8, 9, 5, 10, 11, 1, 12, 13, 14, 15, 16, 17, 18, 86, 87, 88, 89, 90, 91, 92, 93, 94, 95, 96, 97, 98, 99, 100, 101, 102, 103, 104, 105, 106, 107, 108, 109, 110, 111, 112, 113, 114, 115, 116, 117, 118, 119, 120, 121, 122, 123, 124, 125, 126, 127, 128, 129, 130, 131, 132, 133, 134, 135, 136, 137, 138, 139, 140, 141, 142, 143, 144, 145, 146, 147, 148, 149, 150, 151, 152, 153, 154, 155, 156, 157, 158] rfl (by decide +kernel)
set_option maxRecDepth 20000 in
theorem gX13_isSure_X13_canBe : GoodIn wsX13_isSure (wsV RX13 438 RX13 yX13_canBe wsX13_canBe) := goodIn_app (goodIn_of _ (by decide +kernel)) ggX13_isSure_X13_canBe
set_option maxRecDepth 20000 in
theorem ggX13_isSure_X13_trial : GoodIn wsX13_isSure wsX13_trial := goodIn_r _ [22, 23, 24, 25, 5, 26, 27, 28, 11, 29, 30, 31, 32, 33, 34, 1, 35, 36, 37, 38, 39, 40, 14, 41, 12, 13, 15, 7, 8, 9, 10, 16, 17, 18, 42, 43, 44, 45, 46, 47, 48, 49, 50, 51, 52, 53, 54, 55, 56, 57, 58, 59, 60, 61, 62, 63, 64, 65, 66, 67, 68, 69, 70, 71, 72, 73, 74, 75, 76, 77, 78, 79, 80, 81, 82, 83, 84, 85, 86, 87, 88, 89, 90, 91, 92, 93, 94, 95, 96, 97, 98, 99, 100, 101, 102, 103, 104, 105, 106, 107, 108, 109, 110, 111, 112, 113, 114, 115, 116, 117, 118, 119, 120, 121, 122, 123, 124, 125, 126, 127, 128, 129, 130, 131, 132, 133, 134, 135, 136, 137, 138, 139, 140, 141, 142, 143, 144, 145, 146, 147, 148, 149, 150, 151, 152, 153, 154, 155, 156, 157, 158] rfl (by decide +kernel)
set_option maxRecDepth 20000 in
theorem gX13_isSure_X13_trial : GoodIn wsX13_isSure (wsV RX13 442 RX13 yX13_trial wsX13_trial) := goodIn_app (goodIn_of _ (by decide +kernel)) ggX13_isSure_X13_trial
set_option maxHeartbeats 4000000 in
set_option maxRecDepth 100000 in
theorem S_X13_isSure (l : Launch) (D : va_G) (K : Nat → ClassId) (a : Nat → Nat) (G : gS) (p0 : Int32) (s0 : Int) (p1 : Int32) (s1 : Int) (p2 : Int32) (s2 : Int) (e0 : p0.toInt = s0) (h0 : 0 ≤ s0 ∧ s0 ≤ 5) (e1 : p1.toInt = s1) (h1 : 0 ≤ s1 ∧ s1 ≤ 9) (e2 : p2.toInt = s2) (h2 : 0 ≤ s2 ∧ s2 ≤ 20) (wf : yW3 G) (dl : ((G 0 32).toInt ≤ 6)) (hI : yI G) (sz : Nat) : Ki l yX13_isSure wsX13_isSure 7 204 0 0 D [.ref (a 0), .int p0, .int p1, .int p2] (yW K a G) (tK K) sz (fun (r : Int32) (G' : gS) => (yI G') ∧ (gu_un ycd [29, 33, 36, 37, 1300, 1400, 1500, 1600, 1700, 1800, 1900, 2000, 2100] G G') ∧ (0 ≤ r.toInt ∧ r.toInt ≤ 1) ∧ (yNh G G') ∧ ((∀ (Q : gS) (C : Nat → List Int), ySq G Q C → s0 < (G 3 1).toInt → ((r.toInt = 1 ∧ pvA Q C (G 14) (G 0 28) s0 p1 p2 (Q 0 9)) ∨ (r.toInt = 0 ∧ ¬ pvA Q C (G 14) (G 0 28) s0 p1 p2 (Q 0 9))))) ∧ (((G' 0 32).toInt = (G 0 32).toInt))) (fun (G' : gS) => (yW K a G')) (fun _ => (tK K)) := by
  unfold Ki
  refine g_ofW (cc := cX13_isSure) (lv := [(0, .ref (a 0)), (1, .int p0), (2, .int p1), (3, .int p2)]) (by decide) rfl (Nat.le_of_ble_eq_true rfl) rfl ?_
  intro p e s m args below meth c A Q hA hQ F hr hnm
  have hts := F.2.2.2.2.1
  have w_0 : (Cond.fieldLink RX13 199 "QuietCutModel" "rule" "[I").before args s = true := hts _ (List.mem_of_getElem? (i := 1) rfl)
  have i_X13 : ∀ w ∈ u_ws RX13 TX13 73, w ∈ wsX13_isSure := fun _ h => List.mem_cons_of_mem _ (List.mem_append_right _ h)
  have b1 : (0 : Int) ≤ (G 0 32).toInt ∧ (G 0 32).toInt ≤ 7 := hI 0 32
  have b2 : (4 : Int) ≤ (G 3 0).toInt ∧ (G 3 0).toInt ≤ 16 := hI 3 0
  have b3 : (1 : Int) ≤ (G 3 1).toInt ∧ (G 3 1).toInt ≤ 6 := hI 3 1
  have b4 : (0 : Int) ≤ (G 3 3).toInt ∧ (G 3 3).toInt ≤ 200 := hI 3 3
  have b5 : (0 : Int) ≤ (G 3 4).toInt ∧ (G 3 4).toInt ≤ 200 := hI 3 4
  have b6 : (0 : Int) ≤ (G 3 5).toInt ∧ (G 3 5).toInt ≤ 200 := hI 3 5
  have b7 : (0 : Int) ≤ (G 3 6).toInt ∧ (G 3 6).toInt ≤ 200 := hI 3 6
  have b8 : (1 : Int) ≤ (G 3 9).toInt ∧ (G 3 9).toInt ≤ 12 := hI 3 9
  have J_26 : ∀ (fuel : Nat) (x26_4 : Int32) (Gj26 : gS), (2147483647 - x26_4.toInt).toNat < fuel → (0 ≤ x26_4.toInt ∧ x26_4.toInt ≤ 201) → (yI Gj26) → (gu_un ycd [29, 33, 36, 37, 1300, 1400, 1500, 1600, 1700, 1800, 1900, 2000, 2100] G Gj26) → (∀ (Q : gS) (C : Nat → List Int), ySq G Q C → s0 < (G 3 1).toInt → ∀ st da : Int, pvIn Q st da → st < x26_4.toInt → pvB Q C (G 14) (G 0 28) s0 p1 p2 (G 3 9) st da = 0) → (((G 3 3).toInt ≤ x26_4.toInt)) → (((Gj26 0 32).toInt = (G 0 32).toInt)) → ((1 ≤ psMx (psHr (G 14) s0 (G 3 0).toInt) ((G 3 0).toInt - 1).toNat - s2 * (G 3 9).toInt)) → (yNh G Gj26) → gG p l e (gR 7 0 0 204) s m args below meth c D A 6 Q 0 0 (yW K a Gj26) (tK K) [(0, .ref (a 0)), (1, .int p0), (2, .int p1), (3, .int p2), (4, .int x26_4)] 26 [] := by
    intro fuel
    induction fuel with
    | zero => intro x26_4 Gj26 hm; exact absurd hm (Nat.not_lt_zero _)
    | succ fuel_26 ih_26 =>
      intro x26_4 Gj26 hm_26 h26_4 jI26 jU26 y1 b4 dc_26 cbk_26 nh26
      have J_45 : ∀ (fuel : Nat) (x45_5 : Int32) (Gj45 : gS), (2147483647 - x45_5.toInt).toNat < fuel → (0 ≤ x26_4.toInt ∧ x26_4.toInt ≤ 200) → (0 ≤ x45_5.toInt ∧ x45_5.toInt ≤ 201) → (yI Gj45) → (gu_un ycd [29, 33, 36, 37, 1300, 1400, 1500, 1600, 1700, 1800, 1900, 2000, 2100] Gj26 Gj45) → (∀ (Q : gS) (C : Nat → List Int), ySq G Q C → s0 < (G 3 1).toInt → ∀ st da : Int, pvIn Q st da → (st < x26_4.toInt ∨ (st = x26_4.toInt ∧ da < x45_5.toInt)) → pvB Q C (G 14) (G 0 28) s0 p1 p2 (G 3 9) st da = 0) → (((G 3 5).toInt ≤ x45_5.toInt ∧ (G 3 3).toInt ≤ x26_4.toInt ∧ x26_4.toInt ≤ (G 3 4).toInt)) → (((Gj45 0 32).toInt = (G 0 32).toInt)) → ((1 ≤ psMx (psHr (G 14) s0 (G 3 0).toInt) ((G 3 0).toInt - 1).toNat - s2 * (G 3 9).toInt)) → (yNh G Gj45) → gG p l e (gR 7 0 0 204) s m args below meth c D A 6 Q 0 0 (yW K a Gj45) (tK K) [(0, .ref (a 0)), (1, .int p0), (2, .int p1), (3, .int p2), (4, .int x26_4), (5, .int x45_5)] 45 [] := by
        intro fuel
        induction fuel with
        | zero => intro x45_5 Gj45 hm; exact absurd hm (Nat.not_lt_zero _)
        | succ fuel_45 ih_45 =>
          intro x45_5 Gj45 hm_45 k45_4 h45_5 jI45 jU45 y2 b5 dc_45 cbk_45 nh45
          refine g_iload F 5 dX13_isSure_45 rfl ?_
          refine g_aload_n F 0 dX13_isSure_47 rfl rfl ?_
          refine yg_0_10 F i_X13 w_0 dX13_isSure_48 ?_
          refine g_bipush F 6 dX13_isSure_51 (by decide) ?_
          refine u1_iald F 3 0 yc_3 rfl 6 rfl (by decide) (by decide) dX13_isSure_53 (G 3 6) ((jU45 3 6 (by decide)).trans (jU26 3 6 (by decide))) ?_
          refine v_icmp_gt F 86 dX13_isSure_54 (by decide) x45_5.toInt (G 3 6).toInt rfl rfl (fun c9 => ?_) (fun c9 => ?_)
          · refine u_iinc F (fun v_ => [(4, .int v_), (0, .ref (a 0)), (1, .int p0), (2, .int p1), (3, .int p2), (5, .int x45_5)]) dX13_isSure_86 (j := 4) rfl x26_4.toInt 1 rfl rfl (by omega) (by omega) (by decide) (fun _ => rfl) (fun y10 ey10 => ?_)
            refine g_goto F 26 dX13_isSure_89 (by decide) ?_
            refine g_locals [(0, .ref (a 0)), (1, .int p0), (2, .int p1), (3, .int p2), (4, .int y10)] [1, 2, 3, 4, 0] rfl ?_
            have b11 : (0 : Int) ≤ (Gj45 0 32).toInt ∧ (Gj45 0 32).toInt ≤ 7 := jI45 0 32
            exact ih_26 y10 Gj45 (by omega) (by have h9 := ti_rng y10; omega) jI45 (gu_un.tr (gu_un.tr gu_un.rf (gu_un.su jU26 rfl)) (gu_un.su jU45 rfl)) (fun Q C hq hr st da hd h => y2 Q C hq hr st da hd (by have h5 := hd.2.2.2; rw [hq.1 6 (by decide) (by decide)] at h5; omega)) (by have e9_3_3 : Gj45 3 3 = (G 3 3) := (jU45 3 3 (by decide)).trans (jU26 3 3 (by decide)); (try simp only [e9_3_3, true_and, and_true]) <;> (first | omega | (simp only [Int32.reduceToInt, true_and, and_true, ne_eq, not_true_eq_false, false_and, or_false, false_or, true_or, or_true, false_implies] <;> omega))) (by (first | omega | (simp only [Int32.reduceToInt, true_and, and_true, ne_eq, not_true_eq_false, false_and, or_false, false_or, true_or, or_true, false_implies] <;> omega))) (by have e9_3_9 : Gj45 3 9 = (G 3 9) := (jU45 3 9 (by decide)).trans (jU26 3 9 (by decide)); (try simp only [e9_3_9, true_and, and_true]) <;> (first | omega | (simp only [Int32.reduceToInt, true_and, and_true, ne_eq, not_true_eq_false, false_and, or_false, false_or, true_or, or_true, false_implies] <;> omega))) (nh45)
          · refine g_aload_n F 0 dX13_isSure_57 rfl rfl ?_
            refine g_iload_n F 1 dX13_isSure_58 rfl rfl ?_
            refine g_iload_n F 2 dX13_isSure_59 rfl rfl ?_
            refine g_iload_n F 3 dX13_isSure_60 rfl rfl ?_
            refine g_aload_n F 0 dX13_isSure_61 rfl rfl ?_
            refine yg_0_10 F i_X13 w_0 dX13_isSure_62 ?_
            refine g_bipush F 9 dX13_isSure_65 (by decide) ?_
            refine u1_iald F 3 0 yc_3 rfl 9 rfl (by decide) (by decide) dX13_isSure_67 (G 3 9) ((jU45 3 9 (by decide)).trans (jU26 3 9 (by decide))) ?_
            refine g_iload F 4 dX13_isSure_68 rfl ?_
            refine g_iload F 5 dX13_isSure_70 rfl ?_
            have b12 : (0 : Int) ≤ (Gj45 0 32).toInt ∧ (Gj45 0 32).toInt ≤ 7 := jI45 0 32
            refine u_callVi (k := 0) (n := 0) (b := a 0) (As := [.int p0, .int p1, .int p2, .int (G 3 9), .int x26_4, .int x45_5]) (st := []) F (fun sz => S_X13_trial l D K a Gj45 p0 s0 p1 s1 p2 s2 (G 3 9) (G 3 9).toInt x26_4 x26_4.toInt x45_5 x45_5.toInt e0 (by omega) e1 (by omega) e2 (by omega) rfl (by omega) rfl (by omega) rfl (by omega) (yW3.un wf (show gu_un ycd [29, 33, 36, 37, 1300, 1400, 1500, 1600, 1700, 1800, 1900, 2000, 2100] G Gj45 from (gu_un.tr (gu_un.tr gu_un.rf (gu_un.su jU26 rfl)) (gu_un.su jU45 rfl))) rfl) (by have h8 := (show yNh G Gj45 from nh45).1; rw [show Gj45 3 0 = G 3 0 from (show Gj45 3 0 = G 3 0 from (show gu_un ycd [29, 33, 36, 37, 1300, 1400, 1500, 1600, 1700, 1800, 1900, 2000, 2100] G Gj45 from (gu_un.tr (gu_un.tr gu_un.rf (gu_un.su jU26 rfl)) (gu_un.su jU45 rfl))) 3 0 (by decide)), psHr_eq (h := Gj45 14) (g := G 14) h8 (by omega) (by omega) (by omega)]; omega) (by (first | omega | (simp only [Int32.reduceToInt, true_and, and_true, ne_eq, not_true_eq_false, false_and, or_false, false_or, true_or, or_true, false_implies] <;> omega))) jI45 sz) (cwV 6 hts gX13_isSure_X13_trial rfl rfl rfl (by decide +kernel) ⟨Nat.le_of_ble_eq_true rfl, Nat.le_of_ble_eq_true rfl⟩) rfl 0 yc_0 rfl (Nat.le_of_ble_eq_true rfl) ⟨Nat.zero_le _, Nat.zero_le _⟩ dX13_isSure_72 (fun r13 G15 hw14 => ?_)
            have hI16 : yI G15 := hw14.1
            have hU17 : gu_un ycd [29, 33, 36, 37, 1300, 1400, 1500, 1600, 1700, 1800, 1900, 2000, 2100] Gj45 G15 := hw14.2.1
            have hp18 := hw14.2.2
            have q19 : yNh Gj45 G15 := hp18.2.1
            have q20 : (∀ (Q : gS) (C : Nat → List Int), ySq Gj45 Q C → s0 < (G 3 1).toInt → 1 ≤ (G 3 9).toInt → r13.toInt = pvV Q (pvS Q C (Gj45 14) (Gj45 0 28) s0 p1 p2 (G 3 9) x26_4 x45_5) ∧ pvN Q (pvS Q C (Gj45 14) (Gj45 0 28) s0 p1 p2 (G 3 9) x26_4 x45_5) (G15 21 0) (G15 21 1) (G15 21 2) (G15 21 3) (G15 21 4) (G15 21 5) (G15 21 6)) := by have h9 := hp18.2.2.1; (try simp only [(show Gj45 3 1 = (G 3 1) from (jU45 3 1 (by decide)).trans (jU26 3 1 (by decide)))] at h9); first | exact h9 | omega
            have b21 : (0 : Int) ≤ (G15 0 32).toInt ∧ (G15 0 32).toInt ≤ 7 := hI16 0 32
            have q22 : ((G15 0 32).toInt = (Gj45 0 32).toInt) := hp18.2.2.2
            have rg23 := hp18.1
            clear hp18 hw14
            refine v_if_eq F 80 dX13_isSure_75 (by decide) r13.toInt rfl (fun c24 => ?_) (fun c24 => ?_)
            · refine u_iinc F (fun v_ => [(5, .int v_), (0, .ref (a 0)), (1, .int p0), (2, .int p1), (3, .int p2), (4, .int x26_4)]) dX13_isSure_80 (j := 5) rfl x45_5.toInt 1 rfl rfl (by omega) (by omega) (by decide) (fun _ => rfl) (fun y25 ey25 => ?_)
              refine g_goto F 45 dX13_isSure_83 (by decide) ?_
              refine g_locals [(0, .ref (a 0)), (1, .int p0), (2, .int p1), (3, .int p2), (4, .int x26_4), (5, .int y25)] [1, 2, 3, 4, 5, 0] rfl ?_
              exact ih_45 y25 G15 (by omega) (by have h9 := ti_rng x26_4; omega) (by have h9 := ti_rng y25; omega) hI16 (gu_un.tr (gu_un.tr gu_un.rf (gu_un.su jU45 rfl)) (gu_un.su hU17 rfl)) (fun Q C hq hr st da hd h => by have nh9 : yNh G Gj45 := nh45; have hv := (q20 Q C (ySq.un hq (show gu_un ycd [29, 33, 36, 37, 1300, 1400, 1500, 1600, 1700, 1800, 1900, 2000, 2100] G Gj45 from (gu_un.tr (gu_un.tr gu_un.rf (gu_un.su jU26 rfl)) (gu_un.su jU45 rfl))) rfl) (by omega) (by omega)).1; rw [pvS_eq (h := Gj45 14) (g := G 14) nh9.1 (by omega) (by omega) (by rw [hq.1 1 (by decide) (by decide)]; omega) (by rw [hq.1 0 (by decide) (by decide)]; omega), nh9.2.1] at hv; have hb := pvB_run hv; by_cases e9 : st = x26_4.toInt ∧ da = x45_5.toInt <;> first | (rw [e9.1, e9.2, hb]; omega) | exact y2 Q C hq hr st da hd (by omega)) (by have e9_3_3 : G15 3 3 = (G 3 3) := (hU17 3 3 (by decide)).trans ((jU45 3 3 (by decide)).trans (jU26 3 3 (by decide))); have e9_3_4 : G15 3 4 = (G 3 4) := (hU17 3 4 (by decide)).trans ((jU45 3 4 (by decide)).trans (jU26 3 4 (by decide))); have e9_3_5 : G15 3 5 = (G 3 5) := (hU17 3 5 (by decide)).trans ((jU45 3 5 (by decide)).trans (jU26 3 5 (by decide))); (try simp only [e9_3_3, e9_3_4, e9_3_5, true_and, and_true]) <;> (first | omega | (simp only [Int32.reduceToInt, true_and, and_true, ne_eq, not_true_eq_false, false_and, or_false, false_or, true_or, or_true, false_implies] <;> omega))) (by (first | omega | (simp only [Int32.reduceToInt, true_and, and_true, ne_eq, not_true_eq_false, false_and, or_false, false_or, true_or, or_true, false_implies] <;> omega))) (by have e9_3_9 : G15 3 9 = (G 3 9) := (hU17 3 9 (by decide)).trans ((jU45 3 9 (by decide)).trans (jU26 3 9 (by decide))); (try simp only [e9_3_9, true_and, and_true]) <;> (first | omega | (simp only [Int32.reduceToInt, true_and, and_true, ne_eq, not_true_eq_false, false_and, or_false, false_or, true_or, or_true, false_implies] <;> omega))) ((yNh.tr (show yNh G Gj45 from nh45) (show yNh Gj45 G15 from q19)))
            · refine g_iconst F 0 dX13_isSure_78 (by decide) ?_
              exact u_zret F hA hQ hr rfl G15 (⟨hI16, (gu_un.tr (gu_un.tr (gu_un.tr gu_un.rf (gu_un.su jU26 rfl)) (gu_un.su jU45 rfl)) (gu_un.su hU17 rfl)), (by decide), ((yNh.tr (show yNh G Gj45 from nh45) (show yNh Gj45 G15 from q19))), (fun Q C hq hr => by rw [hq.1 9 (by decide) (by decide)]; exact Or.inr ⟨by decide, fun h => by have nh9 : yNh G Gj45 := nh45; have hv := (q20 Q C (ySq.un hq (show gu_un ycd [29, 33, 36, 37, 1300, 1400, 1500, 1600, 1700, 1800, 1900, 2000, 2100] G Gj45 from (gu_un.tr (gu_un.tr gu_un.rf (gu_un.su jU26 rfl)) (gu_un.su jU45 rfl))) rfl) (by omega) (by omega)).1; rw [pvS_eq (h := Gj45 14) (g := G 14) nh9.1 (by omega) (by omega) (by rw [hq.1 1 (by decide) (by decide)]; omega) (by rw [hq.1 0 (by decide) (by decide)]; omega), nh9.2.1] at hv; have hb := pvB_run hv; have h7 := h.2 x26_4.toInt x45_5.toInt (by unfold pvIn; rw [hq.1 3 (by decide) (by decide), hq.1 4 (by decide) (by decide), hq.1 5 (by decide) (by decide), hq.1 6 (by decide) (by decide)]; omega); rw [hb] at h7; omega⟩), (by show ((G15 0 32).toInt = (G 0 32).toInt); (first | omega | (simp only [Int32.reduceToInt, true_and, and_true, ne_eq, not_true_eq_false, false_and, or_false, false_or, true_or, or_true, false_implies] <;> omega)))⟩) rfl rfl dX13_isSure_79
      refine g_iload F 4 dX13_isSure_26 rfl ?_
      refine g_aload_n F 0 dX13_isSure_28 rfl rfl ?_
      refine yg_0_10 F i_X13 w_0 dX13_isSure_29 ?_
      refine g_iconst F 4 dX13_isSure_32 (by decide) ?_
      refine u1_iald F 3 0 yc_3 rfl 4 rfl (by decide) (by decide) dX13_isSure_33 (G 3 4) (jU26 3 4 (by decide)) ?_
      refine v_icmp_gt F 92 dX13_isSure_34 (by decide) x26_4.toInt (G 3 4).toInt rfl rfl (fun c26 => ?_) (fun c26 => ?_)
      · refine g_iconst F 1 dX13_isSure_92 (by decide) ?_
        have b27 : (0 : Int) ≤ (Gj26 0 32).toInt ∧ (Gj26 0 32).toInt ≤ 7 := jI26 0 32
        exact u_zret F hA hQ hr rfl Gj26 (⟨jI26, (gu_un.tr gu_un.rf (gu_un.su jU26 rfl)), (by decide), (nh26), (fun Q C hq hr => by rw [hq.1 9 (by decide) (by decide)]; exact Or.inl ⟨by decide, by unfold pvOk; rw [hq.1 0 (by decide) (by decide)]; show 1 ≤ psMx (psHr (G 14) s0 (G 3 0).toInt) ((G 3 0).toInt - 1).toNat - p2.toInt * (G 3 9).toInt; rw [e2]; omega, fun st da hd => y1 Q C hq hr st da hd (by have h5 := hd.2.1; rw [hq.1 4 (by decide) (by decide)] at h5; omega)⟩), (by show ((Gj26 0 32).toInt = (G 0 32).toInt); (first | omega | (simp only [Int32.reduceToInt, true_and, and_true, ne_eq, not_true_eq_false, false_and, or_false, false_or, true_or, or_true, false_implies] <;> omega)))⟩) rfl rfl dX13_isSure_93
      · refine g_aload_n F 0 dX13_isSure_37 rfl rfl ?_
        refine yg_0_10 F i_X13 w_0 dX13_isSure_38 ?_
        refine g_iconst F 5 dX13_isSure_41 (by decide) ?_
        refine u1_iald F 3 0 yc_3 rfl 5 rfl (by decide) (by decide) dX13_isSure_42 (G 3 5) (jU26 3 5 (by decide)) ?_
        refine g_istore F [(5, .int (G 3 5)), (0, .ref (a 0)), (1, .int p0), (2, .int p1), (3, .int p2), (4, .int x26_4)] dX13_isSure_43 (by decide) rfl ?_
        refine g_locals [(0, .ref (a 0)), (1, .int p0), (2, .int p1), (3, .int p2), (4, .int x26_4), (5, .int (G 3 5))] [1, 2, 3, 4, 5, 0] rfl ?_
        have b28 : (0 : Int) ≤ (Gj26 0 32).toInt ∧ (Gj26 0 32).toInt ≤ 7 := jI26 0 32
        exact J_45 _ (G 3 5) Gj26 (Nat.lt_succ_self _) (by have h9 := ti_rng x26_4; omega) (by have h9 := ti_rng (G 3 5); omega) jI26 gu_un.rf (fun Q C hq hr st da hd h => y1 Q C hq hr st da hd (by have h5 := hd.2.2.1; rw [hq.1 5 (by decide) (by decide)] at h5; omega)) (by have e9_3_3 : Gj26 3 3 = (G 3 3) := jU26 3 3 (by decide); have e9_3_4 : Gj26 3 4 = (G 3 4) := jU26 3 4 (by decide); have e9_3_5 : Gj26 3 5 = (G 3 5) := jU26 3 5 (by decide); (try simp only [e9_3_3, e9_3_4, e9_3_5, true_and, and_true]) <;> (first | omega | (simp only [Int32.reduceToInt, true_and, and_true, ne_eq, not_true_eq_false, false_and, or_false, false_or, true_or, or_true, false_implies] <;> omega))) (by (first | omega | (simp only [Int32.reduceToInt, true_and, and_true, ne_eq, not_true_eq_false, false_and, or_false, false_or, true_or, or_true, false_implies] <;> omega))) (by have e9_3_9 : Gj26 3 9 = (G 3 9) := jU26 3 9 (by decide); (try simp only [e9_3_9, true_and, and_true]) <;> (first | omega | (simp only [Int32.reduceToInt, true_and, and_true, ne_eq, not_true_eq_false, false_and, or_false, false_or, true_or, or_true, false_implies] <;> omega))) (nh26)
  refine g_aload_n F 0 dX13_isSure_0 rfl rfl ?_
  refine g_iload_n F 1 dX13_isSure_1 rfl rfl ?_
  refine g_iload_n F 3 dX13_isSure_2 rfl rfl ?_
  refine g_aload_n F 0 dX13_isSure_3 rfl rfl ?_
  refine yg_0_10 F i_X13 w_0 dX13_isSure_4 ?_
  refine g_bipush F 9 dX13_isSure_7 (by decide) ?_
  refine u1_iald F 3 0 yc_3 rfl 9 rfl (by decide) (by decide) dX13_isSure_9 (G 3 9) (rfl) ?_
  refine u_callVi (k := 0) (n := 0) (b := a 0) (As := [.int p0, .int p2, .int (G 3 9)]) (st := []) F (fun sz => S_X13_canBe l D K a G p0 s0 p2 s2 (G 3 9) (G 3 9).toInt e0 (by omega) e2 (by omega) rfl (by omega) hI sz) (cwV 3 hts gX13_isSure_X13_canBe rfl rfl rfl (by decide +kernel) ⟨Nat.le_of_ble_eq_true rfl, Nat.le_of_ble_eq_true rfl⟩) rfl 0 yc_0 rfl (Nat.le_of_ble_eq_true rfl) ⟨Nat.zero_le _, Nat.zero_le _⟩ dX13_isSure_10 (fun r29 _ hw30 => ?_)
  rcases hw30 with ⟨rfl, q32⟩ | ⟨rfl, q33⟩
  · have q32 : (1 ≤ psMx (psHr (G 14) s0 (G 3 0).toInt) ((G 3 0).toInt - 1).toNat - s2 * (G 3 9).toInt) := q32
    refine v_if_ne F 18 dX13_isSure_13 (by decide) 1 rfl (fun c34 => ?_) (fun c34 => absurd c34 (by decide))
    refine g_aload_n F 0 dX13_isSure_18 rfl rfl ?_
    refine yg_0_10 F i_X13 w_0 dX13_isSure_19 ?_
    refine g_iconst F 3 dX13_isSure_22 (by decide) ?_
    refine u1_iald F 3 0 yc_3 rfl 3 rfl (by decide) (by decide) dX13_isSure_23 (G 3 3) (rfl) ?_
    refine g_istore F [(4, .int (G 3 3)), (0, .ref (a 0)), (1, .int p0), (2, .int p1), (3, .int p2)] dX13_isSure_24 (by decide) rfl ?_
    refine g_locals [(0, .ref (a 0)), (1, .int p0), (2, .int p1), (3, .int p2), (4, .int (G 3 3))] [1, 2, 3, 4, 0] rfl ?_
    exact J_26 _ (G 3 3) G (Nat.lt_succ_self _) (by have h9 := ti_rng (G 3 3); omega) hI gu_un.rf (fun Q C hq hr st da hd h => by have h5 := hd.1; rw [hq.1 3 (by decide) (by decide)] at h5; omega) (by (first | omega | (simp only [Int32.reduceToInt, true_and, and_true, ne_eq, not_true_eq_false, false_and, or_false, false_or, true_or, or_true, false_implies] <;> omega))) (by (first | omega | (simp only [Int32.reduceToInt, true_and, and_true, ne_eq, not_true_eq_false, false_and, or_false, false_or, true_or, or_true, false_implies] <;> omega))) (by (first | omega | (simp only [Int32.reduceToInt, true_and, and_true, ne_eq, not_true_eq_false, false_and, or_false, false_or, true_or, or_true, false_implies] <;> omega))) (yNh.rf)
  · have q33 : (psMx (psHr (G 14) s0 (G 3 0).toInt) ((G 3 0).toInt - 1).toNat - s2 * (G 3 9).toInt < 1) := q33
    refine v_if_ne F 18 dX13_isSure_13 (by decide) 0 rfl (fun c35 => absurd c35 (by decide)) (fun c35 => ?_)
    refine g_iconst F 0 dX13_isSure_16 (by decide) ?_
    exact u_zret F hA hQ hr rfl G (⟨hI, gu_un.rf, (by decide), (yNh.rf), (fun Q C hq hr => by rw [hq.1 9 (by decide) (by decide)]; exact Or.inr ⟨by decide, fun h => by have ho := h.1; unfold pvOk at ho; rw [hq.1 0 (by decide) (by decide)] at ho; have ho2 : 1 ≤ psMx (psHr (G 14) s0 (G 3 0).toInt) ((G 3 0).toInt - 1).toNat - p2.toInt * (G 3 9).toInt := ho; rw [e2] at ho2; omega⟩), (by show ((G 0 32).toInt = (G 0 32).toInt); (first | omega | (simp only [Int32.reduceToInt, true_and, and_true, ne_eq, not_true_eq_false, false_and, or_false, false_or, true_or, or_true, false_implies] <;> omega)))⟩) rfl rfl dX13_isSure_17

theorem dX13_deepestOf_0 : decode cX13_deepestOf 0 = .ok (.bipush 20, 2) := by decide +kernel
theorem dX13_deepestOf_2 : decode cX13_deepestOf 2 = .ok (.istore_n 3, 1) := by decide +kernel
theorem dX13_deepestOf_3 : decode cX13_deepestOf 3 = .ok (.iload_n 3, 1) := by decide +kernel
theorem dX13_deepestOf_4 : decode cX13_deepestOf 4 = .ok (.ifCond .le 21, 3) := by decide +kernel
theorem dX13_deepestOf_7 : decode cX13_deepestOf 7 = .ok (.aload_n 0, 1) := by decide +kernel
theorem dX13_deepestOf_8 : decode cX13_deepestOf 8 = .ok (.iload_n 1, 1) := by decide +kernel
theorem dX13_deepestOf_9 : decode cX13_deepestOf 9 = .ok (.iload_n 2, 1) := by decide +kernel
theorem dX13_deepestOf_10 : decode cX13_deepestOf 10 = .ok (.iload_n 3, 1) := by decide +kernel
theorem dX13_deepestOf_11 : decode cX13_deepestOf 11 = .ok (.invokevirtual 451, 3) := by decide +kernel
theorem dX13_deepestOf_14 : decode cX13_deepestOf 14 = .ok (.ifCond .eq 5, 3) := by decide +kernel
theorem dX13_deepestOf_17 : decode cX13_deepestOf 17 = .ok (.iload_n 3, 1) := by decide +kernel
theorem dX13_deepestOf_18 : decode cX13_deepestOf 18 = .ok (.ireturn, 1) := by decide +kernel
theorem dX13_deepestOf_19 : decode cX13_deepestOf 19 = .ok (.iinc 3 (-1), 3) := by decide +kernel
theorem dX13_deepestOf_22 : decode cX13_deepestOf 22 = .ok (.goto (-19), 3) := by decide +kernel
theorem dX13_deepestOf_25 : decode cX13_deepestOf 25 = .ok (.iconst (-1), 1) := by decide +kernel
theorem dX13_deepestOf_26 : decode cX13_deepestOf 26 = .ok (.ireturn, 1) := by decide +kernel
set_option maxRecDepth 20000 in
theorem ggX13_deepestOf_X13_isSure : GoodIn wsX13_deepestOf wsX13_isSure := goodIn_r _ [5, 6, 7, 8, 9, 4, 10, 11, 12, 13, 14, 15, 16, 17, 18, 19, 20, 21, 22, 23, 24, 25, 26, 27, 28, 29, 30, 31, 32, 33, 34, 35, 36, 37, 38, 39, 40, 41, 42, 43, 44, 45, 46, 47, 48, 49, 50, 51, 52, 53, 54, 55, 56, 57, 58, 59, 60, 61, 62, 63, 64, 65, 66, 67, 68, 69, 70, 71, 72, 73, 74, 75, 76, 77, 78, 79, 80, 81, 82, 83, 84, 85, 86, 87, 88, 89, 90, 91, 92, 93, 94, 95, 96, 97, 98, 99, 100, 101, 102, 103, 104, 105, 106, 107, 108, 109, 110, 111, 112, 113, 114, 115, 116, 117, 118, 119, 120, 121, 122, 123, 124, 125, 126, 127, 128, 129, 130, 131, 132, 133, 134, 135, 136, 137, 138, 139, 140, 141, 142, 143, 144, 145, 146, 147, 148, 149, 150, 151, 152, 153, 154, 155, 156, 157, 158, 159, 160, 161, 162] rfl (by decide +kernel)
set_option maxRecDepth 20000 in
theorem gX13_deepestOf_X13_isSure : GoodIn wsX13_deepestOf (wsV RX13 451 RX13 yX13_isSure wsX13_isSure) := goodIn_app (goodIn_of _ (by decide +kernel)) ggX13_deepestOf_X13_isSure
set_option maxHeartbeats 4000000 in
set_option maxRecDepth 100000 in
theorem S_X13_deepestOf (l : Launch) (D : va_G) (K : Nat → ClassId) (a : Nat → Nat) (G : gS) (p0 : Int32) (s0 : Int) (p1 : Int32) (s1 : Int) (e0 : p0.toInt = s0) (h0 : 0 ≤ s0 ∧ s0 ≤ 5) (e1 : p1.toInt = s1) (h1 : 0 ≤ s1 ∧ s1 ≤ 9) (wf : yW3 G) (dl : ((G 0 32).toInt ≤ 6)) (hI : yI G) (sz : Nat) : Ki l yX13_deepestOf wsX13_deepestOf 8 229 0 0 D [.ref (a 0), .int p0, .int p1] (yW K a G) (tK K) sz (fun (r : Int32) (G' : gS) => (yI G') ∧ (gu_un ycd [29, 33, 36, 37, 1300, 1400, 1500, 1600, 1700, 1800, 1900, 2000, 2100] G G') ∧ ((-1) ≤ r.toInt ∧ r.toInt ≤ 20) ∧ (yNh G G') ∧ ((∀ (Q : gS) (C : Nat → List Int), ySq G Q C → s0 < (G 3 1).toInt → 1 ≤ s1 → s1 ≤ 9 → dpR (fun f : Int => pvAr Q s0 s1 f ∧ pvA Q C (G 14) (G 0 28) s0 p1 (Int32.ofInt f) (Q 0 9)) 0 r.toInt)) ∧ (((G' 0 32).toInt = (G 0 32).toInt))) (fun (G' : gS) => (yW K a G')) (fun _ => (tK K)) := by
  unfold Ki
  refine g_ofW (cc := cX13_deepestOf) (lv := [(0, .ref (a 0)), (1, .int p0), (2, .int p1)]) (by decide) rfl (Nat.le_of_ble_eq_true rfl) rfl ?_
  intro p e s m args below meth c A Q hA hQ F hr hnm
  have hts := F.2.2.2.2.1
  have b1 : (0 : Int) ≤ (G 0 32).toInt ∧ (G 0 32).toInt ≤ 7 := hI 0 32
  have b2 : (4 : Int) ≤ (G 3 0).toInt ∧ (G 3 0).toInt ≤ 16 := hI 3 0
  have b3 : (1 : Int) ≤ (G 3 1).toInt ∧ (G 3 1).toInt ≤ 6 := hI 3 1
  have J_3 : ∀ (fuel : Nat) (x3_3 : Int32) (Gj3 : gS), (x3_3.toInt + 2147483648).toNat < fuel → (0 ≤ x3_3.toInt ∧ x3_3.toInt ≤ 20) → (yI Gj3) → (gu_un ycd [29, 33, 36, 37, 1300, 1400, 1500, 1600, 1700, 1800, 1900, 2000, 2100] G Gj3) → (∀ (Q : gS) (C : Nat → List Int), ySq G Q C → s0 < (G 3 1).toInt → ∀ f : Int, x3_3.toInt < f → f ≤ 20 → ¬ (pvAr Q s0 s1 f ∧ pvA Q C (G 14) (G 0 28) s0 p1 (Int32.ofInt f) (Q 0 9))) → (((Gj3 0 32).toInt = (G 0 32).toInt)) → (yNh G Gj3) → gG p l e (gR 8 0 0 229) s m args below meth c D A 4 Q 0 0 (yW K a Gj3) (tK K) [(0, .ref (a 0)), (1, .int p0), (2, .int p1), (3, .int x3_3)] 3 [] := by
    intro fuel
    induction fuel with
    | zero => intro x3_3 Gj3 hm; exact absurd hm (Nat.not_lt_zero _)
    | succ fuel_3 ih_3 =>
      intro x3_3 Gj3 hm_3 h3_3 jI3 jU3 yd3 dc_3 nh3
      refine g_iload_n F 3 dX13_deepestOf_3 rfl rfl ?_
      refine v_if_le F 25 dX13_deepestOf_4 (by decide) x3_3.toInt rfl (fun c4 => ?_) (fun c4 => ?_)
      · refine g_iconst F (-1) dX13_deepestOf_25 (by decide) ?_
        have b5 : (0 : Int) ≤ (Gj3 0 32).toInt ∧ (Gj3 0 32).toInt ≤ 7 := jI3 0 32
        exact u_iret F hA hQ hr Gj3 (⟨jI3, (gu_un.tr gu_un.rf (gu_un.su jU3 rfl)), (by decide), (nh3), (fun Q C hq hr h1 h9 => Or.inl ⟨by decide, fun f a b c => yd3 Q C hq hr f (by omega) c⟩), (by show ((Gj3 0 32).toInt = (G 0 32).toInt); (first | omega | (simp only [Int32.reduceToInt, true_and, and_true, ne_eq, not_true_eq_false, false_and, or_false, false_or, true_or, or_true, false_implies] <;> omega)))⟩) rfl rfl dX13_deepestOf_26
      · refine g_aload_n F 0 dX13_deepestOf_7 rfl rfl ?_
        refine g_iload_n F 1 dX13_deepestOf_8 rfl rfl ?_
        refine g_iload_n F 2 dX13_deepestOf_9 rfl rfl ?_
        refine g_iload_n F 3 dX13_deepestOf_10 rfl rfl ?_
        have b6 : (0 : Int) ≤ (Gj3 0 32).toInt ∧ (Gj3 0 32).toInt ≤ 7 := jI3 0 32
        refine u_callVi (k := 0) (n := 0) (b := a 0) (As := [.int p0, .int p1, .int x3_3]) (st := []) F (fun sz => S_X13_isSure l D K a Gj3 p0 s0 p1 s1 x3_3 x3_3.toInt e0 (by omega) e1 (by omega) rfl (by omega) (yW3.un wf (show gu_un ycd [29, 33, 36, 37, 1300, 1400, 1500, 1600, 1700, 1800, 1900, 2000, 2100] G Gj3 from (gu_un.tr gu_un.rf (gu_un.su jU3 rfl))) rfl) (by (first | omega | (simp only [Int32.reduceToInt, true_and, and_true, ne_eq, not_true_eq_false, false_and, or_false, false_or, true_or, or_true, false_implies] <;> omega))) jI3 sz) (cwV 3 hts gX13_deepestOf_X13_isSure rfl rfl rfl (by decide +kernel) ⟨Nat.le_of_ble_eq_true rfl, Nat.le_of_ble_eq_true rfl⟩) rfl 0 yc_0 rfl (Nat.le_of_ble_eq_true rfl) ⟨Nat.zero_le _, Nat.zero_le _⟩ dX13_deepestOf_11 (fun r7 G9 hw8 => ?_)
        have hI10 : yI G9 := hw8.1
        have hU11 : gu_un ycd [29, 33, 36, 37, 1300, 1400, 1500, 1600, 1700, 1800, 1900, 2000, 2100] Gj3 G9 := hw8.2.1
        have hp12 := hw8.2.2
        have q13 : yNh Gj3 G9 := hp12.2.1
        have q14 : (∀ (Q : gS) (C : Nat → List Int), ySq Gj3 Q C → s0 < (G 3 1).toInt → ((r7.toInt = 1 ∧ pvA Q C (Gj3 14) (Gj3 0 28) s0 p1 x3_3 (Q 0 9)) ∨ (r7.toInt = 0 ∧ ¬ pvA Q C (Gj3 14) (Gj3 0 28) s0 p1 x3_3 (Q 0 9)))) := by have h9 := hp12.2.2.1; (try simp only [(show Gj3 3 1 = (G 3 1) from jU3 3 1 (by decide))] at h9); first | exact h9 | omega
        have b15 : (0 : Int) ≤ (G9 0 32).toInt ∧ (G9 0 32).toInt ≤ 7 := hI10 0 32
        have q16 : ((G9 0 32).toInt = (Gj3 0 32).toInt) := hp12.2.2.2
        have rg17 := hp12.1
        clear hp12 hw8
        refine v_if_eq F 19 dX13_deepestOf_14 (by decide) r7.toInt rfl (fun c18 => ?_) (fun c18 => ?_)
        · refine u_iinc F (fun v_ => [(3, .int v_), (0, .ref (a 0)), (1, .int p0), (2, .int p1)]) dX13_deepestOf_19 (j := 3) rfl x3_3.toInt (-1) rfl rfl (by omega) (by omega) (by decide) (fun _ => rfl) (fun y19 ey19 => ?_)
          refine g_goto F 3 dX13_deepestOf_22 (by decide) ?_
          refine g_locals [(0, .ref (a 0)), (1, .int p0), (2, .int p1), (3, .int y19)] [1, 2, 3, 0] rfl ?_
          exact ih_3 y19 G9 (by omega) (by have h9 := ti_rng y19; omega) hI10 (gu_un.tr (gu_un.tr gu_un.rf (gu_un.su jU3 rfl)) (gu_un.su hU11 rfl)) (fun Q C hq hr f h1 h2 => by have nh9 : yNh G Gj3 := nh3; have qa9 := q14 Q C (ySq.un hq (show gu_un ycd [29, 33, 36, 37, 1300, 1400, 1500, 1600, 1700, 1800, 1900, 2000, 2100] G Gj3 from (gu_un.tr gu_un.rf (gu_un.su jU3 rfl))) rfl) (by first | omega | (rw [(show Gj3 3 1 = G 3 1 from (show gu_un ycd [29, 33, 36, 37, 1300, 1400, 1500, 1600, 1700, 1800, 1900, 2000, 2100] G Gj3 from (gu_un.tr gu_un.rf (gu_un.su jU3 rfl))) 3 1 (by decide))]; omega)); rw [pvA_eq (h := Gj3 14) (g := G 14) nh9.1 (by omega) (by omega) (by rw [hq.1 1 (by decide) (by decide)]; omega) (by rw [hq.1 0 (by decide) (by decide)]; omega), nh9.2.1] at qa9; by_cases e9 : f = x3_3.toInt <;> first | (rcases qa9 with ⟨a1, a2⟩ | ⟨a1, a2⟩ <;> first | (exfalso; omega) | (rw [e9, Int32.ofInt_toInt]; exact fun h => a2 h.2)) | exact yd3 Q C hq hr f (by omega) h2) (by (first | omega | (simp only [Int32.reduceToInt, true_and, and_true, ne_eq, not_true_eq_false, false_and, or_false, false_or, true_or, or_true, false_implies] <;> omega))) ((yNh.tr (show yNh G Gj3 from nh3) (show yNh Gj3 G9 from q13)))
        · refine g_iload_n F 3 dX13_deepestOf_17 rfl rfl ?_
          exact u_iret F hA hQ hr G9 (⟨hI10, (gu_un.tr (gu_un.tr gu_un.rf (gu_un.su jU3 rfl)) (gu_un.su hU11 rfl)), (by have h9 := ti_rng x3_3; omega), ((yNh.tr (show yNh G Gj3 from nh3) (show yNh Gj3 G9 from q13))), (fun Q C hq hr h1 h9 => Or.inr ⟨by omega, by omega, by omega, by have nh9 : yNh G Gj3 := nh3; have qa9 := q14 Q C (ySq.un hq (show gu_un ycd [29, 33, 36, 37, 1300, 1400, 1500, 1600, 1700, 1800, 1900, 2000, 2100] G Gj3 from (gu_un.tr gu_un.rf (gu_un.su jU3 rfl))) rfl) (by first | omega | (rw [(show Gj3 3 1 = G 3 1 from (show gu_un ycd [29, 33, 36, 37, 1300, 1400, 1500, 1600, 1700, 1800, 1900, 2000, 2100] G Gj3 from (gu_un.tr gu_un.rf (gu_un.su jU3 rfl))) 3 1 (by decide))]; omega)); rw [pvA_eq (h := Gj3 14) (g := G 14) nh9.1 (by omega) (by omega) (by rw [hq.1 1 (by decide) (by decide)]; omega) (by rw [hq.1 0 (by decide) (by decide)]; omega), nh9.2.1] at qa9; rcases qa9 with ⟨a1, a2⟩ | ⟨a1, a2⟩ <;> first | (exfalso; omega) | exact ⟨by unfold pvAr; rw [hq.1 1 (by decide) (by decide)]; omega, by rw [Int32.ofInt_toInt]; exact a2⟩, fun f a b => yd3 Q C hq hr f a b⟩), (by show ((G9 0 32).toInt = (G 0 32).toInt); (first | omega | (simp only [Int32.reduceToInt, true_and, and_true, ne_eq, not_true_eq_false, false_and, or_false, false_or, true_or, or_true, false_implies] <;> omega)))⟩) rfl rfl dX13_deepestOf_18
  refine g_bipush F 20 dX13_deepestOf_0 (by decide) ?_
  refine g_istore_n F [(3, .int 20), (0, .ref (a 0)), (1, .int p0), (2, .int p1)] dX13_deepestOf_2 rfl (by decide) rfl ?_
  refine g_locals [(0, .ref (a 0)), (1, .int p0), (2, .int p1), (3, .int 20)] [1, 2, 3, 0] rfl ?_
  exact J_3 _ 20 G (Nat.lt_succ_self _) (by decide) hI gu_un.rf (fun Q C hq hr f h1 h2 => by have h3 : (20 : Int) < f := h1; omega) (by (first | omega | (simp only [Int32.reduceToInt, true_and, and_true, ne_eq, not_true_eq_false, false_and, or_false, false_or, true_or, or_true, false_implies] <;> omega))) (yNh.rf)

theorem dX13_deepest_0 : decode cX13_deepest 0 = .ok (.aload_n 0, 1) := by decide +kernel
theorem dX13_deepest_1 : decode cX13_deepest 1 = .ok (.iload_n 1, 1) := by decide +kernel
theorem dX13_deepest_2 : decode cX13_deepest 2 = .ok (.invokevirtual 367, 3) := by decide +kernel
theorem dX13_deepest_5 : decode cX13_deepest 5 = .ok (.ifCond .eq 24, 3) := by decide +kernel
theorem dX13_deepest_8 : decode cX13_deepest 8 = .ok (.iload_n 2, 1) := by decide +kernel
theorem dX13_deepest_9 : decode cX13_deepest 9 = .ok (.i2l, 1) := by decide +kernel
theorem dX13_deepest_10 : decode cX13_deepest 10 = .ok (.lconst 1, 1) := by decide +kernel
theorem dX13_deepest_11 : decode cX13_deepest 11 = .ok (.ldc2_w 422, 3) := by decide +kernel
theorem dX13_deepest_14 : decode cX13_deepest 14 = .ok (.invokestatic 61, 3) := by decide +kernel
theorem dX13_deepest_17 : decode cX13_deepest 17 = .ok (.ifCond .eq 12, 3) := by decide +kernel
theorem dX13_deepest_20 : decode cX13_deepest 20 = .ok (.aload_n 0, 1) := by decide +kernel
theorem dX13_deepest_21 : decode cX13_deepest 21 = .ok (.iload_n 1, 1) := by decide +kernel
theorem dX13_deepest_22 : decode cX13_deepest 22 = .ok (.iload_n 2, 1) := by decide +kernel
theorem dX13_deepest_23 : decode cX13_deepest 23 = .ok (.invokevirtual 454, 3) := by decide +kernel
theorem dX13_deepest_26 : decode cX13_deepest 26 = .ok (.goto 5, 3) := by decide +kernel
theorem dX13_deepest_29 : decode cX13_deepest 29 = .ok (.bipush (-2), 2) := by decide +kernel
theorem dX13_deepest_31 : decode cX13_deepest 31 = .ok (.ireturn, 1) := by decide +kernel
set_option maxRecDepth 20000 in
theorem ggX13_deepest_X13_deepestOf : GoodIn wsX13_deepest wsX13_deepestOf := goodIn_r _ [14, 15, 16, 17, 5, 18, 7, 19, 20, 21, 22, 23, 24, 25, 26, 27, 28, 29, 30, 31, 32, 33, 34, 35, 36, 37, 38, 39, 40, 41, 42, 43, 44, 45, 46, 47, 48, 49, 50, 51, 52, 53, 54, 55, 56, 57, 58, 59, 60, 61, 62, 63, 64, 65, 66, 67, 68, 69, 70, 71, 72, 73, 74, 75, 76, 77, 78, 79, 80, 81, 82, 83, 84, 85, 86, 87, 88, 89, 90, 91, 92, 93, 94, 95, 96, 97, 98, 99, 100, 101, 102, 103, 104, 105, 106, 107, 108, 109, 110, 111, 112, 113, 114, 115, 116, 117, 118, 119, 120, 121, 122, 123, 124, 125, 126, 127, 128, 129, 130, 131, 132, 133, 134, 135, 136, 137, 138, 139, 140, 141, 142, 143, 144, 145, 146, 147, 148, 149, 150, 151, 152, 153, 154, 155, 156, 157, 158, 159, 160, 161, 162, 163, 164, 165, 166, 167, 168, 169, 170, 171, 172, 173, 174] rfl (by decide +kernel)
set_option maxRecDepth 20000 in
theorem gX13_deepest_X13_deepestOf : GoodIn wsX13_deepest (wsV RX13 454 RX13 yX13_deepestOf wsX13_deepestOf) := goodIn_app (goodIn_of _ (by decide +kernel)) ggX13_deepest_X13_deepestOf
set_option maxRecDepth 20000 in
theorem ggX13_deepest_X13_in : GoodIn wsX13_deepest wsX13_in := goodIn_r _ [10] rfl (by decide +kernel)
set_option maxRecDepth 20000 in
theorem gX13_deepest_X13_in : GoodIn wsX13_deepest (va_wsS RX13 61 yX13_in wsX13_in) := goodIn_app (goodIn_of _ (by decide +kernel)) ggX13_deepest_X13_in
set_option maxRecDepth 20000 in
theorem ggX13_deepest_X13_isRing : GoodIn wsX13_deepest wsX13_isRing := goodIn_r _ [6, 7, 8, 9, 5, 10, 102, 103, 104, 105, 106, 107, 108, 109, 110, 111, 112, 113, 114, 115, 116, 117, 118, 119, 120, 121, 122, 123, 124, 125, 126, 127, 128, 129, 130, 131, 132, 133, 134, 135, 136, 137, 138, 139, 140, 141, 142, 143, 144, 145, 146, 147, 148, 149, 150, 151, 152, 153, 154, 155, 156, 157, 158, 159, 160, 161, 162, 163, 164, 165, 166, 167, 168, 169, 170, 171, 172, 173, 174] rfl (by decide +kernel)
set_option maxRecDepth 20000 in
theorem gX13_deepest_X13_isRing : GoodIn wsX13_deepest (wsV RX13 367 RX13 yX13_isRing wsX13_isRing) := goodIn_app (goodIn_of _ (by decide +kernel)) ggX13_deepest_X13_isRing
set_option maxHeartbeats 4000000 in
set_option maxRecDepth 100000 in
theorem S_X13_deepest (l : Launch) (D : va_G) (K : Nat → ClassId) (a : Nat → Nat) (G : gS) (p0 : Int32) (s0 : Int) (p1 : Int32) (s1 : Int) (e0 : p0.toInt = s0) (e1 : p1.toInt = s1) (wf : yW3 G) (dl : ((G 0 32).toInt ≤ 6)) (hI : yI G) (sz : Nat) : Ki l yX13_deepest wsX13_deepest 9 252 0 0 D [.ref (a 0), .int p0, .int p1] (yW K a G) (tK K) sz (fun (r : Int32) (G' : gS) => (yI G') ∧ (gu_un ycd [29, 33, 36, 37, 1300, 1400, 1500, 1600, 1700, 1800, 1900, 2000, 2100] G G') ∧ ((-2) ≤ r.toInt ∧ r.toInt ≤ 20) ∧ (yNh G G') ∧ ((∀ (Q : gS) (C : Nat → List Int), ySq G Q C → ((r.toInt = -2 ∧ ¬ (0 ≤ s0 ∧ s0 < (G 3 1).toInt ∧ 1 ≤ s1 ∧ s1 ≤ 9)) ∨ ((0 ≤ s0 ∧ s0 < (G 3 1).toInt ∧ 1 ≤ s1 ∧ s1 ≤ 9) ∧ dpR (fun f : Int => pvAr Q s0 s1 f ∧ pvA Q C (G 14) (G 0 28) s0 p1 (Int32.ofInt f) (Q 0 9)) 0 r.toInt)))) ∧ (((G' 0 32).toInt = (G 0 32).toInt))) (fun (G' : gS) => (yW K a G')) (fun _ => (tK K)) := by
  unfold Ki
  refine g_ofW (cc := cX13_deepest) (lv := [(0, .ref (a 0)), (1, .int p0), (2, .int p1)]) (by decide) rfl (Nat.le_of_ble_eq_true rfl) rfl ?_
  intro p e s m args below meth c A Q hA hQ F hr hnm
  have hts := F.2.2.2.2.1
  have w_0 : (Cond.constantLong RX13 422 (9)).before args s = true := hts _ (List.mem_of_getElem? (i := 1) rfl)
  have rg0 : -2147483648 ≤ s0 ∧ s0 ≤ 2147483647 := e0 ▸ ti_rng p0
  have rg1 : -2147483648 ≤ s1 ∧ s1 ≤ 2147483647 := e1 ▸ ti_rng p1
  have b1 : (0 : Int) ≤ (G 0 32).toInt ∧ (G 0 32).toInt ≤ 7 := hI 0 32
  have b2 : (4 : Int) ≤ (G 3 0).toInt ∧ (G 3 0).toInt ≤ 16 := hI 3 0
  have b3 : (1 : Int) ≤ (G 3 1).toInt ∧ (G 3 1).toInt ≤ 6 := hI 3 1
  refine g_aload_n F 0 dX13_deepest_0 rfl rfl ?_
  refine g_iload_n F 1 dX13_deepest_1 rfl rfl ?_
  refine u_callVi (k := 0) (n := 0) (b := a 0) (As := [.int p0]) (st := []) F (fun sz => S_X13_isRing l D K a G p0 s0 e0 hI sz) (cwV 1 hts gX13_deepest_X13_isRing rfl rfl rfl (by decide +kernel) ⟨Nat.le_of_ble_eq_true rfl, Nat.le_of_ble_eq_true rfl⟩) rfl 0 yc_0 rfl (Nat.le_of_ble_eq_true rfl) ⟨Nat.zero_le _, Nat.zero_le _⟩ dX13_deepest_2 (fun r4 _ hw5 => ?_)
  rcases hw5 with ⟨rfl, q7⟩ | ⟨rfl, q8⟩
  · have q7 : (0 ≤ s0 ∧ s0 < (G 3 1).toInt) := q7
    refine v_if_eq F 29 dX13_deepest_5 (by decide) 1 rfl (fun c9 => absurd c9 (by decide)) (fun c9 => ?_)
    refine g_iload_n F 2 dX13_deepest_8 rfl rfl ?_
    refine g_i2l F dX13_deepest_9 ?_
    refine g_lconst F 1 dX13_deepest_10 (by decide) ?_
    refine g_ldc2 F w_0 dX13_deepest_11 ?_
    refine u_call0 (k := 0) (n := 0) (As := [.long (Int32.toInt64 p1), .long 1, .long 9]) (st := []) F (fun sz => S_X13_in l D (Int32.toInt64 p1) s1 1 1 9 9 (ti_i2l e1) rfl rfl sz) (va_cwS 3 hts gX13_deepest_X13_in rfl rfl rfl (by decide +kernel) ⟨Nat.le_of_ble_eq_true rfl, Nat.le_of_ble_eq_true rfl⟩) rfl (Nat.le_of_ble_eq_true rfl) ⟨Nat.zero_le _, Nat.zero_le _⟩ dX13_deepest_14 (fun r10 _ hw11 => ?_)
    rcases hw11 with ⟨rfl, q13⟩ | ⟨rfl, q14⟩
    · refine v_if_eq F 29 dX13_deepest_17 (by decide) 1 rfl (fun c15 => absurd c15 (by decide)) (fun c15 => ?_)
      refine g_aload_n F 0 dX13_deepest_20 rfl rfl ?_
      refine g_iload_n F 1 dX13_deepest_21 rfl rfl ?_
      refine g_iload_n F 2 dX13_deepest_22 rfl rfl ?_
      refine u_callVi (k := 0) (n := 0) (b := a 0) (As := [.int p0, .int p1]) (st := []) F (fun sz => S_X13_deepestOf l D K a G p0 s0 p1 s1 e0 (by omega) e1 (by omega) (wf) (by (first | omega | (simp only [Int32.reduceToInt, true_and, and_true, ne_eq, not_true_eq_false, false_and, or_false, false_or, true_or, or_true, false_implies] <;> omega))) hI sz) (cwV 2 hts gX13_deepest_X13_deepestOf rfl rfl rfl (by decide +kernel) ⟨Nat.le_of_ble_eq_true rfl, Nat.le_of_ble_eq_true rfl⟩) rfl 0 yc_0 rfl (Nat.le_of_ble_eq_true rfl) ⟨Nat.zero_le _, Nat.zero_le _⟩ dX13_deepest_23 (fun r16 G18 hw17 => ?_)
      have hI19 : yI G18 := hw17.1
      have hU20 : gu_un ycd [29, 33, 36, 37, 1300, 1400, 1500, 1600, 1700, 1800, 1900, 2000, 2100] G G18 := hw17.2.1
      have hp21 := hw17.2.2
      have q22 : yNh G G18 := hp21.2.1
      have q23 : (∀ (Q : gS) (C : Nat → List Int), ySq G Q C → s0 < (G 3 1).toInt → 1 ≤ s1 → s1 ≤ 9 → dpR (fun f : Int => pvAr Q s0 s1 f ∧ pvA Q C (G 14) (G 0 28) s0 p1 (Int32.ofInt f) (Q 0 9)) 0 r16.toInt) := hp21.2.2.1
      have b24 : (0 : Int) ≤ (G18 0 32).toInt ∧ (G18 0 32).toInt ≤ 7 := hI19 0 32
      have q25 : ((G18 0 32).toInt = (G 0 32).toInt) := hp21.2.2.2
      have rg26 := hp21.1
      clear hp21 hw17
      refine g_goto F 31 dX13_deepest_26 (by decide) ?_
      exact u_iret F hA hQ hr G18 (⟨hI19, (gu_un.tr gu_un.rf (gu_un.su hU20 rfl)), (by have h9 := ti_rng r16; omega), ((yNh.tr (show yNh G G from yNh.rf) (show yNh G G18 from q22))), (fun Q C hq => Or.inr ⟨by omega, q23 Q C hq (by omega) (by omega) (by omega)⟩), (by show ((G18 0 32).toInt = (G 0 32).toInt); (first | omega | (simp only [Int32.reduceToInt, true_and, and_true, ne_eq, not_true_eq_false, false_and, or_false, false_or, true_or, or_true, false_implies] <;> omega)))⟩) rfl rfl dX13_deepest_31
    · refine v_if_eq F 29 dX13_deepest_17 (by decide) 0 rfl (fun c27 => ?_) (fun c27 => absurd c27 (by decide))
      refine g_bipush F (-2) dX13_deepest_29 (by decide) ?_
      exact u_iret F hA hQ hr G (⟨hI, gu_un.rf, (by decide), (yNh.rf), (fun Q C hq => Or.inl ⟨by decide, by omega⟩), (by show ((G 0 32).toInt = (G 0 32).toInt); (first | omega | (simp only [Int32.reduceToInt, true_and, and_true, ne_eq, not_true_eq_false, false_and, or_false, false_or, true_or, or_true, false_implies] <;> omega)))⟩) rfl rfl dX13_deepest_31
  · have q8 : (s0 < 0 ∨ (G 3 1).toInt ≤ s0) := q8
    refine v_if_eq F 29 dX13_deepest_5 (by decide) 0 rfl (fun c28 => ?_) (fun c28 => absurd c28 (by decide))
    refine g_bipush F (-2) dX13_deepest_29 (by decide) ?_
    exact u_iret F hA hQ hr G (⟨hI, gu_un.rf, (by decide), (yNh.rf), (fun Q C hq => Or.inl ⟨by decide, by omega⟩), (by show ((G 0 32).toInt = (G 0 32).toInt); (first | omega | (simp only [Int32.reduceToInt, true_and, and_true, ne_eq, not_true_eq_false, false_and, or_false, false_or, true_or, or_true, false_implies] <;> omega)))⟩) rfl rfl dX13_deepest_31
