theorem dX13_feedOf_0 : decode cX13_feedOf 0 = .ok (.iload_n 0, 1) := by decide +kernel
theorem dX13_feedOf_1 : decode cX13_feedOf 1 = .ok (.iconst 1, 1) := by decide +kernel
theorem dX13_feedOf_2 : decode cX13_feedOf 2 = .ok (.isub, 1) := by decide +kernel
theorem dX13_feedOf_3 : decode cX13_feedOf 3 = .ok (.bipush 20, 2) := by decide +kernel
theorem dX13_feedOf_5 : decode cX13_feedOf 5 = .ok (.irem, 1) := by decide +kernel
theorem dX13_feedOf_6 : decode cX13_feedOf 6 = .ok (.iconst 1, 1) := by decide +kernel
theorem dX13_feedOf_7 : decode cX13_feedOf 7 = .ok (.iadd, 1) := by decide +kernel
theorem dX13_feedOf_8 : decode cX13_feedOf 8 = .ok (.ireturn, 1) := by decide +kernel
set_option maxHeartbeats 4000000 in
set_option maxRecDepth 100000 in
theorem S_X13_feedOf_b200 (l : Launch) (D : va_G)  (p0 : Int32) (s0 : Int) (e0 : p0.toInt = s0) (h0 : 21 ≤ s0 ∧ s0 ≤ 200) (sz : Nat) : Ki l yX13_feedOf wsX13_feedOf 1 40 0 0 D [.int p0] [] [] sz (fun (r : Int32) (_ : Unit) => (1 ≤ r.toInt ∧ r.toInt ≤ 20) ∧ (r.toInt = ((s0 - 1) % 20 + 1))) (fun (_ : Unit) => []) (fun _ => []) := by
  unfold Ki
  refine g_ofW (cc := cX13_feedOf) (lv := [(0, .int p0)]) (by decide) rfl (Nat.le_of_ble_eq_true rfl) rfl ?_
  intro p e s m args below meth c A Q hA hQ F hr hnm
  have hts := F.2.2.2.2.1
  refine g_iload_n F 0 dX13_feedOf_0 rfl rfl ?_
  refine g_iconst F 1 dX13_feedOf_1 (by decide) ?_
  refine u_isub F dX13_feedOf_2 s0 1 e0 rfl (by omega) (by omega) (fun y1 ey1 => ?_)
  refine g_bipush F 20 dX13_feedOf_3 (by decide) ?_
  refine u_irem F dX13_feedOf_5 (by decide) y1.toInt 20 rfl rfl (by omega) (by omega) (fun y2 ey2 => ?_)
  refine g_iconst F 1 dX13_feedOf_6 (by decide) ?_
  refine u_iadd F dX13_feedOf_7 y2.toInt 1 rfl rfl (by omega) (by omega) (fun y3 ey3 => ?_)
  exact u_iret F hA hQ hr () (⟨(by have h9 := ti_rng y3; omega), (by omega)⟩) rfl rfl dX13_feedOf_8

theorem dX13_speedOf_0 : decode cX13_speedOf 0 = .ok (.iload_n 0, 1) := by decide +kernel
theorem dX13_speedOf_1 : decode cX13_speedOf 1 = .ok (.iconst 1, 1) := by decide +kernel
theorem dX13_speedOf_2 : decode cX13_speedOf 2 = .ok (.isub, 1) := by decide +kernel
theorem dX13_speedOf_3 : decode cX13_speedOf 3 = .ok (.bipush 20, 2) := by decide +kernel
theorem dX13_speedOf_5 : decode cX13_speedOf 5 = .ok (.idiv, 1) := by decide +kernel
theorem dX13_speedOf_6 : decode cX13_speedOf 6 = .ok (.ireturn, 1) := by decide +kernel
set_option maxHeartbeats 4000000 in
set_option maxRecDepth 100000 in
theorem S_X13_speedOf_b200 (l : Launch) (D : va_G)  (p0 : Int32) (s0 : Int) (e0 : p0.toInt = s0) (h0 : 21 ≤ s0 ∧ s0 ≤ 200) (sz : Nat) : Ki l yX13_speedOf wsX13_speedOf 1 40 0 0 D [.int p0] [] [] sz (fun (r : Int32) (_ : Unit) => (1 ≤ r.toInt ∧ r.toInt ≤ 9) ∧ (r.toInt = ((s0 - 1) / 20))) (fun (_ : Unit) => []) (fun _ => []) := by
  unfold Ki
  refine g_ofW (cc := cX13_speedOf) (lv := [(0, .int p0)]) (by decide) rfl (Nat.le_of_ble_eq_true rfl) rfl ?_
  intro p e s m args below meth c A Q hA hQ F hr hnm
  have hts := F.2.2.2.2.1
  refine g_iload_n F 0 dX13_speedOf_0 rfl rfl ?_
  refine g_iconst F 1 dX13_speedOf_1 (by decide) ?_
  refine u_isub F dX13_speedOf_2 s0 1 e0 rfl (by omega) (by omega) (fun y1 ey1 => ?_)
  refine g_bipush F 20 dX13_speedOf_3 (by decide) ?_
  refine u_idiv F dX13_speedOf_5 (by decide) y1.toInt 20 rfl rfl (by omega) (by omega) (fun y2 ey2 => ?_)
  exact u_iret F hA hQ hr () (⟨(by have h9 := ti_rng y2; omega), (by omega)⟩) rfl rfl dX13_speedOf_6

theorem dX13_pairOf_0 : decode cX13_pairOf 0 = .ok (.bipush 21, 2) := by decide +kernel
theorem dX13_pairOf_2 : decode cX13_pairOf 2 = .ok (.iload_n 0, 1) := by decide +kernel
theorem dX13_pairOf_3 : decode cX13_pairOf 3 = .ok (.imul, 1) := by decide +kernel
theorem dX13_pairOf_4 : decode cX13_pairOf 4 = .ok (.iload_n 1, 1) := by decide +kernel
theorem dX13_pairOf_5 : decode cX13_pairOf 5 = .ok (.iadd, 1) := by decide +kernel
theorem dX13_pairOf_6 : decode cX13_pairOf 6 = .ok (.ireturn, 1) := by decide +kernel
set_option maxHeartbeats 4000000 in
set_option maxRecDepth 100000 in
theorem S_X13_pairOf_b9_b20 (l : Launch) (D : va_G)  (p0 : Int32) (s0 : Int) (p1 : Int32) (s1 : Int) (e0 : p0.toInt = s0) (h0 : 1 ≤ s0 ∧ s0 ≤ 9) (e1 : p1.toInt = s1) (h1 : 1 ≤ s1 ∧ s1 ≤ 20) (sz : Nat) : Ki l yX13_pairOf wsX13_pairOf 1 40 0 0 D [.int p0, .int p1] [] [] sz (fun (r : Int32) (_ : Unit) => (22 ≤ r.toInt ∧ r.toInt ≤ 209) ∧ (r.toInt = (21 * s0 + s1))) (fun (_ : Unit) => []) (fun _ => []) := by
  unfold Ki
  refine g_ofW (cc := cX13_pairOf) (lv := [(0, .int p0), (1, .int p1)]) (by decide) rfl (Nat.le_of_ble_eq_true rfl) rfl ?_
  intro p e s m args below meth c A Q hA hQ F hr hnm
  have hts := F.2.2.2.2.1
  refine g_bipush F 21 dX13_pairOf_0 (by decide) ?_
  refine g_iload_n F 0 dX13_pairOf_2 rfl rfl ?_
  refine u_imul F dX13_pairOf_3 21 s0 rfl e0 (by omega) (by omega) (fun y1 ey1 => ?_)
  refine g_iload_n F 1 dX13_pairOf_4 rfl rfl ?_
  refine u_iadd F dX13_pairOf_5 y1.toInt s1 rfl e1 (by omega) (by omega) (fun y2 ey2 => ?_)
  exact u_iret F hA hQ hr () (⟨(by have h9 := ti_rng y2; omega), (by omega)⟩) rfl rfl dX13_pairOf_6

theorem dX13_isOn_0 : decode cX13_isOn 0 = .ok (.iload_n 2, 1) := by decide +kernel
theorem dX13_isOn_1 : decode cX13_isOn 1 = .ok (.invokestatic 475, 3) := by decide +kernel
theorem dX13_isOn_4 : decode cX13_isOn 4 = .ok (.istore_n 3, 1) := by decide +kernel
theorem dX13_isOn_5 : decode cX13_isOn 5 = .ok (.iload_n 2, 1) := by decide +kernel
theorem dX13_isOn_6 : decode cX13_isOn 6 = .ok (.invokestatic 481, 3) := by decide +kernel
theorem dX13_isOn_9 : decode cX13_isOn 9 = .ok (.istore 4, 2) := by decide +kernel
theorem dX13_isOn_11 : decode cX13_isOn 11 = .ok (.iload_n 3, 1) := by decide +kernel
theorem dX13_isOn_12 : decode cX13_isOn 12 = .ok (.iload_n 1, 1) := by decide +kernel
theorem dX13_isOn_13 : decode cX13_isOn 13 = .ok (.if_icmp .gt 31, 3) := by decide +kernel
theorem dX13_isOn_16 : decode cX13_isOn 16 = .ok (.aload_n 0, 1) := by decide +kernel
theorem dX13_isOn_17 : decode cX13_isOn 17 = .ok (.getfield 250, 3) := by decide +kernel
theorem dX13_isOn_20 : decode cX13_isOn 20 = .ok (.iload 4, 2) := by decide +kernel
theorem dX13_isOn_22 : decode cX13_isOn 22 = .ok (.iload_n 3, 1) := by decide +kernel
theorem dX13_isOn_23 : decode cX13_isOn 23 = .ok (.invokestatic 460, 3) := by decide +kernel
theorem dX13_isOn_26 : decode cX13_isOn 26 = .ok (.baload, 1) := by decide +kernel
theorem dX13_isOn_27 : decode cX13_isOn 27 = .ok (.ifCond .eq 17, 3) := by decide +kernel
theorem dX13_isOn_30 : decode cX13_isOn 30 = .ok (.aload_n 0, 1) := by decide +kernel
theorem dX13_isOn_31 : decode cX13_isOn 31 = .ok (.getfield 241, 3) := by decide +kernel
theorem dX13_isOn_34 : decode cX13_isOn 34 = .ok (.iload_n 1, 1) := by decide +kernel
theorem dX13_isOn_35 : decode cX13_isOn 35 = .ok (.iload_n 3, 1) := by decide +kernel
theorem dX13_isOn_36 : decode cX13_isOn 36 = .ok (.isub, 1) := by decide +kernel
theorem dX13_isOn_37 : decode cX13_isOn 37 = .ok (.iaload, 1) := by decide +kernel
theorem dX13_isOn_38 : decode cX13_isOn 38 = .ok (.ldc_w 391, 3) := by decide +kernel
theorem dX13_isOn_41 : decode cX13_isOn 41 = .ok (.if_icmp .lt 5, 3) := by decide +kernel
theorem dX13_isOn_44 : decode cX13_isOn 44 = .ok (.iconst 0, 1) := by decide +kernel
theorem dX13_isOn_45 : decode cX13_isOn 45 = .ok (.ireturn, 1) := by decide +kernel
theorem dX13_isOn_46 : decode cX13_isOn 46 = .ok (.aload_n 0, 1) := by decide +kernel
theorem dX13_isOn_47 : decode cX13_isOn 47 = .ok (.iload 4, 2) := by decide +kernel
theorem dX13_isOn_49 : decode cX13_isOn 49 = .ok (.invokevirtual 457, 3) := by decide +kernel
theorem dX13_isOn_52 : decode cX13_isOn 52 = .ok (.aload_n 0, 1) := by decide +kernel
theorem dX13_isOn_53 : decode cX13_isOn 53 = .ok (.getfield 241, 3) := by decide +kernel
theorem dX13_isOn_56 : decode cX13_isOn 56 = .ok (.iload_n 1, 1) := by decide +kernel
theorem dX13_isOn_57 : decode cX13_isOn 57 = .ok (.iload_n 3, 1) := by decide +kernel
theorem dX13_isOn_58 : decode cX13_isOn 58 = .ok (.isub, 1) := by decide +kernel
theorem dX13_isOn_59 : decode cX13_isOn 59 = .ok (.iaload, 1) := by decide +kernel
theorem dX13_isOn_60 : decode cX13_isOn 60 = .ok (.iadd, 1) := by decide +kernel
theorem dX13_isOn_61 : decode cX13_isOn 61 = .ok (.aload_n 0, 1) := by decide +kernel
theorem dX13_isOn_62 : decode cX13_isOn 62 = .ok (.getfield 241, 3) := by decide +kernel
theorem dX13_isOn_65 : decode cX13_isOn 65 = .ok (.iload_n 1, 1) := by decide +kernel
theorem dX13_isOn_66 : decode cX13_isOn 66 = .ok (.iaload, 1) := by decide +kernel
theorem dX13_isOn_67 : decode cX13_isOn 67 = .ok (.if_icmp .ne 26, 3) := by decide +kernel
theorem dX13_isOn_70 : decode cX13_isOn 70 = .ok (.iconst 1, 1) := by decide +kernel
theorem dX13_isOn_71 : decode cX13_isOn 71 = .ok (.aload_n 0, 1) := by decide +kernel
theorem dX13_isOn_72 : decode cX13_isOn 72 = .ok (.getfield 244, 3) := by decide +kernel
theorem dX13_isOn_75 : decode cX13_isOn 75 = .ok (.iload_n 1, 1) := by decide +kernel
theorem dX13_isOn_76 : decode cX13_isOn 76 = .ok (.iload_n 3, 1) := by decide +kernel
theorem dX13_isOn_77 : decode cX13_isOn 77 = .ok (.isub, 1) := by decide +kernel
theorem dX13_isOn_78 : decode cX13_isOn 78 = .ok (.iaload, 1) := by decide +kernel
theorem dX13_isOn_79 : decode cX13_isOn 79 = .ok (.iadd, 1) := by decide +kernel
theorem dX13_isOn_80 : decode cX13_isOn 80 = .ok (.aload_n 0, 1) := by decide +kernel
theorem dX13_isOn_81 : decode cX13_isOn 81 = .ok (.getfield 244, 3) := by decide +kernel
theorem dX13_isOn_84 : decode cX13_isOn 84 = .ok (.iload_n 1, 1) := by decide +kernel
theorem dX13_isOn_85 : decode cX13_isOn 85 = .ok (.iaload, 1) := by decide +kernel
theorem dX13_isOn_86 : decode cX13_isOn 86 = .ok (.if_icmp .ne 7, 3) := by decide +kernel
theorem dX13_isOn_89 : decode cX13_isOn 89 = .ok (.iconst 1, 1) := by decide +kernel
theorem dX13_isOn_90 : decode cX13_isOn 90 = .ok (.goto 4, 3) := by decide +kernel
theorem dX13_isOn_93 : decode cX13_isOn 93 = .ok (.iconst 0, 1) := by decide +kernel
theorem dX13_isOn_94 : decode cX13_isOn 94 = .ok (.ireturn, 1) := by decide +kernel
set_option maxRecDepth 20000 in
theorem ggX13_isOn_X13_feedOf : GoodIn wsX13_isOn wsX13_feedOf := goodIn_r _ [8] rfl (by decide +kernel)
set_option maxRecDepth 20000 in
theorem gX13_isOn_X13_feedOf : GoodIn wsX13_isOn (va_wsS RX13 475 yX13_feedOf wsX13_feedOf) := goodIn_app (goodIn_of _ (by decide +kernel)) ggX13_isOn_X13_feedOf
set_option maxRecDepth 20000 in
theorem ggX13_isOn_X13_pairOf : GoodIn wsX13_isOn wsX13_pairOf := goodIn_r _ [14] rfl (by decide +kernel)
set_option maxRecDepth 20000 in
theorem gX13_isOn_X13_pairOf : GoodIn wsX13_isOn (va_wsS RX13 460 yX13_pairOf wsX13_pairOf) := goodIn_app (goodIn_of _ (by decide +kernel)) ggX13_isOn_X13_pairOf
set_option maxRecDepth 20000 in
theorem ggX13_isOn_X13_speedOf : GoodIn wsX13_isOn wsX13_speedOf := goodIn_r _ [11] rfl (by decide +kernel)
set_option maxRecDepth 20000 in
theorem gX13_isOn_X13_speedOf : GoodIn wsX13_isOn (va_wsS RX13 481 yX13_speedOf wsX13_speedOf) := goodIn_app (goodIn_of _ (by decide +kernel)) ggX13_isOn_X13_speedOf
set_option maxRecDepth 20000 in
theorem ggX13_isOn_X13_timeOf : GoodIn wsX13_isOn wsX13_timeOf := goodIn_r _ [18, 19, 20, 21, 22, 23, 24, 25, 26, 27, 28, 29, 30, 31, 32, 33, 34, 35, 36, 37, 38, 39, 40, 41, 42, 43, 44, 45, 46, 47, 48, 49, 50, 51, 52, 53, 54, 55, 56, 57, 58, 59, 60, 61, 62, 63, 64, 65, 66, 67, 68, 69, 70, 71, 72, 73, 74, 75, 76, 77, 78, 79, 80, 81, 82, 83, 84, 85, 86, 87, 88, 89, 90, 91, 92, 93] rfl (by decide +kernel)
set_option maxRecDepth 20000 in
theorem gX13_isOn_X13_timeOf : GoodIn wsX13_isOn (wsV RX13 457 RX13 yX13_timeOf wsX13_timeOf) := goodIn_app (goodIn_of _ (by decide +kernel)) ggX13_isOn_X13_timeOf
set_option maxHeartbeats 4000000 in
set_option maxRecDepth 100000 in
theorem S_X13_isOn (l : Launch) (D : va_G) (K : Nat → ClassId) (a : Nat → Nat) (G : gS) (p0 : Int32) (s0 : Int) (p1 : Int32) (s1 : Int) (e0 : p0.toInt = s0) (h0 : 0 ≤ s0 ∧ s0 ≤ 400) (e1 : p1.toInt = s1) (h1 : 21 ≤ s1 ∧ s1 ≤ 200) (hI : yI G) (sz : Nat) : Ki l yX13_isOn wsX13_isOn 2 63 0 0 D [.ref (a 0), .int p0, .int p1] (yW K a G) (tK K) sz (fun (r : Int32) (_ : Unit) => ((r = 1 ∧ yOn (G 3) (G 7) (G 26) (G 23) (G 24) s0 ((s1 - 1) % 20 + 1) ((s1 - 1) / 20)) ∨ (r = 0 ∧ ¬ (yOn (G 3) (G 7) (G 26) (G 23) (G 24) s0 ((s1 - 1) % 20 + 1) ((s1 - 1) / 20))))) (fun (_ : Unit) => (yW K a G)) (fun _ => (tK K)) := by
  unfold Ki
  refine g_ofW (cc := cX13_isOn) (lv := [(0, .ref (a 0)), (1, .int p0), (2, .int p1)]) (by decide) rfl (Nat.le_of_ble_eq_true rfl) rfl ?_
  intro p e s m args below meth c A Q hA hQ F hr hnm
  have hts := F.2.2.2.2.1
  have w_0 : (Cond.fieldLink RX13 250 "QuietCutModel" "isQuiet" "[Z").before args s = true := hts _ (List.mem_of_getElem? (i := 1) rfl)
  have i_X13 : ∀ w ∈ u_ws RX13 TX13 73, w ∈ wsX13_isOn := fun _ h => List.mem_cons_of_mem _ (List.mem_append_right _ h)
  have w_1 : (Cond.fieldLink RX13 241 "QuietCutModel" "planTime" "[I").before args s = true := hts _ (List.mem_of_getElem? (i := 2) rfl)
  have w_2 : (Cond.constant RX13 391 (1000000000)).before args s = true := hts _ (List.mem_of_getElem? (i := 3) rfl)
  have w_3 : (Cond.fieldLink RX13 244 "QuietCutModel" "planMany" "[I").before args s = true := hts _ (List.mem_of_getElem? (i := 4) rfl)
  refine g_iload_n F 2 dX13_isOn_0 rfl rfl ?_
  refine u_call0 (k := 0) (n := 0) (As := [.int p1]) (st := []) F (fun sz => S_X13_feedOf_b200 l D p1 s1 e1 (by omega) sz) (va_cwS 1 hts gX13_isOn_X13_feedOf rfl rfl rfl (by decide +kernel) ⟨Nat.le_of_ble_eq_true rfl, Nat.le_of_ble_eq_true rfl⟩) rfl (Nat.le_of_ble_eq_true rfl) ⟨Nat.zero_le _, Nat.zero_le _⟩ dX13_isOn_1 (fun r1 _ hw2 => ?_)
  have q4 : (r1.toInt = ((s1 - 1) % 20 + 1)) := hw2.2
  have rg5 := hw2.1
  have rg6 := hw2.2
  clear hw2
  refine g_istore_n F [(3, .int r1), (0, .ref (a 0)), (1, .int p0), (2, .int p1)] dX13_isOn_4 rfl (by decide) rfl ?_
  refine g_iload_n F 3 dX13_isOn_5 rfl rfl ?_
  refine u_call0 (k := 0) (n := 0) (As := [.int p1]) (st := []) F (fun sz => S_X13_speedOf_b200 l D p1 s1 e1 (by omega) sz) (va_cwS 1 hts gX13_isOn_X13_speedOf rfl rfl rfl (by decide +kernel) ⟨Nat.le_of_ble_eq_true rfl, Nat.le_of_ble_eq_true rfl⟩) rfl (Nat.le_of_ble_eq_true rfl) ⟨Nat.zero_le _, Nat.zero_le _⟩ dX13_isOn_6 (fun r7 _ hw8 => ?_)
  have q10 : (r7.toInt = ((s1 - 1) / 20)) := hw8.2
  have rg11 := hw8.1
  have rg12 := hw8.2
  clear hw8
  refine g_istore F [(4, .int r7), (3, .int r1), (0, .ref (a 0)), (1, .int p0), (2, .int p1)] dX13_isOn_9 (by decide) rfl ?_
  refine g_iload_n F 1 dX13_isOn_11 rfl rfl ?_
  refine g_iload_n F 3 dX13_isOn_12 rfl rfl ?_
  refine v_icmp_gt F 44 dX13_isOn_13 (by decide) r1.toInt s0 rfl e0 (fun c13 => ?_) (fun c13 => ?_)
  · refine g_iconst F 0 dX13_isOn_44 (by decide) ?_
    exact u_zret F hA hQ hr rfl () ((Or.inr (⟨rfl, by intro h9; unfold yOn at h9; omega⟩))) rfl rfl dX13_isOn_45
  · refine g_aload_n F 2 dX13_isOn_16 rfl rfl ?_
    refine yg_0_41 F i_X13 w_0 dX13_isOn_17 ?_
    refine g_iload F 0 dX13_isOn_20 rfl ?_
    refine g_iload_n F 1 dX13_isOn_22 rfl rfl ?_
    refine u_call0 (k := 0) (n := 0) (As := [.int r7, .int r1]) (st := [.ref (a 26)]) F (fun sz => S_X13_pairOf_b9_b20 l D r7 r7.toInt r1 r1.toInt rfl (by omega) rfl (by omega) sz) (va_cwS 2 hts gX13_isOn_X13_pairOf rfl rfl rfl (by decide +kernel) ⟨Nat.le_of_ble_eq_true rfl, Nat.le_of_ble_eq_true rfl⟩) rfl (Nat.le_of_ble_eq_true rfl) ⟨Nat.zero_le _, Nat.zero_le _⟩ dX13_isOn_23 (fun r14 _ hw15 => ?_)
    have q17 : (r14.toInt = (21 * r7.toInt + r1.toInt)) := hw15.2
    have rg18 := hw15.1
    have rg19 := hw15.2
    clear hw15
    refine u1_zald F 26 3 yc_26 rfl r14.toInt rfl (by omega) (by omega) dX13_isOn_26 ((G 26) (((21 * (((s1 - 1) / 20)) + (((s1 - 1) % 20 + 1))))).toNat) (by rw [show r14.toInt = ((21 * (((s1 - 1) / 20)) + (((s1 - 1) % 20 + 1)))) by omega] <;> rfl) ?_
    have b20 : (0 : Int) ≤ ((G 26) (((21 * (((s1 - 1) / 20)) + (((s1 - 1) % 20 + 1))))).toNat).toInt ∧ ((G 26) (((21 * (((s1 - 1) / 20)) + (((s1 - 1) % 20 + 1))))).toNat).toInt ≤ 1 := hI 26 _
    refine v_if_eq F 44 dX13_isOn_27 (by decide) ((G 26) (((21 * (((s1 - 1) / 20)) + (((s1 - 1) % 20 + 1))))).toNat).toInt rfl (fun c21 => ?_) (fun c21 => ?_)
    · refine g_iconst F 0 dX13_isOn_44 (by decide) ?_
      exact u_zret F hA hQ hr rfl () ((Or.inr (⟨rfl, by intro h9; unfold yOn at h9; omega⟩))) rfl rfl dX13_isOn_45
    · refine g_aload_n F 2 dX13_isOn_30 rfl rfl ?_
      refine yg_0_38 F i_X13 w_1 dX13_isOn_31 ?_
      refine g_iload_n F 3 dX13_isOn_34 rfl rfl ?_
      refine g_iload_n F 1 dX13_isOn_35 rfl rfl ?_
      refine u_isub F dX13_isOn_36 s0 r1.toInt e0 rfl (by omega) (by omega) (fun y22 ey22 => ?_)
      refine u1_iald F 23 0 yc_23 rfl y22.toInt rfl (by omega) (by omega) dX13_isOn_37 ((G 23) ((s0 - (((s1 - 1) % 20 + 1)))).toNat) (by rw [show y22.toInt = (s0 - (((s1 - 1) % 20 + 1))) by omega] <;> rfl) ?_
      refine g_ldcw F w_2 dX13_isOn_38 ?_
      refine v_icmp_lt F 46 dX13_isOn_41 (by decide) ((G 23) ((s0 - (((s1 - 1) % 20 + 1)))).toNat).toInt 1000000000 rfl rfl (fun c23 => ?_) (fun c23 => ?_)
      · refine g_aload_n F 2 dX13_isOn_46 rfl rfl ?_
        refine g_iload F 0 dX13_isOn_47 rfl ?_
        refine u_callVi (k := 0) (n := 0) (b := a 0) (As := [.int r7]) (st := []) F (fun sz => S_X13_timeOf_b9 l D K a G r7 r7.toInt rfl (by omega) hI sz) (cwV 1 hts gX13_isOn_X13_timeOf rfl rfl rfl (by decide +kernel) ⟨Nat.le_of_ble_eq_true rfl, Nat.le_of_ble_eq_true rfl⟩) rfl 0 yc_0 rfl (Nat.le_of_ble_eq_true rfl) ⟨Nat.zero_le _, Nat.zero_le _⟩ dX13_isOn_49 (fun r24 _ hw25 => ?_)
        have q27 : (r24.toInt = (yT (G 3) (G 7) r7.toInt).toInt) := hw25
        clear hw25
        refine g_fold (yT (G 3) (G 7) (((s1 - 1) / 20))) (Int32.toInt_inj.mp (by rw [q27, show r7.toInt = (((s1 - 1) / 20)) by omega])) ?_
        refine g_aload_n F 2 dX13_isOn_52 rfl rfl ?_
        refine yg_0_38 F i_X13 w_1 dX13_isOn_53 ?_
        refine g_iload_n F 3 dX13_isOn_56 rfl rfl ?_
        refine g_iload_n F 1 dX13_isOn_57 rfl rfl ?_
        refine u_isub F dX13_isOn_58 s0 r1.toInt e0 rfl (by omega) (by omega) (fun y28 ey28 => ?_)
        refine u1_iald F 23 0 yc_23 rfl y28.toInt rfl (by omega) (by omega) dX13_isOn_59 ((G 23) ((s0 - (((s1 - 1) % 20 + 1)))).toNat) (by rw [show y28.toInt = (s0 - (((s1 - 1) % 20 + 1))) by omega] <;> rfl) ?_
        refine g_iadd F dX13_isOn_60 ?_
        refine g_aload_n F 2 dX13_isOn_61 rfl rfl ?_
        refine yg_0_38 F i_X13 w_1 dX13_isOn_62 ?_
        refine g_iload_n F 3 dX13_isOn_65 rfl rfl ?_
        refine u1_iald F 23 0 yc_23 rfl s0 e0 (by omega) (by omega) dX13_isOn_66 ((G 23) (s0).toNat) (rfl) ?_
        have b29 := ti_rng ((yT (G 3) (G 7) (((s1 - 1) / 20))) + ((G 23) ((s0 - (((s1 - 1) % 20 + 1)))).toNat))
        have b30 := ti_rng ((G 23) (s0).toNat)
        refine v_icmp_ne F 93 dX13_isOn_67 (by decide) (((yT (G 3) (G 7) (((s1 - 1) / 20))) + ((G 23) ((s0 - (((s1 - 1) % 20 + 1)))).toNat)) : Int32).toInt ((G 23) (s0).toNat).toInt rfl rfl (fun c31 => ?_) (fun c31 => ?_)
        · refine g_iconst F 0 dX13_isOn_93 (by decide) ?_
          exact u_zret F hA hQ hr rfl () ((Or.inr (⟨rfl, by unfold yOn; first | (refine ⟨by omega, by omega, by omega, by omega, by omega⟩) | (intro h9; omega)⟩))) rfl rfl dX13_isOn_94
        · refine g_iconst F 1 dX13_isOn_70 (by decide) ?_
          refine g_aload_n F 2 dX13_isOn_71 rfl rfl ?_
          refine yg_0_39 F i_X13 w_3 dX13_isOn_72 ?_
          refine g_iload_n F 3 dX13_isOn_75 rfl rfl ?_
          refine g_iload_n F 1 dX13_isOn_76 rfl rfl ?_
          refine u_isub F dX13_isOn_77 s0 r1.toInt e0 rfl (by omega) (by omega) (fun y32 ey32 => ?_)
          refine u1_iald F 24 0 yc_24 rfl y32.toInt rfl (by omega) (by omega) dX13_isOn_78 ((G 24) ((s0 - (((s1 - 1) % 20 + 1)))).toNat) (by rw [show y32.toInt = (s0 - (((s1 - 1) % 20 + 1))) by omega] <;> rfl) ?_
          refine g_iadd F dX13_isOn_79 ?_
          refine g_aload_n F 2 dX13_isOn_80 rfl rfl ?_
          refine yg_0_39 F i_X13 w_3 dX13_isOn_81 ?_
          refine g_iload_n F 3 dX13_isOn_84 rfl rfl ?_
          refine u1_iald F 24 0 yc_24 rfl s0 e0 (by omega) (by omega) dX13_isOn_85 ((G 24) (s0).toNat) (rfl) ?_
          have b33 := ti_rng (1 + ((G 24) ((s0 - (((s1 - 1) % 20 + 1)))).toNat))
          have b34 := ti_rng ((G 24) (s0).toNat)
          refine v_icmp_ne F 93 dX13_isOn_86 (by decide) ((1 + ((G 24) ((s0 - (((s1 - 1) % 20 + 1)))).toNat)) : Int32).toInt ((G 24) (s0).toNat).toInt rfl rfl (fun c35 => ?_) (fun c35 => ?_)
          · refine g_iconst F 0 dX13_isOn_93 (by decide) ?_
            exact u_zret F hA hQ hr rfl () ((Or.inr (⟨rfl, by unfold yOn; first | (refine ⟨by omega, by omega, by omega, by omega, by omega⟩) | (intro h9; omega)⟩))) rfl rfl dX13_isOn_94
          · refine g_iconst F 1 dX13_isOn_89 (by decide) ?_
            refine g_goto F 94 dX13_isOn_90 (by decide) ?_
            exact u_zret F hA hQ hr rfl () ((Or.inl (⟨rfl, by unfold yOn; first | (refine ⟨by omega, by omega, by omega, by omega, by omega⟩) | (intro h9; omega)⟩))) rfl rfl dX13_isOn_94
      · refine g_iconst F 0 dX13_isOn_44 (by decide) ?_
        exact u_zret F hA hQ hr rfl () ((Or.inr (⟨rfl, by intro h9; unfold yOn at h9; omega⟩))) rfl rfl dX13_isOn_45
