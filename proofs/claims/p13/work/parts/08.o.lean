theorem dX13_goesBy_0 : decode cX13_goesBy 0 = .ok (.iload_n 3, 1) := by decide +kernel
theorem dX13_goesBy_1 : decode cX13_goesBy 1 = .ok (.iload_n 1, 1) := by decide +kernel
theorem dX13_goesBy_2 : decode cX13_goesBy 2 = .ok (.if_icmp .gt 30, 3) := by decide +kernel
theorem dX13_goesBy_5 : decode cX13_goesBy 5 = .ok (.aload_n 0, 1) := by decide +kernel
theorem dX13_goesBy_6 : decode cX13_goesBy 6 = .ok (.getfield 250, 3) := by decide +kernel
theorem dX13_goesBy_9 : decode cX13_goesBy 9 = .ok (.iload_n 2, 1) := by decide +kernel
theorem dX13_goesBy_10 : decode cX13_goesBy 10 = .ok (.iload_n 3, 1) := by decide +kernel
theorem dX13_goesBy_11 : decode cX13_goesBy 11 = .ok (.invokestatic 460, 3) := by decide +kernel
theorem dX13_goesBy_14 : decode cX13_goesBy 14 = .ok (.baload, 1) := by decide +kernel
theorem dX13_goesBy_15 : decode cX13_goesBy 15 = .ok (.ifCond .eq 17, 3) := by decide +kernel
theorem dX13_goesBy_18 : decode cX13_goesBy 18 = .ok (.aload_n 0, 1) := by decide +kernel
theorem dX13_goesBy_19 : decode cX13_goesBy 19 = .ok (.getfield 241, 3) := by decide +kernel
theorem dX13_goesBy_22 : decode cX13_goesBy 22 = .ok (.iload_n 1, 1) := by decide +kernel
theorem dX13_goesBy_23 : decode cX13_goesBy 23 = .ok (.iload_n 3, 1) := by decide +kernel
theorem dX13_goesBy_24 : decode cX13_goesBy 24 = .ok (.isub, 1) := by decide +kernel
theorem dX13_goesBy_25 : decode cX13_goesBy 25 = .ok (.iaload, 1) := by decide +kernel
theorem dX13_goesBy_26 : decode cX13_goesBy 26 = .ok (.ldc_w 391, 3) := by decide +kernel
theorem dX13_goesBy_29 : decode cX13_goesBy 29 = .ok (.if_icmp .lt 5, 3) := by decide +kernel
theorem dX13_goesBy_32 : decode cX13_goesBy 32 = .ok (.iconst 0, 1) := by decide +kernel
theorem dX13_goesBy_33 : decode cX13_goesBy 33 = .ok (.ireturn, 1) := by decide +kernel
theorem dX13_goesBy_34 : decode cX13_goesBy 34 = .ok (.aload_n 0, 1) := by decide +kernel
theorem dX13_goesBy_35 : decode cX13_goesBy 35 = .ok (.iload_n 2, 1) := by decide +kernel
theorem dX13_goesBy_36 : decode cX13_goesBy 36 = .ok (.invokevirtual 457, 3) := by decide +kernel
theorem dX13_goesBy_39 : decode cX13_goesBy 39 = .ok (.aload_n 0, 1) := by decide +kernel
theorem dX13_goesBy_40 : decode cX13_goesBy 40 = .ok (.getfield 241, 3) := by decide +kernel
theorem dX13_goesBy_43 : decode cX13_goesBy 43 = .ok (.iload_n 1, 1) := by decide +kernel
theorem dX13_goesBy_44 : decode cX13_goesBy 44 = .ok (.iload_n 3, 1) := by decide +kernel
theorem dX13_goesBy_45 : decode cX13_goesBy 45 = .ok (.isub, 1) := by decide +kernel
theorem dX13_goesBy_46 : decode cX13_goesBy 46 = .ok (.iaload, 1) := by decide +kernel
theorem dX13_goesBy_47 : decode cX13_goesBy 47 = .ok (.iadd, 1) := by decide +kernel
theorem dX13_goesBy_48 : decode cX13_goesBy 48 = .ok (.istore 6, 2) := by decide +kernel
theorem dX13_goesBy_50 : decode cX13_goesBy 50 = .ok (.iload 6, 2) := by decide +kernel
theorem dX13_goesBy_52 : decode cX13_goesBy 52 = .ok (.iload 4, 2) := by decide +kernel
theorem dX13_goesBy_54 : decode cX13_goesBy 54 = .ok (.if_icmp .lt 25, 3) := by decide +kernel
theorem dX13_goesBy_57 : decode cX13_goesBy 57 = .ok (.iload 6, 2) := by decide +kernel
theorem dX13_goesBy_59 : decode cX13_goesBy 59 = .ok (.iload 4, 2) := by decide +kernel
theorem dX13_goesBy_61 : decode cX13_goesBy 61 = .ok (.if_icmp .ne 22, 3) := by decide +kernel
theorem dX13_goesBy_64 : decode cX13_goesBy 64 = .ok (.iconst 1, 1) := by decide +kernel
theorem dX13_goesBy_65 : decode cX13_goesBy 65 = .ok (.aload_n 0, 1) := by decide +kernel
theorem dX13_goesBy_66 : decode cX13_goesBy 66 = .ok (.getfield 244, 3) := by decide +kernel
theorem dX13_goesBy_69 : decode cX13_goesBy 69 = .ok (.iload_n 1, 1) := by decide +kernel
theorem dX13_goesBy_70 : decode cX13_goesBy 70 = .ok (.iload_n 3, 1) := by decide +kernel
theorem dX13_goesBy_71 : decode cX13_goesBy 71 = .ok (.isub, 1) := by decide +kernel
theorem dX13_goesBy_72 : decode cX13_goesBy 72 = .ok (.iaload, 1) := by decide +kernel
theorem dX13_goesBy_73 : decode cX13_goesBy 73 = .ok (.iadd, 1) := by decide +kernel
theorem dX13_goesBy_74 : decode cX13_goesBy 74 = .ok (.iload 5, 2) := by decide +kernel
theorem dX13_goesBy_76 : decode cX13_goesBy 76 = .ok (.if_icmp .ge 7, 3) := by decide +kernel
theorem dX13_goesBy_79 : decode cX13_goesBy 79 = .ok (.iconst 1, 1) := by decide +kernel
theorem dX13_goesBy_80 : decode cX13_goesBy 80 = .ok (.goto 4, 3) := by decide +kernel
theorem dX13_goesBy_83 : decode cX13_goesBy 83 = .ok (.iconst 0, 1) := by decide +kernel
theorem dX13_goesBy_84 : decode cX13_goesBy 84 = .ok (.ireturn, 1) := by decide +kernel
set_option maxRecDepth 20000 in
theorem ggX13_goesBy_X13_pairOf : GoodIn wsX13_goesBy wsX13_pairOf := goodIn_r _ [8] rfl (by decide +kernel)
set_option maxRecDepth 20000 in
theorem gX13_goesBy_X13_pairOf : GoodIn wsX13_goesBy (va_wsS RX13 460 yX13_pairOf wsX13_pairOf) := goodIn_app (goodIn_of _ (by decide +kernel)) ggX13_goesBy_X13_pairOf
set_option maxRecDepth 20000 in
theorem ggX13_goesBy_X13_timeOf : GoodIn wsX13_goesBy wsX13_timeOf := goodIn_r _ [12, 13, 14, 15, 16, 17, 18, 19, 20, 21, 22, 23, 24, 25, 26, 27, 28, 29, 30, 31, 32, 33, 34, 35, 36, 37, 38, 39, 40, 41, 42, 43, 44, 45, 46, 47, 48, 49, 50, 51, 52, 53, 54, 55, 56, 57, 58, 59, 60, 61, 62, 63, 64, 65, 66, 67, 68, 69, 70, 71, 72, 73, 74, 75, 76, 77, 78, 79, 80, 81, 82, 83, 84, 85, 86, 87] rfl (by decide +kernel)
set_option maxRecDepth 20000 in
theorem gX13_goesBy_X13_timeOf : GoodIn wsX13_goesBy (wsV RX13 457 RX13 yX13_timeOf wsX13_timeOf) := goodIn_app (goodIn_of _ (by decide +kernel)) ggX13_goesBy_X13_timeOf
set_option maxHeartbeats 4000000 in
set_option maxRecDepth 100000 in
theorem S_X13_goesBy (l : Launch) (D : va_G) (K : Nat → ClassId) (a : Nat → Nat) (G : gS) (p0 : Int32) (s0 : Int) (p1 : Int32) (s1 : Int) (p2 : Int32) (s2 : Int) (p3 : Int32) (s3 : Int) (p4 : Int32) (s4 : Int) (e0 : p0.toInt = s0) (h0 : 1 ≤ s0 ∧ s0 ≤ 400) (e1 : p1.toInt = s1) (h1 : 1 ≤ s1 ∧ s1 ≤ 9) (e2 : p2.toInt = s2) (h2 : 1 ≤ s2 ∧ s2 ≤ 20) (e3 : p3.toInt = s3) (e4 : p4.toInt = s4) (hI : yI G) (sz : Nat) : Ki l yX13_goesBy wsX13_goesBy 2 63 0 0 D [.ref (a 0), .int p0, .int p1, .int p2, .int p3, .int p4] (yW K a G) (tK K) sz (fun (r : Int32) (_ : Unit) => ((r = 1 ∧ (s2 ≤ s0 ∧ ((G 26) (21 * s1 + s2).toNat).toInt ≠ 0 ∧ ((G 23) (s0 - s2).toNat).toInt < 1000000000)) ∨ (r = 0 ∧ True))) (fun (_ : Unit) => (yW K a G)) (fun _ => (tK K)) := by
  unfold Ki
  refine g_ofW (cc := cX13_goesBy) (lv := [(0, .ref (a 0)), (1, .int p0), (2, .int p1), (3, .int p2), (4, .int p3), (5, .int p4)]) (by decide) rfl (Nat.le_of_ble_eq_true rfl) rfl ?_
  intro p e s m args below meth c A Q hA hQ F hr hnm
  have hts := F.2.2.2.2.1
  have w_0 : (Cond.fieldLink RX13 250 "QuietCutModel" "isQuiet" "[Z").before args s = true := hts _ (List.mem_of_getElem? (i := 1) rfl)
  have i_X13 : ∀ w ∈ u_ws RX13 TX13 73, w ∈ wsX13_goesBy := fun _ h => List.mem_cons_of_mem _ (List.mem_append_right _ h)
  have w_1 : (Cond.fieldLink RX13 241 "QuietCutModel" "planTime" "[I").before args s = true := hts _ (List.mem_of_getElem? (i := 2) rfl)
  have w_2 : (Cond.constant RX13 391 (1000000000)).before args s = true := hts _ (List.mem_of_getElem? (i := 3) rfl)
  have w_3 : (Cond.fieldLink RX13 244 "QuietCutModel" "planMany" "[I").before args s = true := hts _ (List.mem_of_getElem? (i := 4) rfl)
  have rg3 : -2147483648 ≤ s3 ∧ s3 ≤ 2147483647 := e3 ▸ ti_rng p3
  have rg4 : -2147483648 ≤ s4 ∧ s4 ≤ 2147483647 := e4 ▸ ti_rng p4
  refine g_iload_n F 3 dX13_goesBy_0 rfl rfl ?_
  refine g_iload_n F 1 dX13_goesBy_1 rfl rfl ?_
  refine v_icmp_gt F 32 dX13_goesBy_2 (by decide) s2 s0 e2 e0 (fun c1 => ?_) (fun c1 => ?_)
  · refine g_iconst F 0 dX13_goesBy_32 (by decide) ?_
    exact u_zret F hA hQ hr rfl () ((Or.inr (⟨rfl, by first | trivial | omega⟩))) rfl rfl dX13_goesBy_33
  · refine g_aload_n F 0 dX13_goesBy_5 rfl rfl ?_
    refine yg_0_41 F i_X13 w_0 dX13_goesBy_6 ?_
    refine g_iload_n F 2 dX13_goesBy_9 rfl rfl ?_
    refine g_iload_n F 3 dX13_goesBy_10 rfl rfl ?_
    refine u_call0 (k := 0) (n := 0) (As := [.int p1, .int p2]) (st := [.ref (a 26)]) F (fun sz => S_X13_pairOf_b9_b20 l D p1 s1 p2 s2 e1 (by omega) e2 (by omega) sz) (va_cwS 2 hts gX13_goesBy_X13_pairOf rfl rfl rfl (by decide +kernel) ⟨Nat.le_of_ble_eq_true rfl, Nat.le_of_ble_eq_true rfl⟩) rfl (Nat.le_of_ble_eq_true rfl) ⟨Nat.zero_le _, Nat.zero_le _⟩ dX13_goesBy_11 (fun r2 _ hw3 => ?_)
    have q5 : (r2.toInt = (21 * s1 + s2)) := hw3.2
    have rg6 := hw3.1
    have rg7 := hw3.2
    clear hw3
    refine u1_zald F 26 3 yc_26 rfl r2.toInt rfl (by omega) (by omega) dX13_goesBy_14 ((G 26) (((21 * s1 + s2))).toNat) (by rw [show r2.toInt = ((21 * s1 + s2)) by omega] <;> rfl) ?_
    have b8 : (0 : Int) ≤ ((G 26) (((21 * s1 + s2))).toNat).toInt ∧ ((G 26) (((21 * s1 + s2))).toNat).toInt ≤ 1 := hI 26 _
    refine v_if_eq F 32 dX13_goesBy_15 (by decide) ((G 26) (((21 * s1 + s2))).toNat).toInt rfl (fun c9 => ?_) (fun c9 => ?_)
    · refine g_iconst F 0 dX13_goesBy_32 (by decide) ?_
      exact u_zret F hA hQ hr rfl () ((Or.inr (⟨rfl, by first | trivial | omega⟩))) rfl rfl dX13_goesBy_33
    · refine g_aload_n F 0 dX13_goesBy_18 rfl rfl ?_
      refine yg_0_38 F i_X13 w_1 dX13_goesBy_19 ?_
      refine g_iload_n F 1 dX13_goesBy_22 rfl rfl ?_
      refine g_iload_n F 3 dX13_goesBy_23 rfl rfl ?_
      refine u_isub F dX13_goesBy_24 s0 s2 e0 e2 (by omega) (by omega) (fun y10 ey10 => ?_)
      refine u1_iald F 23 0 yc_23 rfl y10.toInt rfl (by omega) (by omega) dX13_goesBy_25 ((G 23) ((s0 - s2)).toNat) (by rw [show y10.toInt = (s0 - s2) by omega] <;> rfl) ?_
      refine g_ldcw F w_2 dX13_goesBy_26 ?_
      refine v_icmp_lt F 34 dX13_goesBy_29 (by decide) ((G 23) ((s0 - s2)).toNat).toInt 1000000000 rfl rfl (fun c11 => ?_) (fun c11 => ?_)
      · refine g_aload_n F 0 dX13_goesBy_34 rfl rfl ?_
        refine g_iload_n F 2 dX13_goesBy_35 rfl rfl ?_
        refine u_callVi (k := 0) (n := 0) (b := a 0) (As := [.int p1]) (st := []) F (fun sz => S_X13_timeOf_b9 l D K a G p1 s1 e1 (by omega) hI sz) (cwV 1 hts gX13_goesBy_X13_timeOf rfl rfl rfl (by decide +kernel) ⟨Nat.le_of_ble_eq_true rfl, Nat.le_of_ble_eq_true rfl⟩) rfl 0 yc_0 rfl (Nat.le_of_ble_eq_true rfl) ⟨Nat.zero_le _, Nat.zero_le _⟩ dX13_goesBy_36 (fun r12 _ hw13 => ?_)
        have q15 : (r12.toInt = (yT (G 3) (G 7) s1).toInt) := hw13
        clear hw13
        refine g_aload_n F 0 dX13_goesBy_39 rfl rfl ?_
        refine yg_0_38 F i_X13 w_1 dX13_goesBy_40 ?_
        refine g_iload_n F 1 dX13_goesBy_43 rfl rfl ?_
        refine g_iload_n F 3 dX13_goesBy_44 rfl rfl ?_
        refine u_isub F dX13_goesBy_45 s0 s2 e0 e2 (by omega) (by omega) (fun y16 ey16 => ?_)
        refine u_iald F 23 0 yc_23 rfl y16.toInt rfl (by omega) (by omega) dX13_goesBy_46 (fun _ => True) (fun _ => trivial) (fun y17 by17 => ?_)
        refine u0_iadd F dX13_goesBy_47 (fun y18 => ?_)
        refine g_istore F [(6, .int y18), (0, .ref (a 0)), (1, .int p0), (2, .int p1), (3, .int p2), (4, .int p3), (5, .int p4)] dX13_goesBy_48 (by decide) rfl ?_
        refine g_iload F 0 dX13_goesBy_50 rfl ?_
        refine g_iload F 5 dX13_goesBy_52 rfl ?_
        have b19 := ti_rng y18
        refine v_icmp_lt F 79 dX13_goesBy_54 (by decide) y18.toInt s3 rfl e3 (fun c20 => ?_) (fun c20 => ?_)
        · refine g_iconst F 1 dX13_goesBy_79 (by decide) ?_
          refine g_goto F 84 dX13_goesBy_80 (by decide) ?_
          exact u_zret F hA hQ hr rfl () ((Or.inl (⟨rfl, by first | trivial | omega⟩))) rfl rfl dX13_goesBy_84
        · refine g_iload F 0 dX13_goesBy_57 rfl ?_
          refine g_iload F 5 dX13_goesBy_59 rfl ?_
          refine v_icmp_ne F 83 dX13_goesBy_61 (by decide) y18.toInt s3 rfl e3 (fun c21 => ?_) (fun c21 => ?_)
          · refine g_iconst F 0 dX13_goesBy_83 (by decide) ?_
            exact u_zret F hA hQ hr rfl () ((Or.inr (⟨rfl, by first | trivial | omega⟩))) rfl rfl dX13_goesBy_84
          · refine g_iconst F 1 dX13_goesBy_64 (by decide) ?_
            refine g_aload_n F 1 dX13_goesBy_65 rfl rfl ?_
            refine yg_0_39 F i_X13 w_3 dX13_goesBy_66 ?_
            refine g_iload_n F 2 dX13_goesBy_69 rfl rfl ?_
            refine g_iload_n F 4 dX13_goesBy_70 rfl rfl ?_
            refine u_isub F dX13_goesBy_71 s0 s2 e0 e2 (by omega) (by omega) (fun y22 ey22 => ?_)
            refine u_iald F 24 0 yc_24 rfl y22.toInt rfl (by omega) (by omega) dX13_goesBy_72 (fun _ => True) (fun _ => trivial) (fun y23 by23 => ?_)
            refine u_iaddc F dX13_goesBy_73 1 y23.toInt rfl rfl (fun y24 ey24 => ?_)
            refine g_iload F 6 dX13_goesBy_74 rfl ?_
            have b25 := ti_rng y24
            refine v_icmp_ge F 83 dX13_goesBy_76 (by decide) y24.toInt s4 rfl e4 (fun c26 => ?_) (fun c26 => ?_)
            · refine g_iconst F 0 dX13_goesBy_83 (by decide) ?_
              exact u_zret F hA hQ hr rfl () ((Or.inr (⟨rfl, by first | trivial | omega⟩))) rfl rfl dX13_goesBy_84
            · refine g_iconst F 1 dX13_goesBy_79 (by decide) ?_
              refine g_goto F 84 dX13_goesBy_80 (by decide) ?_
              exact u_zret F hA hQ hr rfl () ((Or.inl (⟨rfl, by first | trivial | omega⟩))) rfl rfl dX13_goesBy_84
      · refine g_iconst F 0 dX13_goesBy_32 (by decide) ?_
        exact u_zret F hA hQ hr rfl () ((Or.inr (⟨rfl, by first | trivial | omega⟩))) rfl rfl dX13_goesBy_33


set_option maxHeartbeats 4000000 in
set_option maxRecDepth 100000 in
theorem S_X13_feedOf (l : Launch) (D : va_G)  (p0 : Int32) (s0 : Int) (e0 : p0.toInt = s0) (sz : Nat) : Ki l yX13_feedOf wsX13_feedOf 1 40 0 0 D [.int p0] [] [] sz (fun (r : Int32) (_ : Unit) => True) (fun (_ : Unit) => []) (fun _ => []) := by
  unfold Ki
  refine g_ofW (cc := cX13_feedOf) (lv := [(0, .int p0)]) (by decide) rfl (Nat.le_of_ble_eq_true rfl) rfl ?_
  intro p e s m args below meth c A Q hA hQ F hr hnm
  have hts := F.2.2.2.2.1
  have rg0 : -2147483648 ≤ s0 ∧ s0 ≤ 2147483647 := e0 ▸ ti_rng p0
  refine g_iload_n F 0 dX13_feedOf_0 rfl rfl ?_
  refine g_iconst F 1 dX13_feedOf_1 (by decide) ?_
  refine u_isubc F dX13_feedOf_2 s0 1 e0 rfl (fun y1 ey1 => ?_)
  refine g_bipush F 20 dX13_feedOf_3 (by decide) ?_
  refine u0_irem F dX13_feedOf_5 (by decide) (fun y2 => ?_)
  refine g_iconst F 1 dX13_feedOf_6 (by decide) ?_
  refine u_iaddc F dX13_feedOf_7 y2.toInt 1 rfl rfl (fun y3 ey3 => ?_)
  exact u_iret F hA hQ hr () (trivial) rfl rfl dX13_feedOf_8

theorem dX13_plan_0 : decode cX13_plan 0 = .ok (.aload_n 0, 1) := by decide +kernel
theorem dX13_plan_1 : decode cX13_plan 1 = .ok (.iload_n 1, 1) := by decide +kernel
theorem dX13_plan_2 : decode cX13_plan 2 = .ok (.invokevirtual 367, 3) := by decide +kernel
theorem dX13_plan_5 : decode cX13_plan 5 = .ok (.ifCond .eq 15, 3) := by decide +kernel
theorem dX13_plan_8 : decode cX13_plan 8 = .ok (.iload_n 2, 1) := by decide +kernel
theorem dX13_plan_9 : decode cX13_plan 9 = .ok (.i2l, 1) := by decide +kernel
theorem dX13_plan_10 : decode cX13_plan 10 = .ok (.lconst 1, 1) := by decide +kernel
theorem dX13_plan_11 : decode cX13_plan 11 = .ok (.ldc2_w 463, 3) := by decide +kernel
theorem dX13_plan_14 : decode cX13_plan 14 = .ok (.invokestatic 61, 3) := by decide +kernel
theorem dX13_plan_17 : decode cX13_plan 17 = .ok (.ifCond .ne 6, 3) := by decide +kernel
theorem dX13_plan_20 : decode cX13_plan 20 = .ok (.bipush (-2), 2) := by decide +kernel
theorem dX13_plan_22 : decode cX13_plan 22 = .ok (.ireturn, 1) := by decide +kernel
theorem dX13_plan_23 : decode cX13_plan 23 = .ok (.iload_n 2, 1) := by decide +kernel
theorem dX13_plan_24 : decode cX13_plan 24 = .ok (.aload_n 0, 1) := by decide +kernel
theorem dX13_plan_25 : decode cX13_plan 25 = .ok (.getfield 199, 3) := by decide +kernel
theorem dX13_plan_28 : decode cX13_plan 28 = .ok (.bipush 9, 2) := by decide +kernel
theorem dX13_plan_30 : decode cX13_plan 30 = .ok (.iaload, 1) := by decide +kernel
theorem dX13_plan_31 : decode cX13_plan 31 = .ok (.irem, 1) := by decide +kernel
theorem dX13_plan_32 : decode cX13_plan 32 = .ok (.ifCond .eq 5, 3) := by decide +kernel
theorem dX13_plan_35 : decode cX13_plan 35 = .ok (.iconst (-1), 1) := by decide +kernel
theorem dX13_plan_36 : decode cX13_plan 36 = .ok (.ireturn, 1) := by decide +kernel
theorem dX13_plan_37 : decode cX13_plan 37 = .ok (.iload_n 2, 1) := by decide +kernel
theorem dX13_plan_38 : decode cX13_plan 38 = .ok (.aload_n 0, 1) := by decide +kernel
theorem dX13_plan_39 : decode cX13_plan 39 = .ok (.getfield 199, 3) := by decide +kernel
theorem dX13_plan_42 : decode cX13_plan 42 = .ok (.bipush 9, 2) := by decide +kernel
theorem dX13_plan_44 : decode cX13_plan 44 = .ok (.iaload, 1) := by decide +kernel
theorem dX13_plan_45 : decode cX13_plan 45 = .ok (.idiv, 1) := by decide +kernel
theorem dX13_plan_46 : decode cX13_plan 46 = .ok (.istore_n 3, 1) := by decide +kernel
theorem dX13_plan_47 : decode cX13_plan 47 = .ok (.iconst 1, 1) := by decide +kernel
theorem dX13_plan_48 : decode cX13_plan 48 = .ok (.istore 4, 2) := by decide +kernel
theorem dX13_plan_50 : decode cX13_plan 50 = .ok (.iload 4, 2) := by decide +kernel
theorem dX13_plan_52 : decode cX13_plan 52 = .ok (.bipush 9, 2) := by decide +kernel
theorem dX13_plan_54 : decode cX13_plan 54 = .ok (.if_icmp .gt 60, 3) := by decide +kernel
theorem dX13_plan_57 : decode cX13_plan 57 = .ok (.iconst 1, 1) := by decide +kernel
theorem dX13_plan_58 : decode cX13_plan 58 = .ok (.istore 5, 2) := by decide +kernel
theorem dX13_plan_60 : decode cX13_plan 60 = .ok (.iload 5, 2) := by decide +kernel
theorem dX13_plan_62 : decode cX13_plan 62 = .ok (.bipush 20, 2) := by decide +kernel
theorem dX13_plan_64 : decode cX13_plan 64 = .ok (.if_icmp .gt 44, 3) := by decide +kernel
theorem dX13_plan_67 : decode cX13_plan 67 = .ok (.aload_n 0, 1) := by decide +kernel
theorem dX13_plan_68 : decode cX13_plan 68 = .ok (.getfield 250, 3) := by decide +kernel
theorem dX13_plan_71 : decode cX13_plan 71 = .ok (.iload 4, 2) := by decide +kernel
theorem dX13_plan_73 : decode cX13_plan 73 = .ok (.iload 5, 2) := by decide +kernel
theorem dX13_plan_75 : decode cX13_plan 75 = .ok (.invokestatic 460, 3) := by decide +kernel
theorem dX13_plan_78 : decode cX13_plan 78 = .ok (.iload 5, 2) := by decide +kernel
theorem dX13_plan_80 : decode cX13_plan 80 = .ok (.iload_n 3, 1) := by decide +kernel
theorem dX13_plan_81 : decode cX13_plan 81 = .ok (.if_icmp .gt 19, 3) := by decide +kernel
theorem dX13_plan_84 : decode cX13_plan 84 = .ok (.aload_n 0, 1) := by decide +kernel
theorem dX13_plan_85 : decode cX13_plan 85 = .ok (.iload_n 1, 1) := by decide +kernel
theorem dX13_plan_86 : decode cX13_plan 86 = .ok (.iload 4, 2) := by decide +kernel
theorem dX13_plan_88 : decode cX13_plan 88 = .ok (.iload 5, 2) := by decide +kernel
theorem dX13_plan_90 : decode cX13_plan 90 = .ok (.invokevirtual 451, 3) := by decide +kernel
theorem dX13_plan_93 : decode cX13_plan 93 = .ok (.ifCond .eq 7, 3) := by decide +kernel
theorem dX13_plan_96 : decode cX13_plan 96 = .ok (.iconst 1, 1) := by decide +kernel
theorem dX13_plan_97 : decode cX13_plan 97 = .ok (.goto 4, 3) := by decide +kernel
theorem dX13_plan_100 : decode cX13_plan 100 = .ok (.iconst 0, 1) := by decide +kernel
theorem dX13_plan_101 : decode cX13_plan 101 = .ok (.bastore, 1) := by decide +kernel
theorem dX13_plan_102 : decode cX13_plan 102 = .ok (.iinc 5 1, 3) := by decide +kernel
theorem dX13_plan_105 : decode cX13_plan 105 = .ok (.goto (-45), 3) := by decide +kernel
theorem dX13_plan_108 : decode cX13_plan 108 = .ok (.iinc 4 1, 3) := by decide +kernel
theorem dX13_plan_111 : decode cX13_plan 111 = .ok (.goto (-61), 3) := by decide +kernel
theorem dX13_plan_114 : decode cX13_plan 114 = .ok (.aload_n 0, 1) := by decide +kernel
theorem dX13_plan_115 : decode cX13_plan 115 = .ok (.getfield 241, 3) := by decide +kernel
theorem dX13_plan_118 : decode cX13_plan 118 = .ok (.iconst 0, 1) := by decide +kernel
theorem dX13_plan_119 : decode cX13_plan 119 = .ok (.iconst 0, 1) := by decide +kernel
theorem dX13_plan_120 : decode cX13_plan 120 = .ok (.iastore, 1) := by decide +kernel
theorem dX13_plan_121 : decode cX13_plan 121 = .ok (.aload_n 0, 1) := by decide +kernel
theorem dX13_plan_122 : decode cX13_plan 122 = .ok (.getfield 244, 3) := by decide +kernel
theorem dX13_plan_125 : decode cX13_plan 125 = .ok (.iconst 0, 1) := by decide +kernel
theorem dX13_plan_126 : decode cX13_plan 126 = .ok (.iconst 0, 1) := by decide +kernel
theorem dX13_plan_127 : decode cX13_plan 127 = .ok (.iastore, 1) := by decide +kernel
theorem dX13_plan_128 : decode cX13_plan 128 = .ok (.iconst 1, 1) := by decide +kernel
theorem dX13_plan_129 : decode cX13_plan 129 = .ok (.istore 4, 2) := by decide +kernel
theorem dX13_plan_131 : decode cX13_plan 131 = .ok (.iload 4, 2) := by decide +kernel
theorem dX13_plan_133 : decode cX13_plan 133 = .ok (.iload_n 3, 1) := by decide +kernel
theorem dX13_plan_134 : decode cX13_plan 134 = .ok (.if_icmp .gt 134, 3) := by decide +kernel
theorem dX13_plan_137 : decode cX13_plan 137 = .ok (.aload_n 0, 1) := by decide +kernel
theorem dX13_plan_138 : decode cX13_plan 138 = .ok (.getfield 241, 3) := by decide +kernel
theorem dX13_plan_141 : decode cX13_plan 141 = .ok (.iload 4, 2) := by decide +kernel
theorem dX13_plan_143 : decode cX13_plan 143 = .ok (.ldc_w 391, 3) := by decide +kernel
theorem dX13_plan_146 : decode cX13_plan 146 = .ok (.iastore, 1) := by decide +kernel
theorem dX13_plan_147 : decode cX13_plan 147 = .ok (.aload_n 0, 1) := by decide +kernel
theorem dX13_plan_148 : decode cX13_plan 148 = .ok (.getfield 244, 3) := by decide +kernel
theorem dX13_plan_151 : decode cX13_plan 151 = .ok (.iload 4, 2) := by decide +kernel
theorem dX13_plan_153 : decode cX13_plan 153 = .ok (.ldc_w 391, 3) := by decide +kernel
theorem dX13_plan_156 : decode cX13_plan 156 = .ok (.iastore, 1) := by decide +kernel
theorem dX13_plan_157 : decode cX13_plan 157 = .ok (.iconst 1, 1) := by decide +kernel
theorem dX13_plan_158 : decode cX13_plan 158 = .ok (.istore 5, 2) := by decide +kernel
theorem dX13_plan_160 : decode cX13_plan 160 = .ok (.iload 5, 2) := by decide +kernel
theorem dX13_plan_162 : decode cX13_plan 162 = .ok (.bipush 9, 2) := by decide +kernel
theorem dX13_plan_164 : decode cX13_plan 164 = .ok (.if_icmp .gt 98, 3) := by decide +kernel
theorem dX13_plan_167 : decode cX13_plan 167 = .ok (.iconst 1, 1) := by decide +kernel
theorem dX13_plan_168 : decode cX13_plan 168 = .ok (.istore 6, 2) := by decide +kernel
theorem dX13_plan_170 : decode cX13_plan 170 = .ok (.iload 6, 2) := by decide +kernel
theorem dX13_plan_172 : decode cX13_plan 172 = .ok (.bipush 20, 2) := by decide +kernel
theorem dX13_plan_174 : decode cX13_plan 174 = .ok (.if_icmp .gt 82, 3) := by decide +kernel
theorem dX13_plan_177 : decode cX13_plan 177 = .ok (.aload_n 0, 1) := by decide +kernel
theorem dX13_plan_178 : decode cX13_plan 178 = .ok (.iload 4, 2) := by decide +kernel
theorem dX13_plan_180 : decode cX13_plan 180 = .ok (.iload 5, 2) := by decide +kernel
theorem dX13_plan_182 : decode cX13_plan 182 = .ok (.iload 6, 2) := by decide +kernel
theorem dX13_plan_184 : decode cX13_plan 184 = .ok (.aload_n 0, 1) := by decide +kernel
theorem dX13_plan_185 : decode cX13_plan 185 = .ok (.getfield 241, 3) := by decide +kernel
theorem dX13_plan_188 : decode cX13_plan 188 = .ok (.iload 4, 2) := by decide +kernel
theorem dX13_plan_190 : decode cX13_plan 190 = .ok (.iaload, 1) := by decide +kernel
theorem dX13_plan_191 : decode cX13_plan 191 = .ok (.aload_n 0, 1) := by decide +kernel
theorem dX13_plan_192 : decode cX13_plan 192 = .ok (.getfield 244, 3) := by decide +kernel
theorem dX13_plan_195 : decode cX13_plan 195 = .ok (.iload 4, 2) := by decide +kernel
theorem dX13_plan_197 : decode cX13_plan 197 = .ok (.iaload, 1) := by decide +kernel
theorem dX13_plan_198 : decode cX13_plan 198 = .ok (.invokevirtual 465, 3) := by decide +kernel
theorem dX13_plan_201 : decode cX13_plan 201 = .ok (.ifCond .ne 6, 3) := by decide +kernel
theorem dX13_plan_204 : decode cX13_plan 204 = .ok (.goto 46, 3) := by decide +kernel
theorem dX13_plan_207 : decode cX13_plan 207 = .ok (.aload_n 0, 1) := by decide +kernel
theorem dX13_plan_208 : decode cX13_plan 208 = .ok (.getfield 241, 3) := by decide +kernel
theorem dX13_plan_211 : decode cX13_plan 211 = .ok (.iload 4, 2) := by decide +kernel
theorem dX13_plan_213 : decode cX13_plan 213 = .ok (.aload_n 0, 1) := by decide +kernel
theorem dX13_plan_214 : decode cX13_plan 214 = .ok (.iload 5, 2) := by decide +kernel
theorem dX13_plan_216 : decode cX13_plan 216 = .ok (.invokevirtual 457, 3) := by decide +kernel
theorem dX13_plan_219 : decode cX13_plan 219 = .ok (.aload_n 0, 1) := by decide +kernel
theorem dX13_plan_220 : decode cX13_plan 220 = .ok (.getfield 241, 3) := by decide +kernel
theorem dX13_plan_223 : decode cX13_plan 223 = .ok (.iload 4, 2) := by decide +kernel
theorem dX13_plan_225 : decode cX13_plan 225 = .ok (.iload 6, 2) := by decide +kernel
theorem dX13_plan_227 : decode cX13_plan 227 = .ok (.isub, 1) := by decide +kernel
theorem dX13_plan_228 : decode cX13_plan 228 = .ok (.iaload, 1) := by decide +kernel
theorem dX13_plan_229 : decode cX13_plan 229 = .ok (.iadd, 1) := by decide +kernel
theorem dX13_plan_230 : decode cX13_plan 230 = .ok (.iastore, 1) := by decide +kernel
theorem dX13_plan_231 : decode cX13_plan 231 = .ok (.aload_n 0, 1) := by decide +kernel
theorem dX13_plan_232 : decode cX13_plan 232 = .ok (.getfield 244, 3) := by decide +kernel
theorem dX13_plan_235 : decode cX13_plan 235 = .ok (.iload 4, 2) := by decide +kernel
theorem dX13_plan_237 : decode cX13_plan 237 = .ok (.iconst 1, 1) := by decide +kernel
theorem dX13_plan_238 : decode cX13_plan 238 = .ok (.aload_n 0, 1) := by decide +kernel
theorem dX13_plan_239 : decode cX13_plan 239 = .ok (.getfield 244, 3) := by decide +kernel
theorem dX13_plan_242 : decode cX13_plan 242 = .ok (.iload 4, 2) := by decide +kernel
theorem dX13_plan_244 : decode cX13_plan 244 = .ok (.iload 6, 2) := by decide +kernel
theorem dX13_plan_246 : decode cX13_plan 246 = .ok (.isub, 1) := by decide +kernel
theorem dX13_plan_247 : decode cX13_plan 247 = .ok (.iaload, 1) := by decide +kernel
theorem dX13_plan_248 : decode cX13_plan 248 = .ok (.iadd, 1) := by decide +kernel
theorem dX13_plan_249 : decode cX13_plan 249 = .ok (.iastore, 1) := by decide +kernel
theorem dX13_plan_250 : decode cX13_plan 250 = .ok (.iinc 6 1, 3) := by decide +kernel
theorem dX13_plan_253 : decode cX13_plan 253 = .ok (.goto (-83), 3) := by decide +kernel
theorem dX13_plan_256 : decode cX13_plan 256 = .ok (.iinc 5 1, 3) := by decide +kernel
theorem dX13_plan_259 : decode cX13_plan 259 = .ok (.goto (-99), 3) := by decide +kernel
theorem dX13_plan_262 : decode cX13_plan 262 = .ok (.iinc 4 1, 3) := by decide +kernel
theorem dX13_plan_265 : decode cX13_plan 265 = .ok (.goto (-134), 3) := by decide +kernel
theorem dX13_plan_268 : decode cX13_plan 268 = .ok (.aload_n 0, 1) := by decide +kernel
theorem dX13_plan_269 : decode cX13_plan 269 = .ok (.getfield 241, 3) := by decide +kernel
theorem dX13_plan_272 : decode cX13_plan 272 = .ok (.iload_n 3, 1) := by decide +kernel
theorem dX13_plan_273 : decode cX13_plan 273 = .ok (.iaload, 1) := by decide +kernel
theorem dX13_plan_274 : decode cX13_plan 274 = .ok (.ldc_w 391, 3) := by decide +kernel
theorem dX13_plan_277 : decode cX13_plan 277 = .ok (.if_icmp .lt 5, 3) := by decide +kernel
theorem dX13_plan_280 : decode cX13_plan 280 = .ok (.iconst (-1), 1) := by decide +kernel
theorem dX13_plan_281 : decode cX13_plan 281 = .ok (.ireturn, 1) := by decide +kernel
theorem dX13_plan_282 : decode cX13_plan 282 = .ok (.aload_n 0, 1) := by decide +kernel
theorem dX13_plan_283 : decode cX13_plan 283 = .ok (.iconst 0, 1) := by decide +kernel
theorem dX13_plan_284 : decode cX13_plan 284 = .ok (.putfield 469, 3) := by decide +kernel
theorem dX13_plan_287 : decode cX13_plan 287 = .ok (.iload_n 3, 1) := by decide +kernel
theorem dX13_plan_288 : decode cX13_plan 288 = .ok (.istore 4, 2) := by decide +kernel
theorem dX13_plan_290 : decode cX13_plan 290 = .ok (.iload 4, 2) := by decide +kernel
theorem dX13_plan_292 : decode cX13_plan 292 = .ok (.ifCond .le 58, 3) := by decide +kernel
theorem dX13_plan_295 : decode cX13_plan 295 = .ok (.bipush 21, 2) := by decide +kernel
theorem dX13_plan_297 : decode cX13_plan 297 = .ok (.istore 5, 2) := by decide +kernel
theorem dX13_plan_299 : decode cX13_plan 299 = .ok (.aload_n 0, 1) := by decide +kernel
theorem dX13_plan_300 : decode cX13_plan 300 = .ok (.iload 4, 2) := by decide +kernel
theorem dX13_plan_302 : decode cX13_plan 302 = .ok (.iload 5, 2) := by decide +kernel
theorem dX13_plan_304 : decode cX13_plan 304 = .ok (.invokevirtual 472, 3) := by decide +kernel
theorem dX13_plan_307 : decode cX13_plan 307 = .ok (.ifCond .ne 9, 3) := by decide +kernel
theorem dX13_plan_310 : decode cX13_plan 310 = .ok (.iinc 5 1, 3) := by decide +kernel
theorem dX13_plan_313 : decode cX13_plan 313 = .ok (.goto (-14), 3) := by decide +kernel
theorem dX13_plan_316 : decode cX13_plan 316 = .ok (.aload_n 0, 1) := by decide +kernel
theorem dX13_plan_317 : decode cX13_plan 317 = .ok (.getfield 247, 3) := by decide +kernel
theorem dX13_plan_320 : decode cX13_plan 320 = .ok (.aload_n 0, 1) := by decide +kernel
theorem dX13_plan_321 : decode cX13_plan 321 = .ok (.getfield 469, 3) := by decide +kernel
theorem dX13_plan_324 : decode cX13_plan 324 = .ok (.iload 5, 2) := by decide +kernel
theorem dX13_plan_326 : decode cX13_plan 326 = .ok (.iastore, 1) := by decide +kernel
theorem dX13_plan_327 : decode cX13_plan 327 = .ok (.aload_n 0, 1) := by decide +kernel
theorem dX13_plan_328 : decode cX13_plan 328 = .ok (.dup, 1) := by decide +kernel
theorem dX13_plan_329 : decode cX13_plan 329 = .ok (.getfield 469, 3) := by decide +kernel
theorem dX13_plan_332 : decode cX13_plan 332 = .ok (.iconst 1, 1) := by decide +kernel
theorem dX13_plan_333 : decode cX13_plan 333 = .ok (.iadd, 1) := by decide +kernel
theorem dX13_plan_334 : decode cX13_plan 334 = .ok (.putfield 469, 3) := by decide +kernel
theorem dX13_plan_337 : decode cX13_plan 337 = .ok (.iload 4, 2) := by decide +kernel
theorem dX13_plan_339 : decode cX13_plan 339 = .ok (.iload 5, 2) := by decide +kernel
theorem dX13_plan_341 : decode cX13_plan 341 = .ok (.invokestatic 475, 3) := by decide +kernel
theorem dX13_plan_344 : decode cX13_plan 344 = .ok (.isub, 1) := by decide +kernel
theorem dX13_plan_345 : decode cX13_plan 345 = .ok (.istore 4, 2) := by decide +kernel
theorem dX13_plan_347 : decode cX13_plan 347 = .ok (.goto (-57), 3) := by decide +kernel
theorem dX13_plan_350 : decode cX13_plan 350 = .ok (.aload_n 0, 1) := by decide +kernel
theorem dX13_plan_351 : decode cX13_plan 351 = .ok (.iconst 1, 1) := by decide +kernel
theorem dX13_plan_352 : decode cX13_plan 352 = .ok (.putfield 478, 3) := by decide +kernel
theorem dX13_plan_355 : decode cX13_plan 355 = .ok (.aload_n 0, 1) := by decide +kernel
theorem dX13_plan_356 : decode cX13_plan 356 = .ok (.getfield 241, 3) := by decide +kernel
theorem dX13_plan_359 : decode cX13_plan 359 = .ok (.iload_n 3, 1) := by decide +kernel
theorem dX13_plan_360 : decode cX13_plan 360 = .ok (.iaload, 1) := by decide +kernel
theorem dX13_plan_361 : decode cX13_plan 361 = .ok (.ireturn, 1) := by decide +kernel
set_option maxRecDepth 20000 in
theorem ggX13_plan_X13_feedOf : GoodIn wsX13_plan wsX13_feedOf := goodIn_r _ [121] rfl (by decide +kernel)
set_option maxRecDepth 20000 in
theorem gX13_plan_X13_feedOf : GoodIn wsX13_plan (va_wsS RX13 475 yX13_feedOf wsX13_feedOf) := goodIn_app (goodIn_of _ (by decide +kernel)) ggX13_plan_X13_feedOf
set_option maxRecDepth 20000 in
theorem ggX13_plan_X13_goesBy : GoodIn wsX13_plan wsX13_goesBy := goodIn_r _ [110, 3, 4, 6, 5, 18, 19, 13, 20, 111, 112, 113, 114, 2, 60, 125, 126, 127, 128, 129, 130, 131, 132, 133, 134, 135, 136, 137, 138, 139, 140, 141, 142, 143, 144, 145, 146, 147, 148, 149, 150, 151, 152, 153, 154, 155, 156, 157, 158, 159, 160, 161, 162, 163, 164, 165, 166, 167, 168, 169, 170, 171, 172, 173, 174, 175, 176, 177, 178, 179, 180, 181, 182, 183, 184, 185, 186, 187, 188, 189, 190, 191, 192, 193, 194, 195, 196, 197] rfl (by decide +kernel)
set_option maxRecDepth 20000 in
theorem gX13_plan_X13_goesBy : GoodIn wsX13_plan (wsV RX13 465 RX13 yX13_goesBy wsX13_goesBy) := goodIn_app (goodIn_of _ (by decide +kernel)) ggX13_plan_X13_goesBy
set_option maxRecDepth 20000 in
theorem ggX13_plan_X13_in : GoodIn wsX13_plan wsX13_in := goodIn_r _ [17] rfl (by decide +kernel)
set_option maxRecDepth 20000 in
theorem gX13_plan_X13_in : GoodIn wsX13_plan (va_wsS RX13 61 yX13_in wsX13_in) := goodIn_app (goodIn_of _ (by decide +kernel)) ggX13_plan_X13_in
set_option maxRecDepth 20000 in
theorem ggX13_plan_X13_isOn : GoodIn wsX13_plan wsX13_isOn := goodIn_r _ [118, 3, 4, 6, 5, 119, 120, 13, 121, 122, 123, 124, 18, 19, 20, 111, 112, 113, 114, 2, 60, 125, 126, 127, 128, 129, 130, 131, 132, 133, 134, 135, 136, 137, 138, 139, 140, 141, 142, 143, 144, 145, 146, 147, 148, 149, 150, 151, 152, 153, 154, 155, 156, 157, 158, 159, 160, 161, 162, 163, 164, 165, 166, 167, 168, 169, 170, 171, 172, 173, 174, 175, 176, 177, 178, 179, 180, 181, 182, 183, 184, 185, 186, 187, 188, 189, 190, 191, 192, 193, 194, 195, 196, 197] rfl (by decide +kernel)
set_option maxRecDepth 20000 in
theorem gX13_plan_X13_isOn : GoodIn wsX13_plan (wsV RX13 472 RX13 yX13_isOn wsX13_isOn) := goodIn_app (goodIn_of _ (by decide +kernel)) ggX13_plan_X13_isOn
set_option maxRecDepth 20000 in
theorem ggX13_plan_X13_isRing : GoodIn wsX13_plan wsX13_isRing := goodIn_r _ [14, 2, 15, 16, 13, 17, 125, 126, 127, 128, 129, 130, 131, 132, 133, 134, 135, 136, 137, 138, 139, 140, 141, 142, 143, 144, 145, 146, 147, 148, 149, 150, 151, 152, 153, 154, 155, 156, 157, 158, 159, 160, 161, 162, 163, 164, 165, 166, 167, 168, 169, 170, 171, 172, 173, 174, 175, 176, 177, 178, 179, 180, 181, 182, 183, 184, 185, 186, 187, 188, 189, 190, 191, 192, 193, 194, 195, 196, 197] rfl (by decide +kernel)
set_option maxRecDepth 20000 in
theorem gX13_plan_X13_isRing : GoodIn wsX13_plan (wsV RX13 367 RX13 yX13_isRing wsX13_isRing) := goodIn_app (goodIn_of _ (by decide +kernel)) ggX13_plan_X13_isRing
set_option maxRecDepth 20000 in
theorem ggX13_plan_X13_isSure : GoodIn wsX13_plan wsX13_isSure := goodIn_r _ [24, 2, 25, 26, 27, 13, 28, 29, 30, 31, 32, 33, 34, 35, 36, 37, 38, 39, 40, 41, 42, 43, 44, 45, 46, 47, 48, 49, 50, 51, 52, 53, 54, 55, 56, 57, 58, 59, 60, 61, 62, 63, 64, 65, 66, 67, 6, 68, 69, 70, 71, 72, 73, 74, 75, 76, 77, 78, 79, 80, 81, 82, 83, 84, 85, 86, 87, 88, 89, 90, 91, 92, 93, 94, 95, 96, 97, 98, 99, 100, 101, 102, 103, 104, 105, 106, 125, 126, 127, 128, 129, 130, 131, 132, 133, 134, 135, 136, 137, 138, 139, 140, 141, 142, 143, 144, 145, 146, 147, 148, 149, 150, 151, 152, 153, 154, 155, 156, 157, 158, 159, 160, 161, 162, 163, 164, 165, 166, 167, 168, 169, 170, 171, 172, 173, 174, 175, 176, 177, 178, 179, 180, 181, 182, 183, 184, 185, 186, 187, 188, 189, 190, 191, 192, 193, 194, 195, 196, 197] rfl (by decide +kernel)
set_option maxRecDepth 20000 in
theorem gX13_plan_X13_isSure : GoodIn wsX13_plan (wsV RX13 451 RX13 yX13_isSure wsX13_isSure) := goodIn_app (goodIn_of _ (by decide +kernel)) ggX13_plan_X13_isSure
set_option maxRecDepth 20000 in
theorem ggX13_plan_X13_pairOf : GoodIn wsX13_plan wsX13_pairOf := goodIn_r _ [20] rfl (by decide +kernel)
set_option maxRecDepth 20000 in
theorem gX13_plan_X13_pairOf : GoodIn wsX13_plan (va_wsS RX13 460 yX13_pairOf wsX13_pairOf) := goodIn_app (goodIn_of _ (by decide +kernel)) ggX13_plan_X13_pairOf
set_option maxRecDepth 20000 in
theorem ggX13_plan_X13_timeOf : GoodIn wsX13_plan wsX13_timeOf := goodIn_r _ [114, 2, 60, 125, 126, 127, 128, 129, 130, 131, 132, 133, 134, 135, 136, 137, 138, 139, 140, 141, 142, 143, 144, 145, 146, 147, 148, 149, 150, 151, 152, 153, 154, 155, 156, 157, 158, 159, 160, 161, 162, 163, 164, 165, 166, 167, 168, 169, 170, 171, 172, 173, 174, 175, 176, 177, 178, 179, 180, 181, 182, 183, 184, 185, 186, 187, 188, 189, 190, 191, 192, 193, 194, 195, 196, 197] rfl (by decide +kernel)
set_option maxRecDepth 20000 in
theorem gX13_plan_X13_timeOf : GoodIn wsX13_plan (wsV RX13 457 RX13 yX13_timeOf wsX13_timeOf) := goodIn_app (goodIn_of _ (by decide +kernel)) ggX13_plan_X13_timeOf
set_option maxHeartbeats 4000000 in
set_option maxRecDepth 100000 in
theorem S_X13_plan (l : Launch) (D : va_G) (K : Nat → ClassId) (a : Nat → Nat) (G : gS) (p0 : Int32) (s0 : Int) (p1 : Int32) (s1 : Int) (e0 : p0.toInt = s0) (e1 : p1.toInt = s1) (wf : yW3 G) (dl : ((G 0 32).toInt ≤ 6)) (hI : yI G) (sz : Nat) : Ki l yX13_plan wsX13_plan 8 229 0 0 D [.ref (a 0), .int p0, .int p1] (yW K a G) (tK K) sz (fun (r : Int32) (G' : gS) => (yI G') ∧ (gu_un ycd [29, 33, 36, 37, 43, 44, 1300, 1400, 1500, 1600, 1700, 1800, 1900, 2000, 2100, 2300, 2400, 2500, 2600] G G') ∧ (yNh G G') ∧ (((G' 0 32).toInt = (G 0 32).toInt))) (fun (G' : gS) => (yW K a G')) (fun _ => (tK K)) := by
  unfold Ki
  refine g_ofW (cc := cX13_plan) (lv := [(0, .ref (a 0)), (1, .int p0), (2, .int p1)]) (by decide) rfl (Nat.le_of_ble_eq_true rfl) rfl ?_
  intro p e s m args below meth c A Q hA hQ F hr hnm
  have hts := F.2.2.2.2.1
  have w_0 : (Cond.fieldLink RX13 247 "QuietCutModel" "planned" "[I").before args s = true := hts _ (List.mem_of_getElem? (i := 8) rfl)
  have i_X13 : ∀ w ∈ u_ws RX13 TX13 73, w ∈ wsX13_plan := fun _ h => List.mem_cons_of_mem _ (List.mem_append_right _ h)
  have w_1 : (Cond.fieldLink RX13 469 "QuietCutModel" "plans" "I").before args s = true := hts _ (List.mem_of_getElem? (i := 7) rfl)
  have w_2 : (Cond.fieldLink RX13 478 "QuietCutModel" "hasPlan" "Z").before args s = true := hts _ (List.mem_of_getElem? (i := 9) rfl)
  have w_3 : (Cond.fieldLink RX13 241 "QuietCutModel" "planTime" "[I").before args s = true := hts _ (List.mem_of_getElem? (i := 4) rfl)
  have w_4 : (Cond.fieldLink RX13 244 "QuietCutModel" "planMany" "[I").before args s = true := hts _ (List.mem_of_getElem? (i := 5) rfl)
  have w_5 : (Cond.constant RX13 391 (1000000000)).before args s = true := hts _ (List.mem_of_getElem? (i := 6) rfl)
  have w_6 : (Cond.fieldLink RX13 250 "QuietCutModel" "isQuiet" "[Z").before args s = true := hts _ (List.mem_of_getElem? (i := 3) rfl)
  have w_7 : (Cond.constantLong RX13 463 (400)).before args s = true := hts _ (List.mem_of_getElem? (i := 1) rfl)
  have w_8 : (Cond.fieldLink RX13 199 "QuietCutModel" "rule" "[I").before args s = true := hts _ (List.mem_of_getElem? (i := 2) rfl)
  have rg0 : -2147483648 ≤ s0 ∧ s0 ≤ 2147483647 := e0 ▸ ti_rng p0
  have rg1 : -2147483648 ≤ s1 ∧ s1 ≤ 2147483647 := e1 ▸ ti_rng p1
  have b1 : (0 : Int) ≤ (G 0 32).toInt ∧ (G 0 32).toInt ≤ 7 := hI 0 32
  have J_290 : ∀ (fuel : Nat) (x290_3 : Int32) (x290_4 : Int32) (Gj290 : gS), (x290_4.toInt).toNat < fuel → (0 ≤ x290_3.toInt ∧ x290_3.toInt ≤ 400) → (0 ≤ x290_4.toInt ∧ x290_4.toInt ≤ 400) → (yI Gj290) → (gu_un ycd [29, 33, 36, 37, 43, 1300, 1400, 1500, 1600, 1700, 1800, 1900, 2000, 2100, 2300, 2400, 2500, 2600] G Gj290) → (yPl (G 3) (G 7) (Gj290 26) (Gj290 23) (Gj290 24) (x290_3.toInt + 1)) → ((0 ≤ x290_4.toInt ∧ x290_4.toInt ≤ x290_3.toInt ∧ x290_3.toInt ≤ 400 ∧ (Gj290 0 42).toInt + x290_4.toInt ≤ 400)) → ((x290_4.toInt = 0 ∨ ((Gj290 23) (x290_4.toInt).toNat).toInt < 1000000000)) → (((Gj290 0 32).toInt = (G 0 32).toInt)) → (yNh G Gj290) → gG p l e (gR 8 0 0 229) s m args below meth c D A 7 Q 0 0 (yW K a Gj290) (tK K) [(0, .ref (a 0)), (3, .int x290_3), (4, .int x290_4)] 290 [] := by
    intro fuel
    induction fuel with
    | zero => intro x290_3 x290_4 Gj290 hm; exact absurd hm (Nat.not_lt_zero _)
    | succ fuel_290 ih_290 =>
      intro x290_3 x290_4 Gj290 hm_290 h290_3 h290_4 jI290 jU290 pl290 pu pt dc_290 nh290
      have J_299 : ∀ (fuel : Nat) (x299_5 : Int32), (2147483647 - x299_5.toInt).toNat < fuel → (1 ≤ x290_4.toInt ∧ x290_4.toInt ≤ 400) → (21 ≤ x299_5.toInt ∧ x299_5.toInt ≤ 200) → (∃ m : Int, x299_5.toInt ≤ m ∧ m ≤ 200 ∧ yOn (G 3) (G 7) (Gj290 26) (Gj290 23) (Gj290 24) x290_4.toInt ((m - 1) % 20 + 1) ((m - 1) / 20)) → (((Gj290 0 32).toInt = (G 0 32).toInt)) → gG p l e (gR 8 0 0 229) s m args below meth c D A 7 Q 0 0 (yW K a Gj290) (tK K) [(0, .ref (a 0)), (3, .int x290_3), (4, .int x290_4), (5, .int x299_5)] 299 [] := by
        intro fuel
        induction fuel with
        | zero => intro x299_5 hm; exact absurd hm (Nat.not_lt_zero _)
        | succ fuel_299 ih_299 =>
          intro x299_5 hm_299 k299_4 h299_5 em dc_299
          refine g_aload_n F 0 dX13_plan_299 rfl rfl ?_
          refine g_iload F 2 dX13_plan_300 rfl ?_
          refine g_iload F 3 dX13_plan_302 rfl ?_
          refine u_callVi (k := 0) (n := 0) (b := a 0) (As := [.int x290_4, .int x299_5]) (st := []) F (fun sz => S_X13_isOn l D K a Gj290 x290_4 x290_4.toInt x299_5 x299_5.toInt rfl (by omega) rfl (by omega) jI290 sz) (cwV 2 hts gX13_plan_X13_isOn rfl rfl rfl (by decide +kernel) ⟨Nat.le_of_ble_eq_true rfl, Nat.le_of_ble_eq_true rfl⟩) rfl 0 yc_0 rfl (Nat.le_of_ble_eq_true rfl) ⟨Nat.zero_le _, Nat.zero_le _⟩ dX13_plan_304 (fun r2 _ hw3 => ?_)
          rcases hw3 with ⟨rfl, q5⟩ | ⟨rfl, q6⟩
          · have q5 : yOn (G 3) (G 7) (Gj290 26) (Gj290 23) (Gj290 24) x290_4.toInt ((x299_5.toInt - 1) % 20 + 1) ((x299_5.toInt - 1) / 20) := by have h9 := q5; (try simp only [(show Gj290 3 = (G 3) from (show Gj290 3 = G 3 from funext fun k_ => jU290 3 k_ (show (300 : Nat) ∉ ([29, 33, 36, 37, 43, 1300, 1400, 1500, 1600, 1700, 1800, 1900, 2000, 2100, 2300, 2400, 2500, 2600] : List Nat) by decide))), (show Gj290 7 = (G 7) from (show Gj290 7 = G 7 from funext fun k_ => jU290 7 k_ (show (700 : Nat) ∉ ([29, 33, 36, 37, 43, 1300, 1400, 1500, 1600, 1700, 1800, 1900, 2000, 2100, 2300, 2400, 2500, 2600] : List Nat) by decide)))] at h9); exact h9
            refine v_if_ne F 316 dX13_plan_307 (by decide) 1 rfl (fun c7 => ?_) (fun c7 => absurd c7 (by decide))
            have on1 := q5
            unfold yOn at on1
            obtain ⟨o1, o2, o3, o4, o5⟩ := on1
            refine g_aload_n F 0 dX13_plan_316 rfl rfl ?_
            refine yg_0_40 F i_X13 w_0 dX13_plan_317 ?_
            refine g_aload_n F 0 dX13_plan_320 rfl rfl ?_
            refine yg_0_42 F i_X13 w_1 dX13_plan_321 (Gj290 0 42) (rfl) ?_
            refine g_iload F 3 dX13_plan_324 rfl ?_
            have b8 : (0 : Int) ≤ (Gj290 0 42).toInt ∧ (Gj290 0 42).toInt ≤ 400 := jI290 0 42
            refine u_iast F 25 0 yc_25 rfl (Gj290 0 42).toInt rfl (by omega) (by omega) (yW K a (gu_up Gj290 25 ((Gj290 0 42).toInt).toNat x299_5)) (ys_25 _) dX13_plan_326 ?_
            refine g_aload_n F 0 dX13_plan_327 rfl rfl ?_
            refine g_dup F dX13_plan_328 rfl ?_
            refine yg_0_42 F i_X13 w_1 dX13_plan_329 (Gj290 0 42) (rfl) ?_
            refine g_iconst F 1 dX13_plan_332 (by decide) ?_
            refine u_iadd F dX13_plan_333 (Gj290 0 42).toInt 1 rfl rfl (by omega) (by omega) (fun y9 ey9 => ?_)
            refine yp_0_42 F i_X13 w_1 dX13_plan_334 ?_
            refine g_iload F 2 dX13_plan_337 rfl ?_
            refine g_iload F 3 dX13_plan_339 rfl ?_
            refine u_call0 (k := 0) (n := 0) (As := [.int x299_5]) (st := [.int x290_4]) F (fun sz => S_X13_feedOf_b200 l D x299_5 x299_5.toInt rfl (by omega) sz) (va_cwS 1 hts gX13_plan_X13_feedOf rfl rfl rfl (by decide +kernel) ⟨Nat.le_of_ble_eq_true rfl, Nat.le_of_ble_eq_true rfl⟩) rfl (Nat.le_of_ble_eq_true rfl) ⟨Nat.zero_le _, Nat.zero_le _⟩ dX13_plan_341 (fun r10 _ hw11 => ?_)
            have q13 : (r10.toInt = ((x299_5.toInt - 1) % 20 + 1)) := hw11.2
            have rg14 := hw11.1
            have rg15 := hw11.2
            clear hw11
            refine u_isub F dX13_plan_344 x290_4.toInt r10.toInt rfl rfl (by omega) (by omega) (fun y16 ey16 => ?_)
            refine g_istore F [(4, .int y16), (0, .ref (a 0)), (3, .int x290_3), (5, .int x299_5)] dX13_plan_345 (by decide) rfl ?_
            refine g_goto F 290 dX13_plan_347 (by decide) ?_
            refine g_locals [(0, .ref (a 0)), (3, .int x290_3), (4, .int y16)] [1, 2, 0] rfl ?_
            have b17 : (0 : Int) ≤ (Gj290 0 32).toInt ∧ (Gj290 0 32).toInt ≤ 7 := jI290 0 32
            exact ih_290 x290_3 y16 (gu_up (gu_up Gj290 25 ((Gj290 0 42).toInt).toNat x299_5) 0 42 y9) (by omega) (by have h9 := ti_rng x290_3; omega) (by have h9 := ti_rng y16; omega) (gu_I.up (j := 0) (k := 42) (v := y9) (gu_I.up (j := 25) (k := ((Gj290 0 42).toInt).toNat) (v := x299_5) jI290 (ti_rng _).1 (ti_rng _).2) (show (0 : Int) ≤ Int32.toInt y9 by omega) (show Int32.toInt y9 ≤ 400 by omega)) (gu_un.up (j := 0) (k := 42) (v := y9) (gu_un.up (j := 25) (k := ((Gj290 0 42).toInt).toNat) (v := x299_5) (gu_un.tr gu_un.rf (gu_un.su jU290 rfl)) (show (2500 : Nat) ∈ ([29, 33, 36, 37, 43, 1300, 1400, 1500, 1600, 1700, 1800, 1900, 2000, 2100, 2300, 2400, 2500, 2600] : List Nat) by decide)) (show (43 : Nat) ∈ ([29, 33, 36, 37, 43, 1300, 1400, 1500, 1600, 1700, 1800, 1900, 2000, 2100, 2300, 2400, 2500, 2600] : List Nat) by decide)) (by show yPl (G 3) (G 7) (Gj290 26) (Gj290 23) (Gj290 24) (x290_3.toInt + 1); exact pl290) (by have e9_0_42 : (gu_up (gu_up Gj290 25 ((Gj290 0 42).toInt).toNat x299_5) 0 42 y9) 0 42 = y9 := rfl; (try simp only [e9_0_42, true_and, and_true]) <;> (first | omega | (simp only [Int32.reduceToInt, true_and, and_true, ne_eq, not_true_eq_false, false_and, or_false, false_or, true_or, or_true, false_implies] <;> omega))) (Or.inr (by show ((Gj290 23) (y16.toInt).toNat).toInt < 1000000000; rw [show y16.toInt = x290_4.toInt - ((x299_5.toInt - 1) % 20 + 1) by omega]; exact o3)) (by have e9_0_32 : (gu_up (gu_up Gj290 25 ((Gj290 0 42).toInt).toNat x299_5) 0 42 y9) 0 32 = (Gj290 0 32) := rfl; (try simp only [e9_0_32, true_and, and_true]) <;> (first | omega | (simp only [Int32.reduceToInt, true_and, and_true, ne_eq, not_true_eq_false, false_and, or_false, false_or, true_or, or_true, false_implies] <;> omega))) ((yNh.tr (show yNh G Gj290 from nh290) (yNh.un (show gu_un ycd [43, 2500] Gj290 (gu_up (gu_up Gj290 25 ((Gj290 0 42).toInt).toNat x299_5) 0 42 y9) from (gu_un.up (j := 0) (k := 42) (v := y9) (gu_un.up (j := 25) (k := ((Gj290 0 42).toInt).toNat) (v := x299_5) gu_un.rf (show (2500 : Nat) ∈ ([43, 2500] : List Nat) by decide)) (show (43 : Nat) ∈ ([43, 2500] : List Nat) by decide))) rfl)))
          · have q6 : ¬ (yOn (G 3) (G 7) (Gj290 26) (Gj290 23) (Gj290 24) x290_4.toInt ((x299_5.toInt - 1) % 20 + 1) ((x299_5.toInt - 1) / 20)) := by have h9 := q6; (try simp only [(show Gj290 3 = (G 3) from (show Gj290 3 = G 3 from funext fun k_ => jU290 3 k_ (show (300 : Nat) ∉ ([29, 33, 36, 37, 43, 1300, 1400, 1500, 1600, 1700, 1800, 1900, 2000, 2100, 2300, 2400, 2500, 2600] : List Nat) by decide))), (show Gj290 7 = (G 7) from (show Gj290 7 = G 7 from funext fun k_ => jU290 7 k_ (show (700 : Nat) ∉ ([29, 33, 36, 37, 43, 1300, 1400, 1500, 1600, 1700, 1800, 1900, 2000, 2100, 2300, 2400, 2500, 2600] : List Nat) by decide)))] at h9); exact h9
            refine v_if_ne F 316 dX13_plan_307 (by decide) 0 rfl (fun c18 => absurd c18 (by decide)) (fun c18 => ?_)
            refine u_iinc F (fun v_ => [(5, .int v_), (0, .ref (a 0)), (3, .int x290_3), (4, .int x290_4)]) dX13_plan_310 (j := 3) rfl x299_5.toInt 1 rfl rfl (by omega) (by omega) (by decide) (fun _ => rfl) (fun y19 ey19 => ?_)
            refine g_goto F 299 dX13_plan_313 (by decide) ?_
            refine g_locals [(0, .ref (a 0)), (3, .int x290_3), (4, .int x290_4), (5, .int y19)] [1, 2, 3, 0] rfl ?_
            obtain ⟨m9, m1, m2, m3⟩ := em; have m4 : m9 ≠ x299_5.toInt := by { intro h; rw [h] at m3; exact q6 m3 }
            have b20 : (0 : Int) ≤ (Gj290 0 32).toInt ∧ (Gj290 0 32).toInt ≤ 7 := jI290 0 32
            exact ih_299 y19 (by omega) (by have h9 := ti_rng x290_4; omega) (by have h9 := ti_rng y19; omega) (⟨m9, by omega, m2, m3⟩) (by (first | omega | (simp only [Int32.reduceToInt, true_and, and_true, ne_eq, not_true_eq_false, false_and, or_false, false_or, true_or, or_true, false_implies] <;> omega)))
      refine g_iload F 2 dX13_plan_290 rfl ?_
      refine v_if_le F 350 dX13_plan_292 (by decide) x290_4.toInt rfl (fun c21 => ?_) (fun c21 => ?_)
      · refine g_aload_n F 0 dX13_plan_350 rfl rfl ?_
        refine g_iconst F 1 dX13_plan_351 (by decide) ?_
        refine yp_0_43 F i_X13 w_2 dX13_plan_352 (by decide) ?_
        refine g_aload_n F 0 dX13_plan_355 rfl rfl ?_
        refine yg_0_38 F i_X13 w_3 dX13_plan_356 ?_
        refine g_iload_n F 1 dX13_plan_359 rfl rfl ?_
        refine u_iald F 23 0 yc_23 rfl x290_3.toInt rfl (by omega) (by omega) dX13_plan_360 (fun _ => True) (fun _ => trivial) (fun y22 by22 => ?_)
        have b23 : (0 : Int) ≤ (Gj290 0 32).toInt ∧ (Gj290 0 32).toInt ≤ 7 := jI290 0 32
        exact u_iret F hA hQ hr (gu_up Gj290 0 43 1) (⟨(gu_I.up (j := 0) (k := 43) (v := 1) jI290 (show (0 : Int) ≤ (1 : Int32).toInt by decide) (show (1 : Int32).toInt ≤ 1 by decide)), (gu_un.up (j := 0) (k := 43) (v := 1) (gu_un.tr gu_un.rf (gu_un.su jU290 rfl)) (show (44 : Nat) ∈ ([29, 33, 36, 37, 43, 44, 1300, 1400, 1500, 1600, 1700, 1800, 1900, 2000, 2100, 2300, 2400, 2500, 2600] : List Nat) by decide)), ((yNh.tr (show yNh G Gj290 from nh290) (yNh.un (show gu_un ycd [44] Gj290 (gu_up Gj290 0 43 1) from (gu_un.up (j := 0) (k := 43) (v := 1) gu_un.rf (show (44 : Nat) ∈ ([44] : List Nat) by decide))) rfl))), (by show (((gu_up Gj290 0 43 1) 0 32).toInt = (G 0 32).toInt); have e9_0_32 : (gu_up Gj290 0 43 1) 0 32 = (Gj290 0 32) := rfl; (try simp only [e9_0_32, true_and, and_true]) <;> (first | omega | (simp only [Int32.reduceToInt, true_and, and_true, ne_eq, not_true_eq_false, false_and, or_false, false_or, true_or, or_true, false_implies] <;> omega)))⟩) rfl rfl dX13_plan_361
      · refine g_bipush F 21 dX13_plan_295 (by decide) ?_
        refine g_istore F [(5, .int 21), (0, .ref (a 0)), (3, .int x290_3), (4, .int x290_4)] dX13_plan_297 (by decide) rfl ?_
        refine g_locals [(0, .ref (a 0)), (3, .int x290_3), (4, .int x290_4), (5, .int 21)] [1, 2, 3, 0] rfl ?_
        skip
        have b24 : (0 : Int) ≤ (Gj290 0 32).toInt ∧ (Gj290 0 32).toInt ≤ 7 := jI290 0 32
        exact J_299 _ 21 (Nat.lt_succ_self _) (by have h9 := ti_rng x290_4; omega) (by decide) (yPl_mark pl290 (by omega) (by omega) (by omega)) (by (first | omega | (simp only [Int32.reduceToInt, true_and, and_true, ne_eq, not_true_eq_false, false_and, or_false, false_or, true_or, or_true, false_implies] <;> omega)))
  have J_131 : ∀ (fuel : Nat) (x131_3 : Int32) (x131_4 : Int32) (Gj131 : gS), (2147483647 - x131_4.toInt).toNat < fuel → (0 ≤ x131_3.toInt ∧ x131_3.toInt ≤ 400) → (1 ≤ x131_4.toInt ∧ x131_4.toInt ≤ 401) → (yI Gj131) → (gu_un ycd [29, 33, 36, 37, 1300, 1400, 1500, 1600, 1700, 1800, 1900, 2000, 2100, 2300, 2400, 2600] G Gj131) → (yPl (G 3) (G 7) (Gj131 26) (Gj131 23) (Gj131 24) x131_4.toInt) → (((Gj131 0 32).toInt = (G 0 32).toInt)) → (yNh G Gj131) → gG p l e (gR 8 0 0 229) s m args below meth c D A 7 Q 0 0 (yW K a Gj131) (tK K) [(0, .ref (a 0)), (3, .int x131_3), (4, .int x131_4)] 131 [] := by
    intro fuel
    induction fuel with
    | zero => intro x131_3 x131_4 Gj131 hm; exact absurd hm (Nat.not_lt_zero _)
    | succ fuel_131 ih_131 =>
      intro x131_3 x131_4 Gj131 hm_131 h131_3 h131_4 jI131 jU131 pl131 dc_131 nh131
      have J_160 : ∀ (fuel : Nat) (x160_5 : Int32) (Gj160 : gS), (2147483647 - x160_5.toInt).toNat < fuel → (1 ≤ x131_3.toInt ∧ x131_3.toInt ≤ 400) → (1 ≤ x131_4.toInt ∧ x131_4.toInt ≤ 400) → (1 ≤ x160_5.toInt ∧ x160_5.toInt ≤ 10) → (yI Gj160) → (gu_un ycd [2300, 2400] Gj131 Gj160) → (yPl (G 3) (G 7) (Gj131 26) (Gj160 23) (Gj160 24) (x131_4.toInt + 1)) → (((Gj131 0 32).toInt = (G 0 32).toInt)) → gG p l e (gR 8 0 0 229) s m args below meth c D A 7 Q 0 0 (yW K a Gj160) (tK K) [(0, .ref (a 0)), (3, .int x131_3), (4, .int x131_4), (5, .int x160_5)] 160 [] := by
        intro fuel
        induction fuel with
        | zero => intro x160_5 Gj160 hm; exact absurd hm (Nat.not_lt_zero _)
        | succ fuel_160 ih_160 =>
          intro x160_5 Gj160 hm_160 k160_3 k160_4 h160_5 jI160 jU160 pl160 dc_160
          have J_170 : ∀ (fuel : Nat) (x170_6 : Int32) (Gj170 : gS), (2147483647 - x170_6.toInt).toNat < fuel → (1 ≤ x160_5.toInt ∧ x160_5.toInt ≤ 9) → (1 ≤ x170_6.toInt ∧ x170_6.toInt ≤ 21) → (yI Gj170) → (gu_un ycd [2300, 2400] Gj160 Gj170) → (yPl (G 3) (G 7) (Gj131 26) (Gj170 23) (Gj170 24) (x131_4.toInt + 1)) → (((Gj131 0 32).toInt = (G 0 32).toInt)) → gG p l e (gR 8 0 0 229) s m args below meth c D A 7 Q 0 0 (yW K a Gj170) (tK K) [(0, .ref (a 0)), (3, .int x131_3), (4, .int x131_4), (5, .int x160_5), (6, .int x170_6)] 170 [] := by
            intro fuel
            induction fuel with
            | zero => intro x170_6 Gj170 hm; exact absurd hm (Nat.not_lt_zero _)
            | succ fuel_170 ih_170 =>
              intro x170_6 Gj170 hm_170 k170_5 h170_6 jI170 jU170 pl170 dc_170
              have J_250 : ∀  (Gj250 : gS), (1 ≤ x170_6.toInt ∧ x170_6.toInt ≤ 20) → (yI Gj250) → (gu_un ycd [2300, 2400] Gj170 Gj250) → (yPl (G 3) (G 7) (Gj131 26) (Gj250 23) (Gj250 24) (x131_4.toInt + 1)) → (((Gj131 0 32).toInt = (G 0 32).toInt)) → gG p l e (gR 8 0 0 229) s m args below meth c D A 7 Q 0 0 (yW K a Gj250) (tK K) [(0, .ref (a 0)), (3, .int x131_3), (4, .int x131_4), (5, .int x160_5), (6, .int x170_6)] 250 [] := by
                intro Gj250 k250_6 jI250 jU250 pl250 dc_250
                refine u_iinc F (fun v_ => [(6, .int v_), (0, .ref (a 0)), (3, .int x131_3), (4, .int x131_4), (5, .int x160_5)]) dX13_plan_250 (j := 4) rfl x170_6.toInt 1 rfl rfl (by omega) (by omega) (by decide) (fun _ => rfl) (fun y25 ey25 => ?_)
                refine g_goto F 170 dX13_plan_253 (by decide) ?_
                refine g_locals [(0, .ref (a 0)), (3, .int x131_3), (4, .int x131_4), (5, .int x160_5), (6, .int y25)] [1, 2, 3, 4, 0] rfl ?_
                have b26 : (0 : Int) ≤ (Gj131 0 32).toInt ∧ (Gj131 0 32).toInt ≤ 7 := jI131 0 32
                exact ih_170 y25 Gj250 (by omega) (by have h9 := ti_rng x160_5; omega) (by have h9 := ti_rng y25; omega) jI250 (gu_un.tr (gu_un.tr gu_un.rf (gu_un.su jU170 rfl)) (gu_un.su jU250 rfl)) (pl250) (by have e9_0_32 : Gj250 0 32 = (Gj131 0 32) := (jU250 0 32 (by decide)).trans ((jU170 0 32 (by decide)).trans (jU160 0 32 (by decide))); (try simp only [e9_0_32, true_and, and_true]) <;> (first | omega | (simp only [Int32.reduceToInt, true_and, and_true, ne_eq, not_true_eq_false, false_and, or_false, false_or, true_or, or_true, false_implies] <;> omega)))
              refine g_iload F 4 dX13_plan_170 rfl ?_
              refine g_bipush F 20 dX13_plan_172 (by decide) ?_
              refine v_icmp_gt F 256 dX13_plan_174 (by decide) x170_6.toInt 20 rfl rfl (fun c27 => ?_) (fun c27 => ?_)
              · refine u_iinc F (fun v_ => [(5, .int v_), (0, .ref (a 0)), (3, .int x131_3), (4, .int x131_4), (6, .int x170_6)]) dX13_plan_256 (j := 3) rfl x160_5.toInt 1 rfl rfl (by omega) (by omega) (by decide) (fun _ => rfl) (fun y28 ey28 => ?_)
                refine g_goto F 160 dX13_plan_259 (by decide) ?_
                refine g_locals [(0, .ref (a 0)), (3, .int x131_3), (4, .int x131_4), (5, .int y28)] [1, 2, 3, 0] rfl ?_
                have b29 : (0 : Int) ≤ (Gj131 0 32).toInt ∧ (Gj131 0 32).toInt ≤ 7 := jI131 0 32
                exact ih_160 y28 Gj170 (by omega) (by have h9 := ti_rng x131_3; omega) (by have h9 := ti_rng x131_4; omega) (by have h9 := ti_rng y28; omega) jI170 (gu_un.tr (gu_un.tr gu_un.rf (gu_un.su jU160 rfl)) (gu_un.su jU170 rfl)) (pl170) (by have e9_0_32 : Gj170 0 32 = (Gj131 0 32) := (jU170 0 32 (by decide)).trans (jU160 0 32 (by decide)); (try simp only [e9_0_32, true_and, and_true]) <;> (first | omega | (simp only [Int32.reduceToInt, true_and, and_true, ne_eq, not_true_eq_false, false_and, or_false, false_or, true_or, or_true, false_implies] <;> omega)))
              · refine g_aload_n F 0 dX13_plan_177 rfl rfl ?_
                refine g_iload F 2 dX13_plan_178 rfl ?_
                refine g_iload F 3 dX13_plan_180 rfl ?_
                refine g_iload F 4 dX13_plan_182 rfl ?_
                refine g_aload_n F 0 dX13_plan_184 rfl rfl ?_
                refine yg_0_38 F i_X13 w_3 dX13_plan_185 ?_
                refine g_iload F 2 dX13_plan_188 rfl ?_
                refine u_iald F 23 0 yc_23 rfl x131_4.toInt rfl (by omega) (by omega) dX13_plan_190 (fun _ => True) (fun _ => trivial) (fun y30 by30 => ?_)
                refine g_aload_n F 0 dX13_plan_191 rfl rfl ?_
                refine yg_0_39 F i_X13 w_4 dX13_plan_192 ?_
                refine g_iload F 2 dX13_plan_195 rfl ?_
                refine u_iald F 24 0 yc_24 rfl x131_4.toInt rfl (by omega) (by omega) dX13_plan_197 (fun _ => True) (fun _ => trivial) (fun y31 by31 => ?_)
                refine u_callVi (k := 0) (n := 0) (b := a 0) (As := [.int x131_4, .int x160_5, .int x170_6, .int y30, .int y31]) (st := []) F (fun sz => S_X13_goesBy l D K a Gj170 x131_4 x131_4.toInt x160_5 x160_5.toInt x170_6 x170_6.toInt y30 y30.toInt y31 y31.toInt rfl (by omega) rfl (by omega) rfl (by omega) rfl rfl jI170 sz) (cwV 5 hts gX13_plan_X13_goesBy rfl rfl rfl (by decide +kernel) ⟨Nat.le_of_ble_eq_true rfl, Nat.le_of_ble_eq_true rfl⟩) rfl 0 yc_0 rfl (Nat.le_of_ble_eq_true rfl) ⟨Nat.zero_le _, Nat.zero_le _⟩ dX13_plan_198 (fun r32 _ hw33 => ?_)
                rcases hw33 with ⟨rfl, q35⟩ | ⟨rfl, q36⟩
                · have q35 : (x170_6.toInt ≤ x131_4.toInt ∧ ((Gj131 26) (21 * x160_5.toInt + x170_6.toInt).toNat).toInt ≠ 0 ∧ ((Gj170 23) (x131_4.toInt - x170_6.toInt).toNat).toInt < 1000000000) := by have h9 := q35; (try simp only [(show Gj170 26 = (Gj131 26) from (show Gj170 26 = Gj160 26 from funext fun k_ => jU170 26 k_ (show (2600 : Nat) ∉ ([2300, 2400] : List Nat) by decide)).trans ((show Gj160 26 = Gj131 26 from funext fun k_ => jU160 26 k_ (show (2600 : Nat) ∉ ([2300, 2400] : List Nat) by decide))))] at h9); exact h9
                  refine v_if_ne F 207 dX13_plan_201 (by decide) 1 rfl (fun c37 => ?_) (fun c37 => absurd c37 (by decide))
                  refine g_aload_n F 0 dX13_plan_207 rfl rfl ?_
                  refine yg_0_38 F i_X13 w_3 dX13_plan_208 ?_
                  refine g_iload F 2 dX13_plan_211 rfl ?_
                  refine g_aload_n F 0 dX13_plan_213 rfl rfl ?_
                  refine g_iload F 3 dX13_plan_214 rfl ?_
                  refine u_callVi (k := 0) (n := 0) (b := a 0) (As := [.int x160_5]) (st := [.int x131_4, .ref (a 23)]) F (fun sz => S_X13_timeOf_b9 l D K a Gj170 x160_5 x160_5.toInt rfl (by omega) jI170 sz) (cwV 1 hts gX13_plan_X13_timeOf rfl rfl rfl (by decide +kernel) ⟨Nat.le_of_ble_eq_true rfl, Nat.le_of_ble_eq_true rfl⟩) rfl 0 yc_0 rfl (Nat.le_of_ble_eq_true rfl) ⟨Nat.zero_le _, Nat.zero_le _⟩ dX13_plan_216 (fun r38 _ hw39 => ?_)
                  have q41 : (r38.toInt = (yT (G 3) (G 7) x160_5.toInt).toInt) := by have h9 := hw39; (try simp only [(show Gj170 3 = (G 3) from (show Gj170 3 = Gj160 3 from funext fun k_ => jU170 3 k_ (show (300 : Nat) ∉ ([2300, 2400] : List Nat) by decide)).trans ((show Gj160 3 = Gj131 3 from funext fun k_ => jU160 3 k_ (show (300 : Nat) ∉ ([2300, 2400] : List Nat) by decide)).trans ((show Gj131 3 = G 3 from funext fun k_ => jU131 3 k_ (show (300 : Nat) ∉ ([29, 33, 36, 37, 1300, 1400, 1500, 1600, 1700, 1800, 1900, 2000, 2100, 2300, 2400, 2600] : List Nat) by decide))))), (show Gj170 7 = (G 7) from (show Gj170 7 = Gj160 7 from funext fun k_ => jU170 7 k_ (show (700 : Nat) ∉ ([2300, 2400] : List Nat) by decide)).trans ((show Gj160 7 = Gj131 7 from funext fun k_ => jU160 7 k_ (show (700 : Nat) ∉ ([2300, 2400] : List Nat) by decide)).trans ((show Gj131 7 = G 7 from funext fun k_ => jU131 7 k_ (show (700 : Nat) ∉ ([29, 33, 36, 37, 1300, 1400, 1500, 1600, 1700, 1800, 1900, 2000, 2100, 2300, 2400, 2600] : List Nat) by decide)))))] at h9); first | exact h9 | omega
                  clear hw39
                  refine g_fold (yT (G 3) (G 7) x160_5.toInt) (Int32.toInt_inj.mp q41) ?_
                  refine g_aload_n F 0 dX13_plan_219 rfl rfl ?_
                  refine yg_0_38 F i_X13 w_3 dX13_plan_220 ?_
                  refine g_iload F 2 dX13_plan_223 rfl ?_
                  refine g_iload F 4 dX13_plan_225 rfl ?_
                  refine u_isub F dX13_plan_227 x131_4.toInt x170_6.toInt rfl rfl (by omega) (by omega) (fun y42 ey42 => ?_)
                  refine u1_iald F 23 0 yc_23 rfl y42.toInt rfl (by omega) (by omega) dX13_plan_228 ((Gj170 23) ((x131_4.toInt - x170_6.toInt)).toNat) (by rw [show y42.toInt = (x131_4.toInt - x170_6.toInt) by omega] <;> rfl) ?_
                  refine g_iadd F dX13_plan_229 ?_
                  refine u_iast F 23 0 yc_23 rfl x131_4.toInt rfl (by omega) (by omega) (yW K a (gu_up Gj170 23 (x131_4.toInt).toNat ((yT (G 3) (G 7) x160_5.toInt) + ((Gj170 23) ((x131_4.toInt - x170_6.toInt)).toNat)))) (ys_23 _) dX13_plan_230 ?_
                  refine g_aload_n F 0 dX13_plan_231 rfl rfl ?_
                  refine yg_0_39 F i_X13 w_4 dX13_plan_232 ?_
                  refine g_iload F 2 dX13_plan_235 rfl ?_
                  refine g_iconst F 1 dX13_plan_237 (by decide) ?_
                  refine g_aload_n F 0 dX13_plan_238 rfl rfl ?_
                  refine yg_0_39 F i_X13 w_4 dX13_plan_239 ?_
                  refine g_iload F 2 dX13_plan_242 rfl ?_
                  refine g_iload F 4 dX13_plan_244 rfl ?_
                  refine u_isub F dX13_plan_246 x131_4.toInt x170_6.toInt rfl rfl (by omega) (by omega) (fun y43 ey43 => ?_)
                  refine u1_iald F 24 0 yc_24 rfl y43.toInt rfl (by omega) (by omega) dX13_plan_247 ((Gj170 24) ((x131_4.toInt - x170_6.toInt)).toNat) (by rw [show y43.toInt = (x131_4.toInt - x170_6.toInt) by omega] <;> rfl) ?_
                  refine g_iadd F dX13_plan_248 ?_
                  refine u_iast F 24 0 yc_24 rfl x131_4.toInt rfl (by omega) (by omega) (yW K a (gu_up (gu_up Gj170 23 (x131_4.toInt).toNat ((yT (G 3) (G 7) x160_5.toInt) + ((Gj170 23) ((x131_4.toInt - x170_6.toInt)).toNat))) 24 (x131_4.toInt).toNat (1 + ((Gj170 24) ((x131_4.toInt - x170_6.toInt)).toNat)))) (ys_24 _) dX13_plan_249 ?_
                  have b44 : (0 : Int) ≤ (Gj131 0 32).toInt ∧ (Gj131 0 32).toInt ≤ 7 := jI131 0 32
                  exact J_250 (gu_up (gu_up Gj170 23 (x131_4.toInt).toNat ((yT (G 3) (G 7) x160_5.toInt) + ((Gj170 23) ((x131_4.toInt - x170_6.toInt)).toNat))) 24 (x131_4.toInt).toNat (1 + ((Gj170 24) ((x131_4.toInt - x170_6.toInt)).toNat))) (by have h9 := ti_rng x170_6; omega) (gu_I.up (j := 24) (k := (x131_4.toInt).toNat) (v := (1 + ((Gj170 24) ((x131_4.toInt - x170_6.toInt)).toNat))) (gu_I.up (j := 23) (k := (x131_4.toInt).toNat) (v := ((yT (G 3) (G 7) x160_5.toInt) + ((Gj170 23) ((x131_4.toInt - x170_6.toInt)).toNat))) jI170 (ti_rng _).1 (ti_rng _).2) (ti_rng _).1 (ti_rng _).2) (gu_un.up (j := 24) (k := (x131_4.toInt).toNat) (v := (1 + ((Gj170 24) ((x131_4.toInt - x170_6.toInt)).toNat))) (gu_un.up (j := 23) (k := (x131_4.toInt).toNat) (v := ((yT (G 3) (G 7) x160_5.toInt) + ((Gj170 23) ((x131_4.toInt - x170_6.toInt)).toNat))) gu_un.rf (show (2300 : Nat) ∈ ([2300, 2400] : List Nat) by decide)) (show (2400 : Nat) ∈ ([2300, 2400] : List Nat) by decide)) (by show yPl (G 3) (G 7) (Gj131 26) (upd (Gj170 23) (x131_4.toInt).toNat ((yT (G 3) (G 7) x160_5.toInt) + ((Gj170 23) ((x131_4.toInt - x170_6.toInt)).toNat))) (upd (Gj170 24) (x131_4.toInt).toNat (1 + ((Gj170 24) ((x131_4.toInt - x170_6.toInt)).toNat))) (x131_4.toInt + 1); exact yPl_put (by omega) pl170 (by omega) (by omega) (by omega) (by omega) (by omega) q35.2.1 q35.2.2 rfl rfl) (by have e9_0_32 : (gu_up (gu_up Gj170 23 (x131_4.toInt).toNat ((yT (G 3) (G 7) x160_5.toInt) + ((Gj170 23) ((x131_4.toInt - x170_6.toInt)).toNat))) 24 (x131_4.toInt).toNat (1 + ((Gj170 24) ((x131_4.toInt - x170_6.toInt)).toNat))) 0 32 = (Gj131 0 32) := (jU170 0 32 (by decide)).trans (jU160 0 32 (by decide)); (try simp only [e9_0_32, true_and, and_true]) <;> (first | omega | (simp only [Int32.reduceToInt, true_and, and_true, ne_eq, not_true_eq_false, false_and, or_false, false_or, true_or, or_true, false_implies] <;> omega)))
                · refine v_if_ne F 207 dX13_plan_201 (by decide) 0 rfl (fun c45 => absurd c45 (by decide)) (fun c45 => ?_)
                  refine g_goto F 250 dX13_plan_204 (by decide) ?_
                  have b46 : (0 : Int) ≤ (Gj131 0 32).toInt ∧ (Gj131 0 32).toInt ≤ 7 := jI131 0 32
                  exact J_250 Gj170 (by have h9 := ti_rng x170_6; omega) jI170 gu_un.rf (pl170) (by have e9_0_32 : Gj170 0 32 = (Gj131 0 32) := (jU170 0 32 (by decide)).trans (jU160 0 32 (by decide)); (try simp only [e9_0_32, true_and, and_true]) <;> (first | omega | (simp only [Int32.reduceToInt, true_and, and_true, ne_eq, not_true_eq_false, false_and, or_false, false_or, true_or, or_true, false_implies] <;> omega)))
          refine g_iload F 3 dX13_plan_160 rfl ?_
          refine g_bipush F 9 dX13_plan_162 (by decide) ?_
          refine v_icmp_gt F 262 dX13_plan_164 (by decide) x160_5.toInt 9 rfl rfl (fun c47 => ?_) (fun c47 => ?_)
          · refine u_iinc F (fun v_ => [(4, .int v_), (0, .ref (a 0)), (3, .int x131_3), (5, .int x160_5)]) dX13_plan_262 (j := 2) rfl x131_4.toInt 1 rfl rfl (by omega) (by omega) (by decide) (fun _ => rfl) (fun y48 ey48 => ?_)
            refine g_goto F 131 dX13_plan_265 (by decide) ?_
            refine g_locals [(0, .ref (a 0)), (3, .int x131_3), (4, .int y48)] [1, 2, 0] rfl ?_
            have b49 : (0 : Int) ≤ (Gj131 0 32).toInt ∧ (Gj131 0 32).toInt ≤ 7 := jI131 0 32
            exact ih_131 x131_3 y48 Gj160 (by omega) (by have h9 := ti_rng x131_3; omega) (by have h9 := ti_rng y48; omega) jI160 (gu_un.tr (gu_un.tr gu_un.rf (gu_un.su jU131 rfl)) (gu_un.su jU160 rfl)) (by rw [show Gj160 26 = (Gj131 26) from (show Gj160 26 = Gj131 26 from funext fun k_ => jU160 26 k_ (show (2600 : Nat) ∉ ([2300, 2400] : List Nat) by decide)), show y48.toInt = x131_4.toInt + 1 by omega]; exact pl160) (by have e9_0_32 : Gj160 0 32 = (Gj131 0 32) := jU160 0 32 (by decide); (try simp only [e9_0_32, true_and, and_true]) <;> (first | omega | (simp only [Int32.reduceToInt, true_and, and_true, ne_eq, not_true_eq_false, false_and, or_false, false_or, true_or, or_true, false_implies] <;> omega))) ((yNh.tr (show yNh G Gj131 from nh131) (show yNh Gj131 Gj160 from (yNh.un jU160 rfl))))
          · refine g_iconst F 1 dX13_plan_167 (by decide) ?_
            refine g_istore F [(6, .int 1), (0, .ref (a 0)), (3, .int x131_3), (4, .int x131_4), (5, .int x160_5)] dX13_plan_168 (by decide) rfl ?_
            refine g_locals [(0, .ref (a 0)), (3, .int x131_3), (4, .int x131_4), (5, .int x160_5), (6, .int 1)] [1, 2, 3, 4, 0] rfl ?_
            have b50 : (0 : Int) ≤ (Gj131 0 32).toInt ∧ (Gj131 0 32).toInt ≤ 7 := jI131 0 32
            exact J_170 _ 1 Gj160 (Nat.lt_succ_self _) (by have h9 := ti_rng x160_5; omega) (by decide) jI160 gu_un.rf (pl160) (by have e9_0_32 : Gj160 0 32 = (Gj131 0 32) := jU160 0 32 (by decide); (try simp only [e9_0_32, true_and, and_true]) <;> (first | omega | (simp only [Int32.reduceToInt, true_and, and_true, ne_eq, not_true_eq_false, false_and, or_false, false_or, true_or, or_true, false_implies] <;> omega)))
      refine g_iload F 2 dX13_plan_131 rfl ?_
      refine g_iload_n F 1 dX13_plan_133 rfl rfl ?_
      refine v_icmp_gt F 268 dX13_plan_134 (by decide) x131_4.toInt x131_3.toInt rfl rfl (fun c51 => ?_) (fun c51 => ?_)
      · refine g_aload_n F 0 dX13_plan_268 rfl rfl ?_
        refine yg_0_38 F i_X13 w_3 dX13_plan_269 ?_
        refine g_iload_n F 1 dX13_plan_272 rfl rfl ?_
        refine u1_iald F 23 0 yc_23 rfl x131_3.toInt rfl (by omega) (by omega) dX13_plan_273 ((Gj131 23) (x131_3.toInt).toNat) (rfl) ?_
        refine g_ldcw F w_5 dX13_plan_274 ?_
        refine v_icmp_lt F 282 dX13_plan_277 (by decide) ((Gj131 23) (x131_3.toInt).toNat).toInt 1000000000 rfl rfl (fun c52 => ?_) (fun c52 => ?_)
        · refine g_aload_n F 0 dX13_plan_282 rfl rfl ?_
          refine g_iconst F 0 dX13_plan_283 (by decide) ?_
          refine yp_0_42 F i_X13 w_1 dX13_plan_284 ?_
          refine g_iload_n F 1 dX13_plan_287 rfl rfl ?_
          refine g_istore F [(4, .int x131_3), (0, .ref (a 0)), (3, .int x131_3)] dX13_plan_288 (by decide) rfl ?_
          refine g_locals [(0, .ref (a 0)), (3, .int x131_3), (4, .int x131_3)] [1, 2, 0] rfl ?_
          have b53 : (0 : Int) ≤ (Gj131 0 32).toInt ∧ (Gj131 0 32).toInt ≤ 7 := jI131 0 32
          exact J_290 _ x131_3 x131_3 (gu_up Gj131 0 42 0) (Nat.lt_succ_self _) (by have h9 := ti_rng x131_3; omega) (by have h9 := ti_rng x131_3; omega) (gu_I.up (j := 0) (k := 42) (v := 0) jI131 (show (0 : Int) ≤ (0 : Int32).toInt by decide) (show (0 : Int32).toInt ≤ 400 by decide)) (gu_un.up (j := 0) (k := 42) (v := 0) (gu_un.tr gu_un.rf (gu_un.su jU131 rfl)) (show (43 : Nat) ∈ ([29, 33, 36, 37, 43, 1300, 1400, 1500, 1600, 1700, 1800, 1900, 2000, 2100, 2300, 2400, 2500, 2600] : List Nat) by decide)) (by show yPl (G 3) (G 7) (Gj131 26) (Gj131 23) (Gj131 24) (x131_3.toInt + 1); exact yPl_le pl131 (by omega)) (by have e9_0_42 : (gu_up Gj131 0 42 0) 0 42 = 0 := rfl; (try simp only [e9_0_42, true_and, and_true]) <;> (first | omega | (simp only [Int32.reduceToInt, true_and, and_true, ne_eq, not_true_eq_false, false_and, or_false, false_or, true_or, or_true, false_implies] <;> omega))) (Or.inr (by show ((Gj131 23) (x131_3.toInt).toNat).toInt < 1000000000; omega)) (by have e9_0_32 : (gu_up Gj131 0 42 0) 0 32 = (Gj131 0 32) := rfl; (try simp only [e9_0_32, true_and, and_true]) <;> (first | omega | (simp only [Int32.reduceToInt, true_and, and_true, ne_eq, not_true_eq_false, false_and, or_false, false_or, true_or, or_true, false_implies] <;> omega))) ((yNh.tr (show yNh G Gj131 from nh131) (yNh.un (show gu_un ycd [43] Gj131 (gu_up Gj131 0 42 0) from (gu_un.up (j := 0) (k := 42) (v := 0) gu_un.rf (show (43 : Nat) ∈ ([43] : List Nat) by decide))) rfl)))
        · refine g_iconst F (-1) dX13_plan_280 (by decide) ?_
          have b54 : (0 : Int) ≤ (Gj131 0 32).toInt ∧ (Gj131 0 32).toInt ≤ 7 := jI131 0 32
          exact u_iret F hA hQ hr Gj131 (⟨jI131, (gu_un.tr gu_un.rf (gu_un.su jU131 rfl)), (nh131), (by show ((Gj131 0 32).toInt = (G 0 32).toInt); (first | omega | (simp only [Int32.reduceToInt, true_and, and_true, ne_eq, not_true_eq_false, false_and, or_false, false_or, true_or, or_true, false_implies] <;> omega)))⟩) rfl rfl dX13_plan_281
      · refine g_aload_n F 0 dX13_plan_137 rfl rfl ?_
        refine yg_0_38 F i_X13 w_3 dX13_plan_138 ?_
        refine g_iload F 2 dX13_plan_141 rfl ?_
        refine g_ldcw F w_5 dX13_plan_143 ?_
        refine u_iast F 23 0 yc_23 rfl x131_4.toInt rfl (by omega) (by omega) (yW K a (gu_up Gj131 23 (x131_4.toInt).toNat 1000000000)) (ys_23 _) dX13_plan_146 ?_
        refine g_aload_n F 0 dX13_plan_147 rfl rfl ?_
        refine yg_0_39 F i_X13 w_4 dX13_plan_148 ?_
        refine g_iload F 2 dX13_plan_151 rfl ?_
        refine g_ldcw F w_5 dX13_plan_153 ?_
        refine u_iast F 24 0 yc_24 rfl x131_4.toInt rfl (by omega) (by omega) (yW K a (gu_up (gu_up Gj131 23 (x131_4.toInt).toNat 1000000000) 24 (x131_4.toInt).toNat 1000000000)) (ys_24 _) dX13_plan_156 ?_
        refine g_iconst F 1 dX13_plan_157 (by decide) ?_
        refine g_istore F [(5, .int 1), (0, .ref (a 0)), (3, .int x131_3), (4, .int x131_4)] dX13_plan_158 (by decide) rfl ?_
        refine g_locals [(0, .ref (a 0)), (3, .int x131_3), (4, .int x131_4), (5, .int 1)] [1, 2, 3, 0] rfl ?_
        have b55 : (0 : Int) ≤ (Gj131 0 32).toInt ∧ (Gj131 0 32).toInt ≤ 7 := jI131 0 32
        exact J_160 _ 1 (gu_up (gu_up Gj131 23 (x131_4.toInt).toNat 1000000000) 24 (x131_4.toInt).toNat 1000000000) (Nat.lt_succ_self _) (by have h9 := ti_rng x131_3; omega) (by have h9 := ti_rng x131_4; omega) (by decide) (gu_I.up (j := 24) (k := (x131_4.toInt).toNat) (v := 1000000000) (gu_I.up (j := 23) (k := (x131_4.toInt).toNat) (v := 1000000000) jI131 (ti_rng _).1 (ti_rng _).2) (ti_rng _).1 (ti_rng _).2) (gu_un.up (j := 24) (k := (x131_4.toInt).toNat) (v := 1000000000) (gu_un.up (j := 23) (k := (x131_4.toInt).toNat) (v := 1000000000) gu_un.rf (show (2300 : Nat) ∈ ([2300, 2400] : List Nat) by decide)) (show (2400 : Nat) ∈ ([2300, 2400] : List Nat) by decide)) (by show yPl (G 3) (G 7) (Gj131 26) (upd (Gj131 23) (x131_4.toInt).toNat 1000000000) (upd (Gj131 24) (x131_4.toInt).toNat 1000000000) (x131_4.toInt + 1); exact yPl_never (by omega) pl131) (by have e9_0_32 : (gu_up (gu_up Gj131 23 (x131_4.toInt).toNat 1000000000) 24 (x131_4.toInt).toNat 1000000000) 0 32 = (Gj131 0 32) := rfl; (try simp only [e9_0_32, true_and, and_true]) <;> (first | omega | (simp only [Int32.reduceToInt, true_and, and_true, ne_eq, not_true_eq_false, false_and, or_false, false_or, true_or, or_true, false_implies] <;> omega)))
  have J_50 : ∀ (fuel : Nat) (x50_3 : Int32) (x50_4 : Int32) (Gj50 : gS), (2147483647 - x50_4.toInt).toNat < fuel → (0 ≤ s0 ∧ s0 ≤ 5) → (0 ≤ x50_3.toInt ∧ x50_3.toInt ≤ 400) → (1 ≤ x50_4.toInt ∧ x50_4.toInt ≤ 10) → (yI Gj50) → (gu_un ycd [29, 33, 36, 37, 1300, 1400, 1500, 1600, 1700, 1800, 1900, 2000, 2100, 2600] G Gj50) → (((Gj50 0 32).toInt = (G 0 32).toInt)) → (yNh G Gj50) → gG p l e (gR 8 0 0 229) s m args below meth c D A 7 Q 0 0 (yW K a Gj50) (tK K) [(0, .ref (a 0)), (1, .int p0), (3, .int x50_3), (4, .int x50_4)] 50 [] := by
    intro fuel
    induction fuel with
    | zero => intro x50_3 x50_4 Gj50 hm; exact absurd hm (Nat.not_lt_zero _)
    | succ fuel_50 ih_50 =>
      intro x50_3 x50_4 Gj50 hm_50 k50_1 h50_3 h50_4 jI50 jU50 dc_50 nh50
      have J_60 : ∀ (fuel : Nat) (x60_5 : Int32) (Gj60 : gS), (2147483647 - x60_5.toInt).toNat < fuel → (1 ≤ x50_4.toInt ∧ x50_4.toInt ≤ 9) → (1 ≤ x60_5.toInt ∧ x60_5.toInt ≤ 21) → (yI Gj60) → (gu_un ycd [29, 33, 36, 37, 1300, 1400, 1500, 1600, 1700, 1800, 1900, 2000, 2100, 2600] Gj50 Gj60) → (((Gj60 0 32).toInt = (G 0 32).toInt)) → (yNh G Gj60) → gG p l e (gR 8 0 0 229) s m args below meth c D A 7 Q 0 0 (yW K a Gj60) (tK K) [(0, .ref (a 0)), (1, .int p0), (3, .int x50_3), (4, .int x50_4), (5, .int x60_5)] 60 [] := by
        intro fuel
        induction fuel with
        | zero => intro x60_5 Gj60 hm; exact absurd hm (Nat.not_lt_zero _)
        | succ fuel_60 ih_60 =>
          intro x60_5 Gj60 hm_60 k60_4 h60_5 jI60 jU60 dc_60 nh60
          have J_101 : ∀  (z101_0 : Int32) (z101_1 : Int32) (Gj101 : gS), (1 ≤ x60_5.toInt ∧ x60_5.toInt ≤ 20) → (0 ≤ z101_0.toInt ∧ z101_0.toInt ≤ 1) → (22 ≤ z101_1.toInt ∧ z101_1.toInt ≤ 209) → (yI Gj101) → (gu_un ycd [29, 33, 36, 37, 1300, 1400, 1500, 1600, 1700, 1800, 1900, 2000, 2100] Gj60 Gj101) → (((Gj101 0 32).toInt = (G 0 32).toInt)) → (yNh G Gj101) → gG p l e (gR 8 0 0 229) s m args below meth c D A 7 Q 0 0 (yW K a Gj101) (tK K) [(0, .ref (a 0)), (1, .int p0), (3, .int x50_3), (4, .int x50_4), (5, .int x60_5)] 101 [.int z101_0, .int z101_1, .ref (a 26)] := by
            intro z101_0 z101_1 Gj101 k101_5 g101_0 g101_1 jI101 jU101 dc_101 nh101
            refine u_zast F 26 3 yc_26 rfl z101_1.toInt rfl (by omega) (by omega) (yW K a (gu_up Gj101 26 (z101_1.toInt).toNat (vp_nar .boolean z101_0))) (ys_26 _) dX13_plan_101 ?_
            refine u_iinc F (fun v_ => [(5, .int v_), (0, .ref (a 0)), (1, .int p0), (3, .int x50_3), (4, .int x50_4)]) dX13_plan_102 (j := 4) rfl x60_5.toInt 1 rfl rfl (by omega) (by omega) (by decide) (fun _ => rfl) (fun y56 ey56 => ?_)
            refine g_goto F 60 dX13_plan_105 (by decide) ?_
            refine g_locals [(0, .ref (a 0)), (1, .int p0), (3, .int x50_3), (4, .int x50_4), (5, .int y56)] [1, 2, 3, 4, 0] rfl ?_
            have b57 : (0 : Int) ≤ (Gj101 0 32).toInt ∧ (Gj101 0 32).toInt ≤ 7 := jI101 0 32
            exact ih_60 y56 (gu_up Gj101 26 (z101_1.toInt).toNat (vp_nar .boolean z101_0)) (by omega) (by have h9 := ti_rng x50_4; omega) (by have h9 := ti_rng y56; omega) (gu_I.up (j := 26) (k := (z101_1.toInt).toNat) (v := (vp_nar .boolean z101_0)) jI101 ((vp_narZ _).1) ((vp_narZ _).2)) (gu_un.up (j := 26) (k := (z101_1.toInt).toNat) (v := (vp_nar .boolean z101_0)) (gu_un.tr (gu_un.tr gu_un.rf (gu_un.su jU60 rfl)) (gu_un.su jU101 rfl)) (show (2600 : Nat) ∈ ([29, 33, 36, 37, 1300, 1400, 1500, 1600, 1700, 1800, 1900, 2000, 2100, 2600] : List Nat) by decide)) (by have e9_0_32 : (gu_up Gj101 26 (z101_1.toInt).toNat (vp_nar .boolean z101_0)) 0 32 = (Gj101 0 32) := rfl; (try simp only [e9_0_32, true_and, and_true]) <;> (first | omega | (simp only [Int32.reduceToInt, true_and, and_true, ne_eq, not_true_eq_false, false_and, or_false, false_or, true_or, or_true, false_implies] <;> omega))) ((yNh.tr (show yNh G Gj101 from nh101) (yNh.un (show gu_un ycd [2600] Gj101 (gu_up Gj101 26 (z101_1.toInt).toNat (vp_nar .boolean z101_0)) from (gu_un.up (j := 26) (k := (z101_1.toInt).toNat) (v := (vp_nar .boolean z101_0)) gu_un.rf (show (2600 : Nat) ∈ ([2600] : List Nat) by decide))) rfl)))
          have J_100 : ∀  (z100_0 : Int32) (Gj100 : gS), (1 ≤ x60_5.toInt ∧ x60_5.toInt ≤ 20) → (22 ≤ z100_0.toInt ∧ z100_0.toInt ≤ 209) → (yI Gj100) → (gu_un ycd [29, 33, 36, 37, 1300, 1400, 1500, 1600, 1700, 1800, 1900, 2000, 2100] Gj60 Gj100) → (((Gj100 0 32).toInt = (G 0 32).toInt)) → (yNh G Gj100) → gG p l e (gR 8 0 0 229) s m args below meth c D A 7 Q 0 0 (yW K a Gj100) (tK K) [(0, .ref (a 0)), (1, .int p0), (3, .int x50_3), (4, .int x50_4), (5, .int x60_5)] 100 [.int z100_0, .ref (a 26)] := by
            intro z100_0 Gj100 k100_5 g100_0 jI100 jU100 dc_100 nh100
            refine g_iconst F 0 dX13_plan_100 (by decide) ?_
            have b58 : (0 : Int) ≤ (Gj100 0 32).toInt ∧ (Gj100 0 32).toInt ≤ 7 := jI100 0 32
            exact J_101 0 z100_0 Gj100 (by have h9 := ti_rng x60_5; omega) (by decide) (by have h9 := ti_rng z100_0; omega) jI100 (gu_un.tr gu_un.rf (gu_un.su jU100 rfl)) (by (first | omega | (simp only [Int32.reduceToInt, true_and, and_true, ne_eq, not_true_eq_false, false_and, or_false, false_or, true_or, or_true, false_implies] <;> omega))) (nh100)
          refine g_iload F 4 dX13_plan_60 rfl ?_
          refine g_bipush F 20 dX13_plan_62 (by decide) ?_
          refine v_icmp_gt F 108 dX13_plan_64 (by decide) x60_5.toInt 20 rfl rfl (fun c59 => ?_) (fun c59 => ?_)
          · refine u_iinc F (fun v_ => [(4, .int v_), (0, .ref (a 0)), (1, .int p0), (3, .int x50_3), (5, .int x60_5)]) dX13_plan_108 (j := 3) rfl x50_4.toInt 1 rfl rfl (by omega) (by omega) (by decide) (fun _ => rfl) (fun y60 ey60 => ?_)
            refine g_goto F 50 dX13_plan_111 (by decide) ?_
            refine g_locals [(0, .ref (a 0)), (1, .int p0), (3, .int x50_3), (4, .int y60)] [1, 2, 3, 0] rfl ?_
            have b61 : (0 : Int) ≤ (Gj60 0 32).toInt ∧ (Gj60 0 32).toInt ≤ 7 := jI60 0 32
            exact ih_50 x50_3 y60 Gj60 (by omega) (by have h9 := ti_rng p0; omega) (by have h9 := ti_rng x50_3; omega) (by have h9 := ti_rng y60; omega) jI60 (gu_un.tr (gu_un.tr gu_un.rf (gu_un.su jU50 rfl)) (gu_un.su jU60 rfl)) (by (first | omega | (simp only [Int32.reduceToInt, true_and, and_true, ne_eq, not_true_eq_false, false_and, or_false, false_or, true_or, or_true, false_implies] <;> omega))) (nh60)
          · refine g_aload_n F 0 dX13_plan_67 rfl rfl ?_
            refine yg_0_41 F i_X13 w_6 dX13_plan_68 ?_
            refine g_iload F 3 dX13_plan_71 rfl ?_
            refine g_iload F 4 dX13_plan_73 rfl ?_
            refine u_call0 (k := 0) (n := 0) (As := [.int x50_4, .int x60_5]) (st := [.ref (a 26)]) F (fun sz => S_X13_pairOf_b9_b20 l D x50_4 x50_4.toInt x60_5 x60_5.toInt rfl (by omega) rfl (by omega) sz) (va_cwS 2 hts gX13_plan_X13_pairOf rfl rfl rfl (by decide +kernel) ⟨Nat.le_of_ble_eq_true rfl, Nat.le_of_ble_eq_true rfl⟩) rfl (Nat.le_of_ble_eq_true rfl) ⟨Nat.zero_le _, Nat.zero_le _⟩ dX13_plan_75 (fun r62 _ hw63 => ?_)
            have q65 : (r62.toInt = (21 * x50_4.toInt + x60_5.toInt)) := hw63.2
            have rg66 := hw63.1
            have rg67 := hw63.2
            clear hw63
            refine g_iload F 4 dX13_plan_78 rfl ?_
            refine g_iload_n F 2 dX13_plan_80 rfl rfl ?_
            refine v_icmp_gt F 100 dX13_plan_81 (by decide) x60_5.toInt x50_3.toInt rfl rfl (fun c68 => ?_) (fun c68 => ?_)
            · have b69 : (0 : Int) ≤ (Gj60 0 32).toInt ∧ (Gj60 0 32).toInt ≤ 7 := jI60 0 32
              exact J_100 r62 Gj60 (by have h9 := ti_rng x60_5; omega) (by have h9 := ti_rng r62; omega) jI60 gu_un.rf (by (first | omega | (simp only [Int32.reduceToInt, true_and, and_true, ne_eq, not_true_eq_false, false_and, or_false, false_or, true_or, or_true, false_implies] <;> omega))) (nh60)
            · refine g_aload_n F 0 dX13_plan_84 rfl rfl ?_
              refine g_iload_n F 1 dX13_plan_85 rfl rfl ?_
              refine g_iload F 3 dX13_plan_86 rfl ?_
              refine g_iload F 4 dX13_plan_88 rfl ?_
              have b70 : (0 : Int) ≤ (Gj60 0 32).toInt ∧ (Gj60 0 32).toInt ≤ 7 := jI60 0 32
              refine u_callVi (k := 0) (n := 0) (b := a 0) (As := [.int p0, .int x50_4, .int x60_5]) (st := [.int r62, .ref (a 26)]) F (fun sz => S_X13_isSure l D K a Gj60 p0 s0 x50_4 x50_4.toInt x60_5 x60_5.toInt e0 (by omega) rfl (by omega) rfl (by omega) (yW3.un wf (show gu_un ycd [29, 33, 36, 37, 1300, 1400, 1500, 1600, 1700, 1800, 1900, 2000, 2100, 2600] G Gj60 from (gu_un.tr (gu_un.tr gu_un.rf (gu_un.su jU50 rfl)) (gu_un.su jU60 rfl))) rfl) (by (first | omega | (simp only [Int32.reduceToInt, true_and, and_true, ne_eq, not_true_eq_false, false_and, or_false, false_or, true_or, or_true, false_implies] <;> omega))) jI60 sz) (cwV 3 hts gX13_plan_X13_isSure rfl rfl rfl (by decide +kernel) ⟨Nat.le_of_ble_eq_true rfl, Nat.le_of_ble_eq_true rfl⟩) rfl 0 yc_0 rfl (Nat.le_of_ble_eq_true rfl) ⟨Nat.zero_le _, Nat.zero_le _⟩ dX13_plan_90 (fun r71 G73 hw72 => ?_)
              have hI74 : yI G73 := hw72.1
              have hU75 : gu_un ycd [29, 33, 36, 37, 1300, 1400, 1500, 1600, 1700, 1800, 1900, 2000, 2100] Gj60 G73 := hw72.2.1
              have hp76 := hw72.2.2
              have q77 : yNh Gj60 G73 := hp76.2.1
              have b78 : (0 : Int) ≤ (G73 0 32).toInt ∧ (G73 0 32).toInt ≤ 7 := hI74 0 32
              have q79 : ((G73 0 32).toInt = (Gj60 0 32).toInt) := hp76.2.2
              have rg80 := hp76.1
              clear hp76 hw72
              refine v_if_eq F 100 dX13_plan_93 (by decide) r71.toInt rfl (fun c81 => ?_) (fun c81 => ?_)
              · exact J_100 r62 G73 (by have h9 := ti_rng x60_5; omega) (by have h9 := ti_rng r62; omega) hI74 (gu_un.tr gu_un.rf (gu_un.su hU75 rfl)) (by (first | omega | (simp only [Int32.reduceToInt, true_and, and_true, ne_eq, not_true_eq_false, false_and, or_false, false_or, true_or, or_true, false_implies] <;> omega))) ((yNh.tr (show yNh G Gj60 from nh60) (show yNh Gj60 G73 from q77)))
              · refine g_iconst F 1 dX13_plan_96 (by decide) ?_
                refine g_goto F 101 dX13_plan_97 (by decide) ?_
                exact J_101 1 r62 G73 (by have h9 := ti_rng x60_5; omega) (by decide) (by have h9 := ti_rng r62; omega) hI74 (gu_un.tr gu_un.rf (gu_un.su hU75 rfl)) (by (first | omega | (simp only [Int32.reduceToInt, true_and, and_true, ne_eq, not_true_eq_false, false_and, or_false, false_or, true_or, or_true, false_implies] <;> omega))) ((yNh.tr (show yNh G Gj60 from nh60) (show yNh Gj60 G73 from q77)))
      refine g_iload F 3 dX13_plan_50 rfl ?_
      refine g_bipush F 9 dX13_plan_52 (by decide) ?_
      refine v_icmp_gt F 114 dX13_plan_54 (by decide) x50_4.toInt 9 rfl rfl (fun c82 => ?_) (fun c82 => ?_)
      · refine g_aload_n F 0 dX13_plan_114 rfl rfl ?_
        refine yg_0_38 F i_X13 w_3 dX13_plan_115 ?_
        refine g_iconst F 0 dX13_plan_118 (by decide) ?_
        refine g_iconst F 0 dX13_plan_119 (by decide) ?_
        refine u_iast F 23 0 yc_23 rfl 0 rfl (by decide) (by decide) (yW K a (gu_up Gj50 23 0 0)) (ys_23 _) dX13_plan_120 ?_
        refine g_aload_n F 0 dX13_plan_121 rfl rfl ?_
        refine yg_0_39 F i_X13 w_4 dX13_plan_122 ?_
        refine g_iconst F 0 dX13_plan_125 (by decide) ?_
        refine g_iconst F 0 dX13_plan_126 (by decide) ?_
        refine u_iast F 24 0 yc_24 rfl 0 rfl (by decide) (by decide) (yW K a (gu_up (gu_up Gj50 23 0 0) 24 0 0)) (ys_24 _) dX13_plan_127 ?_
        refine g_iconst F 1 dX13_plan_128 (by decide) ?_
        refine g_istore F [(4, .int 1), (0, .ref (a 0)), (1, .int p0), (3, .int x50_3)] dX13_plan_129 (by decide) rfl ?_
        refine g_locals [(0, .ref (a 0)), (3, .int x50_3), (4, .int 1)] [1, 3, 0] rfl ?_
        have b83 : (0 : Int) ≤ (Gj50 0 32).toInt ∧ (Gj50 0 32).toInt ≤ 7 := jI50 0 32
        exact J_131 _ x50_3 1 (gu_up (gu_up Gj50 23 0 0) 24 0 0) (Nat.lt_succ_self _) (by have h9 := ti_rng x50_3; omega) (by decide) (gu_I.up (j := 24) (k := 0) (v := 0) (gu_I.up (j := 23) (k := 0) (v := 0) jI50 (ti_rng _).1 (ti_rng _).2) (ti_rng _).1 (ti_rng _).2) (gu_un.up (j := 24) (k := 0) (v := 0) (gu_un.up (j := 23) (k := 0) (v := 0) (gu_un.tr gu_un.rf (gu_un.su jU50 rfl)) (show (2300 : Nat) ∈ ([29, 33, 36, 37, 1300, 1400, 1500, 1600, 1700, 1800, 1900, 2000, 2100, 2300, 2400, 2600] : List Nat) by decide)) (show (2400 : Nat) ∈ ([29, 33, 36, 37, 1300, 1400, 1500, 1600, 1700, 1800, 1900, 2000, 2100, 2300, 2400, 2600] : List Nat) by decide)) (yPl_1 (by decide)) (by have e9_0_32 : (gu_up (gu_up Gj50 23 0 0) 24 0 0) 0 32 = (Gj50 0 32) := rfl; (try simp only [e9_0_32, true_and, and_true]) <;> (first | omega | (simp only [Int32.reduceToInt, true_and, and_true, ne_eq, not_true_eq_false, false_and, or_false, false_or, true_or, or_true, false_implies] <;> omega))) ((yNh.tr (show yNh G Gj50 from nh50) (yNh.un (show gu_un ycd [2300, 2400] Gj50 (gu_up (gu_up Gj50 23 0 0) 24 0 0) from (gu_un.up (j := 24) (k := 0) (v := 0) (gu_un.up (j := 23) (k := 0) (v := 0) gu_un.rf (show (2300 : Nat) ∈ ([2300, 2400] : List Nat) by decide)) (show (2400 : Nat) ∈ ([2300, 2400] : List Nat) by decide))) rfl)))
      · refine g_iconst F 1 dX13_plan_57 (by decide) ?_
        refine g_istore F [(5, .int 1), (0, .ref (a 0)), (1, .int p0), (3, .int x50_3), (4, .int x50_4)] dX13_plan_58 (by decide) rfl ?_
        refine g_locals [(0, .ref (a 0)), (1, .int p0), (3, .int x50_3), (4, .int x50_4), (5, .int 1)] [1, 2, 3, 4, 0] rfl ?_
        have b84 : (0 : Int) ≤ (Gj50 0 32).toInt ∧ (Gj50 0 32).toInt ≤ 7 := jI50 0 32
        exact J_60 _ 1 Gj50 (Nat.lt_succ_self _) (by have h9 := ti_rng x50_4; omega) (by decide) jI50 gu_un.rf (by (first | omega | (simp only [Int32.reduceToInt, true_and, and_true, ne_eq, not_true_eq_false, false_and, or_false, false_or, true_or, or_true, false_implies] <;> omega))) (nh50)
  refine g_aload_n F 0 dX13_plan_0 rfl rfl ?_
  refine g_iload_n F 1 dX13_plan_1 rfl rfl ?_
  refine u_callVi (k := 0) (n := 0) (b := a 0) (As := [.int p0]) (st := []) F (fun sz => S_X13_isRing l D K a G p0 s0 e0 hI sz) (cwV 1 hts gX13_plan_X13_isRing rfl rfl rfl (by decide +kernel) ⟨Nat.le_of_ble_eq_true rfl, Nat.le_of_ble_eq_true rfl⟩) rfl 0 yc_0 rfl (Nat.le_of_ble_eq_true rfl) ⟨Nat.zero_le _, Nat.zero_le _⟩ dX13_plan_2 (fun r85 _ hw86 => ?_)
  rcases hw86 with ⟨rfl, q88⟩ | ⟨rfl, q89⟩
  · have b90 : (1 : Int) ≤ (G 3 1).toInt ∧ (G 3 1).toInt ≤ 6 := hI 3 1
    have q88 : (0 ≤ s0 ∧ s0 < (G 3 1).toInt) := q88
    refine v_if_eq F 20 dX13_plan_5 (by decide) 1 rfl (fun c91 => absurd c91 (by decide)) (fun c91 => ?_)
    refine g_iload_n F 2 dX13_plan_8 rfl rfl ?_
    refine g_i2l F dX13_plan_9 ?_
    refine g_lconst F 1 dX13_plan_10 (by decide) ?_
    refine g_ldc2 F w_7 dX13_plan_11 ?_
    refine u_call0 (k := 0) (n := 0) (As := [.long (Int32.toInt64 p1), .long 1, .long 400]) (st := []) F (fun sz => S_X13_in l D (Int32.toInt64 p1) s1 1 1 400 400 (ti_i2l e1) rfl rfl sz) (va_cwS 3 hts gX13_plan_X13_in rfl rfl rfl (by decide +kernel) ⟨Nat.le_of_ble_eq_true rfl, Nat.le_of_ble_eq_true rfl⟩) rfl (Nat.le_of_ble_eq_true rfl) ⟨Nat.zero_le _, Nat.zero_le _⟩ dX13_plan_14 (fun r92 _ hw93 => ?_)
    rcases hw93 with ⟨rfl, q95⟩ | ⟨rfl, q96⟩
    · refine v_if_ne F 23 dX13_plan_17 (by decide) 1 rfl (fun c97 => ?_) (fun c97 => absurd c97 (by decide))
      refine g_iload_n F 2 dX13_plan_23 rfl rfl ?_
      refine g_aload_n F 0 dX13_plan_24 rfl rfl ?_
      refine yg_0_10 F i_X13 w_8 dX13_plan_25 ?_
      refine g_bipush F 9 dX13_plan_28 (by decide) ?_
      refine u1_iald F 3 0 yc_3 rfl 9 rfl (by decide) (by decide) dX13_plan_30 (G 3 9) (rfl) ?_
      have b99 : (1 : Int) ≤ (G 3 9).toInt ∧ (G 3 9).toInt ≤ 12 := hI 3 9
      refine u_iremb F dX13_plan_31 (ti_ne0 rfl (by omega)) s1 (G 3 9).toInt e1 rfl (by omega) (by omega) (fun y98 ey98 => ?_)
      refine v_if_eq F 37 dX13_plan_32 (by decide) y98.toInt rfl (fun c100 => ?_) (fun c100 => ?_)
      · refine g_iload_n F 2 dX13_plan_37 rfl rfl ?_
        refine g_aload_n F 0 dX13_plan_38 rfl rfl ?_
        refine yg_0_10 F i_X13 w_8 dX13_plan_39 ?_
        refine g_bipush F 9 dX13_plan_42 (by decide) ?_
        refine u1_iald F 3 0 yc_3 rfl 9 rfl (by decide) (by decide) dX13_plan_44 (G 3 9) (rfl) ?_
        refine u_idivb F dX13_plan_45 (ti_ne0 rfl (by omega)) s1 (G 3 9).toInt e1 rfl (by omega) (by omega) (fun y101 ey101 => ?_)
        refine g_istore_n F [(3, .int y101), (0, .ref (a 0)), (1, .int p0), (2, .int p1)] dX13_plan_46 rfl (by decide) rfl ?_
        refine g_iconst F 1 dX13_plan_47 (by decide) ?_
        refine g_istore F [(4, .int 1), (3, .int y101), (0, .ref (a 0)), (1, .int p0), (2, .int p1)] dX13_plan_48 (by decide) rfl ?_
        refine g_locals [(0, .ref (a 0)), (1, .int p0), (3, .int y101), (4, .int 1)] [2, 3, 1, 0] rfl ?_
        exact J_50 _ y101 1 G (Nat.lt_succ_self _) (by have h9 := ti_rng p0; omega) (by have h9 := ti_rng y101; omega) (by decide) hI gu_un.rf (by (first | omega | (simp only [Int32.reduceToInt, true_and, and_true, ne_eq, not_true_eq_false, false_and, or_false, false_or, true_or, or_true, false_implies] <;> omega))) (yNh.rf)
      · refine g_iconst F (-1) dX13_plan_35 (by decide) ?_
        exact u_iret F hA hQ hr G (⟨hI, gu_un.rf, (yNh.rf), (by show ((G 0 32).toInt = (G 0 32).toInt); (first | omega | (simp only [Int32.reduceToInt, true_and, and_true, ne_eq, not_true_eq_false, false_and, or_false, false_or, true_or, or_true, false_implies] <;> omega)))⟩) rfl rfl dX13_plan_36
    · refine v_if_ne F 23 dX13_plan_17 (by decide) 0 rfl (fun c102 => absurd c102 (by decide)) (fun c102 => ?_)
      refine g_bipush F (-2) dX13_plan_20 (by decide) ?_
      exact u_iret F hA hQ hr G (⟨hI, gu_un.rf, (yNh.rf), (by show ((G 0 32).toInt = (G 0 32).toInt); (first | omega | (simp only [Int32.reduceToInt, true_and, and_true, ne_eq, not_true_eq_false, false_and, or_false, false_or, true_or, or_true, false_implies] <;> omega)))⟩) rfl rfl dX13_plan_22
  · have b103 : (1 : Int) ≤ (G 3 1).toInt ∧ (G 3 1).toInt ≤ 6 := hI 3 1
    have q89 : (s0 < 0 ∨ (G 3 1).toInt ≤ s0) := q89
    refine v_if_eq F 20 dX13_plan_5 (by decide) 0 rfl (fun c104 => ?_) (fun c104 => absurd c104 (by decide))
    refine g_bipush F (-2) dX13_plan_20 (by decide) ?_
    exact u_iret F hA hQ hr G (⟨hI, gu_un.rf, (yNh.rf), (by show ((G 0 32).toInt = (G 0 32).toInt); (first | omega | (simp only [Int32.reduceToInt, true_and, and_true, ne_eq, not_true_eq_false, false_and, or_false, false_or, true_or, or_true, false_implies] <;> omega)))⟩) rfl rfl dX13_plan_22
