theorem dX8_isInBounds_0 : decode cX8_isInBounds 0 = .ok (.aload_n 0, 1) := by decide +kernel
theorem dX8_isInBounds_1 : decode cX8_isInBounds 1 = .ok (.getfield 9, 3) := by decide +kernel
theorem dX8_isInBounds_4 : decode cX8_isInBounds 4 = .ok (.getfield 125, 3) := by decide +kernel
theorem dX8_isInBounds_7 : decode cX8_isInBounds 7 = .ok (.aload_n 1, 1) := by decide +kernel
theorem dX8_isInBounds_8 : decode cX8_isInBounds 8 = .ok (.getfield 131, 3) := by decide +kernel
theorem dX8_isInBounds_11 : decode cX8_isInBounds 11 = .ok (.if_icmp .lt 17, 3) := by decide +kernel
theorem dX8_isInBounds_14 : decode cX8_isInBounds 14 = .ok (.aload_n 0, 1) := by decide +kernel
theorem dX8_isInBounds_15 : decode cX8_isInBounds 15 = .ok (.getfield 9, 3) := by decide +kernel
theorem dX8_isInBounds_18 : decode cX8_isInBounds 18 = .ok (.getfield 125, 3) := by decide +kernel
theorem dX8_isInBounds_21 : decode cX8_isInBounds 21 = .ok (.aload_n 1, 1) := by decide +kernel
theorem dX8_isInBounds_22 : decode cX8_isInBounds 22 = .ok (.getfield 134, 3) := by decide +kernel
theorem dX8_isInBounds_25 : decode cX8_isInBounds 25 = .ok (.if_icmp .le 5, 3) := by decide +kernel
theorem dX8_isInBounds_28 : decode cX8_isInBounds 28 = .ok (.iconst 0, 1) := by decide +kernel
theorem dX8_isInBounds_29 : decode cX8_isInBounds 29 = .ok (.ireturn, 1) := by decide +kernel
theorem dX8_isInBounds_30 : decode cX8_isInBounds 30 = .ok (.aload_n 1, 1) := by decide +kernel
theorem dX8_isInBounds_31 : decode cX8_isInBounds 31 = .ok (.invokevirtual 111, 3) := by decide +kernel
theorem dX8_isInBounds_34 : decode cX8_isInBounds 34 = .ok (.iconst (-1), 1) := by decide +kernel
theorem dX8_isInBounds_35 : decode cX8_isInBounds 35 = .ok (.if_icmp .ne 15, 3) := by decide +kernel
theorem dX8_isInBounds_38 : decode cX8_isInBounds 38 = .ok (.aload_n 0, 1) := by decide +kernel
theorem dX8_isInBounds_39 : decode cX8_isInBounds 39 = .ok (.getfield 77, 3) := by decide +kernel
theorem dX8_isInBounds_42 : decode cX8_isInBounds 42 = .ok (.iconst 1, 1) := by decide +kernel
theorem dX8_isInBounds_43 : decode cX8_isInBounds 43 = .ok (.if_icmp .ne 7, 3) := by decide +kernel
theorem dX8_isInBounds_46 : decode cX8_isInBounds 46 = .ok (.iconst 1, 1) := by decide +kernel
theorem dX8_isInBounds_47 : decode cX8_isInBounds 47 = .ok (.goto 4, 3) := by decide +kernel
theorem dX8_isInBounds_50 : decode cX8_isInBounds 50 = .ok (.iconst 0, 1) := by decide +kernel
theorem dX8_isInBounds_51 : decode cX8_isInBounds 51 = .ok (.istore_n 2, 1) := by decide +kernel
theorem dX8_isInBounds_52 : decode cX8_isInBounds 52 = .ok (.iload_n 2, 1) := by decide +kernel
theorem dX8_isInBounds_53 : decode cX8_isInBounds 53 = .ok (.ifCond .eq 33, 3) := by decide +kernel
theorem dX8_isInBounds_56 : decode cX8_isInBounds 56 = .ok (.aload_n 0, 1) := by decide +kernel
theorem dX8_isInBounds_57 : decode cX8_isInBounds 57 = .ok (.getfield 9, 3) := by decide +kernel
theorem dX8_isInBounds_60 : decode cX8_isInBounds 60 = .ok (.getfield 125, 3) := by decide +kernel
theorem dX8_isInBounds_63 : decode cX8_isInBounds 63 = .ok (.aload_n 0, 1) := by decide +kernel
theorem dX8_isInBounds_64 : decode cX8_isInBounds 64 = .ok (.getfield 128, 3) := by decide +kernel
theorem dX8_isInBounds_67 : decode cX8_isInBounds 67 = .ok (.if_icmp .lt 23, 3) := by decide +kernel
theorem dX8_isInBounds_70 : decode cX8_isInBounds 70 = .ok (.aload_n 0, 1) := by decide +kernel
theorem dX8_isInBounds_71 : decode cX8_isInBounds 71 = .ok (.getfield 9, 3) := by decide +kernel
theorem dX8_isInBounds_74 : decode cX8_isInBounds 74 = .ok (.getfield 125, 3) := by decide +kernel
theorem dX8_isInBounds_77 : decode cX8_isInBounds 77 = .ok (.aload_n 0, 1) := by decide +kernel
theorem dX8_isInBounds_78 : decode cX8_isInBounds 78 = .ok (.getfield 128, 3) := by decide +kernel
theorem dX8_isInBounds_81 : decode cX8_isInBounds 81 = .ok (.iconst 3, 1) := by decide +kernel
theorem dX8_isInBounds_82 : decode cX8_isInBounds 82 = .ok (.iadd, 1) := by decide +kernel
theorem dX8_isInBounds_83 : decode cX8_isInBounds 83 = .ok (.if_icmp .gt 7, 3) := by decide +kernel
theorem dX8_isInBounds_86 : decode cX8_isInBounds 86 = .ok (.iconst 1, 1) := by decide +kernel
theorem dX8_isInBounds_87 : decode cX8_isInBounds 87 = .ok (.goto 4, 3) := by decide +kernel
theorem dX8_isInBounds_90 : decode cX8_isInBounds 90 = .ok (.iconst 0, 1) := by decide +kernel
theorem dX8_isInBounds_91 : decode cX8_isInBounds 91 = .ok (.ireturn, 1) := by decide +kernel
set_option maxRecDepth 20000 in
theorem ggX8_isInBounds_X1_manySlot : GoodIn wsX8_isInBounds wsX1_manySlot := goodIn_r _ [11, 12] rfl (by decide +kernel)
set_option maxRecDepth 20000 in
theorem gX8_isInBounds_X1_manySlot : GoodIn wsX8_isInBounds (wsV RX8 111 RX1 yX1_manySlot wsX1_manySlot) := goodIn_app (goodIn_of _ (by decide +kernel)) ggX8_isInBounds_X1_manySlot
set_option maxHeartbeats 4000000 in
set_option maxRecDepth 100000 in
theorem S_X8_isInBounds_c0 (l : Launch) (D : va_G) (K : Nat → ClassId) (a : Nat → Nat) (G : gS) (zf : Nat → Nat) (hI : xI G) (sz : Nat) : KiZ (xZ zf) l yX8_isInBounds wsX8_isInBounds 2 60 D [.ref (a 4), .ref (zf 10)] (xW K a G) (tK K) sz (fun (r : Int32) (_ : Unit) => (0 ≤ r.toInt ∧ r.toInt ≤ 1) ∧ (((r.toInt = 1 ∧ (4 ≤ (G 1 5).toInt ∧ (G 1 5).toInt ≤ 16 ∧ ((G 4 5).toInt ≠ 1 ∨ ((G 4 6).toInt ≤ (G 1 5).toInt ∧ (G 1 5).toInt ≤ (G 4 6).toInt + 3)))) ∨ (r.toInt = 0 ∧ ¬ (4 ≤ (G 1 5).toInt ∧ (G 1 5).toInt ≤ 16 ∧ ((G 4 5).toInt ≠ 1 ∨ ((G 4 6).toInt ≤ (G 1 5).toInt ∧ (G 1 5).toInt ≤ (G 4 6).toInt + 3))))))) (fun (_ : Unit) => (xW K a G)) := by
  unfold KiZ
  refine gz_ofW (cc := cX8_isInBounds) (lv := [(0, .ref (a 4)), (1, .ref (zf 10))]) (by decide) rfl (Nat.le_of_ble_eq_true rfl) rfl ?_
  intro p e s m args below meth c A Q hA hQ hZ F hr hnm
  have hts := F.2.2.2.2.1
  have w_0 : (Cond.fieldLink RX8 9 "QuietCut$ShopReader" "tape" "LQuietCut$Tape;").before args s = true := hts _ (List.mem_of_getElem? (i := 1) rfl)
  have i_X8 : ∀ w ∈ u_ws RX8 TX8 7, w ∈ wsX8_isInBounds := fun _ h => List.mem_cons_of_mem _ (List.mem_append_left _ (List.mem_append_right _ h))
  have w_1 : (Cond.fieldLink RX8 125 "QuietCut$Tape" "value" "I").before args s = true := hts _ (List.mem_of_getElem? (i := 2) rfl)
  have i_X10 : ∀ w ∈ u_ws RX10 TX10 6, w ∈ wsX8_isInBounds := fun _ h => List.mem_cons_of_mem _ (List.mem_append_right _ h)
  have w_2 : (Cond.fieldLink RX8 131 "QuietCut$Clause" "low" "I").before args s = true := hts _ (List.mem_of_getElem? (i := 3) rfl)
  have w_3 : (Cond.fieldLink RX8 134 "QuietCut$Clause" "high" "I").before args s = true := hts _ (List.mem_of_getElem? (i := 4) rfl)
  have w_4 : (Cond.fieldLink RX8 77 "QuietCut$ShopReader" "numbers" "I").before args s = true := hts _ (List.mem_of_getElem? (i := 5) rfl)
  have w_5 : (Cond.fieldLink RX8 128 "QuietCut$ShopReader" "latest" "I").before args s = true := hts _ (List.mem_of_getElem? (i := 6) rfl)
  have b1 : (0 : Int) ≤ (G 4 5).toInt ∧ (G 4 5).toInt ≤ 6 := hI 4 5
  have b2 : (0 : Int) ≤ (G 4 6).toInt ∧ (G 4 6).toInt ≤ 9999 := hI 4 6
  refine g_aload_n F 0 dX8_isInBounds_0 rfl rfl ?_
  refine xg_4_0 F i_X8 w_0 dX8_isInBounds_1 ?_
  refine xg_1_5 F i_X10 w_1 dX8_isInBounds_4 (G 1 5) (rfl) ?_
  refine g_aload_n F 1 dX8_isInBounds_7 rfl rfl ?_
  refine uz_getf F (show va_OF "QuietCut$Clause" "low" "I" (.int 4) (zf 10) A s s.heap from (hZ.2.2.2.2.2 0 (by decide)).2.2.2.2.1) w_2 dX8_isInBounds_8 ?_
  refine v_icmp_lt F 28 dX8_isInBounds_11 (by decide) (G 1 5).toInt 4 rfl rfl (fun c3 => ?_) (fun c3 => ?_)
  · refine g_iconst F 0 dX8_isInBounds_28 (by decide) ?_
    exact u_zret F hA hQ hr rfl () (⟨(by decide), (by show ((0 = 1 ∧ (4 ≤ (G 1 5).toInt ∧ (G 1 5).toInt ≤ 16 ∧ ((G 4 5).toInt ≠ 1 ∨ ((G 4 6).toInt ≤ (G 1 5).toInt ∧ (G 1 5).toInt ≤ (G 4 6).toInt + 3)))) ∨ (0 = 0 ∧ ¬ (4 ≤ (G 1 5).toInt ∧ (G 1 5).toInt ≤ 16 ∧ ((G 4 5).toInt ≠ 1 ∨ ((G 4 6).toInt ≤ (G 1 5).toInt ∧ (G 1 5).toInt ≤ (G 4 6).toInt + 3))))); (first | omega | (simp only [Int32.reduceToInt, true_and, and_true, ne_eq, not_true_eq_false, false_and, or_false, false_or, true_or, or_true, false_implies] <;> omega)))⟩) rfl rfl dX8_isInBounds_29
  · refine g_aload_n F 0 dX8_isInBounds_14 rfl rfl ?_
    refine xg_4_0 F i_X8 w_0 dX8_isInBounds_15 ?_
    refine xg_1_5 F i_X10 w_1 dX8_isInBounds_18 (G 1 5) (rfl) ?_
    refine g_aload_n F 1 dX8_isInBounds_21 rfl rfl ?_
    refine uz_getf F (show va_OF "QuietCut$Clause" "high" "I" (.int 16) (zf 10) A s s.heap from (hZ.2.2.2.2.2 0 (by decide)).2.2.2.2.2.1) w_3 dX8_isInBounds_22 ?_
    have b4 := ti_rng (G 1 5)
    refine v_icmp_le F 30 dX8_isInBounds_25 (by decide) (G 1 5).toInt 16 rfl rfl (fun c5 => ?_) (fun c5 => ?_)
    · refine g_aload_n F 1 dX8_isInBounds_30 rfl rfl ?_
      refine uz_call0Vi (k := 0) (n := 0) (b := (zf 10)) (As := []) (st := []) F xZ_st hZ (fun sz => S_X1_manySlot_c0 l D zf sz) (cwV 0 hts gX8_isInBounds_X1_manySlot rfl rfl rfl (by decide +kernel) ⟨Nat.le_of_ble_eq_true rfl, Nat.le_of_ble_eq_true rfl⟩) (hZ.2.2.2.2.2 0 (by decide)).1 rfl (Nat.le_of_ble_eq_true rfl) ⟨Nat.zero_le _, Nat.zero_le _⟩ dX8_isInBounds_31 (fun r6 _ hw7 => ?_)
      have hw7 : r6.toInt = -1 := hw7
      refine g_fold (-1) ((ti_eq rfl (show ((-1) : Int32).toInt = (-1) from rfl)).mpr hw7) ?_
      refine g_iconst F (-1) dX8_isInBounds_34 (by decide) ?_
      refine v_icmp_ne F 50 dX8_isInBounds_35 (by decide) (-1) (-1) rfl rfl (fun c8 => absurd c8 (by decide)) (fun c8 => ?_)
      refine g_aload_n F 0 dX8_isInBounds_38 rfl rfl ?_
      refine xg_4_5 F i_X8 w_4 dX8_isInBounds_39 (G 4 5) (rfl) ?_
      refine g_iconst F 1 dX8_isInBounds_42 (by decide) ?_
      refine v_icmp_ne F 50 dX8_isInBounds_43 (by decide) (G 4 5).toInt 1 rfl rfl (fun c9 => ?_) (fun c9 => ?_)
      · refine g_iconst F 0 dX8_isInBounds_50 (by decide) ?_
        refine g_istore_n F [(2, .int 0), (0, .ref (a 4)), (1, .ref (zf 10))] dX8_isInBounds_51 rfl (by decide) rfl ?_
        refine g_iload_n F 0 dX8_isInBounds_52 rfl rfl ?_
        refine v_if_eq F 86 dX8_isInBounds_53 (by decide) 0 rfl (fun c10 => ?_) (fun c10 => absurd c10 (by decide))
        refine g_iconst F 1 dX8_isInBounds_86 (by decide) ?_
        refine g_goto F 91 dX8_isInBounds_87 (by decide) ?_
        exact u_zret F hA hQ hr rfl () (⟨(by decide), (by show ((1 = 1 ∧ (4 ≤ (G 1 5).toInt ∧ (G 1 5).toInt ≤ 16 ∧ ((G 4 5).toInt ≠ 1 ∨ ((G 4 6).toInt ≤ (G 1 5).toInt ∧ (G 1 5).toInt ≤ (G 4 6).toInt + 3)))) ∨ (1 = 0 ∧ ¬ (4 ≤ (G 1 5).toInt ∧ (G 1 5).toInt ≤ 16 ∧ ((G 4 5).toInt ≠ 1 ∨ ((G 4 6).toInt ≤ (G 1 5).toInt ∧ (G 1 5).toInt ≤ (G 4 6).toInt + 3))))); (first | omega | (simp only [Int32.reduceToInt, true_and, and_true, ne_eq, not_true_eq_false, false_and, or_false, false_or, true_or, or_true, false_implies] <;> omega)))⟩) rfl rfl dX8_isInBounds_91
      · refine g_iconst F 1 dX8_isInBounds_46 (by decide) ?_
        refine g_goto F 51 dX8_isInBounds_47 (by decide) ?_
        refine g_istore_n F [(2, .int 1), (0, .ref (a 4)), (1, .ref (zf 10))] dX8_isInBounds_51 rfl (by decide) rfl ?_
        refine g_iload_n F 0 dX8_isInBounds_52 rfl rfl ?_
        refine v_if_eq F 86 dX8_isInBounds_53 (by decide) 1 rfl (fun c11 => absurd c11 (by decide)) (fun c11 => ?_)
        refine g_aload_n F 1 dX8_isInBounds_56 rfl rfl ?_
        refine xg_4_0 F i_X8 w_0 dX8_isInBounds_57 ?_
        refine xg_1_5 F i_X10 w_1 dX8_isInBounds_60 (G 1 5) (rfl) ?_
        refine g_aload_n F 1 dX8_isInBounds_63 rfl rfl ?_
        refine xg_4_6 F i_X8 w_5 dX8_isInBounds_64 (G 4 6) (rfl) ?_
        refine v_icmp_lt F 90 dX8_isInBounds_67 (by decide) (G 1 5).toInt (G 4 6).toInt rfl rfl (fun c12 => ?_) (fun c12 => ?_)
        · refine g_iconst F 0 dX8_isInBounds_90 (by decide) ?_
          exact u_zret F hA hQ hr rfl () (⟨(by decide), (by show ((0 = 1 ∧ (4 ≤ (G 1 5).toInt ∧ (G 1 5).toInt ≤ 16 ∧ ((G 4 5).toInt ≠ 1 ∨ ((G 4 6).toInt ≤ (G 1 5).toInt ∧ (G 1 5).toInt ≤ (G 4 6).toInt + 3)))) ∨ (0 = 0 ∧ ¬ (4 ≤ (G 1 5).toInt ∧ (G 1 5).toInt ≤ 16 ∧ ((G 4 5).toInt ≠ 1 ∨ ((G 4 6).toInt ≤ (G 1 5).toInt ∧ (G 1 5).toInt ≤ (G 4 6).toInt + 3))))); (first | omega | (simp only [Int32.reduceToInt, true_and, and_true, ne_eq, not_true_eq_false, false_and, or_false, false_or, true_or, or_true, false_implies] <;> omega)))⟩) rfl rfl dX8_isInBounds_91
        · refine g_aload_n F 1 dX8_isInBounds_70 rfl rfl ?_
          refine xg_4_0 F i_X8 w_0 dX8_isInBounds_71 ?_
          refine xg_1_5 F i_X10 w_1 dX8_isInBounds_74 (G 1 5) (rfl) ?_
          refine g_aload_n F 1 dX8_isInBounds_77 rfl rfl ?_
          refine xg_4_6 F i_X8 w_5 dX8_isInBounds_78 (G 4 6) (rfl) ?_
          refine g_iconst F 3 dX8_isInBounds_81 (by decide) ?_
          refine u_iadd F dX8_isInBounds_82 (G 4 6).toInt 3 rfl rfl (by omega) (by omega) (fun y13 ey13 => ?_)
          refine v_icmp_gt F 90 dX8_isInBounds_83 (by decide) (G 1 5).toInt y13.toInt rfl rfl (fun c14 => ?_) (fun c14 => ?_)
          · refine g_iconst F 0 dX8_isInBounds_90 (by decide) ?_
            exact u_zret F hA hQ hr rfl () (⟨(by decide), (by show ((0 = 1 ∧ (4 ≤ (G 1 5).toInt ∧ (G 1 5).toInt ≤ 16 ∧ ((G 4 5).toInt ≠ 1 ∨ ((G 4 6).toInt ≤ (G 1 5).toInt ∧ (G 1 5).toInt ≤ (G 4 6).toInt + 3)))) ∨ (0 = 0 ∧ ¬ (4 ≤ (G 1 5).toInt ∧ (G 1 5).toInt ≤ 16 ∧ ((G 4 5).toInt ≠ 1 ∨ ((G 4 6).toInt ≤ (G 1 5).toInt ∧ (G 1 5).toInt ≤ (G 4 6).toInt + 3))))); (first | omega | (simp only [Int32.reduceToInt, true_and, and_true, ne_eq, not_true_eq_false, false_and, or_false, false_or, true_or, or_true, false_implies] <;> omega)))⟩) rfl rfl dX8_isInBounds_91
          · refine g_iconst F 1 dX8_isInBounds_86 (by decide) ?_
            refine g_goto F 91 dX8_isInBounds_87 (by decide) ?_
            exact u_zret F hA hQ hr rfl () (⟨(by decide), (by show ((1 = 1 ∧ (4 ≤ (G 1 5).toInt ∧ (G 1 5).toInt ≤ 16 ∧ ((G 4 5).toInt ≠ 1 ∨ ((G 4 6).toInt ≤ (G 1 5).toInt ∧ (G 1 5).toInt ≤ (G 4 6).toInt + 3)))) ∨ (1 = 0 ∧ ¬ (4 ≤ (G 1 5).toInt ∧ (G 1 5).toInt ≤ 16 ∧ ((G 4 5).toInt ≠ 1 ∨ ((G 4 6).toInt ≤ (G 1 5).toInt ∧ (G 1 5).toInt ≤ (G 4 6).toInt + 3))))); (first | omega | (simp only [Int32.reduceToInt, true_and, and_true, ne_eq, not_true_eq_false, false_and, or_false, false_or, true_or, or_true, false_implies] <;> omega)))⟩) rfl rfl dX8_isInBounds_91
    · refine g_iconst F 0 dX8_isInBounds_28 (by decide) ?_
      exact u_zret F hA hQ hr rfl () (⟨(by decide), (by show ((0 = 1 ∧ (4 ≤ (G 1 5).toInt ∧ (G 1 5).toInt ≤ 16 ∧ ((G 4 5).toInt ≠ 1 ∨ ((G 4 6).toInt ≤ (G 1 5).toInt ∧ (G 1 5).toInt ≤ (G 4 6).toInt + 3)))) ∨ (0 = 0 ∧ ¬ (4 ≤ (G 1 5).toInt ∧ (G 1 5).toInt ≤ 16 ∧ ((G 4 5).toInt ≠ 1 ∨ ((G 4 6).toInt ≤ (G 1 5).toInt ∧ (G 1 5).toInt ≤ (G 4 6).toInt + 3))))); (first | omega | (simp only [Int32.reduceToInt, true_and, and_true, ne_eq, not_true_eq_false, false_and, or_false, false_or, true_or, or_true, false_implies] <;> omega)))⟩) rfl rfl dX8_isInBounds_29

theorem dX8_takeOfNumbers_0 : decode cX8_takeOfNumbers 0 = .ok (.aload_n 1, 1) := by decide +kernel
theorem dX8_takeOfNumbers_1 : decode cX8_takeOfNumbers 1 = .ok (.invokevirtual 111, 3) := by decide +kernel
theorem dX8_takeOfNumbers_4 : decode cX8_takeOfNumbers 4 = .ok (.iconst (-1), 1) := by decide +kernel
theorem dX8_takeOfNumbers_5 : decode cX8_takeOfNumbers 5 = .ok (.if_icmp .eq 7, 3) := by decide +kernel
theorem dX8_takeOfNumbers_8 : decode cX8_takeOfNumbers 8 = .ok (.iconst 1, 1) := by decide +kernel
theorem dX8_takeOfNumbers_9 : decode cX8_takeOfNumbers 9 = .ok (.goto 4, 3) := by decide +kernel
theorem dX8_takeOfNumbers_12 : decode cX8_takeOfNumbers 12 = .ok (.iconst 0, 1) := by decide +kernel
theorem dX8_takeOfNumbers_13 : decode cX8_takeOfNumbers 13 = .ok (.istore_n 2, 1) := by decide +kernel
theorem dX8_takeOfNumbers_14 : decode cX8_takeOfNumbers 14 = .ok (.aload_n 0, 1) := by decide +kernel
theorem dX8_takeOfNumbers_15 : decode cX8_takeOfNumbers 15 = .ok (.getfield 9, 3) := by decide +kernel
theorem dX8_takeOfNumbers_18 : decode cX8_takeOfNumbers 18 = .ok (.bipush 59, 2) := by decide +kernel
theorem dX8_takeOfNumbers_20 : decode cX8_takeOfNumbers 20 = .ok (.invokevirtual 92, 3) := by decide +kernel
theorem dX8_takeOfNumbers_23 : decode cX8_takeOfNumbers 23 = .ok (.ifCond .eq 53, 3) := by decide +kernel
theorem dX8_takeOfNumbers_26 : decode cX8_takeOfNumbers 26 = .ok (.iload_n 2, 1) := by decide +kernel
theorem dX8_takeOfNumbers_27 : decode cX8_takeOfNumbers 27 = .ok (.ifCond .eq 13, 3) := by decide +kernel
theorem dX8_takeOfNumbers_30 : decode cX8_takeOfNumbers 30 = .ok (.aload_n 0, 1) := by decide +kernel
theorem dX8_takeOfNumbers_31 : decode cX8_takeOfNumbers 31 = .ok (.getfield 77, 3) := by decide +kernel
theorem dX8_takeOfNumbers_34 : decode cX8_takeOfNumbers 34 = .ok (.ifCond .le 42, 3) := by decide +kernel
theorem dX8_takeOfNumbers_37 : decode cX8_takeOfNumbers 37 = .ok (.goto 14, 3) := by decide +kernel
theorem dX8_takeOfNumbers_40 : decode cX8_takeOfNumbers 40 = .ok (.aload_n 0, 1) := by decide +kernel
theorem dX8_takeOfNumbers_41 : decode cX8_takeOfNumbers 41 = .ok (.getfield 77, 3) := by decide +kernel
theorem dX8_takeOfNumbers_44 : decode cX8_takeOfNumbers 44 = .ok (.aload_n 1, 1) := by decide +kernel
theorem dX8_takeOfNumbers_45 : decode cX8_takeOfNumbers 45 = .ok (.getfield 114, 3) := by decide +kernel
theorem dX8_takeOfNumbers_48 : decode cX8_takeOfNumbers 48 = .ok (.if_icmp .ne 28, 3) := by decide +kernel
theorem dX8_takeOfNumbers_51 : decode cX8_takeOfNumbers 51 = .ok (.iload_n 2, 1) := by decide +kernel
theorem dX8_takeOfNumbers_52 : decode cX8_takeOfNumbers 52 = .ok (.ifCond .eq 18, 3) := by decide +kernel
theorem dX8_takeOfNumbers_55 : decode cX8_takeOfNumbers 55 = .ok (.aload_n 0, 1) := by decide +kernel
theorem dX8_takeOfNumbers_56 : decode cX8_takeOfNumbers 56 = .ok (.getfield 15, 3) := by decide +kernel
theorem dX8_takeOfNumbers_59 : decode cX8_takeOfNumbers 59 = .ok (.aload_n 1, 1) := by decide +kernel
theorem dX8_takeOfNumbers_60 : decode cX8_takeOfNumbers 60 = .ok (.invokevirtual 111, 3) := by decide +kernel
theorem dX8_takeOfNumbers_63 : decode cX8_takeOfNumbers 63 = .ok (.aload_n 0, 1) := by decide +kernel
theorem dX8_takeOfNumbers_64 : decode cX8_takeOfNumbers 64 = .ok (.getfield 77, 3) := by decide +kernel
theorem dX8_takeOfNumbers_67 : decode cX8_takeOfNumbers 67 = .ok (.invokevirtual 117, 3) := by decide +kernel
theorem dX8_takeOfNumbers_70 : decode cX8_takeOfNumbers 70 = .ok (.aload_n 0, 1) := by decide +kernel
theorem dX8_takeOfNumbers_71 : decode cX8_takeOfNumbers 71 = .ok (.invokevirtual 102, 3) := by decide +kernel
theorem dX8_takeOfNumbers_74 : decode cX8_takeOfNumbers 74 = .ok (.iconst 0, 1) := by decide +kernel
theorem dX8_takeOfNumbers_75 : decode cX8_takeOfNumbers 75 = .ok (.ireturn, 1) := by decide +kernel
theorem dX8_takeOfNumbers_76 : decode cX8_takeOfNumbers 76 = .ok (.aload_n 0, 1) := by decide +kernel
theorem dX8_takeOfNumbers_77 : decode cX8_takeOfNumbers 77 = .ok (.getfield 9, 3) := by decide +kernel
theorem dX8_takeOfNumbers_80 : decode cX8_takeOfNumbers 80 = .ok (.getfield 42, 3) := by decide +kernel
theorem dX8_takeOfNumbers_83 : decode cX8_takeOfNumbers 83 = .ok (.iconst 2, 1) := by decide +kernel
theorem dX8_takeOfNumbers_84 : decode cX8_takeOfNumbers 84 = .ok (.if_icmp .ne 18, 3) := by decide +kernel
theorem dX8_takeOfNumbers_87 : decode cX8_takeOfNumbers 87 = .ok (.iload_n 2, 1) := by decide +kernel
theorem dX8_takeOfNumbers_88 : decode cX8_takeOfNumbers 88 = .ok (.ifCond .ne 16, 3) := by decide +kernel
theorem dX8_takeOfNumbers_91 : decode cX8_takeOfNumbers 91 = .ok (.aload_n 0, 1) := by decide +kernel
theorem dX8_takeOfNumbers_92 : decode cX8_takeOfNumbers 92 = .ok (.getfield 77, 3) := by decide +kernel
theorem dX8_takeOfNumbers_95 : decode cX8_takeOfNumbers 95 = .ok (.aload_n 1, 1) := by decide +kernel
theorem dX8_takeOfNumbers_96 : decode cX8_takeOfNumbers 96 = .ok (.getfield 114, 3) := by decide +kernel
theorem dX8_takeOfNumbers_99 : decode cX8_takeOfNumbers 99 = .ok (.if_icmp .ne 5, 3) := by decide +kernel
theorem dX8_takeOfNumbers_102 : decode cX8_takeOfNumbers 102 = .ok (.iconst 1, 1) := by decide +kernel
theorem dX8_takeOfNumbers_103 : decode cX8_takeOfNumbers 103 = .ok (.ireturn, 1) := by decide +kernel
theorem dX8_takeOfNumbers_104 : decode cX8_takeOfNumbers 104 = .ok (.aload_n 0, 1) := by decide +kernel
theorem dX8_takeOfNumbers_105 : decode cX8_takeOfNumbers 105 = .ok (.aload_n 1, 1) := by decide +kernel
theorem dX8_takeOfNumbers_106 : decode cX8_takeOfNumbers 106 = .ok (.invokevirtual 121, 3) := by decide +kernel
theorem dX8_takeOfNumbers_109 : decode cX8_takeOfNumbers 109 = .ok (.ifCond .ne 5, 3) := by decide +kernel
theorem dX8_takeOfNumbers_112 : decode cX8_takeOfNumbers 112 = .ok (.iconst 2, 1) := by decide +kernel
theorem dX8_takeOfNumbers_113 : decode cX8_takeOfNumbers 113 = .ok (.ireturn, 1) := by decide +kernel
theorem dX8_takeOfNumbers_114 : decode cX8_takeOfNumbers 114 = .ok (.aload_n 0, 1) := by decide +kernel
theorem dX8_takeOfNumbers_115 : decode cX8_takeOfNumbers 115 = .ok (.getfield 77, 3) := by decide +kernel
theorem dX8_takeOfNumbers_118 : decode cX8_takeOfNumbers 118 = .ok (.aload_n 1, 1) := by decide +kernel
theorem dX8_takeOfNumbers_119 : decode cX8_takeOfNumbers 119 = .ok (.getfield 114, 3) := by decide +kernel
theorem dX8_takeOfNumbers_122 : decode cX8_takeOfNumbers 122 = .ok (.if_icmp .ne 5, 3) := by decide +kernel
theorem dX8_takeOfNumbers_125 : decode cX8_takeOfNumbers 125 = .ok (.iconst 4, 1) := by decide +kernel
theorem dX8_takeOfNumbers_126 : decode cX8_takeOfNumbers 126 = .ok (.ireturn, 1) := by decide +kernel
theorem dX8_takeOfNumbers_127 : decode cX8_takeOfNumbers 127 = .ok (.aload_n 0, 1) := by decide +kernel
theorem dX8_takeOfNumbers_128 : decode cX8_takeOfNumbers 128 = .ok (.getfield 15, 3) := by decide +kernel
theorem dX8_takeOfNumbers_131 : decode cX8_takeOfNumbers 131 = .ok (.aload_n 1, 1) := by decide +kernel
theorem dX8_takeOfNumbers_132 : decode cX8_takeOfNumbers 132 = .ok (.getfield 80, 3) := by decide +kernel
theorem dX8_takeOfNumbers_135 : decode cX8_takeOfNumbers 135 = .ok (.aload_n 0, 1) := by decide +kernel
theorem dX8_takeOfNumbers_136 : decode cX8_takeOfNumbers 136 = .ok (.getfield 77, 3) := by decide +kernel
theorem dX8_takeOfNumbers_139 : decode cX8_takeOfNumbers 139 = .ok (.iadd, 1) := by decide +kernel
theorem dX8_takeOfNumbers_140 : decode cX8_takeOfNumbers 140 = .ok (.aload_n 0, 1) := by decide +kernel
theorem dX8_takeOfNumbers_141 : decode cX8_takeOfNumbers 141 = .ok (.getfield 9, 3) := by decide +kernel
theorem dX8_takeOfNumbers_144 : decode cX8_takeOfNumbers 144 = .ok (.getfield 125, 3) := by decide +kernel
theorem dX8_takeOfNumbers_147 : decode cX8_takeOfNumbers 147 = .ok (.invokevirtual 117, 3) := by decide +kernel
theorem dX8_takeOfNumbers_150 : decode cX8_takeOfNumbers 150 = .ok (.aload_n 0, 1) := by decide +kernel
theorem dX8_takeOfNumbers_151 : decode cX8_takeOfNumbers 151 = .ok (.dup, 1) := by decide +kernel
theorem dX8_takeOfNumbers_152 : decode cX8_takeOfNumbers 152 = .ok (.getfield 77, 3) := by decide +kernel
theorem dX8_takeOfNumbers_155 : decode cX8_takeOfNumbers 155 = .ok (.iconst 1, 1) := by decide +kernel
theorem dX8_takeOfNumbers_156 : decode cX8_takeOfNumbers 156 = .ok (.iadd, 1) := by decide +kernel
theorem dX8_takeOfNumbers_157 : decode cX8_takeOfNumbers 157 = .ok (.putfield 77, 3) := by decide +kernel
theorem dX8_takeOfNumbers_160 : decode cX8_takeOfNumbers 160 = .ok (.aload_n 0, 1) := by decide +kernel
theorem dX8_takeOfNumbers_161 : decode cX8_takeOfNumbers 161 = .ok (.aload_n 0, 1) := by decide +kernel
theorem dX8_takeOfNumbers_162 : decode cX8_takeOfNumbers 162 = .ok (.getfield 9, 3) := by decide +kernel
theorem dX8_takeOfNumbers_165 : decode cX8_takeOfNumbers 165 = .ok (.getfield 125, 3) := by decide +kernel
theorem dX8_takeOfNumbers_168 : decode cX8_takeOfNumbers 168 = .ok (.putfield 128, 3) := by decide +kernel
theorem dX8_takeOfNumbers_171 : decode cX8_takeOfNumbers 171 = .ok (.iconst 0, 1) := by decide +kernel
theorem dX8_takeOfNumbers_172 : decode cX8_takeOfNumbers 172 = .ok (.ireturn, 1) := by decide +kernel
set_option maxRecDepth 20000 in
theorem ggX8_takeOfNumbers_X10_isSign : GoodIn wsX8_takeOfNumbers wsX10_isSign := goodIn_r _ [19, 20, 21, 48, 49, 50, 51, 52, 53] rfl (by decide +kernel)
set_option maxRecDepth 20000 in
theorem gX8_takeOfNumbers_X10_isSign : GoodIn wsX8_takeOfNumbers (wsV RX8 92 RX10 yX10_isSign wsX10_isSign) := goodIn_app (goodIn_of _ (by decide +kernel)) ggX8_takeOfNumbers_X10_isSign
set_option maxRecDepth 20000 in
theorem ggX8_takeOfNumbers_X1_manySlot : GoodIn wsX8_takeOfNumbers wsX1_manySlot := goodIn_r _ [13, 14] rfl (by decide +kernel)
set_option maxRecDepth 20000 in
theorem gX8_takeOfNumbers_X1_manySlot : GoodIn wsX8_takeOfNumbers (wsV RX8 111 RX1 yX1_manySlot wsX1_manySlot) := goodIn_app (goodIn_of _ (by decide +kernel)) ggX8_takeOfNumbers_X1_manySlot
set_option maxRecDepth 20000 in
theorem ggX8_takeOfNumbers_X7_put : GoodIn wsX8_takeOfNumbers wsX7_put := goodIn_r _ [26, 27, 54, 55, 56, 57] rfl (by decide +kernel)
set_option maxRecDepth 20000 in
theorem gX8_takeOfNumbers_X7_put : GoodIn wsX8_takeOfNumbers (wsV RX8 117 RX7 yX7_put wsX7_put) := goodIn_app (goodIn_of _ (by decide +kernel)) ggX8_takeOfNumbers_X7_put
set_option maxRecDepth 20000 in
theorem ggX8_takeOfNumbers_X8_closeClause : GoodIn wsX8_takeOfNumbers wsX8_closeClause := goodIn_r _ [32, 33, 34, 41, 42, 43, 44, 45, 46, 47] rfl (by decide +kernel)
set_option maxRecDepth 20000 in
theorem gX8_takeOfNumbers_X8_closeClause : GoodIn wsX8_takeOfNumbers (wsV RX8 102 RX8 yX8_closeClause wsX8_closeClause) := goodIn_app (goodIn_of _ (by decide +kernel)) ggX8_takeOfNumbers_X8_closeClause
set_option maxRecDepth 20000 in
theorem ggX8_takeOfNumbers_X8_isInBounds : GoodIn wsX8_takeOfNumbers wsX8_isInBounds := goodIn_r _ [38, 1, 7, 39, 40, 2, 8, 9, 10, 11, 12, 13, 14, 41, 42, 43, 44, 45, 46, 47, 48, 49, 50, 51, 52, 53] rfl (by decide +kernel)
set_option maxRecDepth 20000 in
theorem gX8_takeOfNumbers_X8_isInBounds : GoodIn wsX8_takeOfNumbers (wsV RX8 121 RX8 yX8_isInBounds wsX8_isInBounds) := goodIn_app (goodIn_of _ (by decide +kernel)) ggX8_takeOfNumbers_X8_isInBounds
set_option maxHeartbeats 4000000 in
set_option maxRecDepth 100000 in
theorem S_X8_takeOfNumbers_c0 (l : Launch) (D : va_G) (K : Nat → ClassId) (a : Nat → Nat) (G : gS) (zf : Nat → Nat) (nb : xNb (G 19)) (ck : ((G 4 2).toInt ≤ 1000)) (rn : ((G 4 5).toInt ≤ 1 ∧ (G 4 4).toInt = 0)) (hI : xI G) (sz : Nat) : KiZ (xZ zf) l yX8_takeOfNumbers wsX8_takeOfNumbers 3 82 D [.ref (a 4), .ref (zf 10)] (xW K a G) (tK K) sz (fun (r : Int32) (G' : gS) => (xI G') ∧ (gu_un xcd [403, 405, 406, 407, 1900] G G') ∧ (0 ≤ r.toInt ∧ r.toInt ≤ 4) ∧ (xNb (G' 19)) ∧ (((G' 4 4).toInt = -1 ∨ (G' 4 5).toInt ≤ 1 ∨ ((G' 4 5).toInt ≤ 2 ∧ ((G' 4 4).toInt = 3 ∨ (G' 4 4).toInt = 4)) ∨ ((G' 4 5).toInt ≤ 4 ∧ (G' 4 4).toInt = 8) ∨ (G' 4 4).toInt = 9)) ∧ (((G' 4 4).toInt = -1 ∨ (G' 4 4).toInt = (G 4 4).toInt)) ∧ (((G' 4 2).toInt ≤ (G 4 2).toInt + 1)) ∧ ((∀ (ts : List hTk) (pl ci : Int), xH (((G 1 3).toInt, pl, (G 1 5).toInt, ci) :: ts) G = if r.toInt = 0 then xH ts G' else hBad r.toInt pl)) ∧ ((r.toInt ≠ 0 ∨ (G 1 3).toInt ≠ 0))) (fun (G' : gS) => (xW K a G')) := by
  unfold KiZ
  refine gz_ofW (cc := cX8_takeOfNumbers) (lv := [(0, .ref (a 4)), (1, .ref (zf 10))]) (by decide) rfl (Nat.le_of_ble_eq_true rfl) rfl ?_
  intro p e s m args below meth c A Q hA hQ hZ F hr hnm
  have hts := F.2.2.2.2.1
  have w_0 : (Cond.fieldLink RX8 9 "QuietCut$ShopReader" "tape" "LQuietCut$Tape;").before args s = true := hts _ (List.mem_of_getElem? (i := 1) rfl)
  have i_X8 : ∀ w ∈ u_ws RX8 TX8 7, w ∈ wsX8_takeOfNumbers := fun _ h => List.mem_cons_of_mem _ (List.mem_append_left _ (List.mem_append_left _ (List.mem_append_right _ h)))
  have w_1 : (Cond.fieldLink RX8 77 "QuietCut$ShopReader" "numbers" "I").before args s = true := hts _ (List.mem_of_getElem? (i := 2) rfl)
  have w_2 : (Cond.fieldLink RX8 114 "QuietCut$Clause" "most" "I").before args s = true := hts _ (List.mem_of_getElem? (i := 3) rfl)
  have w_3 : (Cond.fieldLink RX8 42 "QuietCut$Tape" "kind" "I").before args s = true := hts _ (List.mem_of_getElem? (i := 5) rfl)
  have i_X10 : ∀ w ∈ u_ws RX10 TX10 6, w ∈ wsX8_takeOfNumbers := fun _ h => List.mem_cons_of_mem _ (List.mem_append_left _ (List.mem_append_right _ h))
  have w_4 : (Cond.fieldLink RX8 15 "QuietCut$ShopReader" "target" "LQuietCut$Shop;").before args s = true := hts _ (List.mem_of_getElem? (i := 4) rfl)
  have w_5 : (Cond.fieldLink RX8 80 "QuietCut$Clause" "slot" "I").before args s = true := hts _ (List.mem_of_getElem? (i := 6) rfl)
  have w_6 : (Cond.fieldLink RX8 125 "QuietCut$Tape" "value" "I").before args s = true := hts _ (List.mem_of_getElem? (i := 7) rfl)
  have w_7 : (Cond.fieldLink RX8 128 "QuietCut$ShopReader" "latest" "I").before args s = true := hts _ (List.mem_of_getElem? (i := 8) rfl)
  have b1 : (0 : Int) ≤ (G 4 5).toInt ∧ (G 4 5).toInt ≤ 6 := hI 4 5
  have b2 : ((-1) : Int) ≤ (G 4 4).toInt ∧ (G 4 4).toInt ≤ 12 := hI 4 4
  have b3 : (0 : Int) ≤ (G 4 2).toInt ∧ (G 4 2).toInt ≤ 1001 := hI 4 2
  have b4 : (0 : Int) ≤ (G 4 6).toInt ∧ (G 4 6).toInt ≤ 9999 := hI 4 6
  refine g_aload_n F 1 dX8_takeOfNumbers_0 rfl rfl ?_
  refine uz_call0Vi (k := 0) (n := 0) (b := (zf 10)) (As := []) (st := []) F xZ_st hZ (fun sz => S_X1_manySlot_c0 l D zf sz) (cwV 0 hts gX8_takeOfNumbers_X1_manySlot rfl rfl rfl (by decide +kernel) ⟨Nat.le_of_ble_eq_true rfl, Nat.le_of_ble_eq_true rfl⟩) (hZ.2.2.2.2.2 0 (by decide)).1 rfl (Nat.le_of_ble_eq_true rfl) ⟨Nat.zero_le _, Nat.zero_le _⟩ dX8_takeOfNumbers_1 (fun r5 _ hw6 => ?_)
  have hw6 : r5.toInt = -1 := hw6
  refine g_fold (-1) ((ti_eq rfl (show ((-1) : Int32).toInt = (-1) from rfl)).mpr hw6) ?_
  refine g_iconst F (-1) dX8_takeOfNumbers_4 (by decide) ?_
  refine v_icmp_eq F 12 dX8_takeOfNumbers_5 (by decide) (-1) (-1) rfl rfl (fun c7 => ?_) (fun c7 => absurd c7 (by decide))
  refine g_iconst F 0 dX8_takeOfNumbers_12 (by decide) ?_
  refine g_istore_n F [(2, .int 0), (0, .ref (a 4)), (1, .ref (zf 10))] dX8_takeOfNumbers_13 rfl (by decide) rfl ?_
  refine g_aload_n F 1 dX8_takeOfNumbers_14 rfl rfl ?_
  refine xg_4_0 F i_X8 w_0 dX8_takeOfNumbers_15 ?_
  refine g_bipush F 59 dX8_takeOfNumbers_18 (by decide) ?_
  refine u_callVi (k := 0) (n := 0) (b := a 1) (As := [.int 59]) (st := []) F (fun sz => S_X10_isSign l D K a G 59 59 rfl hI sz) (cwV 1 hts gX8_takeOfNumbers_X10_isSign rfl rfl rfl (by decide +kernel) ⟨Nat.le_of_ble_eq_true rfl, Nat.le_of_ble_eq_true rfl⟩) rfl 1 xc_1 rfl (Nat.le_of_ble_eq_true rfl) ⟨Nat.zero_le _, Nat.zero_le _⟩ dX8_takeOfNumbers_20 (fun r8 _ hw9 => ?_)
  rcases hw9 with ⟨rfl, q11⟩ | ⟨rfl, q12⟩
  · have b13 : (0 : Int) ≤ (G 1 3).toInt ∧ (G 1 3).toInt ≤ 4 := hI 1 3
    have q11 : ((G 1 3).toInt = 3 ∧ (G 1 5).toInt = (59 : Int)) := q11
    refine v_if_eq F 76 dX8_takeOfNumbers_23 (by decide) 1 rfl (fun c14 => absurd c14 (by decide)) (fun c14 => ?_)
    refine g_iload_n F 0 dX8_takeOfNumbers_26 rfl rfl ?_
    refine v_if_eq F 40 dX8_takeOfNumbers_27 (by decide) 0 rfl (fun c15 => ?_) (fun c15 => absurd c15 (by decide))
    refine g_aload_n F 1 dX8_takeOfNumbers_40 rfl rfl ?_
    refine xg_4_5 F i_X8 w_1 dX8_takeOfNumbers_41 (G 4 5) (rfl) ?_
    refine g_aload_n F 2 dX8_takeOfNumbers_44 rfl rfl ?_
    refine uz_getf F (show va_OF "QuietCut$Clause" "most" "I" (.int 1) (zf 10) A s s.heap from (hZ.2.2.2.2.2 0 (by decide)).2.2.2.1) w_2 dX8_takeOfNumbers_45 ?_
    refine v_icmp_ne F 76 dX8_takeOfNumbers_48 (by decide) (G 4 5).toInt 1 rfl rfl (fun c16 => ?_) (fun c16 => ?_)
    · refine g_aload_n F 1 dX8_takeOfNumbers_76 rfl rfl ?_
      refine xg_4_0 F i_X8 w_0 dX8_takeOfNumbers_77 ?_
      refine xg_1_3 F i_X10 w_3 dX8_takeOfNumbers_80 (G 1 3) (rfl) ?_
      refine g_iconst F 2 dX8_takeOfNumbers_83 (by decide) ?_
      refine v_icmp_ne F 102 dX8_takeOfNumbers_84 (by decide) (G 1 3).toInt 2 rfl rfl (fun c17 => ?_) (fun c17 => ?_)
      · refine g_iconst F 1 dX8_takeOfNumbers_102 (by decide) ?_
        exact u_iret F hA hQ hr G (⟨hI, gu_un.rf, (by decide), (nb), (by show ((G 4 4).toInt = -1 ∨ (G 4 5).toInt ≤ 1 ∨ ((G 4 5).toInt ≤ 2 ∧ ((G 4 4).toInt = 3 ∨ (G 4 4).toInt = 4)) ∨ ((G 4 5).toInt ≤ 4 ∧ (G 4 4).toInt = 8) ∨ (G 4 4).toInt = 9); (first | omega | (simp only [Int32.reduceToInt, true_and, and_true, ne_eq, not_true_eq_false, false_and, or_false, false_or, true_or, or_true, false_implies] <;> omega))), (by show ((G 4 4).toInt = -1 ∨ (G 4 4).toInt = (G 4 4).toInt); (first | omega | (simp only [Int32.reduceToInt, true_and, and_true, ne_eq, not_true_eq_false, false_and, or_false, false_or, true_or, or_true, false_implies] <;> omega))), (by show ((G 4 2).toInt ≤ (G 4 2).toInt + 1); (first | omega | (simp only [Int32.reduceToInt, true_and, and_true, ne_eq, not_true_eq_false, false_and, or_false, false_or, true_or, or_true, false_implies] <;> omega))), (by have m9 : hMo 0 = 1 := (by decide); have l9 : hLo 0 = 4 := (by decide); have h9 : hHi 0 = 16 := (by decide); have s9 : hSl 0 = 0 := (by decide); exact xH_bad (f := 1) (by decide) (by decide) (fun ts pl ci => by rw [show (G 4 4).toInt = 0 by omega]; exact hO_n1 (by decide) (by decide) (by show ¬ (_ ∧ _ ∧ _); omega) (by omega))), (by show (1 ≠ 0 ∨ (G 1 3).toInt ≠ 0); (first | omega | (simp only [Int32.reduceToInt, true_and, and_true, ne_eq, not_true_eq_false, false_and, or_false, false_or, true_or, or_true, false_implies] <;> omega)))⟩) rfl rfl dX8_takeOfNumbers_103
      · refine g_iload_n F 0 dX8_takeOfNumbers_87 rfl rfl ?_
        refine v_if_ne F 104 dX8_takeOfNumbers_88 (by decide) 0 rfl (fun c18 => absurd c18 (by decide)) (fun c18 => ?_)
        refine g_aload_n F 1 dX8_takeOfNumbers_91 rfl rfl ?_
        refine xg_4_5 F i_X8 w_1 dX8_takeOfNumbers_92 (G 4 5) (rfl) ?_
        refine g_aload_n F 2 dX8_takeOfNumbers_95 rfl rfl ?_
        refine uz_getf F (show va_OF "QuietCut$Clause" "most" "I" (.int 1) (zf 10) A s s.heap from (hZ.2.2.2.2.2 0 (by decide)).2.2.2.1) w_2 dX8_takeOfNumbers_96 ?_
        refine v_icmp_ne F 104 dX8_takeOfNumbers_99 (by decide) (G 4 5).toInt 1 rfl rfl (fun c19 => ?_) (fun c19 => ?_)
        · refine g_aload_n F 1 dX8_takeOfNumbers_104 rfl rfl ?_
          refine g_aload_n F 2 dX8_takeOfNumbers_105 rfl rfl ?_
          refine uz_callVi (k := 0) (n := 0) (b := a 4) (As := [.ref (zf 10)]) (st := []) F xZ_st hZ (fun sz => S_X8_isInBounds_c0 l D K a G zf  hI sz) (cwV 1 hts gX8_takeOfNumbers_X8_isInBounds rfl rfl rfl (by decide +kernel) ⟨Nat.le_of_ble_eq_true rfl, Nat.le_of_ble_eq_true rfl⟩) rfl 4 xc_4 rfl (Nat.le_of_ble_eq_true rfl) ⟨Nat.zero_le _, Nat.zero_le _⟩ dX8_takeOfNumbers_106 (fun r20 _ hw21 => ?_)
          have q23 : ((r20.toInt = 1 ∧ (4 ≤ (G 1 5).toInt ∧ (G 1 5).toInt ≤ 16 ∧ ((G 4 5).toInt ≠ 1 ∨ ((G 4 6).toInt ≤ (G 1 5).toInt ∧ (G 1 5).toInt ≤ (G 4 6).toInt + 3)))) ∨ (r20.toInt = 0 ∧ ¬ (4 ≤ (G 1 5).toInt ∧ (G 1 5).toInt ≤ 16 ∧ ((G 4 5).toInt ≠ 1 ∨ ((G 4 6).toInt ≤ (G 1 5).toInt ∧ (G 1 5).toInt ≤ (G 4 6).toInt + 3))))) := hw21.2
          have rg24 := hw21.1
          clear hw21
          refine v_if_ne F 114 dX8_takeOfNumbers_109 (by decide) r20.toInt rfl (fun c25 => ?_) (fun c25 => ?_)
          · refine g_aload_n F 1 dX8_takeOfNumbers_114 rfl rfl ?_
            refine xg_4_5 F i_X8 w_1 dX8_takeOfNumbers_115 (G 4 5) (rfl) ?_
            refine g_aload_n F 2 dX8_takeOfNumbers_118 rfl rfl ?_
            refine uz_getf F (show va_OF "QuietCut$Clause" "most" "I" (.int 1) (zf 10) A s s.heap from (hZ.2.2.2.2.2 0 (by decide)).2.2.2.1) w_2 dX8_takeOfNumbers_119 ?_
            refine v_icmp_ne F 127 dX8_takeOfNumbers_122 (by decide) (G 4 5).toInt 1 rfl rfl (fun c26 => ?_) (fun c26 => ?_)
            · refine g_aload_n F 1 dX8_takeOfNumbers_127 rfl rfl ?_
              refine xg_4_1 F i_X8 w_4 dX8_takeOfNumbers_128 ?_
              refine g_aload_n F 2 dX8_takeOfNumbers_131 rfl rfl ?_
              refine uz_getf F (show va_OF "QuietCut$Clause" "slot" "I" (.int 0) (zf 10) A s s.heap from (hZ.2.2.2.2.2 0 (by decide)).2.2.1) w_5 dX8_takeOfNumbers_132 ?_
              refine g_aload_n F 1 dX8_takeOfNumbers_135 rfl rfl ?_
              refine xg_4_5 F i_X8 w_1 dX8_takeOfNumbers_136 (G 4 5) (rfl) ?_
              refine u_iadd F dX8_takeOfNumbers_139 0 (G 4 5).toInt rfl rfl (by omega) (by omega) (fun y27 ey27 => ?_)
              refine g_aload_n F 1 dX8_takeOfNumbers_140 rfl rfl ?_
              refine xg_4_0 F i_X8 w_0 dX8_takeOfNumbers_141 ?_
              refine xg_1_5 F i_X10 w_6 dX8_takeOfNumbers_144 (G 1 5) (rfl) ?_
              refine u_callVv (k := 0) (n := 0) (b := a 3) (As := [.int y27, .int (G 1 5)]) (st := []) F (fun sz => S_X7_put_3 l D K a G y27 y27.toInt (G 1 5) (G 1 5).toInt rfl (by omega) rfl hI sz) (cwV 2 hts gX8_takeOfNumbers_X7_put rfl rfl rfl (by decide +kernel) ⟨Nat.le_of_ble_eq_true rfl, Nat.le_of_ble_eq_true rfl⟩) rfl 3 xc_3 rfl (Nat.le_of_ble_eq_true rfl) ⟨Nat.zero_le _, Nat.zero_le _⟩ dX8_takeOfNumbers_147 (fun G30 hw29 => ?_)
              have hI31 : xI G30 := hw29.1
              have hU32 : gu_un xcd [1900] G G30 := hw29.2.1
              have hp33 := hw29.2.2
              have q34 : (G30 19 = upd (G 19) (y27.toInt).toNat (G 1 5)) := hp33
              clear hp33 hw29
              refine g_aload_n F 1 dX8_takeOfNumbers_150 rfl rfl ?_
              refine g_dup F dX8_takeOfNumbers_151 rfl ?_
              refine xg_4_5 F i_X8 w_1 dX8_takeOfNumbers_152 (G 4 5) (hU32 4 5 (by decide)) ?_
              refine g_iconst F 1 dX8_takeOfNumbers_155 (by decide) ?_
              refine u_iadd F dX8_takeOfNumbers_156 (G 4 5).toInt 1 rfl rfl (by omega) (by omega) (fun y35 ey35 => ?_)
              refine xp_4_5 F i_X8 w_1 dX8_takeOfNumbers_157 ?_
              refine g_aload_n F 1 dX8_takeOfNumbers_160 rfl rfl ?_
              refine g_aload_n F 1 dX8_takeOfNumbers_161 rfl rfl ?_
              refine xg_4_0 F i_X8 w_0 dX8_takeOfNumbers_162 ?_
              refine xg_1_5 F i_X10 w_6 dX8_takeOfNumbers_165 (G 1 5) (hU32 1 5 (by decide)) ?_
              refine xp_4_6 F i_X8 w_7 dX8_takeOfNumbers_168 ?_
              refine g_iconst F 0 dX8_takeOfNumbers_171 (by decide) ?_
              exact u_iret F hA hQ hr (gu_up (gu_up G30 4 5 y35) 4 6 (G 1 5)) (⟨(gu_I.up (j := 4) (k := 6) (v := (G 1 5)) (gu_I.up (j := 4) (k := 5) (v := y35) hI31 (show (0 : Int) ≤ Int32.toInt y35 by omega) (show Int32.toInt y35 ≤ 6 by omega)) (show (0 : Int) ≤ Int32.toInt (G 1 5) by omega) (show Int32.toInt (G 1 5) ≤ 9999 by omega)), (gu_un.up (j := 4) (k := 6) (v := (G 1 5)) (gu_un.up (j := 4) (k := 5) (v := y35) (gu_un.tr gu_un.rf (gu_un.su hU32 rfl)) (show (406 : Nat) ∈ ([403, 405, 406, 407, 1900] : List Nat) by decide)) (show (407 : Nat) ∈ ([403, 405, 406, 407, 1900] : List Nat) by decide)), (by decide), ((xNb.un (G := G30) (by rw [q34]; rcases (show y27.toInt = 0 by omega) with h9 <;> (rw [h9]; first | exact xNb.put nb (show (4 : Int) ≤ Int32.toInt (G 1 5) by omega) (show Int32.toInt (G 1 5) ≤ 16 by omega))) (show gu_un xcd [406, 407] G30 (gu_up (gu_up G30 4 5 y35) 4 6 (G 1 5)) from (gu_un.up (j := 4) (k := 6) (v := (G 1 5)) (gu_un.up (j := 4) (k := 5) (v := y35) gu_un.rf (show (406 : Nat) ∈ ([406, 407] : List Nat) by decide)) (show (407 : Nat) ∈ ([406, 407] : List Nat) by decide))) rfl)), (by show (((gu_up (gu_up G30 4 5 y35) 4 6 (G 1 5)) 4 4).toInt = -1 ∨ ((gu_up (gu_up G30 4 5 y35) 4 6 (G 1 5)) 4 5).toInt ≤ 1 ∨ (((gu_up (gu_up G30 4 5 y35) 4 6 (G 1 5)) 4 5).toInt ≤ 2 ∧ (((gu_up (gu_up G30 4 5 y35) 4 6 (G 1 5)) 4 4).toInt = 3 ∨ ((gu_up (gu_up G30 4 5 y35) 4 6 (G 1 5)) 4 4).toInt = 4)) ∨ (((gu_up (gu_up G30 4 5 y35) 4 6 (G 1 5)) 4 5).toInt ≤ 4 ∧ ((gu_up (gu_up G30 4 5 y35) 4 6 (G 1 5)) 4 4).toInt = 8) ∨ ((gu_up (gu_up G30 4 5 y35) 4 6 (G 1 5)) 4 4).toInt = 9); have e9_4_4 : (gu_up (gu_up G30 4 5 y35) 4 6 (G 1 5)) 4 4 = (G 4 4) := hU32 4 4 (by decide); have e9_4_5 : (gu_up (gu_up G30 4 5 y35) 4 6 (G 1 5)) 4 5 = y35 := rfl; (try simp only [e9_4_4, e9_4_5, true_and, and_true]) <;> (first | omega | (simp only [Int32.reduceToInt, true_and, and_true, ne_eq, not_true_eq_false, false_and, or_false, false_or, true_or, or_true, false_implies] <;> omega))), (by show (((gu_up (gu_up G30 4 5 y35) 4 6 (G 1 5)) 4 4).toInt = -1 ∨ ((gu_up (gu_up G30 4 5 y35) 4 6 (G 1 5)) 4 4).toInt = (G 4 4).toInt); have e9_4_4 : (gu_up (gu_up G30 4 5 y35) 4 6 (G 1 5)) 4 4 = (G 4 4) := hU32 4 4 (by decide); (try simp only [e9_4_4, true_and, and_true]) <;> (first | omega | (simp only [Int32.reduceToInt, true_and, and_true, ne_eq, not_true_eq_false, false_and, or_false, false_or, true_or, or_true, false_implies] <;> omega))), (by show (((gu_up (gu_up G30 4 5 y35) 4 6 (G 1 5)) 4 2).toInt ≤ (G 4 2).toInt + 1); have e9_4_2 : (gu_up (gu_up G30 4 5 y35) 4 6 (G 1 5)) 4 2 = (G 4 2) := hU32 4 2 (by decide); (try simp only [e9_4_2, true_and, and_true]) <;> (first | omega | (simp only [Int32.reduceToInt, true_and, and_true, ne_eq, not_true_eq_false, false_and, or_false, false_or, true_or, or_true, false_implies] <;> omega))), (by have m9 : hMo 0 = 1 := (by decide); have l9 : hLo 0 = 4 := (by decide); have h9 : hHi 0 = 16 := (by decide); have s9 : hSl 0 = 0 := (by decide); exact xH_nP (c := 0) (by decide) (show (G 4 4).toInt = 0 by omega) (by decide) (by decide) (by omega) (by show ¬ (_ ∨ _ ∨ _); omega) (by omega) (show (gu_up (gu_up G30 4 5 y35) 4 6 (G 1 5)) 4 4 = (G 4 4) from hU32 4 4 (by decide)) (show ((gu_up (gu_up G30 4 5 y35) 4 6 (G 1 5)) 4 5).toInt = (G 4 5).toInt + 1 by rw [show (gu_up (gu_up G30 4 5 y35) 4 6 (G 1 5)) 4 5 = y35 from rfl] <;> first | rfl | omega) (show ((gu_up (gu_up G30 4 5 y35) 4 6 (G 1 5)) 4 6).toInt = (G 1 5).toInt by rw [show (gu_up (gu_up G30 4 5 y35) 4 6 (G 1 5)) 4 6 = (G 1 5) from rfl] <;> first | rfl | omega) (show (gu_up (gu_up G30 4 5 y35) 4 6 (G 1 5)) 4 2 = (G 4 2) from hU32 4 2 (by decide)) (show (gu_up (gu_up G30 4 5 y35) 4 6 (G 1 5)) 4 3 = (G 4 3) from hU32 4 3 (by decide)) (x := (G 1 5)) rfl (q := y27.toInt) (by omega) (show (gu_up (gu_up G30 4 5 y35) 4 6 (G 1 5)) 19 = upd (G 19) (y27.toInt).toNat (G 1 5) from (show (gu_up (gu_up G30 4 5 y35) 4 6 (G 1 5)) 19 = G30 19 from funext fun k_ => (show gu_un xcd [406, 407] G30 (gu_up (gu_up G30 4 5 y35) 4 6 (G 1 5)) from (gu_un.up (j := 4) (k := 6) (v := (G 1 5)) (gu_un.up (j := 4) (k := 5) (v := y35) gu_un.rf (show (406 : Nat) ∈ ([406, 407] : List Nat) by decide)) (show (407 : Nat) ∈ ([406, 407] : List Nat) by decide))) 19 k_ (by simp [xcd])).trans q34) (xSg_un (show gu_un xcd [406, 407, 1900] G (gu_up (gu_up G30 4 5 y35) 4 6 (G 1 5)) from (gu_un.up (j := 4) (k := 6) (v := (G 1 5)) (gu_un.up (j := 4) (k := 5) (v := y35) (gu_un.tr gu_un.rf (gu_un.su hU32 rfl)) (show (406 : Nat) ∈ ([406, 407, 1900] : List Nat) by decide)) (show (407 : Nat) ∈ ([406, 407, 1900] : List Nat) by decide))) rfl rfl rfl)), (by show (0 ≠ 0 ∨ (G 1 3).toInt ≠ 0); (first | omega | (simp only [Int32.reduceToInt, true_and, and_true, ne_eq, not_true_eq_false, false_and, or_false, false_or, true_or, or_true, false_implies] <;> omega)))⟩) rfl rfl dX8_takeOfNumbers_172
            · refine g_iconst F 4 dX8_takeOfNumbers_125 (by decide) ?_
              exact u_iret F hA hQ hr G (⟨hI, gu_un.rf, (by decide), (nb), (by show ((G 4 4).toInt = -1 ∨ (G 4 5).toInt ≤ 1 ∨ ((G 4 5).toInt ≤ 2 ∧ ((G 4 4).toInt = 3 ∨ (G 4 4).toInt = 4)) ∨ ((G 4 5).toInt ≤ 4 ∧ (G 4 4).toInt = 8) ∨ (G 4 4).toInt = 9); (first | omega | (simp only [Int32.reduceToInt, true_and, and_true, ne_eq, not_true_eq_false, false_and, or_false, false_or, true_or, or_true, false_implies] <;> omega))), (by show ((G 4 4).toInt = -1 ∨ (G 4 4).toInt = (G 4 4).toInt); (first | omega | (simp only [Int32.reduceToInt, true_and, and_true, ne_eq, not_true_eq_false, false_and, or_false, false_or, true_or, or_true, false_implies] <;> omega))), (by show ((G 4 2).toInt ≤ (G 4 2).toInt + 1); (first | omega | (simp only [Int32.reduceToInt, true_and, and_true, ne_eq, not_true_eq_false, false_and, or_false, false_or, true_or, or_true, false_implies] <;> omega))), (by have m9 : hMo 0 = 1 := (by decide); have l9 : hLo 0 = 4 := (by decide); have h9 : hHi 0 = 16 := (by decide); have s9 : hSl 0 = 0 := (by decide); exact xH_bad (f := 4) (by decide) (by decide) (fun ts pl ci => by rw [show (G 4 4).toInt = 0 by omega]; exact hO_n4 (by decide) (by decide) (by omega) (by omega) (by show ¬ (_ ∨ _ ∨ _); omega) (by omega))), (by show (4 ≠ 0 ∨ (G 1 3).toInt ≠ 0); (first | omega | (simp only [Int32.reduceToInt, true_and, and_true, ne_eq, not_true_eq_false, false_and, or_false, false_or, true_or, or_true, false_implies] <;> omega)))⟩) rfl rfl dX8_takeOfNumbers_126
          · refine g_iconst F 2 dX8_takeOfNumbers_112 (by decide) ?_
            exact u_iret F hA hQ hr G (⟨hI, gu_un.rf, (by decide), (nb), (by show ((G 4 4).toInt = -1 ∨ (G 4 5).toInt ≤ 1 ∨ ((G 4 5).toInt ≤ 2 ∧ ((G 4 4).toInt = 3 ∨ (G 4 4).toInt = 4)) ∨ ((G 4 5).toInt ≤ 4 ∧ (G 4 4).toInt = 8) ∨ (G 4 4).toInt = 9); (first | omega | (simp only [Int32.reduceToInt, true_and, and_true, ne_eq, not_true_eq_false, false_and, or_false, false_or, true_or, or_true, false_implies] <;> omega))), (by show ((G 4 4).toInt = -1 ∨ (G 4 4).toInt = (G 4 4).toInt); (first | omega | (simp only [Int32.reduceToInt, true_and, and_true, ne_eq, not_true_eq_false, false_and, or_false, false_or, true_or, or_true, false_implies] <;> omega))), (by show ((G 4 2).toInt ≤ (G 4 2).toInt + 1); (first | omega | (simp only [Int32.reduceToInt, true_and, and_true, ne_eq, not_true_eq_false, false_and, or_false, false_or, true_or, or_true, false_implies] <;> omega))), (by have m9 : hMo 0 = 1 := (by decide); have l9 : hLo 0 = 4 := (by decide); have h9 : hHi 0 = 16 := (by decide); have s9 : hSl 0 = 0 := (by decide); exact xH_bad (f := 2) (by decide) (by decide) (fun ts pl ci => by rw [show (G 4 4).toInt = 0 by omega]; exact hO_n2 (by decide) (by decide) (by omega) (by omega) (by show _ ∨ _ ∨ _; omega))), (by show (2 ≠ 0 ∨ (G 1 3).toInt ≠ 0); (first | omega | (simp only [Int32.reduceToInt, true_and, and_true, ne_eq, not_true_eq_false, false_and, or_false, false_or, true_or, or_true, false_implies] <;> omega)))⟩) rfl rfl dX8_takeOfNumbers_113
        · refine g_iconst F 1 dX8_takeOfNumbers_102 (by decide) ?_
          exact u_iret F hA hQ hr G (⟨hI, gu_un.rf, (by decide), (nb), (by show ((G 4 4).toInt = -1 ∨ (G 4 5).toInt ≤ 1 ∨ ((G 4 5).toInt ≤ 2 ∧ ((G 4 4).toInt = 3 ∨ (G 4 4).toInt = 4)) ∨ ((G 4 5).toInt ≤ 4 ∧ (G 4 4).toInt = 8) ∨ (G 4 4).toInt = 9); (first | omega | (simp only [Int32.reduceToInt, true_and, and_true, ne_eq, not_true_eq_false, false_and, or_false, false_or, true_or, or_true, false_implies] <;> omega))), (by show ((G 4 4).toInt = -1 ∨ (G 4 4).toInt = (G 4 4).toInt); (first | omega | (simp only [Int32.reduceToInt, true_and, and_true, ne_eq, not_true_eq_false, false_and, or_false, false_or, true_or, or_true, false_implies] <;> omega))), (by show ((G 4 2).toInt ≤ (G 4 2).toInt + 1); (first | omega | (simp only [Int32.reduceToInt, true_and, and_true, ne_eq, not_true_eq_false, false_and, or_false, false_or, true_or, or_true, false_implies] <;> omega))), (by have m9 : hMo 0 = 1 := (by decide); have l9 : hLo 0 = 4 := (by decide); have h9 : hHi 0 = 16 := (by decide); have s9 : hSl 0 = 0 := (by decide); exact xH_bad (f := 1) (by decide) (by decide) (fun ts pl ci => by rw [show (G 4 4).toInt = 0 by omega]; exact hO_n1 (by decide) (by decide) (by show ¬ (_ ∧ _ ∧ _); omega) (by omega))), (by show (1 ≠ 0 ∨ (G 1 3).toInt ≠ 0); (first | omega | (simp only [Int32.reduceToInt, true_and, and_true, ne_eq, not_true_eq_false, false_and, or_false, false_or, true_or, or_true, false_implies] <;> omega)))⟩) rfl rfl dX8_takeOfNumbers_103
    · refine g_iload_n F 0 dX8_takeOfNumbers_51 rfl rfl ?_
      refine v_if_eq F 70 dX8_takeOfNumbers_52 (by decide) 0 rfl (fun c36 => ?_) (fun c36 => absurd c36 (by decide))
      refine g_aload_n F 1 dX8_takeOfNumbers_70 rfl rfl ?_
      refine u_callVv (k := 0) (n := 0) (b := a 4) (As := []) (st := []) F (fun sz => S_X8_closeClause l D K a G  (by (first | omega | (simp only [Int32.reduceToInt, true_and, and_true, ne_eq, not_true_eq_false, false_and, or_false, false_or, true_or, or_true, false_implies] <;> omega))) hI sz) (cwV 0 hts gX8_takeOfNumbers_X8_closeClause rfl rfl rfl (by decide +kernel) ⟨Nat.le_of_ble_eq_true rfl, Nat.le_of_ble_eq_true rfl⟩) rfl 4 xc_4 rfl (Nat.le_of_ble_eq_true rfl) ⟨Nat.zero_le _, Nat.zero_le _⟩ dX8_takeOfNumbers_71 (fun G39 hw38 => ?_)
      have hI40 : xI G39 := hw38.1
      have hU41 : gu_un xcd [403, 405] G G39 := hw38.2.1
      have hp42 := hw38.2.2
      have b43 : ((-1) : Int) ≤ (G39 4 4).toInt ∧ (G39 4 4).toInt ≤ 12 := hI40 4 4
      have q44 : ((G39 4 4).toInt = -1) := hp42.1
      have b45 : (0 : Int) ≤ (G39 4 2).toInt ∧ (G39 4 2).toInt ≤ 1001 := hI40 4 2
      have q46 : ((G39 4 2).toInt = (G 4 2).toInt + 1) := hp42.2
      clear hp42 hw38
      refine g_iconst F 0 dX8_takeOfNumbers_74 (by decide) ?_
      exact u_iret F hA hQ hr G39 (⟨hI40, (gu_un.tr gu_un.rf (gu_un.su hU41 rfl)), (by decide), ((xNb.un nb (show gu_un xcd [403, 405] G G39 from (gu_un.tr gu_un.rf (gu_un.su hU41 rfl))) rfl)), (by show ((G39 4 4).toInt = -1 ∨ (G39 4 5).toInt ≤ 1 ∨ ((G39 4 5).toInt ≤ 2 ∧ ((G39 4 4).toInt = 3 ∨ (G39 4 4).toInt = 4)) ∨ ((G39 4 5).toInt ≤ 4 ∧ (G39 4 4).toInt = 8) ∨ (G39 4 4).toInt = 9); have e9_4_5 : G39 4 5 = (G 4 5) := hU41 4 5 (by decide); (try simp only [e9_4_5, true_and, and_true]) <;> (first | omega | (simp only [Int32.reduceToInt, true_and, and_true, ne_eq, not_true_eq_false, false_and, or_false, false_or, true_or, or_true, false_implies] <;> omega))), (by show ((G39 4 4).toInt = -1 ∨ (G39 4 4).toInt = (G 4 4).toInt); (first | omega | (simp only [Int32.reduceToInt, true_and, and_true, ne_eq, not_true_eq_false, false_and, or_false, false_or, true_or, or_true, false_implies] <;> omega))), (by show ((G39 4 2).toInt ≤ (G 4 2).toInt + 1); (first | omega | (simp only [Int32.reduceToInt, true_and, and_true, ne_eq, not_true_eq_false, false_and, or_false, false_or, true_or, or_true, false_implies] <;> omega))), (by have m9 : hMo 0 = 1 := (by decide); have l9 : hLo 0 = 4 := (by decide); have h9 : hHi 0 = 16 := (by decide); have s9 : hSl 0 = 0 := (by decide); exact xH_nE (c := 0) (by decide) (show (G 4 4).toInt = 0 by omega) (by decide) (by decide) ⟨by omega, by omega, by omega⟩ (show (G39 4 4).toInt = -1 by rw [show G39 4 4 = (G39 4 4) from rfl] <;> first | rfl | omega) (show G39 4 5 = (G 4 5) from hU41 4 5 (by decide)) (show G39 4 6 = (G 4 6) from hU41 4 6 (by decide)) (show (G39 4 2).toInt = (G 4 2).toInt + 1 by rw [show G39 4 2 = (G39 4 2) from rfl] <;> first | rfl | omega) (show G39 4 3 = (G 4 3) from hU41 4 3 (by decide)) (by rw [if_neg (by decide), if_neg (by decide)]; exact (show G39 19 = G 19 from funext fun k_ => hU41 19 k_ (show (1900 : Nat) ∉ ([403, 405] : List Nat) by decide))) (xSg_un (show gu_un xcd [403, 405] G G39 from (gu_un.tr gu_un.rf (gu_un.su hU41 rfl))) rfl rfl rfl)), (by show (0 ≠ 0 ∨ (G 1 3).toInt ≠ 0); (first | omega | (simp only [Int32.reduceToInt, true_and, and_true, ne_eq, not_true_eq_false, false_and, or_false, false_or, true_or, or_true, false_implies] <;> omega)))⟩) rfl rfl dX8_takeOfNumbers_75
  · have b47 : (0 : Int) ≤ (G 1 3).toInt ∧ (G 1 3).toInt ≤ 4 := hI 1 3
    have q12 : ((G 1 3).toInt ≠ 3 ∨ (G 1 5).toInt ≠ (59 : Int)) := q12
    refine v_if_eq F 76 dX8_takeOfNumbers_23 (by decide) 0 rfl (fun c48 => ?_) (fun c48 => absurd c48 (by decide))
    refine g_aload_n F 1 dX8_takeOfNumbers_76 rfl rfl ?_
    refine xg_4_0 F i_X8 w_0 dX8_takeOfNumbers_77 ?_
    refine xg_1_3 F i_X10 w_3 dX8_takeOfNumbers_80 (G 1 3) (rfl) ?_
    refine g_iconst F 2 dX8_takeOfNumbers_83 (by decide) ?_
    refine v_icmp_ne F 102 dX8_takeOfNumbers_84 (by decide) (G 1 3).toInt 2 rfl rfl (fun c49 => ?_) (fun c49 => ?_)
    · refine g_iconst F 1 dX8_takeOfNumbers_102 (by decide) ?_
      exact u_iret F hA hQ hr G (⟨hI, gu_un.rf, (by decide), (nb), (by show ((G 4 4).toInt = -1 ∨ (G 4 5).toInt ≤ 1 ∨ ((G 4 5).toInt ≤ 2 ∧ ((G 4 4).toInt = 3 ∨ (G 4 4).toInt = 4)) ∨ ((G 4 5).toInt ≤ 4 ∧ (G 4 4).toInt = 8) ∨ (G 4 4).toInt = 9); (first | omega | (simp only [Int32.reduceToInt, true_and, and_true, ne_eq, not_true_eq_false, false_and, or_false, false_or, true_or, or_true, false_implies] <;> omega))), (by show ((G 4 4).toInt = -1 ∨ (G 4 4).toInt = (G 4 4).toInt); (first | omega | (simp only [Int32.reduceToInt, true_and, and_true, ne_eq, not_true_eq_false, false_and, or_false, false_or, true_or, or_true, false_implies] <;> omega))), (by show ((G 4 2).toInt ≤ (G 4 2).toInt + 1); (first | omega | (simp only [Int32.reduceToInt, true_and, and_true, ne_eq, not_true_eq_false, false_and, or_false, false_or, true_or, or_true, false_implies] <;> omega))), (by have m9 : hMo 0 = 1 := (by decide); have l9 : hLo 0 = 4 := (by decide); have h9 : hHi 0 = 16 := (by decide); have s9 : hSl 0 = 0 := (by decide); exact xH_bad (f := 1) (by decide) (by decide) (fun ts pl ci => by rw [show (G 4 4).toInt = 0 by omega]; exact hO_n1 (by decide) (by decide) (by show ¬ (_ ∧ _ ∧ _); omega) (by omega))), (by show (1 ≠ 0 ∨ (G 1 3).toInt ≠ 0); (first | omega | (simp only [Int32.reduceToInt, true_and, and_true, ne_eq, not_true_eq_false, false_and, or_false, false_or, true_or, or_true, false_implies] <;> omega)))⟩) rfl rfl dX8_takeOfNumbers_103
    · refine g_iload_n F 0 dX8_takeOfNumbers_87 rfl rfl ?_
      refine v_if_ne F 104 dX8_takeOfNumbers_88 (by decide) 0 rfl (fun c50 => absurd c50 (by decide)) (fun c50 => ?_)
      refine g_aload_n F 1 dX8_takeOfNumbers_91 rfl rfl ?_
      refine xg_4_5 F i_X8 w_1 dX8_takeOfNumbers_92 (G 4 5) (rfl) ?_
      refine g_aload_n F 2 dX8_takeOfNumbers_95 rfl rfl ?_
      refine uz_getf F (show va_OF "QuietCut$Clause" "most" "I" (.int 1) (zf 10) A s s.heap from (hZ.2.2.2.2.2 0 (by decide)).2.2.2.1) w_2 dX8_takeOfNumbers_96 ?_
      refine v_icmp_ne F 104 dX8_takeOfNumbers_99 (by decide) (G 4 5).toInt 1 rfl rfl (fun c51 => ?_) (fun c51 => ?_)
      · refine g_aload_n F 1 dX8_takeOfNumbers_104 rfl rfl ?_
        refine g_aload_n F 2 dX8_takeOfNumbers_105 rfl rfl ?_
        refine uz_callVi (k := 0) (n := 0) (b := a 4) (As := [.ref (zf 10)]) (st := []) F xZ_st hZ (fun sz => S_X8_isInBounds_c0 l D K a G zf  hI sz) (cwV 1 hts gX8_takeOfNumbers_X8_isInBounds rfl rfl rfl (by decide +kernel) ⟨Nat.le_of_ble_eq_true rfl, Nat.le_of_ble_eq_true rfl⟩) rfl 4 xc_4 rfl (Nat.le_of_ble_eq_true rfl) ⟨Nat.zero_le _, Nat.zero_le _⟩ dX8_takeOfNumbers_106 (fun r52 _ hw53 => ?_)
        have q55 : ((r52.toInt = 1 ∧ (4 ≤ (G 1 5).toInt ∧ (G 1 5).toInt ≤ 16 ∧ ((G 4 5).toInt ≠ 1 ∨ ((G 4 6).toInt ≤ (G 1 5).toInt ∧ (G 1 5).toInt ≤ (G 4 6).toInt + 3)))) ∨ (r52.toInt = 0 ∧ ¬ (4 ≤ (G 1 5).toInt ∧ (G 1 5).toInt ≤ 16 ∧ ((G 4 5).toInt ≠ 1 ∨ ((G 4 6).toInt ≤ (G 1 5).toInt ∧ (G 1 5).toInt ≤ (G 4 6).toInt + 3))))) := hw53.2
        have rg56 := hw53.1
        clear hw53
        refine v_if_ne F 114 dX8_takeOfNumbers_109 (by decide) r52.toInt rfl (fun c57 => ?_) (fun c57 => ?_)
        · refine g_aload_n F 1 dX8_takeOfNumbers_114 rfl rfl ?_
          refine xg_4_5 F i_X8 w_1 dX8_takeOfNumbers_115 (G 4 5) (rfl) ?_
          refine g_aload_n F 2 dX8_takeOfNumbers_118 rfl rfl ?_
          refine uz_getf F (show va_OF "QuietCut$Clause" "most" "I" (.int 1) (zf 10) A s s.heap from (hZ.2.2.2.2.2 0 (by decide)).2.2.2.1) w_2 dX8_takeOfNumbers_119 ?_
          refine v_icmp_ne F 127 dX8_takeOfNumbers_122 (by decide) (G 4 5).toInt 1 rfl rfl (fun c58 => ?_) (fun c58 => ?_)
          · refine g_aload_n F 1 dX8_takeOfNumbers_127 rfl rfl ?_
            refine xg_4_1 F i_X8 w_4 dX8_takeOfNumbers_128 ?_
            refine g_aload_n F 2 dX8_takeOfNumbers_131 rfl rfl ?_
            refine uz_getf F (show va_OF "QuietCut$Clause" "slot" "I" (.int 0) (zf 10) A s s.heap from (hZ.2.2.2.2.2 0 (by decide)).2.2.1) w_5 dX8_takeOfNumbers_132 ?_
            refine g_aload_n F 1 dX8_takeOfNumbers_135 rfl rfl ?_
            refine xg_4_5 F i_X8 w_1 dX8_takeOfNumbers_136 (G 4 5) (rfl) ?_
            refine u_iadd F dX8_takeOfNumbers_139 0 (G 4 5).toInt rfl rfl (by omega) (by omega) (fun y59 ey59 => ?_)
            refine g_aload_n F 1 dX8_takeOfNumbers_140 rfl rfl ?_
            refine xg_4_0 F i_X8 w_0 dX8_takeOfNumbers_141 ?_
            refine xg_1_5 F i_X10 w_6 dX8_takeOfNumbers_144 (G 1 5) (rfl) ?_
            refine u_callVv (k := 0) (n := 0) (b := a 3) (As := [.int y59, .int (G 1 5)]) (st := []) F (fun sz => S_X7_put_3 l D K a G y59 y59.toInt (G 1 5) (G 1 5).toInt rfl (by omega) rfl hI sz) (cwV 2 hts gX8_takeOfNumbers_X7_put rfl rfl rfl (by decide +kernel) ⟨Nat.le_of_ble_eq_true rfl, Nat.le_of_ble_eq_true rfl⟩) rfl 3 xc_3 rfl (Nat.le_of_ble_eq_true rfl) ⟨Nat.zero_le _, Nat.zero_le _⟩ dX8_takeOfNumbers_147 (fun G62 hw61 => ?_)
            have hI63 : xI G62 := hw61.1
            have hU64 : gu_un xcd [1900] G G62 := hw61.2.1
            have hp65 := hw61.2.2
            have q66 : (G62 19 = upd (G 19) (y59.toInt).toNat (G 1 5)) := hp65
            clear hp65 hw61
            refine g_aload_n F 1 dX8_takeOfNumbers_150 rfl rfl ?_
            refine g_dup F dX8_takeOfNumbers_151 rfl ?_
            refine xg_4_5 F i_X8 w_1 dX8_takeOfNumbers_152 (G 4 5) (hU64 4 5 (by decide)) ?_
            refine g_iconst F 1 dX8_takeOfNumbers_155 (by decide) ?_
            refine u_iadd F dX8_takeOfNumbers_156 (G 4 5).toInt 1 rfl rfl (by omega) (by omega) (fun y67 ey67 => ?_)
            refine xp_4_5 F i_X8 w_1 dX8_takeOfNumbers_157 ?_
            refine g_aload_n F 1 dX8_takeOfNumbers_160 rfl rfl ?_
            refine g_aload_n F 1 dX8_takeOfNumbers_161 rfl rfl ?_
            refine xg_4_0 F i_X8 w_0 dX8_takeOfNumbers_162 ?_
            refine xg_1_5 F i_X10 w_6 dX8_takeOfNumbers_165 (G 1 5) (hU64 1 5 (by decide)) ?_
            refine xp_4_6 F i_X8 w_7 dX8_takeOfNumbers_168 ?_
            refine g_iconst F 0 dX8_takeOfNumbers_171 (by decide) ?_
            exact u_iret F hA hQ hr (gu_up (gu_up G62 4 5 y67) 4 6 (G 1 5)) (⟨(gu_I.up (j := 4) (k := 6) (v := (G 1 5)) (gu_I.up (j := 4) (k := 5) (v := y67) hI63 (show (0 : Int) ≤ Int32.toInt y67 by omega) (show Int32.toInt y67 ≤ 6 by omega)) (show (0 : Int) ≤ Int32.toInt (G 1 5) by omega) (show Int32.toInt (G 1 5) ≤ 9999 by omega)), (gu_un.up (j := 4) (k := 6) (v := (G 1 5)) (gu_un.up (j := 4) (k := 5) (v := y67) (gu_un.tr gu_un.rf (gu_un.su hU64 rfl)) (show (406 : Nat) ∈ ([403, 405, 406, 407, 1900] : List Nat) by decide)) (show (407 : Nat) ∈ ([403, 405, 406, 407, 1900] : List Nat) by decide)), (by decide), ((xNb.un (G := G62) (by rw [q66]; rcases (show y59.toInt = 0 by omega) with h9 <;> (rw [h9]; first | exact xNb.put nb (show (4 : Int) ≤ Int32.toInt (G 1 5) by omega) (show Int32.toInt (G 1 5) ≤ 16 by omega))) (show gu_un xcd [406, 407] G62 (gu_up (gu_up G62 4 5 y67) 4 6 (G 1 5)) from (gu_un.up (j := 4) (k := 6) (v := (G 1 5)) (gu_un.up (j := 4) (k := 5) (v := y67) gu_un.rf (show (406 : Nat) ∈ ([406, 407] : List Nat) by decide)) (show (407 : Nat) ∈ ([406, 407] : List Nat) by decide))) rfl)), (by show (((gu_up (gu_up G62 4 5 y67) 4 6 (G 1 5)) 4 4).toInt = -1 ∨ ((gu_up (gu_up G62 4 5 y67) 4 6 (G 1 5)) 4 5).toInt ≤ 1 ∨ (((gu_up (gu_up G62 4 5 y67) 4 6 (G 1 5)) 4 5).toInt ≤ 2 ∧ (((gu_up (gu_up G62 4 5 y67) 4 6 (G 1 5)) 4 4).toInt = 3 ∨ ((gu_up (gu_up G62 4 5 y67) 4 6 (G 1 5)) 4 4).toInt = 4)) ∨ (((gu_up (gu_up G62 4 5 y67) 4 6 (G 1 5)) 4 5).toInt ≤ 4 ∧ ((gu_up (gu_up G62 4 5 y67) 4 6 (G 1 5)) 4 4).toInt = 8) ∨ ((gu_up (gu_up G62 4 5 y67) 4 6 (G 1 5)) 4 4).toInt = 9); have e9_4_4 : (gu_up (gu_up G62 4 5 y67) 4 6 (G 1 5)) 4 4 = (G 4 4) := hU64 4 4 (by decide); have e9_4_5 : (gu_up (gu_up G62 4 5 y67) 4 6 (G 1 5)) 4 5 = y67 := rfl; (try simp only [e9_4_4, e9_4_5, true_and, and_true]) <;> (first | omega | (simp only [Int32.reduceToInt, true_and, and_true, ne_eq, not_true_eq_false, false_and, or_false, false_or, true_or, or_true, false_implies] <;> omega))), (by show (((gu_up (gu_up G62 4 5 y67) 4 6 (G 1 5)) 4 4).toInt = -1 ∨ ((gu_up (gu_up G62 4 5 y67) 4 6 (G 1 5)) 4 4).toInt = (G 4 4).toInt); have e9_4_4 : (gu_up (gu_up G62 4 5 y67) 4 6 (G 1 5)) 4 4 = (G 4 4) := hU64 4 4 (by decide); (try simp only [e9_4_4, true_and, and_true]) <;> (first | omega | (simp only [Int32.reduceToInt, true_and, and_true, ne_eq, not_true_eq_false, false_and, or_false, false_or, true_or, or_true, false_implies] <;> omega))), (by show (((gu_up (gu_up G62 4 5 y67) 4 6 (G 1 5)) 4 2).toInt ≤ (G 4 2).toInt + 1); have e9_4_2 : (gu_up (gu_up G62 4 5 y67) 4 6 (G 1 5)) 4 2 = (G 4 2) := hU64 4 2 (by decide); (try simp only [e9_4_2, true_and, and_true]) <;> (first | omega | (simp only [Int32.reduceToInt, true_and, and_true, ne_eq, not_true_eq_false, false_and, or_false, false_or, true_or, or_true, false_implies] <;> omega))), (by have m9 : hMo 0 = 1 := (by decide); have l9 : hLo 0 = 4 := (by decide); have h9 : hHi 0 = 16 := (by decide); have s9 : hSl 0 = 0 := (by decide); exact xH_nP (c := 0) (by decide) (show (G 4 4).toInt = 0 by omega) (by decide) (by decide) (by omega) (by show ¬ (_ ∨ _ ∨ _); omega) (by omega) (show (gu_up (gu_up G62 4 5 y67) 4 6 (G 1 5)) 4 4 = (G 4 4) from hU64 4 4 (by decide)) (show ((gu_up (gu_up G62 4 5 y67) 4 6 (G 1 5)) 4 5).toInt = (G 4 5).toInt + 1 by rw [show (gu_up (gu_up G62 4 5 y67) 4 6 (G 1 5)) 4 5 = y67 from rfl] <;> first | rfl | omega) (show ((gu_up (gu_up G62 4 5 y67) 4 6 (G 1 5)) 4 6).toInt = (G 1 5).toInt by rw [show (gu_up (gu_up G62 4 5 y67) 4 6 (G 1 5)) 4 6 = (G 1 5) from rfl] <;> first | rfl | omega) (show (gu_up (gu_up G62 4 5 y67) 4 6 (G 1 5)) 4 2 = (G 4 2) from hU64 4 2 (by decide)) (show (gu_up (gu_up G62 4 5 y67) 4 6 (G 1 5)) 4 3 = (G 4 3) from hU64 4 3 (by decide)) (x := (G 1 5)) rfl (q := y59.toInt) (by omega) (show (gu_up (gu_up G62 4 5 y67) 4 6 (G 1 5)) 19 = upd (G 19) (y59.toInt).toNat (G 1 5) from (show (gu_up (gu_up G62 4 5 y67) 4 6 (G 1 5)) 19 = G62 19 from funext fun k_ => (show gu_un xcd [406, 407] G62 (gu_up (gu_up G62 4 5 y67) 4 6 (G 1 5)) from (gu_un.up (j := 4) (k := 6) (v := (G 1 5)) (gu_un.up (j := 4) (k := 5) (v := y67) gu_un.rf (show (406 : Nat) ∈ ([406, 407] : List Nat) by decide)) (show (407 : Nat) ∈ ([406, 407] : List Nat) by decide))) 19 k_ (by simp [xcd])).trans q66) (xSg_un (show gu_un xcd [406, 407, 1900] G (gu_up (gu_up G62 4 5 y67) 4 6 (G 1 5)) from (gu_un.up (j := 4) (k := 6) (v := (G 1 5)) (gu_un.up (j := 4) (k := 5) (v := y67) (gu_un.tr gu_un.rf (gu_un.su hU64 rfl)) (show (406 : Nat) ∈ ([406, 407, 1900] : List Nat) by decide)) (show (407 : Nat) ∈ ([406, 407, 1900] : List Nat) by decide))) rfl rfl rfl)), (by show (0 ≠ 0 ∨ (G 1 3).toInt ≠ 0); (first | omega | (simp only [Int32.reduceToInt, true_and, and_true, ne_eq, not_true_eq_false, false_and, or_false, false_or, true_or, or_true, false_implies] <;> omega)))⟩) rfl rfl dX8_takeOfNumbers_172
          · refine g_iconst F 4 dX8_takeOfNumbers_125 (by decide) ?_
            exact u_iret F hA hQ hr G (⟨hI, gu_un.rf, (by decide), (nb), (by show ((G 4 4).toInt = -1 ∨ (G 4 5).toInt ≤ 1 ∨ ((G 4 5).toInt ≤ 2 ∧ ((G 4 4).toInt = 3 ∨ (G 4 4).toInt = 4)) ∨ ((G 4 5).toInt ≤ 4 ∧ (G 4 4).toInt = 8) ∨ (G 4 4).toInt = 9); (first | omega | (simp only [Int32.reduceToInt, true_and, and_true, ne_eq, not_true_eq_false, false_and, or_false, false_or, true_or, or_true, false_implies] <;> omega))), (by show ((G 4 4).toInt = -1 ∨ (G 4 4).toInt = (G 4 4).toInt); (first | omega | (simp only [Int32.reduceToInt, true_and, and_true, ne_eq, not_true_eq_false, false_and, or_false, false_or, true_or, or_true, false_implies] <;> omega))), (by show ((G 4 2).toInt ≤ (G 4 2).toInt + 1); (first | omega | (simp only [Int32.reduceToInt, true_and, and_true, ne_eq, not_true_eq_false, false_and, or_false, false_or, true_or, or_true, false_implies] <;> omega))), (by have m9 : hMo 0 = 1 := (by decide); have l9 : hLo 0 = 4 := (by decide); have h9 : hHi 0 = 16 := (by decide); have s9 : hSl 0 = 0 := (by decide); exact xH_bad (f := 4) (by decide) (by decide) (fun ts pl ci => by rw [show (G 4 4).toInt = 0 by omega]; exact hO_n4 (by decide) (by decide) (by omega) (by omega) (by show ¬ (_ ∨ _ ∨ _); omega) (by omega))), (by show (4 ≠ 0 ∨ (G 1 3).toInt ≠ 0); (first | omega | (simp only [Int32.reduceToInt, true_and, and_true, ne_eq, not_true_eq_false, false_and, or_false, false_or, true_or, or_true, false_implies] <;> omega)))⟩) rfl rfl dX8_takeOfNumbers_126
        · refine g_iconst F 2 dX8_takeOfNumbers_112 (by decide) ?_
          exact u_iret F hA hQ hr G (⟨hI, gu_un.rf, (by decide), (nb), (by show ((G 4 4).toInt = -1 ∨ (G 4 5).toInt ≤ 1 ∨ ((G 4 5).toInt ≤ 2 ∧ ((G 4 4).toInt = 3 ∨ (G 4 4).toInt = 4)) ∨ ((G 4 5).toInt ≤ 4 ∧ (G 4 4).toInt = 8) ∨ (G 4 4).toInt = 9); (first | omega | (simp only [Int32.reduceToInt, true_and, and_true, ne_eq, not_true_eq_false, false_and, or_false, false_or, true_or, or_true, false_implies] <;> omega))), (by show ((G 4 4).toInt = -1 ∨ (G 4 4).toInt = (G 4 4).toInt); (first | omega | (simp only [Int32.reduceToInt, true_and, and_true, ne_eq, not_true_eq_false, false_and, or_false, false_or, true_or, or_true, false_implies] <;> omega))), (by show ((G 4 2).toInt ≤ (G 4 2).toInt + 1); (first | omega | (simp only [Int32.reduceToInt, true_and, and_true, ne_eq, not_true_eq_false, false_and, or_false, false_or, true_or, or_true, false_implies] <;> omega))), (by have m9 : hMo 0 = 1 := (by decide); have l9 : hLo 0 = 4 := (by decide); have h9 : hHi 0 = 16 := (by decide); have s9 : hSl 0 = 0 := (by decide); exact xH_bad (f := 2) (by decide) (by decide) (fun ts pl ci => by rw [show (G 4 4).toInt = 0 by omega]; exact hO_n2 (by decide) (by decide) (by omega) (by omega) (by show _ ∨ _ ∨ _; omega))), (by show (2 ≠ 0 ∨ (G 1 3).toInt ≠ 0); (first | omega | (simp only [Int32.reduceToInt, true_and, and_true, ne_eq, not_true_eq_false, false_and, or_false, false_or, true_or, or_true, false_implies] <;> omega)))⟩) rfl rfl dX8_takeOfNumbers_113
      · refine g_iconst F 1 dX8_takeOfNumbers_102 (by decide) ?_
        exact u_iret F hA hQ hr G (⟨hI, gu_un.rf, (by decide), (nb), (by show ((G 4 4).toInt = -1 ∨ (G 4 5).toInt ≤ 1 ∨ ((G 4 5).toInt ≤ 2 ∧ ((G 4 4).toInt = 3 ∨ (G 4 4).toInt = 4)) ∨ ((G 4 5).toInt ≤ 4 ∧ (G 4 4).toInt = 8) ∨ (G 4 4).toInt = 9); (first | omega | (simp only [Int32.reduceToInt, true_and, and_true, ne_eq, not_true_eq_false, false_and, or_false, false_or, true_or, or_true, false_implies] <;> omega))), (by show ((G 4 4).toInt = -1 ∨ (G 4 4).toInt = (G 4 4).toInt); (first | omega | (simp only [Int32.reduceToInt, true_and, and_true, ne_eq, not_true_eq_false, false_and, or_false, false_or, true_or, or_true, false_implies] <;> omega))), (by show ((G 4 2).toInt ≤ (G 4 2).toInt + 1); (first | omega | (simp only [Int32.reduceToInt, true_and, and_true, ne_eq, not_true_eq_false, false_and, or_false, false_or, true_or, or_true, false_implies] <;> omega))), (by have m9 : hMo 0 = 1 := (by decide); have l9 : hLo 0 = 4 := (by decide); have h9 : hHi 0 = 16 := (by decide); have s9 : hSl 0 = 0 := (by decide); exact xH_bad (f := 1) (by decide) (by decide) (fun ts pl ci => by rw [show (G 4 4).toInt = 0 by omega]; exact hO_n1 (by decide) (by decide) (by show ¬ (_ ∧ _ ∧ _); omega) (by omega))), (by show (1 ≠ 0 ∨ (G 1 3).toInt ≠ 0); (first | omega | (simp only [Int32.reduceToInt, true_and, and_true, ne_eq, not_true_eq_false, false_and, or_false, false_or, true_or, or_true, false_implies] <;> omega)))⟩) rfl rfl dX8_takeOfNumbers_103


set_option maxHeartbeats 4000000 in
set_option maxRecDepth 100000 in
theorem S_X8_isInBounds_c1 (l : Launch) (D : va_G) (K : Nat → ClassId) (a : Nat → Nat) (G : gS) (zf : Nat → Nat) (hI : xI G) (sz : Nat) : KiZ (xZ zf) l yX8_isInBounds wsX8_isInBounds 2 60 D [.ref (a 4), .ref (zf 11)] (xW K a G) (tK K) sz (fun (r : Int32) (_ : Unit) => (0 ≤ r.toInt ∧ r.toInt ≤ 1) ∧ (((r.toInt = 1 ∧ (1 ≤ (G 1 5).toInt ∧ (G 1 5).toInt ≤ 6 ∧ ((G 4 5).toInt ≠ 1 ∨ ((G 4 6).toInt ≤ (G 1 5).toInt ∧ (G 1 5).toInt ≤ (G 4 6).toInt + 3)))) ∨ (r.toInt = 0 ∧ ¬ (1 ≤ (G 1 5).toInt ∧ (G 1 5).toInt ≤ 6 ∧ ((G 4 5).toInt ≠ 1 ∨ ((G 4 6).toInt ≤ (G 1 5).toInt ∧ (G 1 5).toInt ≤ (G 4 6).toInt + 3))))))) (fun (_ : Unit) => (xW K a G)) := by
  unfold KiZ
  refine gz_ofW (cc := cX8_isInBounds) (lv := [(0, .ref (a 4)), (1, .ref (zf 11))]) (by decide) rfl (Nat.le_of_ble_eq_true rfl) rfl ?_
  intro p e s m args below meth c A Q hA hQ hZ F hr hnm
  have hts := F.2.2.2.2.1
  have w_0 : (Cond.fieldLink RX8 9 "QuietCut$ShopReader" "tape" "LQuietCut$Tape;").before args s = true := hts _ (List.mem_of_getElem? (i := 1) rfl)
  have i_X8 : ∀ w ∈ u_ws RX8 TX8 7, w ∈ wsX8_isInBounds := fun _ h => List.mem_cons_of_mem _ (List.mem_append_left _ (List.mem_append_right _ h))
  have w_1 : (Cond.fieldLink RX8 125 "QuietCut$Tape" "value" "I").before args s = true := hts _ (List.mem_of_getElem? (i := 2) rfl)
  have i_X10 : ∀ w ∈ u_ws RX10 TX10 6, w ∈ wsX8_isInBounds := fun _ h => List.mem_cons_of_mem _ (List.mem_append_right _ h)
  have w_2 : (Cond.fieldLink RX8 131 "QuietCut$Clause" "low" "I").before args s = true := hts _ (List.mem_of_getElem? (i := 3) rfl)
  have w_3 : (Cond.fieldLink RX8 134 "QuietCut$Clause" "high" "I").before args s = true := hts _ (List.mem_of_getElem? (i := 4) rfl)
  have w_4 : (Cond.fieldLink RX8 77 "QuietCut$ShopReader" "numbers" "I").before args s = true := hts _ (List.mem_of_getElem? (i := 5) rfl)
  have w_5 : (Cond.fieldLink RX8 128 "QuietCut$ShopReader" "latest" "I").before args s = true := hts _ (List.mem_of_getElem? (i := 6) rfl)
  have b1 : (0 : Int) ≤ (G 4 5).toInt ∧ (G 4 5).toInt ≤ 6 := hI 4 5
  have b2 : (0 : Int) ≤ (G 4 6).toInt ∧ (G 4 6).toInt ≤ 9999 := hI 4 6
  refine g_aload_n F 0 dX8_isInBounds_0 rfl rfl ?_
  refine xg_4_0 F i_X8 w_0 dX8_isInBounds_1 ?_
  refine xg_1_5 F i_X10 w_1 dX8_isInBounds_4 (G 1 5) (rfl) ?_
  refine g_aload_n F 1 dX8_isInBounds_7 rfl rfl ?_
  refine uz_getf F (show va_OF "QuietCut$Clause" "low" "I" (.int 1) (zf 11) A s s.heap from (hZ.2.2.2.2.2 1 (by decide)).2.2.2.2.1) w_2 dX8_isInBounds_8 ?_
  refine v_icmp_lt F 28 dX8_isInBounds_11 (by decide) (G 1 5).toInt 1 rfl rfl (fun c3 => ?_) (fun c3 => ?_)
  · refine g_iconst F 0 dX8_isInBounds_28 (by decide) ?_
    exact u_zret F hA hQ hr rfl () (⟨(by decide), (by show ((0 = 1 ∧ (1 ≤ (G 1 5).toInt ∧ (G 1 5).toInt ≤ 6 ∧ ((G 4 5).toInt ≠ 1 ∨ ((G 4 6).toInt ≤ (G 1 5).toInt ∧ (G 1 5).toInt ≤ (G 4 6).toInt + 3)))) ∨ (0 = 0 ∧ ¬ (1 ≤ (G 1 5).toInt ∧ (G 1 5).toInt ≤ 6 ∧ ((G 4 5).toInt ≠ 1 ∨ ((G 4 6).toInt ≤ (G 1 5).toInt ∧ (G 1 5).toInt ≤ (G 4 6).toInt + 3))))); (first | omega | (simp only [Int32.reduceToInt, true_and, and_true, ne_eq, not_true_eq_false, false_and, or_false, false_or, true_or, or_true, false_implies] <;> omega)))⟩) rfl rfl dX8_isInBounds_29
  · refine g_aload_n F 0 dX8_isInBounds_14 rfl rfl ?_
    refine xg_4_0 F i_X8 w_0 dX8_isInBounds_15 ?_
    refine xg_1_5 F i_X10 w_1 dX8_isInBounds_18 (G 1 5) (rfl) ?_
    refine g_aload_n F 1 dX8_isInBounds_21 rfl rfl ?_
    refine uz_getf F (show va_OF "QuietCut$Clause" "high" "I" (.int 6) (zf 11) A s s.heap from (hZ.2.2.2.2.2 1 (by decide)).2.2.2.2.2.1) w_3 dX8_isInBounds_22 ?_
    have b4 := ti_rng (G 1 5)
    refine v_icmp_le F 30 dX8_isInBounds_25 (by decide) (G 1 5).toInt 6 rfl rfl (fun c5 => ?_) (fun c5 => ?_)
    · refine g_aload_n F 1 dX8_isInBounds_30 rfl rfl ?_
      refine uz_call0Vi (k := 0) (n := 0) (b := (zf 11)) (As := []) (st := []) F xZ_st hZ (fun sz => S_X1_manySlot_c1 l D zf sz) (cwV 0 hts gX8_isInBounds_X1_manySlot rfl rfl rfl (by decide +kernel) ⟨Nat.le_of_ble_eq_true rfl, Nat.le_of_ble_eq_true rfl⟩) (hZ.2.2.2.2.2 1 (by decide)).1 rfl (Nat.le_of_ble_eq_true rfl) ⟨Nat.zero_le _, Nat.zero_le _⟩ dX8_isInBounds_31 (fun r6 _ hw7 => ?_)
      have hw7 : r6.toInt = -1 := hw7
      refine g_fold (-1) ((ti_eq rfl (show ((-1) : Int32).toInt = (-1) from rfl)).mpr hw7) ?_
      refine g_iconst F (-1) dX8_isInBounds_34 (by decide) ?_
      refine v_icmp_ne F 50 dX8_isInBounds_35 (by decide) (-1) (-1) rfl rfl (fun c8 => absurd c8 (by decide)) (fun c8 => ?_)
      refine g_aload_n F 0 dX8_isInBounds_38 rfl rfl ?_
      refine xg_4_5 F i_X8 w_4 dX8_isInBounds_39 (G 4 5) (rfl) ?_
      refine g_iconst F 1 dX8_isInBounds_42 (by decide) ?_
      refine v_icmp_ne F 50 dX8_isInBounds_43 (by decide) (G 4 5).toInt 1 rfl rfl (fun c9 => ?_) (fun c9 => ?_)
      · refine g_iconst F 0 dX8_isInBounds_50 (by decide) ?_
        refine g_istore_n F [(2, .int 0), (0, .ref (a 4)), (1, .ref (zf 11))] dX8_isInBounds_51 rfl (by decide) rfl ?_
        refine g_iload_n F 0 dX8_isInBounds_52 rfl rfl ?_
        refine v_if_eq F 86 dX8_isInBounds_53 (by decide) 0 rfl (fun c10 => ?_) (fun c10 => absurd c10 (by decide))
        refine g_iconst F 1 dX8_isInBounds_86 (by decide) ?_
        refine g_goto F 91 dX8_isInBounds_87 (by decide) ?_
        exact u_zret F hA hQ hr rfl () (⟨(by decide), (by show ((1 = 1 ∧ (1 ≤ (G 1 5).toInt ∧ (G 1 5).toInt ≤ 6 ∧ ((G 4 5).toInt ≠ 1 ∨ ((G 4 6).toInt ≤ (G 1 5).toInt ∧ (G 1 5).toInt ≤ (G 4 6).toInt + 3)))) ∨ (1 = 0 ∧ ¬ (1 ≤ (G 1 5).toInt ∧ (G 1 5).toInt ≤ 6 ∧ ((G 4 5).toInt ≠ 1 ∨ ((G 4 6).toInt ≤ (G 1 5).toInt ∧ (G 1 5).toInt ≤ (G 4 6).toInt + 3))))); (first | omega | (simp only [Int32.reduceToInt, true_and, and_true, ne_eq, not_true_eq_false, false_and, or_false, false_or, true_or, or_true, false_implies] <;> omega)))⟩) rfl rfl dX8_isInBounds_91
      · refine g_iconst F 1 dX8_isInBounds_46 (by decide) ?_
        refine g_goto F 51 dX8_isInBounds_47 (by decide) ?_
        refine g_istore_n F [(2, .int 1), (0, .ref (a 4)), (1, .ref (zf 11))] dX8_isInBounds_51 rfl (by decide) rfl ?_
        refine g_iload_n F 0 dX8_isInBounds_52 rfl rfl ?_
        refine v_if_eq F 86 dX8_isInBounds_53 (by decide) 1 rfl (fun c11 => absurd c11 (by decide)) (fun c11 => ?_)
        refine g_aload_n F 1 dX8_isInBounds_56 rfl rfl ?_
        refine xg_4_0 F i_X8 w_0 dX8_isInBounds_57 ?_
        refine xg_1_5 F i_X10 w_1 dX8_isInBounds_60 (G 1 5) (rfl) ?_
        refine g_aload_n F 1 dX8_isInBounds_63 rfl rfl ?_
        refine xg_4_6 F i_X8 w_5 dX8_isInBounds_64 (G 4 6) (rfl) ?_
        refine v_icmp_lt F 90 dX8_isInBounds_67 (by decide) (G 1 5).toInt (G 4 6).toInt rfl rfl (fun c12 => ?_) (fun c12 => ?_)
        · refine g_iconst F 0 dX8_isInBounds_90 (by decide) ?_
          exact u_zret F hA hQ hr rfl () (⟨(by decide), (by show ((0 = 1 ∧ (1 ≤ (G 1 5).toInt ∧ (G 1 5).toInt ≤ 6 ∧ ((G 4 5).toInt ≠ 1 ∨ ((G 4 6).toInt ≤ (G 1 5).toInt ∧ (G 1 5).toInt ≤ (G 4 6).toInt + 3)))) ∨ (0 = 0 ∧ ¬ (1 ≤ (G 1 5).toInt ∧ (G 1 5).toInt ≤ 6 ∧ ((G 4 5).toInt ≠ 1 ∨ ((G 4 6).toInt ≤ (G 1 5).toInt ∧ (G 1 5).toInt ≤ (G 4 6).toInt + 3))))); (first | omega | (simp only [Int32.reduceToInt, true_and, and_true, ne_eq, not_true_eq_false, false_and, or_false, false_or, true_or, or_true, false_implies] <;> omega)))⟩) rfl rfl dX8_isInBounds_91
        · refine g_aload_n F 1 dX8_isInBounds_70 rfl rfl ?_
          refine xg_4_0 F i_X8 w_0 dX8_isInBounds_71 ?_
          refine xg_1_5 F i_X10 w_1 dX8_isInBounds_74 (G 1 5) (rfl) ?_
          refine g_aload_n F 1 dX8_isInBounds_77 rfl rfl ?_
          refine xg_4_6 F i_X8 w_5 dX8_isInBounds_78 (G 4 6) (rfl) ?_
          refine g_iconst F 3 dX8_isInBounds_81 (by decide) ?_
          refine u_iadd F dX8_isInBounds_82 (G 4 6).toInt 3 rfl rfl (by omega) (by omega) (fun y13 ey13 => ?_)
          refine v_icmp_gt F 90 dX8_isInBounds_83 (by decide) (G 1 5).toInt y13.toInt rfl rfl (fun c14 => ?_) (fun c14 => ?_)
          · refine g_iconst F 0 dX8_isInBounds_90 (by decide) ?_
            exact u_zret F hA hQ hr rfl () (⟨(by decide), (by show ((0 = 1 ∧ (1 ≤ (G 1 5).toInt ∧ (G 1 5).toInt ≤ 6 ∧ ((G 4 5).toInt ≠ 1 ∨ ((G 4 6).toInt ≤ (G 1 5).toInt ∧ (G 1 5).toInt ≤ (G 4 6).toInt + 3)))) ∨ (0 = 0 ∧ ¬ (1 ≤ (G 1 5).toInt ∧ (G 1 5).toInt ≤ 6 ∧ ((G 4 5).toInt ≠ 1 ∨ ((G 4 6).toInt ≤ (G 1 5).toInt ∧ (G 1 5).toInt ≤ (G 4 6).toInt + 3))))); (first | omega | (simp only [Int32.reduceToInt, true_and, and_true, ne_eq, not_true_eq_false, false_and, or_false, false_or, true_or, or_true, false_implies] <;> omega)))⟩) rfl rfl dX8_isInBounds_91
          · refine g_iconst F 1 dX8_isInBounds_86 (by decide) ?_
            refine g_goto F 91 dX8_isInBounds_87 (by decide) ?_
            exact u_zret F hA hQ hr rfl () (⟨(by decide), (by show ((1 = 1 ∧ (1 ≤ (G 1 5).toInt ∧ (G 1 5).toInt ≤ 6 ∧ ((G 4 5).toInt ≠ 1 ∨ ((G 4 6).toInt ≤ (G 1 5).toInt ∧ (G 1 5).toInt ≤ (G 4 6).toInt + 3)))) ∨ (1 = 0 ∧ ¬ (1 ≤ (G 1 5).toInt ∧ (G 1 5).toInt ≤ 6 ∧ ((G 4 5).toInt ≠ 1 ∨ ((G 4 6).toInt ≤ (G 1 5).toInt ∧ (G 1 5).toInt ≤ (G 4 6).toInt + 3))))); (first | omega | (simp only [Int32.reduceToInt, true_and, and_true, ne_eq, not_true_eq_false, false_and, or_false, false_or, true_or, or_true, false_implies] <;> omega)))⟩) rfl rfl dX8_isInBounds_91
    · refine g_iconst F 0 dX8_isInBounds_28 (by decide) ?_
      exact u_zret F hA hQ hr rfl () (⟨(by decide), (by show ((0 = 1 ∧ (1 ≤ (G 1 5).toInt ∧ (G 1 5).toInt ≤ 6 ∧ ((G 4 5).toInt ≠ 1 ∨ ((G 4 6).toInt ≤ (G 1 5).toInt ∧ (G 1 5).toInt ≤ (G 4 6).toInt + 3)))) ∨ (0 = 0 ∧ ¬ (1 ≤ (G 1 5).toInt ∧ (G 1 5).toInt ≤ 6 ∧ ((G 4 5).toInt ≠ 1 ∨ ((G 4 6).toInt ≤ (G 1 5).toInt ∧ (G 1 5).toInt ≤ (G 4 6).toInt + 3))))); (first | omega | (simp only [Int32.reduceToInt, true_and, and_true, ne_eq, not_true_eq_false, false_and, or_false, false_or, true_or, or_true, false_implies] <;> omega)))⟩) rfl rfl dX8_isInBounds_29


set_option maxHeartbeats 4000000 in
set_option maxRecDepth 100000 in
theorem S_X8_takeOfNumbers_c1 (l : Launch) (D : va_G) (K : Nat → ClassId) (a : Nat → Nat) (G : gS) (zf : Nat → Nat) (nb : xNb (G 19)) (ck : ((G 4 2).toInt ≤ 1000)) (rn : ((G 4 5).toInt ≤ 1 ∧ (G 4 4).toInt = 1)) (hI : xI G) (sz : Nat) : KiZ (xZ zf) l yX8_takeOfNumbers wsX8_takeOfNumbers 3 82 D [.ref (a 4), .ref (zf 11)] (xW K a G) (tK K) sz (fun (r : Int32) (G' : gS) => (xI G') ∧ (gu_un xcd [403, 405, 406, 407, 1900] G G') ∧ (0 ≤ r.toInt ∧ r.toInt ≤ 4) ∧ (xNb (G' 19)) ∧ (((G' 4 4).toInt = -1 ∨ (G' 4 5).toInt ≤ 1 ∨ ((G' 4 5).toInt ≤ 2 ∧ ((G' 4 4).toInt = 3 ∨ (G' 4 4).toInt = 4)) ∨ ((G' 4 5).toInt ≤ 4 ∧ (G' 4 4).toInt = 8) ∨ (G' 4 4).toInt = 9)) ∧ (((G' 4 4).toInt = -1 ∨ (G' 4 4).toInt = (G 4 4).toInt)) ∧ (((G' 4 2).toInt ≤ (G 4 2).toInt + 1)) ∧ ((∀ (ts : List hTk) (pl ci : Int), xH (((G 1 3).toInt, pl, (G 1 5).toInt, ci) :: ts) G = if r.toInt = 0 then xH ts G' else hBad r.toInt pl)) ∧ ((r.toInt ≠ 0 ∨ (G 1 3).toInt ≠ 0))) (fun (G' : gS) => (xW K a G')) := by
  unfold KiZ
  refine gz_ofW (cc := cX8_takeOfNumbers) (lv := [(0, .ref (a 4)), (1, .ref (zf 11))]) (by decide) rfl (Nat.le_of_ble_eq_true rfl) rfl ?_
  intro p e s m args below meth c A Q hA hQ hZ F hr hnm
  have hts := F.2.2.2.2.1
  have w_0 : (Cond.fieldLink RX8 9 "QuietCut$ShopReader" "tape" "LQuietCut$Tape;").before args s = true := hts _ (List.mem_of_getElem? (i := 1) rfl)
  have i_X8 : ∀ w ∈ u_ws RX8 TX8 7, w ∈ wsX8_takeOfNumbers := fun _ h => List.mem_cons_of_mem _ (List.mem_append_left _ (List.mem_append_left _ (List.mem_append_right _ h)))
  have w_1 : (Cond.fieldLink RX8 77 "QuietCut$ShopReader" "numbers" "I").before args s = true := hts _ (List.mem_of_getElem? (i := 2) rfl)
  have w_2 : (Cond.fieldLink RX8 114 "QuietCut$Clause" "most" "I").before args s = true := hts _ (List.mem_of_getElem? (i := 3) rfl)
  have w_3 : (Cond.fieldLink RX8 42 "QuietCut$Tape" "kind" "I").before args s = true := hts _ (List.mem_of_getElem? (i := 5) rfl)
  have i_X10 : ∀ w ∈ u_ws RX10 TX10 6, w ∈ wsX8_takeOfNumbers := fun _ h => List.mem_cons_of_mem _ (List.mem_append_left _ (List.mem_append_right _ h))
  have w_4 : (Cond.fieldLink RX8 15 "QuietCut$ShopReader" "target" "LQuietCut$Shop;").before args s = true := hts _ (List.mem_of_getElem? (i := 4) rfl)
  have w_5 : (Cond.fieldLink RX8 80 "QuietCut$Clause" "slot" "I").before args s = true := hts _ (List.mem_of_getElem? (i := 6) rfl)
  have w_6 : (Cond.fieldLink RX8 125 "QuietCut$Tape" "value" "I").before args s = true := hts _ (List.mem_of_getElem? (i := 7) rfl)
  have w_7 : (Cond.fieldLink RX8 128 "QuietCut$ShopReader" "latest" "I").before args s = true := hts _ (List.mem_of_getElem? (i := 8) rfl)
  have b1 : (0 : Int) ≤ (G 4 5).toInt ∧ (G 4 5).toInt ≤ 6 := hI 4 5
  have b2 : ((-1) : Int) ≤ (G 4 4).toInt ∧ (G 4 4).toInt ≤ 12 := hI 4 4
  have b3 : (0 : Int) ≤ (G 4 2).toInt ∧ (G 4 2).toInt ≤ 1001 := hI 4 2
  have b4 : (0 : Int) ≤ (G 4 6).toInt ∧ (G 4 6).toInt ≤ 9999 := hI 4 6
  refine g_aload_n F 1 dX8_takeOfNumbers_0 rfl rfl ?_
  refine uz_call0Vi (k := 0) (n := 0) (b := (zf 11)) (As := []) (st := []) F xZ_st hZ (fun sz => S_X1_manySlot_c1 l D zf sz) (cwV 0 hts gX8_takeOfNumbers_X1_manySlot rfl rfl rfl (by decide +kernel) ⟨Nat.le_of_ble_eq_true rfl, Nat.le_of_ble_eq_true rfl⟩) (hZ.2.2.2.2.2 1 (by decide)).1 rfl (Nat.le_of_ble_eq_true rfl) ⟨Nat.zero_le _, Nat.zero_le _⟩ dX8_takeOfNumbers_1 (fun r5 _ hw6 => ?_)
  have hw6 : r5.toInt = -1 := hw6
  refine g_fold (-1) ((ti_eq rfl (show ((-1) : Int32).toInt = (-1) from rfl)).mpr hw6) ?_
  refine g_iconst F (-1) dX8_takeOfNumbers_4 (by decide) ?_
  refine v_icmp_eq F 12 dX8_takeOfNumbers_5 (by decide) (-1) (-1) rfl rfl (fun c7 => ?_) (fun c7 => absurd c7 (by decide))
  refine g_iconst F 0 dX8_takeOfNumbers_12 (by decide) ?_
  refine g_istore_n F [(2, .int 0), (0, .ref (a 4)), (1, .ref (zf 11))] dX8_takeOfNumbers_13 rfl (by decide) rfl ?_
  refine g_aload_n F 1 dX8_takeOfNumbers_14 rfl rfl ?_
  refine xg_4_0 F i_X8 w_0 dX8_takeOfNumbers_15 ?_
  refine g_bipush F 59 dX8_takeOfNumbers_18 (by decide) ?_
  refine u_callVi (k := 0) (n := 0) (b := a 1) (As := [.int 59]) (st := []) F (fun sz => S_X10_isSign l D K a G 59 59 rfl hI sz) (cwV 1 hts gX8_takeOfNumbers_X10_isSign rfl rfl rfl (by decide +kernel) ⟨Nat.le_of_ble_eq_true rfl, Nat.le_of_ble_eq_true rfl⟩) rfl 1 xc_1 rfl (Nat.le_of_ble_eq_true rfl) ⟨Nat.zero_le _, Nat.zero_le _⟩ dX8_takeOfNumbers_20 (fun r8 _ hw9 => ?_)
  rcases hw9 with ⟨rfl, q11⟩ | ⟨rfl, q12⟩
  · have b13 : (0 : Int) ≤ (G 1 3).toInt ∧ (G 1 3).toInt ≤ 4 := hI 1 3
    have q11 : ((G 1 3).toInt = 3 ∧ (G 1 5).toInt = (59 : Int)) := q11
    refine v_if_eq F 76 dX8_takeOfNumbers_23 (by decide) 1 rfl (fun c14 => absurd c14 (by decide)) (fun c14 => ?_)
    refine g_iload_n F 0 dX8_takeOfNumbers_26 rfl rfl ?_
    refine v_if_eq F 40 dX8_takeOfNumbers_27 (by decide) 0 rfl (fun c15 => ?_) (fun c15 => absurd c15 (by decide))
    refine g_aload_n F 1 dX8_takeOfNumbers_40 rfl rfl ?_
    refine xg_4_5 F i_X8 w_1 dX8_takeOfNumbers_41 (G 4 5) (rfl) ?_
    refine g_aload_n F 2 dX8_takeOfNumbers_44 rfl rfl ?_
    refine uz_getf F (show va_OF "QuietCut$Clause" "most" "I" (.int 1) (zf 11) A s s.heap from (hZ.2.2.2.2.2 1 (by decide)).2.2.2.1) w_2 dX8_takeOfNumbers_45 ?_
    refine v_icmp_ne F 76 dX8_takeOfNumbers_48 (by decide) (G 4 5).toInt 1 rfl rfl (fun c16 => ?_) (fun c16 => ?_)
    · refine g_aload_n F 1 dX8_takeOfNumbers_76 rfl rfl ?_
      refine xg_4_0 F i_X8 w_0 dX8_takeOfNumbers_77 ?_
      refine xg_1_3 F i_X10 w_3 dX8_takeOfNumbers_80 (G 1 3) (rfl) ?_
      refine g_iconst F 2 dX8_takeOfNumbers_83 (by decide) ?_
      refine v_icmp_ne F 102 dX8_takeOfNumbers_84 (by decide) (G 1 3).toInt 2 rfl rfl (fun c17 => ?_) (fun c17 => ?_)
      · refine g_iconst F 1 dX8_takeOfNumbers_102 (by decide) ?_
        exact u_iret F hA hQ hr G (⟨hI, gu_un.rf, (by decide), (nb), (by show ((G 4 4).toInt = -1 ∨ (G 4 5).toInt ≤ 1 ∨ ((G 4 5).toInt ≤ 2 ∧ ((G 4 4).toInt = 3 ∨ (G 4 4).toInt = 4)) ∨ ((G 4 5).toInt ≤ 4 ∧ (G 4 4).toInt = 8) ∨ (G 4 4).toInt = 9); (first | omega | (simp only [Int32.reduceToInt, true_and, and_true, ne_eq, not_true_eq_false, false_and, or_false, false_or, true_or, or_true, false_implies] <;> omega))), (by show ((G 4 4).toInt = -1 ∨ (G 4 4).toInt = (G 4 4).toInt); (first | omega | (simp only [Int32.reduceToInt, true_and, and_true, ne_eq, not_true_eq_false, false_and, or_false, false_or, true_or, or_true, false_implies] <;> omega))), (by show ((G 4 2).toInt ≤ (G 4 2).toInt + 1); (first | omega | (simp only [Int32.reduceToInt, true_and, and_true, ne_eq, not_true_eq_false, false_and, or_false, false_or, true_or, or_true, false_implies] <;> omega))), (by have m9 : hMo 1 = 1 := (by decide); have l9 : hLo 1 = 1 := (by decide); have h9 : hHi 1 = 6 := (by decide); have s9 : hSl 1 = 1 := (by decide); exact xH_bad (f := 1) (by decide) (by decide) (fun ts pl ci => by rw [show (G 4 4).toInt = 1 by omega]; exact hO_n1 (by decide) (by decide) (by show ¬ (_ ∧ _ ∧ _); omega) (by omega))), (by show (1 ≠ 0 ∨ (G 1 3).toInt ≠ 0); (first | omega | (simp only [Int32.reduceToInt, true_and, and_true, ne_eq, not_true_eq_false, false_and, or_false, false_or, true_or, or_true, false_implies] <;> omega)))⟩) rfl rfl dX8_takeOfNumbers_103
      · refine g_iload_n F 0 dX8_takeOfNumbers_87 rfl rfl ?_
        refine v_if_ne F 104 dX8_takeOfNumbers_88 (by decide) 0 rfl (fun c18 => absurd c18 (by decide)) (fun c18 => ?_)
        refine g_aload_n F 1 dX8_takeOfNumbers_91 rfl rfl ?_
        refine xg_4_5 F i_X8 w_1 dX8_takeOfNumbers_92 (G 4 5) (rfl) ?_
        refine g_aload_n F 2 dX8_takeOfNumbers_95 rfl rfl ?_
        refine uz_getf F (show va_OF "QuietCut$Clause" "most" "I" (.int 1) (zf 11) A s s.heap from (hZ.2.2.2.2.2 1 (by decide)).2.2.2.1) w_2 dX8_takeOfNumbers_96 ?_
        refine v_icmp_ne F 104 dX8_takeOfNumbers_99 (by decide) (G 4 5).toInt 1 rfl rfl (fun c19 => ?_) (fun c19 => ?_)
        · refine g_aload_n F 1 dX8_takeOfNumbers_104 rfl rfl ?_
          refine g_aload_n F 2 dX8_takeOfNumbers_105 rfl rfl ?_
          refine uz_callVi (k := 0) (n := 0) (b := a 4) (As := [.ref (zf 11)]) (st := []) F xZ_st hZ (fun sz => S_X8_isInBounds_c1 l D K a G zf  hI sz) (cwV 1 hts gX8_takeOfNumbers_X8_isInBounds rfl rfl rfl (by decide +kernel) ⟨Nat.le_of_ble_eq_true rfl, Nat.le_of_ble_eq_true rfl⟩) rfl 4 xc_4 rfl (Nat.le_of_ble_eq_true rfl) ⟨Nat.zero_le _, Nat.zero_le _⟩ dX8_takeOfNumbers_106 (fun r20 _ hw21 => ?_)
          have q23 : ((r20.toInt = 1 ∧ (1 ≤ (G 1 5).toInt ∧ (G 1 5).toInt ≤ 6 ∧ ((G 4 5).toInt ≠ 1 ∨ ((G 4 6).toInt ≤ (G 1 5).toInt ∧ (G 1 5).toInt ≤ (G 4 6).toInt + 3)))) ∨ (r20.toInt = 0 ∧ ¬ (1 ≤ (G 1 5).toInt ∧ (G 1 5).toInt ≤ 6 ∧ ((G 4 5).toInt ≠ 1 ∨ ((G 4 6).toInt ≤ (G 1 5).toInt ∧ (G 1 5).toInt ≤ (G 4 6).toInt + 3))))) := hw21.2
          have rg24 := hw21.1
          clear hw21
          refine v_if_ne F 114 dX8_takeOfNumbers_109 (by decide) r20.toInt rfl (fun c25 => ?_) (fun c25 => ?_)
          · refine g_aload_n F 1 dX8_takeOfNumbers_114 rfl rfl ?_
            refine xg_4_5 F i_X8 w_1 dX8_takeOfNumbers_115 (G 4 5) (rfl) ?_
            refine g_aload_n F 2 dX8_takeOfNumbers_118 rfl rfl ?_
            refine uz_getf F (show va_OF "QuietCut$Clause" "most" "I" (.int 1) (zf 11) A s s.heap from (hZ.2.2.2.2.2 1 (by decide)).2.2.2.1) w_2 dX8_takeOfNumbers_119 ?_
            refine v_icmp_ne F 127 dX8_takeOfNumbers_122 (by decide) (G 4 5).toInt 1 rfl rfl (fun c26 => ?_) (fun c26 => ?_)
            · refine g_aload_n F 1 dX8_takeOfNumbers_127 rfl rfl ?_
              refine xg_4_1 F i_X8 w_4 dX8_takeOfNumbers_128 ?_
              refine g_aload_n F 2 dX8_takeOfNumbers_131 rfl rfl ?_
              refine uz_getf F (show va_OF "QuietCut$Clause" "slot" "I" (.int 1) (zf 11) A s s.heap from (hZ.2.2.2.2.2 1 (by decide)).2.2.1) w_5 dX8_takeOfNumbers_132 ?_
              refine g_aload_n F 1 dX8_takeOfNumbers_135 rfl rfl ?_
              refine xg_4_5 F i_X8 w_1 dX8_takeOfNumbers_136 (G 4 5) (rfl) ?_
              refine u_iadd F dX8_takeOfNumbers_139 1 (G 4 5).toInt rfl rfl (by omega) (by omega) (fun y27 ey27 => ?_)
              refine g_aload_n F 1 dX8_takeOfNumbers_140 rfl rfl ?_
              refine xg_4_0 F i_X8 w_0 dX8_takeOfNumbers_141 ?_
              refine xg_1_5 F i_X10 w_6 dX8_takeOfNumbers_144 (G 1 5) (rfl) ?_
              refine u_callVv (k := 0) (n := 0) (b := a 3) (As := [.int y27, .int (G 1 5)]) (st := []) F (fun sz => S_X7_put_3 l D K a G y27 y27.toInt (G 1 5) (G 1 5).toInt rfl (by omega) rfl hI sz) (cwV 2 hts gX8_takeOfNumbers_X7_put rfl rfl rfl (by decide +kernel) ⟨Nat.le_of_ble_eq_true rfl, Nat.le_of_ble_eq_true rfl⟩) rfl 3 xc_3 rfl (Nat.le_of_ble_eq_true rfl) ⟨Nat.zero_le _, Nat.zero_le _⟩ dX8_takeOfNumbers_147 (fun G30 hw29 => ?_)
              have hI31 : xI G30 := hw29.1
              have hU32 : gu_un xcd [1900] G G30 := hw29.2.1
              have hp33 := hw29.2.2
              have q34 : (G30 19 = upd (G 19) (y27.toInt).toNat (G 1 5)) := hp33
              clear hp33 hw29
              refine g_aload_n F 1 dX8_takeOfNumbers_150 rfl rfl ?_
              refine g_dup F dX8_takeOfNumbers_151 rfl ?_
              refine xg_4_5 F i_X8 w_1 dX8_takeOfNumbers_152 (G 4 5) (hU32 4 5 (by decide)) ?_
              refine g_iconst F 1 dX8_takeOfNumbers_155 (by decide) ?_
              refine u_iadd F dX8_takeOfNumbers_156 (G 4 5).toInt 1 rfl rfl (by omega) (by omega) (fun y35 ey35 => ?_)
              refine xp_4_5 F i_X8 w_1 dX8_takeOfNumbers_157 ?_
              refine g_aload_n F 1 dX8_takeOfNumbers_160 rfl rfl ?_
              refine g_aload_n F 1 dX8_takeOfNumbers_161 rfl rfl ?_
              refine xg_4_0 F i_X8 w_0 dX8_takeOfNumbers_162 ?_
              refine xg_1_5 F i_X10 w_6 dX8_takeOfNumbers_165 (G 1 5) (hU32 1 5 (by decide)) ?_
              refine xp_4_6 F i_X8 w_7 dX8_takeOfNumbers_168 ?_
              refine g_iconst F 0 dX8_takeOfNumbers_171 (by decide) ?_
              exact u_iret F hA hQ hr (gu_up (gu_up G30 4 5 y35) 4 6 (G 1 5)) (⟨(gu_I.up (j := 4) (k := 6) (v := (G 1 5)) (gu_I.up (j := 4) (k := 5) (v := y35) hI31 (show (0 : Int) ≤ Int32.toInt y35 by omega) (show Int32.toInt y35 ≤ 6 by omega)) (show (0 : Int) ≤ Int32.toInt (G 1 5) by omega) (show Int32.toInt (G 1 5) ≤ 9999 by omega)), (gu_un.up (j := 4) (k := 6) (v := (G 1 5)) (gu_un.up (j := 4) (k := 5) (v := y35) (gu_un.tr gu_un.rf (gu_un.su hU32 rfl)) (show (406 : Nat) ∈ ([403, 405, 406, 407, 1900] : List Nat) by decide)) (show (407 : Nat) ∈ ([403, 405, 406, 407, 1900] : List Nat) by decide)), (by decide), ((xNb.un (G := G30) (by rw [q34]; rcases (show y27.toInt = 1 by omega) with h9 <;> (rw [h9]; first | exact xNb.put nb (show (1 : Int) ≤ Int32.toInt (G 1 5) by omega) (show Int32.toInt (G 1 5) ≤ 6 by omega))) (show gu_un xcd [406, 407] G30 (gu_up (gu_up G30 4 5 y35) 4 6 (G 1 5)) from (gu_un.up (j := 4) (k := 6) (v := (G 1 5)) (gu_un.up (j := 4) (k := 5) (v := y35) gu_un.rf (show (406 : Nat) ∈ ([406, 407] : List Nat) by decide)) (show (407 : Nat) ∈ ([406, 407] : List Nat) by decide))) rfl)), (by show (((gu_up (gu_up G30 4 5 y35) 4 6 (G 1 5)) 4 4).toInt = -1 ∨ ((gu_up (gu_up G30 4 5 y35) 4 6 (G 1 5)) 4 5).toInt ≤ 1 ∨ (((gu_up (gu_up G30 4 5 y35) 4 6 (G 1 5)) 4 5).toInt ≤ 2 ∧ (((gu_up (gu_up G30 4 5 y35) 4 6 (G 1 5)) 4 4).toInt = 3 ∨ ((gu_up (gu_up G30 4 5 y35) 4 6 (G 1 5)) 4 4).toInt = 4)) ∨ (((gu_up (gu_up G30 4 5 y35) 4 6 (G 1 5)) 4 5).toInt ≤ 4 ∧ ((gu_up (gu_up G30 4 5 y35) 4 6 (G 1 5)) 4 4).toInt = 8) ∨ ((gu_up (gu_up G30 4 5 y35) 4 6 (G 1 5)) 4 4).toInt = 9); have e9_4_4 : (gu_up (gu_up G30 4 5 y35) 4 6 (G 1 5)) 4 4 = (G 4 4) := hU32 4 4 (by decide); have e9_4_5 : (gu_up (gu_up G30 4 5 y35) 4 6 (G 1 5)) 4 5 = y35 := rfl; (try simp only [e9_4_4, e9_4_5, true_and, and_true]) <;> (first | omega | (simp only [Int32.reduceToInt, true_and, and_true, ne_eq, not_true_eq_false, false_and, or_false, false_or, true_or, or_true, false_implies] <;> omega))), (by show (((gu_up (gu_up G30 4 5 y35) 4 6 (G 1 5)) 4 4).toInt = -1 ∨ ((gu_up (gu_up G30 4 5 y35) 4 6 (G 1 5)) 4 4).toInt = (G 4 4).toInt); have e9_4_4 : (gu_up (gu_up G30 4 5 y35) 4 6 (G 1 5)) 4 4 = (G 4 4) := hU32 4 4 (by decide); (try simp only [e9_4_4, true_and, and_true]) <;> (first | omega | (simp only [Int32.reduceToInt, true_and, and_true, ne_eq, not_true_eq_false, false_and, or_false, false_or, true_or, or_true, false_implies] <;> omega))), (by show (((gu_up (gu_up G30 4 5 y35) 4 6 (G 1 5)) 4 2).toInt ≤ (G 4 2).toInt + 1); have e9_4_2 : (gu_up (gu_up G30 4 5 y35) 4 6 (G 1 5)) 4 2 = (G 4 2) := hU32 4 2 (by decide); (try simp only [e9_4_2, true_and, and_true]) <;> (first | omega | (simp only [Int32.reduceToInt, true_and, and_true, ne_eq, not_true_eq_false, false_and, or_false, false_or, true_or, or_true, false_implies] <;> omega))), (by have m9 : hMo 1 = 1 := (by decide); have l9 : hLo 1 = 1 := (by decide); have h9 : hHi 1 = 6 := (by decide); have s9 : hSl 1 = 1 := (by decide); exact xH_nP (c := 1) (by decide) (show (G 4 4).toInt = 1 by omega) (by decide) (by decide) (by omega) (by show ¬ (_ ∨ _ ∨ _); omega) (by omega) (show (gu_up (gu_up G30 4 5 y35) 4 6 (G 1 5)) 4 4 = (G 4 4) from hU32 4 4 (by decide)) (show ((gu_up (gu_up G30 4 5 y35) 4 6 (G 1 5)) 4 5).toInt = (G 4 5).toInt + 1 by rw [show (gu_up (gu_up G30 4 5 y35) 4 6 (G 1 5)) 4 5 = y35 from rfl] <;> first | rfl | omega) (show ((gu_up (gu_up G30 4 5 y35) 4 6 (G 1 5)) 4 6).toInt = (G 1 5).toInt by rw [show (gu_up (gu_up G30 4 5 y35) 4 6 (G 1 5)) 4 6 = (G 1 5) from rfl] <;> first | rfl | omega) (show (gu_up (gu_up G30 4 5 y35) 4 6 (G 1 5)) 4 2 = (G 4 2) from hU32 4 2 (by decide)) (show (gu_up (gu_up G30 4 5 y35) 4 6 (G 1 5)) 4 3 = (G 4 3) from hU32 4 3 (by decide)) (x := (G 1 5)) rfl (q := y27.toInt) (by omega) (show (gu_up (gu_up G30 4 5 y35) 4 6 (G 1 5)) 19 = upd (G 19) (y27.toInt).toNat (G 1 5) from (show (gu_up (gu_up G30 4 5 y35) 4 6 (G 1 5)) 19 = G30 19 from funext fun k_ => (show gu_un xcd [406, 407] G30 (gu_up (gu_up G30 4 5 y35) 4 6 (G 1 5)) from (gu_un.up (j := 4) (k := 6) (v := (G 1 5)) (gu_un.up (j := 4) (k := 5) (v := y35) gu_un.rf (show (406 : Nat) ∈ ([406, 407] : List Nat) by decide)) (show (407 : Nat) ∈ ([406, 407] : List Nat) by decide))) 19 k_ (by simp [xcd])).trans q34) (xSg_un (show gu_un xcd [406, 407, 1900] G (gu_up (gu_up G30 4 5 y35) 4 6 (G 1 5)) from (gu_un.up (j := 4) (k := 6) (v := (G 1 5)) (gu_un.up (j := 4) (k := 5) (v := y35) (gu_un.tr gu_un.rf (gu_un.su hU32 rfl)) (show (406 : Nat) ∈ ([406, 407, 1900] : List Nat) by decide)) (show (407 : Nat) ∈ ([406, 407, 1900] : List Nat) by decide))) rfl rfl rfl)), (by show (0 ≠ 0 ∨ (G 1 3).toInt ≠ 0); (first | omega | (simp only [Int32.reduceToInt, true_and, and_true, ne_eq, not_true_eq_false, false_and, or_false, false_or, true_or, or_true, false_implies] <;> omega)))⟩) rfl rfl dX8_takeOfNumbers_172
            · refine g_iconst F 4 dX8_takeOfNumbers_125 (by decide) ?_
              exact u_iret F hA hQ hr G (⟨hI, gu_un.rf, (by decide), (nb), (by show ((G 4 4).toInt = -1 ∨ (G 4 5).toInt ≤ 1 ∨ ((G 4 5).toInt ≤ 2 ∧ ((G 4 4).toInt = 3 ∨ (G 4 4).toInt = 4)) ∨ ((G 4 5).toInt ≤ 4 ∧ (G 4 4).toInt = 8) ∨ (G 4 4).toInt = 9); (first | omega | (simp only [Int32.reduceToInt, true_and, and_true, ne_eq, not_true_eq_false, false_and, or_false, false_or, true_or, or_true, false_implies] <;> omega))), (by show ((G 4 4).toInt = -1 ∨ (G 4 4).toInt = (G 4 4).toInt); (first | omega | (simp only [Int32.reduceToInt, true_and, and_true, ne_eq, not_true_eq_false, false_and, or_false, false_or, true_or, or_true, false_implies] <;> omega))), (by show ((G 4 2).toInt ≤ (G 4 2).toInt + 1); (first | omega | (simp only [Int32.reduceToInt, true_and, and_true, ne_eq, not_true_eq_false, false_and, or_false, false_or, true_or, or_true, false_implies] <;> omega))), (by have m9 : hMo 1 = 1 := (by decide); have l9 : hLo 1 = 1 := (by decide); have h9 : hHi 1 = 6 := (by decide); have s9 : hSl 1 = 1 := (by decide); exact xH_bad (f := 4) (by decide) (by decide) (fun ts pl ci => by rw [show (G 4 4).toInt = 1 by omega]; exact hO_n4 (by decide) (by decide) (by omega) (by omega) (by show ¬ (_ ∨ _ ∨ _); omega) (by omega))), (by show (4 ≠ 0 ∨ (G 1 3).toInt ≠ 0); (first | omega | (simp only [Int32.reduceToInt, true_and, and_true, ne_eq, not_true_eq_false, false_and, or_false, false_or, true_or, or_true, false_implies] <;> omega)))⟩) rfl rfl dX8_takeOfNumbers_126
          · refine g_iconst F 2 dX8_takeOfNumbers_112 (by decide) ?_
            exact u_iret F hA hQ hr G (⟨hI, gu_un.rf, (by decide), (nb), (by show ((G 4 4).toInt = -1 ∨ (G 4 5).toInt ≤ 1 ∨ ((G 4 5).toInt ≤ 2 ∧ ((G 4 4).toInt = 3 ∨ (G 4 4).toInt = 4)) ∨ ((G 4 5).toInt ≤ 4 ∧ (G 4 4).toInt = 8) ∨ (G 4 4).toInt = 9); (first | omega | (simp only [Int32.reduceToInt, true_and, and_true, ne_eq, not_true_eq_false, false_and, or_false, false_or, true_or, or_true, false_implies] <;> omega))), (by show ((G 4 4).toInt = -1 ∨ (G 4 4).toInt = (G 4 4).toInt); (first | omega | (simp only [Int32.reduceToInt, true_and, and_true, ne_eq, not_true_eq_false, false_and, or_false, false_or, true_or, or_true, false_implies] <;> omega))), (by show ((G 4 2).toInt ≤ (G 4 2).toInt + 1); (first | omega | (simp only [Int32.reduceToInt, true_and, and_true, ne_eq, not_true_eq_false, false_and, or_false, false_or, true_or, or_true, false_implies] <;> omega))), (by have m9 : hMo 1 = 1 := (by decide); have l9 : hLo 1 = 1 := (by decide); have h9 : hHi 1 = 6 := (by decide); have s9 : hSl 1 = 1 := (by decide); exact xH_bad (f := 2) (by decide) (by decide) (fun ts pl ci => by rw [show (G 4 4).toInt = 1 by omega]; exact hO_n2 (by decide) (by decide) (by omega) (by omega) (by show _ ∨ _ ∨ _; omega))), (by show (2 ≠ 0 ∨ (G 1 3).toInt ≠ 0); (first | omega | (simp only [Int32.reduceToInt, true_and, and_true, ne_eq, not_true_eq_false, false_and, or_false, false_or, true_or, or_true, false_implies] <;> omega)))⟩) rfl rfl dX8_takeOfNumbers_113
        · refine g_iconst F 1 dX8_takeOfNumbers_102 (by decide) ?_
          exact u_iret F hA hQ hr G (⟨hI, gu_un.rf, (by decide), (nb), (by show ((G 4 4).toInt = -1 ∨ (G 4 5).toInt ≤ 1 ∨ ((G 4 5).toInt ≤ 2 ∧ ((G 4 4).toInt = 3 ∨ (G 4 4).toInt = 4)) ∨ ((G 4 5).toInt ≤ 4 ∧ (G 4 4).toInt = 8) ∨ (G 4 4).toInt = 9); (first | omega | (simp only [Int32.reduceToInt, true_and, and_true, ne_eq, not_true_eq_false, false_and, or_false, false_or, true_or, or_true, false_implies] <;> omega))), (by show ((G 4 4).toInt = -1 ∨ (G 4 4).toInt = (G 4 4).toInt); (first | omega | (simp only [Int32.reduceToInt, true_and, and_true, ne_eq, not_true_eq_false, false_and, or_false, false_or, true_or, or_true, false_implies] <;> omega))), (by show ((G 4 2).toInt ≤ (G 4 2).toInt + 1); (first | omega | (simp only [Int32.reduceToInt, true_and, and_true, ne_eq, not_true_eq_false, false_and, or_false, false_or, true_or, or_true, false_implies] <;> omega))), (by have m9 : hMo 1 = 1 := (by decide); have l9 : hLo 1 = 1 := (by decide); have h9 : hHi 1 = 6 := (by decide); have s9 : hSl 1 = 1 := (by decide); exact xH_bad (f := 1) (by decide) (by decide) (fun ts pl ci => by rw [show (G 4 4).toInt = 1 by omega]; exact hO_n1 (by decide) (by decide) (by show ¬ (_ ∧ _ ∧ _); omega) (by omega))), (by show (1 ≠ 0 ∨ (G 1 3).toInt ≠ 0); (first | omega | (simp only [Int32.reduceToInt, true_and, and_true, ne_eq, not_true_eq_false, false_and, or_false, false_or, true_or, or_true, false_implies] <;> omega)))⟩) rfl rfl dX8_takeOfNumbers_103
    · refine g_iload_n F 0 dX8_takeOfNumbers_51 rfl rfl ?_
      refine v_if_eq F 70 dX8_takeOfNumbers_52 (by decide) 0 rfl (fun c36 => ?_) (fun c36 => absurd c36 (by decide))
      refine g_aload_n F 1 dX8_takeOfNumbers_70 rfl rfl ?_
      refine u_callVv (k := 0) (n := 0) (b := a 4) (As := []) (st := []) F (fun sz => S_X8_closeClause l D K a G  (by (first | omega | (simp only [Int32.reduceToInt, true_and, and_true, ne_eq, not_true_eq_false, false_and, or_false, false_or, true_or, or_true, false_implies] <;> omega))) hI sz) (cwV 0 hts gX8_takeOfNumbers_X8_closeClause rfl rfl rfl (by decide +kernel) ⟨Nat.le_of_ble_eq_true rfl, Nat.le_of_ble_eq_true rfl⟩) rfl 4 xc_4 rfl (Nat.le_of_ble_eq_true rfl) ⟨Nat.zero_le _, Nat.zero_le _⟩ dX8_takeOfNumbers_71 (fun G39 hw38 => ?_)
      have hI40 : xI G39 := hw38.1
      have hU41 : gu_un xcd [403, 405] G G39 := hw38.2.1
      have hp42 := hw38.2.2
      have b43 : ((-1) : Int) ≤ (G39 4 4).toInt ∧ (G39 4 4).toInt ≤ 12 := hI40 4 4
      have q44 : ((G39 4 4).toInt = -1) := hp42.1
      have b45 : (0 : Int) ≤ (G39 4 2).toInt ∧ (G39 4 2).toInt ≤ 1001 := hI40 4 2
      have q46 : ((G39 4 2).toInt = (G 4 2).toInt + 1) := hp42.2
      clear hp42 hw38
      refine g_iconst F 0 dX8_takeOfNumbers_74 (by decide) ?_
      exact u_iret F hA hQ hr G39 (⟨hI40, (gu_un.tr gu_un.rf (gu_un.su hU41 rfl)), (by decide), ((xNb.un nb (show gu_un xcd [403, 405] G G39 from (gu_un.tr gu_un.rf (gu_un.su hU41 rfl))) rfl)), (by show ((G39 4 4).toInt = -1 ∨ (G39 4 5).toInt ≤ 1 ∨ ((G39 4 5).toInt ≤ 2 ∧ ((G39 4 4).toInt = 3 ∨ (G39 4 4).toInt = 4)) ∨ ((G39 4 5).toInt ≤ 4 ∧ (G39 4 4).toInt = 8) ∨ (G39 4 4).toInt = 9); have e9_4_5 : G39 4 5 = (G 4 5) := hU41 4 5 (by decide); (try simp only [e9_4_5, true_and, and_true]) <;> (first | omega | (simp only [Int32.reduceToInt, true_and, and_true, ne_eq, not_true_eq_false, false_and, or_false, false_or, true_or, or_true, false_implies] <;> omega))), (by show ((G39 4 4).toInt = -1 ∨ (G39 4 4).toInt = (G 4 4).toInt); (first | omega | (simp only [Int32.reduceToInt, true_and, and_true, ne_eq, not_true_eq_false, false_and, or_false, false_or, true_or, or_true, false_implies] <;> omega))), (by show ((G39 4 2).toInt ≤ (G 4 2).toInt + 1); (first | omega | (simp only [Int32.reduceToInt, true_and, and_true, ne_eq, not_true_eq_false, false_and, or_false, false_or, true_or, or_true, false_implies] <;> omega))), (by have m9 : hMo 1 = 1 := (by decide); have l9 : hLo 1 = 1 := (by decide); have h9 : hHi 1 = 6 := (by decide); have s9 : hSl 1 = 1 := (by decide); exact xH_nE (c := 1) (by decide) (show (G 4 4).toInt = 1 by omega) (by decide) (by decide) ⟨by omega, by omega, by omega⟩ (show (G39 4 4).toInt = -1 by rw [show G39 4 4 = (G39 4 4) from rfl] <;> first | rfl | omega) (show G39 4 5 = (G 4 5) from hU41 4 5 (by decide)) (show G39 4 6 = (G 4 6) from hU41 4 6 (by decide)) (show (G39 4 2).toInt = (G 4 2).toInt + 1 by rw [show G39 4 2 = (G39 4 2) from rfl] <;> first | rfl | omega) (show G39 4 3 = (G 4 3) from hU41 4 3 (by decide)) (by rw [if_neg (by decide), if_neg (by decide)]; exact (show G39 19 = G 19 from funext fun k_ => hU41 19 k_ (show (1900 : Nat) ∉ ([403, 405] : List Nat) by decide))) (xSg_un (show gu_un xcd [403, 405] G G39 from (gu_un.tr gu_un.rf (gu_un.su hU41 rfl))) rfl rfl rfl)), (by show (0 ≠ 0 ∨ (G 1 3).toInt ≠ 0); (first | omega | (simp only [Int32.reduceToInt, true_and, and_true, ne_eq, not_true_eq_false, false_and, or_false, false_or, true_or, or_true, false_implies] <;> omega)))⟩) rfl rfl dX8_takeOfNumbers_75
  · have b47 : (0 : Int) ≤ (G 1 3).toInt ∧ (G 1 3).toInt ≤ 4 := hI 1 3
    have q12 : ((G 1 3).toInt ≠ 3 ∨ (G 1 5).toInt ≠ (59 : Int)) := q12
    refine v_if_eq F 76 dX8_takeOfNumbers_23 (by decide) 0 rfl (fun c48 => ?_) (fun c48 => absurd c48 (by decide))
    refine g_aload_n F 1 dX8_takeOfNumbers_76 rfl rfl ?_
    refine xg_4_0 F i_X8 w_0 dX8_takeOfNumbers_77 ?_
    refine xg_1_3 F i_X10 w_3 dX8_takeOfNumbers_80 (G 1 3) (rfl) ?_
    refine g_iconst F 2 dX8_takeOfNumbers_83 (by decide) ?_
    refine v_icmp_ne F 102 dX8_takeOfNumbers_84 (by decide) (G 1 3).toInt 2 rfl rfl (fun c49 => ?_) (fun c49 => ?_)
    · refine g_iconst F 1 dX8_takeOfNumbers_102 (by decide) ?_
      exact u_iret F hA hQ hr G (⟨hI, gu_un.rf, (by decide), (nb), (by show ((G 4 4).toInt = -1 ∨ (G 4 5).toInt ≤ 1 ∨ ((G 4 5).toInt ≤ 2 ∧ ((G 4 4).toInt = 3 ∨ (G 4 4).toInt = 4)) ∨ ((G 4 5).toInt ≤ 4 ∧ (G 4 4).toInt = 8) ∨ (G 4 4).toInt = 9); (first | omega | (simp only [Int32.reduceToInt, true_and, and_true, ne_eq, not_true_eq_false, false_and, or_false, false_or, true_or, or_true, false_implies] <;> omega))), (by show ((G 4 4).toInt = -1 ∨ (G 4 4).toInt = (G 4 4).toInt); (first | omega | (simp only [Int32.reduceToInt, true_and, and_true, ne_eq, not_true_eq_false, false_and, or_false, false_or, true_or, or_true, false_implies] <;> omega))), (by show ((G 4 2).toInt ≤ (G 4 2).toInt + 1); (first | omega | (simp only [Int32.reduceToInt, true_and, and_true, ne_eq, not_true_eq_false, false_and, or_false, false_or, true_or, or_true, false_implies] <;> omega))), (by have m9 : hMo 1 = 1 := (by decide); have l9 : hLo 1 = 1 := (by decide); have h9 : hHi 1 = 6 := (by decide); have s9 : hSl 1 = 1 := (by decide); exact xH_bad (f := 1) (by decide) (by decide) (fun ts pl ci => by rw [show (G 4 4).toInt = 1 by omega]; exact hO_n1 (by decide) (by decide) (by show ¬ (_ ∧ _ ∧ _); omega) (by omega))), (by show (1 ≠ 0 ∨ (G 1 3).toInt ≠ 0); (first | omega | (simp only [Int32.reduceToInt, true_and, and_true, ne_eq, not_true_eq_false, false_and, or_false, false_or, true_or, or_true, false_implies] <;> omega)))⟩) rfl rfl dX8_takeOfNumbers_103
    · refine g_iload_n F 0 dX8_takeOfNumbers_87 rfl rfl ?_
      refine v_if_ne F 104 dX8_takeOfNumbers_88 (by decide) 0 rfl (fun c50 => absurd c50 (by decide)) (fun c50 => ?_)
      refine g_aload_n F 1 dX8_takeOfNumbers_91 rfl rfl ?_
      refine xg_4_5 F i_X8 w_1 dX8_takeOfNumbers_92 (G 4 5) (rfl) ?_
      refine g_aload_n F 2 dX8_takeOfNumbers_95 rfl rfl ?_
      refine uz_getf F (show va_OF "QuietCut$Clause" "most" "I" (.int 1) (zf 11) A s s.heap from (hZ.2.2.2.2.2 1 (by decide)).2.2.2.1) w_2 dX8_takeOfNumbers_96 ?_
      refine v_icmp_ne F 104 dX8_takeOfNumbers_99 (by decide) (G 4 5).toInt 1 rfl rfl (fun c51 => ?_) (fun c51 => ?_)
      · refine g_aload_n F 1 dX8_takeOfNumbers_104 rfl rfl ?_
        refine g_aload_n F 2 dX8_takeOfNumbers_105 rfl rfl ?_
        refine uz_callVi (k := 0) (n := 0) (b := a 4) (As := [.ref (zf 11)]) (st := []) F xZ_st hZ (fun sz => S_X8_isInBounds_c1 l D K a G zf  hI sz) (cwV 1 hts gX8_takeOfNumbers_X8_isInBounds rfl rfl rfl (by decide +kernel) ⟨Nat.le_of_ble_eq_true rfl, Nat.le_of_ble_eq_true rfl⟩) rfl 4 xc_4 rfl (Nat.le_of_ble_eq_true rfl) ⟨Nat.zero_le _, Nat.zero_le _⟩ dX8_takeOfNumbers_106 (fun r52 _ hw53 => ?_)
        have q55 : ((r52.toInt = 1 ∧ (1 ≤ (G 1 5).toInt ∧ (G 1 5).toInt ≤ 6 ∧ ((G 4 5).toInt ≠ 1 ∨ ((G 4 6).toInt ≤ (G 1 5).toInt ∧ (G 1 5).toInt ≤ (G 4 6).toInt + 3)))) ∨ (r52.toInt = 0 ∧ ¬ (1 ≤ (G 1 5).toInt ∧ (G 1 5).toInt ≤ 6 ∧ ((G 4 5).toInt ≠ 1 ∨ ((G 4 6).toInt ≤ (G 1 5).toInt ∧ (G 1 5).toInt ≤ (G 4 6).toInt + 3))))) := hw53.2
        have rg56 := hw53.1
        clear hw53
        refine v_if_ne F 114 dX8_takeOfNumbers_109 (by decide) r52.toInt rfl (fun c57 => ?_) (fun c57 => ?_)
        · refine g_aload_n F 1 dX8_takeOfNumbers_114 rfl rfl ?_
          refine xg_4_5 F i_X8 w_1 dX8_takeOfNumbers_115 (G 4 5) (rfl) ?_
          refine g_aload_n F 2 dX8_takeOfNumbers_118 rfl rfl ?_
          refine uz_getf F (show va_OF "QuietCut$Clause" "most" "I" (.int 1) (zf 11) A s s.heap from (hZ.2.2.2.2.2 1 (by decide)).2.2.2.1) w_2 dX8_takeOfNumbers_119 ?_
          refine v_icmp_ne F 127 dX8_takeOfNumbers_122 (by decide) (G 4 5).toInt 1 rfl rfl (fun c58 => ?_) (fun c58 => ?_)
          · refine g_aload_n F 1 dX8_takeOfNumbers_127 rfl rfl ?_
            refine xg_4_1 F i_X8 w_4 dX8_takeOfNumbers_128 ?_
            refine g_aload_n F 2 dX8_takeOfNumbers_131 rfl rfl ?_
            refine uz_getf F (show va_OF "QuietCut$Clause" "slot" "I" (.int 1) (zf 11) A s s.heap from (hZ.2.2.2.2.2 1 (by decide)).2.2.1) w_5 dX8_takeOfNumbers_132 ?_
            refine g_aload_n F 1 dX8_takeOfNumbers_135 rfl rfl ?_
            refine xg_4_5 F i_X8 w_1 dX8_takeOfNumbers_136 (G 4 5) (rfl) ?_
            refine u_iadd F dX8_takeOfNumbers_139 1 (G 4 5).toInt rfl rfl (by omega) (by omega) (fun y59 ey59 => ?_)
            refine g_aload_n F 1 dX8_takeOfNumbers_140 rfl rfl ?_
            refine xg_4_0 F i_X8 w_0 dX8_takeOfNumbers_141 ?_
            refine xg_1_5 F i_X10 w_6 dX8_takeOfNumbers_144 (G 1 5) (rfl) ?_
            refine u_callVv (k := 0) (n := 0) (b := a 3) (As := [.int y59, .int (G 1 5)]) (st := []) F (fun sz => S_X7_put_3 l D K a G y59 y59.toInt (G 1 5) (G 1 5).toInt rfl (by omega) rfl hI sz) (cwV 2 hts gX8_takeOfNumbers_X7_put rfl rfl rfl (by decide +kernel) ⟨Nat.le_of_ble_eq_true rfl, Nat.le_of_ble_eq_true rfl⟩) rfl 3 xc_3 rfl (Nat.le_of_ble_eq_true rfl) ⟨Nat.zero_le _, Nat.zero_le _⟩ dX8_takeOfNumbers_147 (fun G62 hw61 => ?_)
            have hI63 : xI G62 := hw61.1
            have hU64 : gu_un xcd [1900] G G62 := hw61.2.1
            have hp65 := hw61.2.2
            have q66 : (G62 19 = upd (G 19) (y59.toInt).toNat (G 1 5)) := hp65
            clear hp65 hw61
            refine g_aload_n F 1 dX8_takeOfNumbers_150 rfl rfl ?_
            refine g_dup F dX8_takeOfNumbers_151 rfl ?_
            refine xg_4_5 F i_X8 w_1 dX8_takeOfNumbers_152 (G 4 5) (hU64 4 5 (by decide)) ?_
            refine g_iconst F 1 dX8_takeOfNumbers_155 (by decide) ?_
            refine u_iadd F dX8_takeOfNumbers_156 (G 4 5).toInt 1 rfl rfl (by omega) (by omega) (fun y67 ey67 => ?_)
            refine xp_4_5 F i_X8 w_1 dX8_takeOfNumbers_157 ?_
            refine g_aload_n F 1 dX8_takeOfNumbers_160 rfl rfl ?_
            refine g_aload_n F 1 dX8_takeOfNumbers_161 rfl rfl ?_
            refine xg_4_0 F i_X8 w_0 dX8_takeOfNumbers_162 ?_
            refine xg_1_5 F i_X10 w_6 dX8_takeOfNumbers_165 (G 1 5) (hU64 1 5 (by decide)) ?_
            refine xp_4_6 F i_X8 w_7 dX8_takeOfNumbers_168 ?_
            refine g_iconst F 0 dX8_takeOfNumbers_171 (by decide) ?_
            exact u_iret F hA hQ hr (gu_up (gu_up G62 4 5 y67) 4 6 (G 1 5)) (⟨(gu_I.up (j := 4) (k := 6) (v := (G 1 5)) (gu_I.up (j := 4) (k := 5) (v := y67) hI63 (show (0 : Int) ≤ Int32.toInt y67 by omega) (show Int32.toInt y67 ≤ 6 by omega)) (show (0 : Int) ≤ Int32.toInt (G 1 5) by omega) (show Int32.toInt (G 1 5) ≤ 9999 by omega)), (gu_un.up (j := 4) (k := 6) (v := (G 1 5)) (gu_un.up (j := 4) (k := 5) (v := y67) (gu_un.tr gu_un.rf (gu_un.su hU64 rfl)) (show (406 : Nat) ∈ ([403, 405, 406, 407, 1900] : List Nat) by decide)) (show (407 : Nat) ∈ ([403, 405, 406, 407, 1900] : List Nat) by decide)), (by decide), ((xNb.un (G := G62) (by rw [q66]; rcases (show y59.toInt = 1 by omega) with h9 <;> (rw [h9]; first | exact xNb.put nb (show (1 : Int) ≤ Int32.toInt (G 1 5) by omega) (show Int32.toInt (G 1 5) ≤ 6 by omega))) (show gu_un xcd [406, 407] G62 (gu_up (gu_up G62 4 5 y67) 4 6 (G 1 5)) from (gu_un.up (j := 4) (k := 6) (v := (G 1 5)) (gu_un.up (j := 4) (k := 5) (v := y67) gu_un.rf (show (406 : Nat) ∈ ([406, 407] : List Nat) by decide)) (show (407 : Nat) ∈ ([406, 407] : List Nat) by decide))) rfl)), (by show (((gu_up (gu_up G62 4 5 y67) 4 6 (G 1 5)) 4 4).toInt = -1 ∨ ((gu_up (gu_up G62 4 5 y67) 4 6 (G 1 5)) 4 5).toInt ≤ 1 ∨ (((gu_up (gu_up G62 4 5 y67) 4 6 (G 1 5)) 4 5).toInt ≤ 2 ∧ (((gu_up (gu_up G62 4 5 y67) 4 6 (G 1 5)) 4 4).toInt = 3 ∨ ((gu_up (gu_up G62 4 5 y67) 4 6 (G 1 5)) 4 4).toInt = 4)) ∨ (((gu_up (gu_up G62 4 5 y67) 4 6 (G 1 5)) 4 5).toInt ≤ 4 ∧ ((gu_up (gu_up G62 4 5 y67) 4 6 (G 1 5)) 4 4).toInt = 8) ∨ ((gu_up (gu_up G62 4 5 y67) 4 6 (G 1 5)) 4 4).toInt = 9); have e9_4_4 : (gu_up (gu_up G62 4 5 y67) 4 6 (G 1 5)) 4 4 = (G 4 4) := hU64 4 4 (by decide); have e9_4_5 : (gu_up (gu_up G62 4 5 y67) 4 6 (G 1 5)) 4 5 = y67 := rfl; (try simp only [e9_4_4, e9_4_5, true_and, and_true]) <;> (first | omega | (simp only [Int32.reduceToInt, true_and, and_true, ne_eq, not_true_eq_false, false_and, or_false, false_or, true_or, or_true, false_implies] <;> omega))), (by show (((gu_up (gu_up G62 4 5 y67) 4 6 (G 1 5)) 4 4).toInt = -1 ∨ ((gu_up (gu_up G62 4 5 y67) 4 6 (G 1 5)) 4 4).toInt = (G 4 4).toInt); have e9_4_4 : (gu_up (gu_up G62 4 5 y67) 4 6 (G 1 5)) 4 4 = (G 4 4) := hU64 4 4 (by decide); (try simp only [e9_4_4, true_and, and_true]) <;> (first | omega | (simp only [Int32.reduceToInt, true_and, and_true, ne_eq, not_true_eq_false, false_and, or_false, false_or, true_or, or_true, false_implies] <;> omega))), (by show (((gu_up (gu_up G62 4 5 y67) 4 6 (G 1 5)) 4 2).toInt ≤ (G 4 2).toInt + 1); have e9_4_2 : (gu_up (gu_up G62 4 5 y67) 4 6 (G 1 5)) 4 2 = (G 4 2) := hU64 4 2 (by decide); (try simp only [e9_4_2, true_and, and_true]) <;> (first | omega | (simp only [Int32.reduceToInt, true_and, and_true, ne_eq, not_true_eq_false, false_and, or_false, false_or, true_or, or_true, false_implies] <;> omega))), (by have m9 : hMo 1 = 1 := (by decide); have l9 : hLo 1 = 1 := (by decide); have h9 : hHi 1 = 6 := (by decide); have s9 : hSl 1 = 1 := (by decide); exact xH_nP (c := 1) (by decide) (show (G 4 4).toInt = 1 by omega) (by decide) (by decide) (by omega) (by show ¬ (_ ∨ _ ∨ _); omega) (by omega) (show (gu_up (gu_up G62 4 5 y67) 4 6 (G 1 5)) 4 4 = (G 4 4) from hU64 4 4 (by decide)) (show ((gu_up (gu_up G62 4 5 y67) 4 6 (G 1 5)) 4 5).toInt = (G 4 5).toInt + 1 by rw [show (gu_up (gu_up G62 4 5 y67) 4 6 (G 1 5)) 4 5 = y67 from rfl] <;> first | rfl | omega) (show ((gu_up (gu_up G62 4 5 y67) 4 6 (G 1 5)) 4 6).toInt = (G 1 5).toInt by rw [show (gu_up (gu_up G62 4 5 y67) 4 6 (G 1 5)) 4 6 = (G 1 5) from rfl] <;> first | rfl | omega) (show (gu_up (gu_up G62 4 5 y67) 4 6 (G 1 5)) 4 2 = (G 4 2) from hU64 4 2 (by decide)) (show (gu_up (gu_up G62 4 5 y67) 4 6 (G 1 5)) 4 3 = (G 4 3) from hU64 4 3 (by decide)) (x := (G 1 5)) rfl (q := y59.toInt) (by omega) (show (gu_up (gu_up G62 4 5 y67) 4 6 (G 1 5)) 19 = upd (G 19) (y59.toInt).toNat (G 1 5) from (show (gu_up (gu_up G62 4 5 y67) 4 6 (G 1 5)) 19 = G62 19 from funext fun k_ => (show gu_un xcd [406, 407] G62 (gu_up (gu_up G62 4 5 y67) 4 6 (G 1 5)) from (gu_un.up (j := 4) (k := 6) (v := (G 1 5)) (gu_un.up (j := 4) (k := 5) (v := y67) gu_un.rf (show (406 : Nat) ∈ ([406, 407] : List Nat) by decide)) (show (407 : Nat) ∈ ([406, 407] : List Nat) by decide))) 19 k_ (by simp [xcd])).trans q66) (xSg_un (show gu_un xcd [406, 407, 1900] G (gu_up (gu_up G62 4 5 y67) 4 6 (G 1 5)) from (gu_un.up (j := 4) (k := 6) (v := (G 1 5)) (gu_un.up (j := 4) (k := 5) (v := y67) (gu_un.tr gu_un.rf (gu_un.su hU64 rfl)) (show (406 : Nat) ∈ ([406, 407, 1900] : List Nat) by decide)) (show (407 : Nat) ∈ ([406, 407, 1900] : List Nat) by decide))) rfl rfl rfl)), (by show (0 ≠ 0 ∨ (G 1 3).toInt ≠ 0); (first | omega | (simp only [Int32.reduceToInt, true_and, and_true, ne_eq, not_true_eq_false, false_and, or_false, false_or, true_or, or_true, false_implies] <;> omega)))⟩) rfl rfl dX8_takeOfNumbers_172
          · refine g_iconst F 4 dX8_takeOfNumbers_125 (by decide) ?_
            exact u_iret F hA hQ hr G (⟨hI, gu_un.rf, (by decide), (nb), (by show ((G 4 4).toInt = -1 ∨ (G 4 5).toInt ≤ 1 ∨ ((G 4 5).toInt ≤ 2 ∧ ((G 4 4).toInt = 3 ∨ (G 4 4).toInt = 4)) ∨ ((G 4 5).toInt ≤ 4 ∧ (G 4 4).toInt = 8) ∨ (G 4 4).toInt = 9); (first | omega | (simp only [Int32.reduceToInt, true_and, and_true, ne_eq, not_true_eq_false, false_and, or_false, false_or, true_or, or_true, false_implies] <;> omega))), (by show ((G 4 4).toInt = -1 ∨ (G 4 4).toInt = (G 4 4).toInt); (first | omega | (simp only [Int32.reduceToInt, true_and, and_true, ne_eq, not_true_eq_false, false_and, or_false, false_or, true_or, or_true, false_implies] <;> omega))), (by show ((G 4 2).toInt ≤ (G 4 2).toInt + 1); (first | omega | (simp only [Int32.reduceToInt, true_and, and_true, ne_eq, not_true_eq_false, false_and, or_false, false_or, true_or, or_true, false_implies] <;> omega))), (by have m9 : hMo 1 = 1 := (by decide); have l9 : hLo 1 = 1 := (by decide); have h9 : hHi 1 = 6 := (by decide); have s9 : hSl 1 = 1 := (by decide); exact xH_bad (f := 4) (by decide) (by decide) (fun ts pl ci => by rw [show (G 4 4).toInt = 1 by omega]; exact hO_n4 (by decide) (by decide) (by omega) (by omega) (by show ¬ (_ ∨ _ ∨ _); omega) (by omega))), (by show (4 ≠ 0 ∨ (G 1 3).toInt ≠ 0); (first | omega | (simp only [Int32.reduceToInt, true_and, and_true, ne_eq, not_true_eq_false, false_and, or_false, false_or, true_or, or_true, false_implies] <;> omega)))⟩) rfl rfl dX8_takeOfNumbers_126
        · refine g_iconst F 2 dX8_takeOfNumbers_112 (by decide) ?_
          exact u_iret F hA hQ hr G (⟨hI, gu_un.rf, (by decide), (nb), (by show ((G 4 4).toInt = -1 ∨ (G 4 5).toInt ≤ 1 ∨ ((G 4 5).toInt ≤ 2 ∧ ((G 4 4).toInt = 3 ∨ (G 4 4).toInt = 4)) ∨ ((G 4 5).toInt ≤ 4 ∧ (G 4 4).toInt = 8) ∨ (G 4 4).toInt = 9); (first | omega | (simp only [Int32.reduceToInt, true_and, and_true, ne_eq, not_true_eq_false, false_and, or_false, false_or, true_or, or_true, false_implies] <;> omega))), (by show ((G 4 4).toInt = -1 ∨ (G 4 4).toInt = (G 4 4).toInt); (first | omega | (simp only [Int32.reduceToInt, true_and, and_true, ne_eq, not_true_eq_false, false_and, or_false, false_or, true_or, or_true, false_implies] <;> omega))), (by show ((G 4 2).toInt ≤ (G 4 2).toInt + 1); (first | omega | (simp only [Int32.reduceToInt, true_and, and_true, ne_eq, not_true_eq_false, false_and, or_false, false_or, true_or, or_true, false_implies] <;> omega))), (by have m9 : hMo 1 = 1 := (by decide); have l9 : hLo 1 = 1 := (by decide); have h9 : hHi 1 = 6 := (by decide); have s9 : hSl 1 = 1 := (by decide); exact xH_bad (f := 2) (by decide) (by decide) (fun ts pl ci => by rw [show (G 4 4).toInt = 1 by omega]; exact hO_n2 (by decide) (by decide) (by omega) (by omega) (by show _ ∨ _ ∨ _; omega))), (by show (2 ≠ 0 ∨ (G 1 3).toInt ≠ 0); (first | omega | (simp only [Int32.reduceToInt, true_and, and_true, ne_eq, not_true_eq_false, false_and, or_false, false_or, true_or, or_true, false_implies] <;> omega)))⟩) rfl rfl dX8_takeOfNumbers_113
      · refine g_iconst F 1 dX8_takeOfNumbers_102 (by decide) ?_
        exact u_iret F hA hQ hr G (⟨hI, gu_un.rf, (by decide), (nb), (by show ((G 4 4).toInt = -1 ∨ (G 4 5).toInt ≤ 1 ∨ ((G 4 5).toInt ≤ 2 ∧ ((G 4 4).toInt = 3 ∨ (G 4 4).toInt = 4)) ∨ ((G 4 5).toInt ≤ 4 ∧ (G 4 4).toInt = 8) ∨ (G 4 4).toInt = 9); (first | omega | (simp only [Int32.reduceToInt, true_and, and_true, ne_eq, not_true_eq_false, false_and, or_false, false_or, true_or, or_true, false_implies] <;> omega))), (by show ((G 4 4).toInt = -1 ∨ (G 4 4).toInt = (G 4 4).toInt); (first | omega | (simp only [Int32.reduceToInt, true_and, and_true, ne_eq, not_true_eq_false, false_and, or_false, false_or, true_or, or_true, false_implies] <;> omega))), (by show ((G 4 2).toInt ≤ (G 4 2).toInt + 1); (first | omega | (simp only [Int32.reduceToInt, true_and, and_true, ne_eq, not_true_eq_false, false_and, or_false, false_or, true_or, or_true, false_implies] <;> omega))), (by have m9 : hMo 1 = 1 := (by decide); have l9 : hLo 1 = 1 := (by decide); have h9 : hHi 1 = 6 := (by decide); have s9 : hSl 1 = 1 := (by decide); exact xH_bad (f := 1) (by decide) (by decide) (fun ts pl ci => by rw [show (G 4 4).toInt = 1 by omega]; exact hO_n1 (by decide) (by decide) (by show ¬ (_ ∧ _ ∧ _); omega) (by omega))), (by show (1 ≠ 0 ∨ (G 1 3).toInt ≠ 0); (first | omega | (simp only [Int32.reduceToInt, true_and, and_true, ne_eq, not_true_eq_false, false_and, or_false, false_or, true_or, or_true, false_implies] <;> omega)))⟩) rfl rfl dX8_takeOfNumbers_103


set_option maxHeartbeats 4000000 in
set_option maxRecDepth 100000 in
theorem S_X8_isInBounds_c2 (l : Launch) (D : va_G) (K : Nat → ClassId) (a : Nat → Nat) (G : gS) (zf : Nat → Nat) (hI : xI G) (sz : Nat) : KiZ (xZ zf) l yX8_isInBounds wsX8_isInBounds 2 60 D [.ref (a 4), .ref (zf 12)] (xW K a G) (tK K) sz (fun (r : Int32) (_ : Unit) => (0 ≤ r.toInt ∧ r.toInt ≤ 1) ∧ (((r.toInt = 1 ∧ (1 ≤ (G 1 5).toInt ∧ (G 1 5).toInt ≤ 99 ∧ ((G 4 5).toInt ≠ 1 ∨ ((G 4 6).toInt ≤ (G 1 5).toInt ∧ (G 1 5).toInt ≤ (G 4 6).toInt + 3)))) ∨ (r.toInt = 0 ∧ ¬ (1 ≤ (G 1 5).toInt ∧ (G 1 5).toInt ≤ 99 ∧ ((G 4 5).toInt ≠ 1 ∨ ((G 4 6).toInt ≤ (G 1 5).toInt ∧ (G 1 5).toInt ≤ (G 4 6).toInt + 3))))))) (fun (_ : Unit) => (xW K a G)) := by
  unfold KiZ
  refine gz_ofW (cc := cX8_isInBounds) (lv := [(0, .ref (a 4)), (1, .ref (zf 12))]) (by decide) rfl (Nat.le_of_ble_eq_true rfl) rfl ?_
  intro p e s m args below meth c A Q hA hQ hZ F hr hnm
  have hts := F.2.2.2.2.1
  have w_0 : (Cond.fieldLink RX8 9 "QuietCut$ShopReader" "tape" "LQuietCut$Tape;").before args s = true := hts _ (List.mem_of_getElem? (i := 1) rfl)
  have i_X8 : ∀ w ∈ u_ws RX8 TX8 7, w ∈ wsX8_isInBounds := fun _ h => List.mem_cons_of_mem _ (List.mem_append_left _ (List.mem_append_right _ h))
  have w_1 : (Cond.fieldLink RX8 125 "QuietCut$Tape" "value" "I").before args s = true := hts _ (List.mem_of_getElem? (i := 2) rfl)
  have i_X10 : ∀ w ∈ u_ws RX10 TX10 6, w ∈ wsX8_isInBounds := fun _ h => List.mem_cons_of_mem _ (List.mem_append_right _ h)
  have w_2 : (Cond.fieldLink RX8 131 "QuietCut$Clause" "low" "I").before args s = true := hts _ (List.mem_of_getElem? (i := 3) rfl)
  have w_3 : (Cond.fieldLink RX8 134 "QuietCut$Clause" "high" "I").before args s = true := hts _ (List.mem_of_getElem? (i := 4) rfl)
  have w_4 : (Cond.fieldLink RX8 77 "QuietCut$ShopReader" "numbers" "I").before args s = true := hts _ (List.mem_of_getElem? (i := 5) rfl)
  have w_5 : (Cond.fieldLink RX8 128 "QuietCut$ShopReader" "latest" "I").before args s = true := hts _ (List.mem_of_getElem? (i := 6) rfl)
  have b1 : (0 : Int) ≤ (G 4 5).toInt ∧ (G 4 5).toInt ≤ 6 := hI 4 5
  have b2 : (0 : Int) ≤ (G 4 6).toInt ∧ (G 4 6).toInt ≤ 9999 := hI 4 6
  refine g_aload_n F 0 dX8_isInBounds_0 rfl rfl ?_
  refine xg_4_0 F i_X8 w_0 dX8_isInBounds_1 ?_
  refine xg_1_5 F i_X10 w_1 dX8_isInBounds_4 (G 1 5) (rfl) ?_
  refine g_aload_n F 1 dX8_isInBounds_7 rfl rfl ?_
  refine uz_getf F (show va_OF "QuietCut$Clause" "low" "I" (.int 1) (zf 12) A s s.heap from (hZ.2.2.2.2.2 2 (by decide)).2.2.2.2.1) w_2 dX8_isInBounds_8 ?_
  refine v_icmp_lt F 28 dX8_isInBounds_11 (by decide) (G 1 5).toInt 1 rfl rfl (fun c3 => ?_) (fun c3 => ?_)
  · refine g_iconst F 0 dX8_isInBounds_28 (by decide) ?_
    exact u_zret F hA hQ hr rfl () (⟨(by decide), (by show ((0 = 1 ∧ (1 ≤ (G 1 5).toInt ∧ (G 1 5).toInt ≤ 99 ∧ ((G 4 5).toInt ≠ 1 ∨ ((G 4 6).toInt ≤ (G 1 5).toInt ∧ (G 1 5).toInt ≤ (G 4 6).toInt + 3)))) ∨ (0 = 0 ∧ ¬ (1 ≤ (G 1 5).toInt ∧ (G 1 5).toInt ≤ 99 ∧ ((G 4 5).toInt ≠ 1 ∨ ((G 4 6).toInt ≤ (G 1 5).toInt ∧ (G 1 5).toInt ≤ (G 4 6).toInt + 3))))); (first | omega | (simp only [Int32.reduceToInt, true_and, and_true, ne_eq, not_true_eq_false, false_and, or_false, false_or, true_or, or_true, false_implies] <;> omega)))⟩) rfl rfl dX8_isInBounds_29
  · refine g_aload_n F 0 dX8_isInBounds_14 rfl rfl ?_
    refine xg_4_0 F i_X8 w_0 dX8_isInBounds_15 ?_
    refine xg_1_5 F i_X10 w_1 dX8_isInBounds_18 (G 1 5) (rfl) ?_
    refine g_aload_n F 1 dX8_isInBounds_21 rfl rfl ?_
    refine uz_getf F (show va_OF "QuietCut$Clause" "high" "I" (.int 99) (zf 12) A s s.heap from (hZ.2.2.2.2.2 2 (by decide)).2.2.2.2.2.1) w_3 dX8_isInBounds_22 ?_
    have b4 := ti_rng (G 1 5)
    refine v_icmp_le F 30 dX8_isInBounds_25 (by decide) (G 1 5).toInt 99 rfl rfl (fun c5 => ?_) (fun c5 => ?_)
    · refine g_aload_n F 1 dX8_isInBounds_30 rfl rfl ?_
      refine uz_call0Vi (k := 0) (n := 0) (b := (zf 12)) (As := []) (st := []) F xZ_st hZ (fun sz => S_X1_manySlot_c2 l D zf sz) (cwV 0 hts gX8_isInBounds_X1_manySlot rfl rfl rfl (by decide +kernel) ⟨Nat.le_of_ble_eq_true rfl, Nat.le_of_ble_eq_true rfl⟩) (hZ.2.2.2.2.2 2 (by decide)).1 rfl (Nat.le_of_ble_eq_true rfl) ⟨Nat.zero_le _, Nat.zero_le _⟩ dX8_isInBounds_31 (fun r6 _ hw7 => ?_)
      have hw7 : r6.toInt = -1 := hw7
      refine g_fold (-1) ((ti_eq rfl (show ((-1) : Int32).toInt = (-1) from rfl)).mpr hw7) ?_
      refine g_iconst F (-1) dX8_isInBounds_34 (by decide) ?_
      refine v_icmp_ne F 50 dX8_isInBounds_35 (by decide) (-1) (-1) rfl rfl (fun c8 => absurd c8 (by decide)) (fun c8 => ?_)
      refine g_aload_n F 0 dX8_isInBounds_38 rfl rfl ?_
      refine xg_4_5 F i_X8 w_4 dX8_isInBounds_39 (G 4 5) (rfl) ?_
      refine g_iconst F 1 dX8_isInBounds_42 (by decide) ?_
      refine v_icmp_ne F 50 dX8_isInBounds_43 (by decide) (G 4 5).toInt 1 rfl rfl (fun c9 => ?_) (fun c9 => ?_)
      · refine g_iconst F 0 dX8_isInBounds_50 (by decide) ?_
        refine g_istore_n F [(2, .int 0), (0, .ref (a 4)), (1, .ref (zf 12))] dX8_isInBounds_51 rfl (by decide) rfl ?_
        refine g_iload_n F 0 dX8_isInBounds_52 rfl rfl ?_
        refine v_if_eq F 86 dX8_isInBounds_53 (by decide) 0 rfl (fun c10 => ?_) (fun c10 => absurd c10 (by decide))
        refine g_iconst F 1 dX8_isInBounds_86 (by decide) ?_
        refine g_goto F 91 dX8_isInBounds_87 (by decide) ?_
        exact u_zret F hA hQ hr rfl () (⟨(by decide), (by show ((1 = 1 ∧ (1 ≤ (G 1 5).toInt ∧ (G 1 5).toInt ≤ 99 ∧ ((G 4 5).toInt ≠ 1 ∨ ((G 4 6).toInt ≤ (G 1 5).toInt ∧ (G 1 5).toInt ≤ (G 4 6).toInt + 3)))) ∨ (1 = 0 ∧ ¬ (1 ≤ (G 1 5).toInt ∧ (G 1 5).toInt ≤ 99 ∧ ((G 4 5).toInt ≠ 1 ∨ ((G 4 6).toInt ≤ (G 1 5).toInt ∧ (G 1 5).toInt ≤ (G 4 6).toInt + 3))))); (first | omega | (simp only [Int32.reduceToInt, true_and, and_true, ne_eq, not_true_eq_false, false_and, or_false, false_or, true_or, or_true, false_implies] <;> omega)))⟩) rfl rfl dX8_isInBounds_91
      · refine g_iconst F 1 dX8_isInBounds_46 (by decide) ?_
        refine g_goto F 51 dX8_isInBounds_47 (by decide) ?_
        refine g_istore_n F [(2, .int 1), (0, .ref (a 4)), (1, .ref (zf 12))] dX8_isInBounds_51 rfl (by decide) rfl ?_
        refine g_iload_n F 0 dX8_isInBounds_52 rfl rfl ?_
        refine v_if_eq F 86 dX8_isInBounds_53 (by decide) 1 rfl (fun c11 => absurd c11 (by decide)) (fun c11 => ?_)
        refine g_aload_n F 1 dX8_isInBounds_56 rfl rfl ?_
        refine xg_4_0 F i_X8 w_0 dX8_isInBounds_57 ?_
        refine xg_1_5 F i_X10 w_1 dX8_isInBounds_60 (G 1 5) (rfl) ?_
        refine g_aload_n F 1 dX8_isInBounds_63 rfl rfl ?_
        refine xg_4_6 F i_X8 w_5 dX8_isInBounds_64 (G 4 6) (rfl) ?_
        refine v_icmp_lt F 90 dX8_isInBounds_67 (by decide) (G 1 5).toInt (G 4 6).toInt rfl rfl (fun c12 => ?_) (fun c12 => ?_)
        · refine g_iconst F 0 dX8_isInBounds_90 (by decide) ?_
          exact u_zret F hA hQ hr rfl () (⟨(by decide), (by show ((0 = 1 ∧ (1 ≤ (G 1 5).toInt ∧ (G 1 5).toInt ≤ 99 ∧ ((G 4 5).toInt ≠ 1 ∨ ((G 4 6).toInt ≤ (G 1 5).toInt ∧ (G 1 5).toInt ≤ (G 4 6).toInt + 3)))) ∨ (0 = 0 ∧ ¬ (1 ≤ (G 1 5).toInt ∧ (G 1 5).toInt ≤ 99 ∧ ((G 4 5).toInt ≠ 1 ∨ ((G 4 6).toInt ≤ (G 1 5).toInt ∧ (G 1 5).toInt ≤ (G 4 6).toInt + 3))))); (first | omega | (simp only [Int32.reduceToInt, true_and, and_true, ne_eq, not_true_eq_false, false_and, or_false, false_or, true_or, or_true, false_implies] <;> omega)))⟩) rfl rfl dX8_isInBounds_91
        · refine g_aload_n F 1 dX8_isInBounds_70 rfl rfl ?_
          refine xg_4_0 F i_X8 w_0 dX8_isInBounds_71 ?_
          refine xg_1_5 F i_X10 w_1 dX8_isInBounds_74 (G 1 5) (rfl) ?_
          refine g_aload_n F 1 dX8_isInBounds_77 rfl rfl ?_
          refine xg_4_6 F i_X8 w_5 dX8_isInBounds_78 (G 4 6) (rfl) ?_
          refine g_iconst F 3 dX8_isInBounds_81 (by decide) ?_
          refine u_iadd F dX8_isInBounds_82 (G 4 6).toInt 3 rfl rfl (by omega) (by omega) (fun y13 ey13 => ?_)
          refine v_icmp_gt F 90 dX8_isInBounds_83 (by decide) (G 1 5).toInt y13.toInt rfl rfl (fun c14 => ?_) (fun c14 => ?_)
          · refine g_iconst F 0 dX8_isInBounds_90 (by decide) ?_
            exact u_zret F hA hQ hr rfl () (⟨(by decide), (by show ((0 = 1 ∧ (1 ≤ (G 1 5).toInt ∧ (G 1 5).toInt ≤ 99 ∧ ((G 4 5).toInt ≠ 1 ∨ ((G 4 6).toInt ≤ (G 1 5).toInt ∧ (G 1 5).toInt ≤ (G 4 6).toInt + 3)))) ∨ (0 = 0 ∧ ¬ (1 ≤ (G 1 5).toInt ∧ (G 1 5).toInt ≤ 99 ∧ ((G 4 5).toInt ≠ 1 ∨ ((G 4 6).toInt ≤ (G 1 5).toInt ∧ (G 1 5).toInt ≤ (G 4 6).toInt + 3))))); (first | omega | (simp only [Int32.reduceToInt, true_and, and_true, ne_eq, not_true_eq_false, false_and, or_false, false_or, true_or, or_true, false_implies] <;> omega)))⟩) rfl rfl dX8_isInBounds_91
          · refine g_iconst F 1 dX8_isInBounds_86 (by decide) ?_
            refine g_goto F 91 dX8_isInBounds_87 (by decide) ?_
            exact u_zret F hA hQ hr rfl () (⟨(by decide), (by show ((1 = 1 ∧ (1 ≤ (G 1 5).toInt ∧ (G 1 5).toInt ≤ 99 ∧ ((G 4 5).toInt ≠ 1 ∨ ((G 4 6).toInt ≤ (G 1 5).toInt ∧ (G 1 5).toInt ≤ (G 4 6).toInt + 3)))) ∨ (1 = 0 ∧ ¬ (1 ≤ (G 1 5).toInt ∧ (G 1 5).toInt ≤ 99 ∧ ((G 4 5).toInt ≠ 1 ∨ ((G 4 6).toInt ≤ (G 1 5).toInt ∧ (G 1 5).toInt ≤ (G 4 6).toInt + 3))))); (first | omega | (simp only [Int32.reduceToInt, true_and, and_true, ne_eq, not_true_eq_false, false_and, or_false, false_or, true_or, or_true, false_implies] <;> omega)))⟩) rfl rfl dX8_isInBounds_91
    · refine g_iconst F 0 dX8_isInBounds_28 (by decide) ?_
      exact u_zret F hA hQ hr rfl () (⟨(by decide), (by show ((0 = 1 ∧ (1 ≤ (G 1 5).toInt ∧ (G 1 5).toInt ≤ 99 ∧ ((G 4 5).toInt ≠ 1 ∨ ((G 4 6).toInt ≤ (G 1 5).toInt ∧ (G 1 5).toInt ≤ (G 4 6).toInt + 3)))) ∨ (0 = 0 ∧ ¬ (1 ≤ (G 1 5).toInt ∧ (G 1 5).toInt ≤ 99 ∧ ((G 4 5).toInt ≠ 1 ∨ ((G 4 6).toInt ≤ (G 1 5).toInt ∧ (G 1 5).toInt ≤ (G 4 6).toInt + 3))))); (first | omega | (simp only [Int32.reduceToInt, true_and, and_true, ne_eq, not_true_eq_false, false_and, or_false, false_or, true_or, or_true, false_implies] <;> omega)))⟩) rfl rfl dX8_isInBounds_29


set_option maxHeartbeats 4000000 in
set_option maxRecDepth 100000 in
theorem S_X8_takeOfNumbers_c2 (l : Launch) (D : va_G) (K : Nat → ClassId) (a : Nat → Nat) (G : gS) (zf : Nat → Nat) (nb : xNb (G 19)) (ck : ((G 4 2).toInt ≤ 1000)) (rn : ((G 4 5).toInt ≤ 1 ∧ (G 4 4).toInt = 2)) (hI : xI G) (sz : Nat) : KiZ (xZ zf) l yX8_takeOfNumbers wsX8_takeOfNumbers 3 82 D [.ref (a 4), .ref (zf 12)] (xW K a G) (tK K) sz (fun (r : Int32) (G' : gS) => (xI G') ∧ (gu_un xcd [403, 405, 406, 407, 1900] G G') ∧ (0 ≤ r.toInt ∧ r.toInt ≤ 4) ∧ (xNb (G' 19)) ∧ (((G' 4 4).toInt = -1 ∨ (G' 4 5).toInt ≤ 1 ∨ ((G' 4 5).toInt ≤ 2 ∧ ((G' 4 4).toInt = 3 ∨ (G' 4 4).toInt = 4)) ∨ ((G' 4 5).toInt ≤ 4 ∧ (G' 4 4).toInt = 8) ∨ (G' 4 4).toInt = 9)) ∧ (((G' 4 4).toInt = -1 ∨ (G' 4 4).toInt = (G 4 4).toInt)) ∧ (((G' 4 2).toInt ≤ (G 4 2).toInt + 1)) ∧ ((∀ (ts : List hTk) (pl ci : Int), xH (((G 1 3).toInt, pl, (G 1 5).toInt, ci) :: ts) G = if r.toInt = 0 then xH ts G' else hBad r.toInt pl)) ∧ ((r.toInt ≠ 0 ∨ (G 1 3).toInt ≠ 0))) (fun (G' : gS) => (xW K a G')) := by
  unfold KiZ
  refine gz_ofW (cc := cX8_takeOfNumbers) (lv := [(0, .ref (a 4)), (1, .ref (zf 12))]) (by decide) rfl (Nat.le_of_ble_eq_true rfl) rfl ?_
  intro p e s m args below meth c A Q hA hQ hZ F hr hnm
  have hts := F.2.2.2.2.1
  have w_0 : (Cond.fieldLink RX8 9 "QuietCut$ShopReader" "tape" "LQuietCut$Tape;").before args s = true := hts _ (List.mem_of_getElem? (i := 1) rfl)
  have i_X8 : ∀ w ∈ u_ws RX8 TX8 7, w ∈ wsX8_takeOfNumbers := fun _ h => List.mem_cons_of_mem _ (List.mem_append_left _ (List.mem_append_left _ (List.mem_append_right _ h)))
  have w_1 : (Cond.fieldLink RX8 77 "QuietCut$ShopReader" "numbers" "I").before args s = true := hts _ (List.mem_of_getElem? (i := 2) rfl)
  have w_2 : (Cond.fieldLink RX8 114 "QuietCut$Clause" "most" "I").before args s = true := hts _ (List.mem_of_getElem? (i := 3) rfl)
  have w_3 : (Cond.fieldLink RX8 42 "QuietCut$Tape" "kind" "I").before args s = true := hts _ (List.mem_of_getElem? (i := 5) rfl)
  have i_X10 : ∀ w ∈ u_ws RX10 TX10 6, w ∈ wsX8_takeOfNumbers := fun _ h => List.mem_cons_of_mem _ (List.mem_append_left _ (List.mem_append_right _ h))
  have w_4 : (Cond.fieldLink RX8 15 "QuietCut$ShopReader" "target" "LQuietCut$Shop;").before args s = true := hts _ (List.mem_of_getElem? (i := 4) rfl)
  have w_5 : (Cond.fieldLink RX8 80 "QuietCut$Clause" "slot" "I").before args s = true := hts _ (List.mem_of_getElem? (i := 6) rfl)
  have w_6 : (Cond.fieldLink RX8 125 "QuietCut$Tape" "value" "I").before args s = true := hts _ (List.mem_of_getElem? (i := 7) rfl)
  have w_7 : (Cond.fieldLink RX8 128 "QuietCut$ShopReader" "latest" "I").before args s = true := hts _ (List.mem_of_getElem? (i := 8) rfl)
  have b1 : (0 : Int) ≤ (G 4 5).toInt ∧ (G 4 5).toInt ≤ 6 := hI 4 5
  have b2 : ((-1) : Int) ≤ (G 4 4).toInt ∧ (G 4 4).toInt ≤ 12 := hI 4 4
  have b3 : (0 : Int) ≤ (G 4 2).toInt ∧ (G 4 2).toInt ≤ 1001 := hI 4 2
  have b4 : (0 : Int) ≤ (G 4 6).toInt ∧ (G 4 6).toInt ≤ 9999 := hI 4 6
  refine g_aload_n F 1 dX8_takeOfNumbers_0 rfl rfl ?_
  refine uz_call0Vi (k := 0) (n := 0) (b := (zf 12)) (As := []) (st := []) F xZ_st hZ (fun sz => S_X1_manySlot_c2 l D zf sz) (cwV 0 hts gX8_takeOfNumbers_X1_manySlot rfl rfl rfl (by decide +kernel) ⟨Nat.le_of_ble_eq_true rfl, Nat.le_of_ble_eq_true rfl⟩) (hZ.2.2.2.2.2 2 (by decide)).1 rfl (Nat.le_of_ble_eq_true rfl) ⟨Nat.zero_le _, Nat.zero_le _⟩ dX8_takeOfNumbers_1 (fun r5 _ hw6 => ?_)
  have hw6 : r5.toInt = -1 := hw6
  refine g_fold (-1) ((ti_eq rfl (show ((-1) : Int32).toInt = (-1) from rfl)).mpr hw6) ?_
  refine g_iconst F (-1) dX8_takeOfNumbers_4 (by decide) ?_
  refine v_icmp_eq F 12 dX8_takeOfNumbers_5 (by decide) (-1) (-1) rfl rfl (fun c7 => ?_) (fun c7 => absurd c7 (by decide))
  refine g_iconst F 0 dX8_takeOfNumbers_12 (by decide) ?_
  refine g_istore_n F [(2, .int 0), (0, .ref (a 4)), (1, .ref (zf 12))] dX8_takeOfNumbers_13 rfl (by decide) rfl ?_
  refine g_aload_n F 1 dX8_takeOfNumbers_14 rfl rfl ?_
  refine xg_4_0 F i_X8 w_0 dX8_takeOfNumbers_15 ?_
  refine g_bipush F 59 dX8_takeOfNumbers_18 (by decide) ?_
  refine u_callVi (k := 0) (n := 0) (b := a 1) (As := [.int 59]) (st := []) F (fun sz => S_X10_isSign l D K a G 59 59 rfl hI sz) (cwV 1 hts gX8_takeOfNumbers_X10_isSign rfl rfl rfl (by decide +kernel) ⟨Nat.le_of_ble_eq_true rfl, Nat.le_of_ble_eq_true rfl⟩) rfl 1 xc_1 rfl (Nat.le_of_ble_eq_true rfl) ⟨Nat.zero_le _, Nat.zero_le _⟩ dX8_takeOfNumbers_20 (fun r8 _ hw9 => ?_)
  rcases hw9 with ⟨rfl, q11⟩ | ⟨rfl, q12⟩
  · have b13 : (0 : Int) ≤ (G 1 3).toInt ∧ (G 1 3).toInt ≤ 4 := hI 1 3
    have q11 : ((G 1 3).toInt = 3 ∧ (G 1 5).toInt = (59 : Int)) := q11
    refine v_if_eq F 76 dX8_takeOfNumbers_23 (by decide) 1 rfl (fun c14 => absurd c14 (by decide)) (fun c14 => ?_)
    refine g_iload_n F 0 dX8_takeOfNumbers_26 rfl rfl ?_
    refine v_if_eq F 40 dX8_takeOfNumbers_27 (by decide) 0 rfl (fun c15 => ?_) (fun c15 => absurd c15 (by decide))
    refine g_aload_n F 1 dX8_takeOfNumbers_40 rfl rfl ?_
    refine xg_4_5 F i_X8 w_1 dX8_takeOfNumbers_41 (G 4 5) (rfl) ?_
    refine g_aload_n F 2 dX8_takeOfNumbers_44 rfl rfl ?_
    refine uz_getf F (show va_OF "QuietCut$Clause" "most" "I" (.int 1) (zf 12) A s s.heap from (hZ.2.2.2.2.2 2 (by decide)).2.2.2.1) w_2 dX8_takeOfNumbers_45 ?_
    refine v_icmp_ne F 76 dX8_takeOfNumbers_48 (by decide) (G 4 5).toInt 1 rfl rfl (fun c16 => ?_) (fun c16 => ?_)
    · refine g_aload_n F 1 dX8_takeOfNumbers_76 rfl rfl ?_
      refine xg_4_0 F i_X8 w_0 dX8_takeOfNumbers_77 ?_
      refine xg_1_3 F i_X10 w_3 dX8_takeOfNumbers_80 (G 1 3) (rfl) ?_
      refine g_iconst F 2 dX8_takeOfNumbers_83 (by decide) ?_
      refine v_icmp_ne F 102 dX8_takeOfNumbers_84 (by decide) (G 1 3).toInt 2 rfl rfl (fun c17 => ?_) (fun c17 => ?_)
      · refine g_iconst F 1 dX8_takeOfNumbers_102 (by decide) ?_
        exact u_iret F hA hQ hr G (⟨hI, gu_un.rf, (by decide), (nb), (by show ((G 4 4).toInt = -1 ∨ (G 4 5).toInt ≤ 1 ∨ ((G 4 5).toInt ≤ 2 ∧ ((G 4 4).toInt = 3 ∨ (G 4 4).toInt = 4)) ∨ ((G 4 5).toInt ≤ 4 ∧ (G 4 4).toInt = 8) ∨ (G 4 4).toInt = 9); (first | omega | (simp only [Int32.reduceToInt, true_and, and_true, ne_eq, not_true_eq_false, false_and, or_false, false_or, true_or, or_true, false_implies] <;> omega))), (by show ((G 4 4).toInt = -1 ∨ (G 4 4).toInt = (G 4 4).toInt); (first | omega | (simp only [Int32.reduceToInt, true_and, and_true, ne_eq, not_true_eq_false, false_and, or_false, false_or, true_or, or_true, false_implies] <;> omega))), (by show ((G 4 2).toInt ≤ (G 4 2).toInt + 1); (first | omega | (simp only [Int32.reduceToInt, true_and, and_true, ne_eq, not_true_eq_false, false_and, or_false, false_or, true_or, or_true, false_implies] <;> omega))), (by have m9 : hMo 2 = 1 := (by decide); have l9 : hLo 2 = 1 := (by decide); have h9 : hHi 2 = 99 := (by decide); have s9 : hSl 2 = 2 := (by decide); exact xH_bad (f := 1) (by decide) (by decide) (fun ts pl ci => by rw [show (G 4 4).toInt = 2 by omega]; exact hO_n1 (by decide) (by decide) (by show ¬ (_ ∧ _ ∧ _); omega) (by omega))), (by show (1 ≠ 0 ∨ (G 1 3).toInt ≠ 0); (first | omega | (simp only [Int32.reduceToInt, true_and, and_true, ne_eq, not_true_eq_false, false_and, or_false, false_or, true_or, or_true, false_implies] <;> omega)))⟩) rfl rfl dX8_takeOfNumbers_103
      · refine g_iload_n F 0 dX8_takeOfNumbers_87 rfl rfl ?_
        refine v_if_ne F 104 dX8_takeOfNumbers_88 (by decide) 0 rfl (fun c18 => absurd c18 (by decide)) (fun c18 => ?_)
        refine g_aload_n F 1 dX8_takeOfNumbers_91 rfl rfl ?_
        refine xg_4_5 F i_X8 w_1 dX8_takeOfNumbers_92 (G 4 5) (rfl) ?_
        refine g_aload_n F 2 dX8_takeOfNumbers_95 rfl rfl ?_
        refine uz_getf F (show va_OF "QuietCut$Clause" "most" "I" (.int 1) (zf 12) A s s.heap from (hZ.2.2.2.2.2 2 (by decide)).2.2.2.1) w_2 dX8_takeOfNumbers_96 ?_
        refine v_icmp_ne F 104 dX8_takeOfNumbers_99 (by decide) (G 4 5).toInt 1 rfl rfl (fun c19 => ?_) (fun c19 => ?_)
        · refine g_aload_n F 1 dX8_takeOfNumbers_104 rfl rfl ?_
          refine g_aload_n F 2 dX8_takeOfNumbers_105 rfl rfl ?_
          refine uz_callVi (k := 0) (n := 0) (b := a 4) (As := [.ref (zf 12)]) (st := []) F xZ_st hZ (fun sz => S_X8_isInBounds_c2 l D K a G zf  hI sz) (cwV 1 hts gX8_takeOfNumbers_X8_isInBounds rfl rfl rfl (by decide +kernel) ⟨Nat.le_of_ble_eq_true rfl, Nat.le_of_ble_eq_true rfl⟩) rfl 4 xc_4 rfl (Nat.le_of_ble_eq_true rfl) ⟨Nat.zero_le _, Nat.zero_le _⟩ dX8_takeOfNumbers_106 (fun r20 _ hw21 => ?_)
          have q23 : ((r20.toInt = 1 ∧ (1 ≤ (G 1 5).toInt ∧ (G 1 5).toInt ≤ 99 ∧ ((G 4 5).toInt ≠ 1 ∨ ((G 4 6).toInt ≤ (G 1 5).toInt ∧ (G 1 5).toInt ≤ (G 4 6).toInt + 3)))) ∨ (r20.toInt = 0 ∧ ¬ (1 ≤ (G 1 5).toInt ∧ (G 1 5).toInt ≤ 99 ∧ ((G 4 5).toInt ≠ 1 ∨ ((G 4 6).toInt ≤ (G 1 5).toInt ∧ (G 1 5).toInt ≤ (G 4 6).toInt + 3))))) := hw21.2
          have rg24 := hw21.1
          clear hw21
          refine v_if_ne F 114 dX8_takeOfNumbers_109 (by decide) r20.toInt rfl (fun c25 => ?_) (fun c25 => ?_)
          · refine g_aload_n F 1 dX8_takeOfNumbers_114 rfl rfl ?_
            refine xg_4_5 F i_X8 w_1 dX8_takeOfNumbers_115 (G 4 5) (rfl) ?_
            refine g_aload_n F 2 dX8_takeOfNumbers_118 rfl rfl ?_
            refine uz_getf F (show va_OF "QuietCut$Clause" "most" "I" (.int 1) (zf 12) A s s.heap from (hZ.2.2.2.2.2 2 (by decide)).2.2.2.1) w_2 dX8_takeOfNumbers_119 ?_
            refine v_icmp_ne F 127 dX8_takeOfNumbers_122 (by decide) (G 4 5).toInt 1 rfl rfl (fun c26 => ?_) (fun c26 => ?_)
            · refine g_aload_n F 1 dX8_takeOfNumbers_127 rfl rfl ?_
              refine xg_4_1 F i_X8 w_4 dX8_takeOfNumbers_128 ?_
              refine g_aload_n F 2 dX8_takeOfNumbers_131 rfl rfl ?_
              refine uz_getf F (show va_OF "QuietCut$Clause" "slot" "I" (.int 2) (zf 12) A s s.heap from (hZ.2.2.2.2.2 2 (by decide)).2.2.1) w_5 dX8_takeOfNumbers_132 ?_
              refine g_aload_n F 1 dX8_takeOfNumbers_135 rfl rfl ?_
              refine xg_4_5 F i_X8 w_1 dX8_takeOfNumbers_136 (G 4 5) (rfl) ?_
              refine u_iadd F dX8_takeOfNumbers_139 2 (G 4 5).toInt rfl rfl (by omega) (by omega) (fun y27 ey27 => ?_)
              refine g_aload_n F 1 dX8_takeOfNumbers_140 rfl rfl ?_
              refine xg_4_0 F i_X8 w_0 dX8_takeOfNumbers_141 ?_
              refine xg_1_5 F i_X10 w_6 dX8_takeOfNumbers_144 (G 1 5) (rfl) ?_
              refine u_callVv (k := 0) (n := 0) (b := a 3) (As := [.int y27, .int (G 1 5)]) (st := []) F (fun sz => S_X7_put_3 l D K a G y27 y27.toInt (G 1 5) (G 1 5).toInt rfl (by omega) rfl hI sz) (cwV 2 hts gX8_takeOfNumbers_X7_put rfl rfl rfl (by decide +kernel) ⟨Nat.le_of_ble_eq_true rfl, Nat.le_of_ble_eq_true rfl⟩) rfl 3 xc_3 rfl (Nat.le_of_ble_eq_true rfl) ⟨Nat.zero_le _, Nat.zero_le _⟩ dX8_takeOfNumbers_147 (fun G30 hw29 => ?_)
              have hI31 : xI G30 := hw29.1
              have hU32 : gu_un xcd [1900] G G30 := hw29.2.1
              have hp33 := hw29.2.2
              have q34 : (G30 19 = upd (G 19) (y27.toInt).toNat (G 1 5)) := hp33
              clear hp33 hw29
              refine g_aload_n F 1 dX8_takeOfNumbers_150 rfl rfl ?_
              refine g_dup F dX8_takeOfNumbers_151 rfl ?_
              refine xg_4_5 F i_X8 w_1 dX8_takeOfNumbers_152 (G 4 5) (hU32 4 5 (by decide)) ?_
              refine g_iconst F 1 dX8_takeOfNumbers_155 (by decide) ?_
              refine u_iadd F dX8_takeOfNumbers_156 (G 4 5).toInt 1 rfl rfl (by omega) (by omega) (fun y35 ey35 => ?_)
              refine xp_4_5 F i_X8 w_1 dX8_takeOfNumbers_157 ?_
              refine g_aload_n F 1 dX8_takeOfNumbers_160 rfl rfl ?_
              refine g_aload_n F 1 dX8_takeOfNumbers_161 rfl rfl ?_
              refine xg_4_0 F i_X8 w_0 dX8_takeOfNumbers_162 ?_
              refine xg_1_5 F i_X10 w_6 dX8_takeOfNumbers_165 (G 1 5) (hU32 1 5 (by decide)) ?_
              refine xp_4_6 F i_X8 w_7 dX8_takeOfNumbers_168 ?_
              refine g_iconst F 0 dX8_takeOfNumbers_171 (by decide) ?_
              exact u_iret F hA hQ hr (gu_up (gu_up G30 4 5 y35) 4 6 (G 1 5)) (⟨(gu_I.up (j := 4) (k := 6) (v := (G 1 5)) (gu_I.up (j := 4) (k := 5) (v := y35) hI31 (show (0 : Int) ≤ Int32.toInt y35 by omega) (show Int32.toInt y35 ≤ 6 by omega)) (show (0 : Int) ≤ Int32.toInt (G 1 5) by omega) (show Int32.toInt (G 1 5) ≤ 9999 by omega)), (gu_un.up (j := 4) (k := 6) (v := (G 1 5)) (gu_un.up (j := 4) (k := 5) (v := y35) (gu_un.tr gu_un.rf (gu_un.su hU32 rfl)) (show (406 : Nat) ∈ ([403, 405, 406, 407, 1900] : List Nat) by decide)) (show (407 : Nat) ∈ ([403, 405, 406, 407, 1900] : List Nat) by decide)), (by decide), ((xNb.un (G := G30) (by rw [q34]; rcases (show y27.toInt = 2 by omega) with h9 <;> (rw [h9]; first | exact xNb.put nb (show (1 : Int) ≤ Int32.toInt (G 1 5) by omega) (show Int32.toInt (G 1 5) ≤ 99 by omega))) (show gu_un xcd [406, 407] G30 (gu_up (gu_up G30 4 5 y35) 4 6 (G 1 5)) from (gu_un.up (j := 4) (k := 6) (v := (G 1 5)) (gu_un.up (j := 4) (k := 5) (v := y35) gu_un.rf (show (406 : Nat) ∈ ([406, 407] : List Nat) by decide)) (show (407 : Nat) ∈ ([406, 407] : List Nat) by decide))) rfl)), (by show (((gu_up (gu_up G30 4 5 y35) 4 6 (G 1 5)) 4 4).toInt = -1 ∨ ((gu_up (gu_up G30 4 5 y35) 4 6 (G 1 5)) 4 5).toInt ≤ 1 ∨ (((gu_up (gu_up G30 4 5 y35) 4 6 (G 1 5)) 4 5).toInt ≤ 2 ∧ (((gu_up (gu_up G30 4 5 y35) 4 6 (G 1 5)) 4 4).toInt = 3 ∨ ((gu_up (gu_up G30 4 5 y35) 4 6 (G 1 5)) 4 4).toInt = 4)) ∨ (((gu_up (gu_up G30 4 5 y35) 4 6 (G 1 5)) 4 5).toInt ≤ 4 ∧ ((gu_up (gu_up G30 4 5 y35) 4 6 (G 1 5)) 4 4).toInt = 8) ∨ ((gu_up (gu_up G30 4 5 y35) 4 6 (G 1 5)) 4 4).toInt = 9); have e9_4_4 : (gu_up (gu_up G30 4 5 y35) 4 6 (G 1 5)) 4 4 = (G 4 4) := hU32 4 4 (by decide); have e9_4_5 : (gu_up (gu_up G30 4 5 y35) 4 6 (G 1 5)) 4 5 = y35 := rfl; (try simp only [e9_4_4, e9_4_5, true_and, and_true]) <;> (first | omega | (simp only [Int32.reduceToInt, true_and, and_true, ne_eq, not_true_eq_false, false_and, or_false, false_or, true_or, or_true, false_implies] <;> omega))), (by show (((gu_up (gu_up G30 4 5 y35) 4 6 (G 1 5)) 4 4).toInt = -1 ∨ ((gu_up (gu_up G30 4 5 y35) 4 6 (G 1 5)) 4 4).toInt = (G 4 4).toInt); have e9_4_4 : (gu_up (gu_up G30 4 5 y35) 4 6 (G 1 5)) 4 4 = (G 4 4) := hU32 4 4 (by decide); (try simp only [e9_4_4, true_and, and_true]) <;> (first | omega | (simp only [Int32.reduceToInt, true_and, and_true, ne_eq, not_true_eq_false, false_and, or_false, false_or, true_or, or_true, false_implies] <;> omega))), (by show (((gu_up (gu_up G30 4 5 y35) 4 6 (G 1 5)) 4 2).toInt ≤ (G 4 2).toInt + 1); have e9_4_2 : (gu_up (gu_up G30 4 5 y35) 4 6 (G 1 5)) 4 2 = (G 4 2) := hU32 4 2 (by decide); (try simp only [e9_4_2, true_and, and_true]) <;> (first | omega | (simp only [Int32.reduceToInt, true_and, and_true, ne_eq, not_true_eq_false, false_and, or_false, false_or, true_or, or_true, false_implies] <;> omega))), (by have m9 : hMo 2 = 1 := (by decide); have l9 : hLo 2 = 1 := (by decide); have h9 : hHi 2 = 99 := (by decide); have s9 : hSl 2 = 2 := (by decide); exact xH_nP (c := 2) (by decide) (show (G 4 4).toInt = 2 by omega) (by decide) (by decide) (by omega) (by show ¬ (_ ∨ _ ∨ _); omega) (by omega) (show (gu_up (gu_up G30 4 5 y35) 4 6 (G 1 5)) 4 4 = (G 4 4) from hU32 4 4 (by decide)) (show ((gu_up (gu_up G30 4 5 y35) 4 6 (G 1 5)) 4 5).toInt = (G 4 5).toInt + 1 by rw [show (gu_up (gu_up G30 4 5 y35) 4 6 (G 1 5)) 4 5 = y35 from rfl] <;> first | rfl | omega) (show ((gu_up (gu_up G30 4 5 y35) 4 6 (G 1 5)) 4 6).toInt = (G 1 5).toInt by rw [show (gu_up (gu_up G30 4 5 y35) 4 6 (G 1 5)) 4 6 = (G 1 5) from rfl] <;> first | rfl | omega) (show (gu_up (gu_up G30 4 5 y35) 4 6 (G 1 5)) 4 2 = (G 4 2) from hU32 4 2 (by decide)) (show (gu_up (gu_up G30 4 5 y35) 4 6 (G 1 5)) 4 3 = (G 4 3) from hU32 4 3 (by decide)) (x := (G 1 5)) rfl (q := y27.toInt) (by omega) (show (gu_up (gu_up G30 4 5 y35) 4 6 (G 1 5)) 19 = upd (G 19) (y27.toInt).toNat (G 1 5) from (show (gu_up (gu_up G30 4 5 y35) 4 6 (G 1 5)) 19 = G30 19 from funext fun k_ => (show gu_un xcd [406, 407] G30 (gu_up (gu_up G30 4 5 y35) 4 6 (G 1 5)) from (gu_un.up (j := 4) (k := 6) (v := (G 1 5)) (gu_un.up (j := 4) (k := 5) (v := y35) gu_un.rf (show (406 : Nat) ∈ ([406, 407] : List Nat) by decide)) (show (407 : Nat) ∈ ([406, 407] : List Nat) by decide))) 19 k_ (by simp [xcd])).trans q34) (xSg_un (show gu_un xcd [406, 407, 1900] G (gu_up (gu_up G30 4 5 y35) 4 6 (G 1 5)) from (gu_un.up (j := 4) (k := 6) (v := (G 1 5)) (gu_un.up (j := 4) (k := 5) (v := y35) (gu_un.tr gu_un.rf (gu_un.su hU32 rfl)) (show (406 : Nat) ∈ ([406, 407, 1900] : List Nat) by decide)) (show (407 : Nat) ∈ ([406, 407, 1900] : List Nat) by decide))) rfl rfl rfl)), (by show (0 ≠ 0 ∨ (G 1 3).toInt ≠ 0); (first | omega | (simp only [Int32.reduceToInt, true_and, and_true, ne_eq, not_true_eq_false, false_and, or_false, false_or, true_or, or_true, false_implies] <;> omega)))⟩) rfl rfl dX8_takeOfNumbers_172
            · refine g_iconst F 4 dX8_takeOfNumbers_125 (by decide) ?_
              exact u_iret F hA hQ hr G (⟨hI, gu_un.rf, (by decide), (nb), (by show ((G 4 4).toInt = -1 ∨ (G 4 5).toInt ≤ 1 ∨ ((G 4 5).toInt ≤ 2 ∧ ((G 4 4).toInt = 3 ∨ (G 4 4).toInt = 4)) ∨ ((G 4 5).toInt ≤ 4 ∧ (G 4 4).toInt = 8) ∨ (G 4 4).toInt = 9); (first | omega | (simp only [Int32.reduceToInt, true_and, and_true, ne_eq, not_true_eq_false, false_and, or_false, false_or, true_or, or_true, false_implies] <;> omega))), (by show ((G 4 4).toInt = -1 ∨ (G 4 4).toInt = (G 4 4).toInt); (first | omega | (simp only [Int32.reduceToInt, true_and, and_true, ne_eq, not_true_eq_false, false_and, or_false, false_or, true_or, or_true, false_implies] <;> omega))), (by show ((G 4 2).toInt ≤ (G 4 2).toInt + 1); (first | omega | (simp only [Int32.reduceToInt, true_and, and_true, ne_eq, not_true_eq_false, false_and, or_false, false_or, true_or, or_true, false_implies] <;> omega))), (by have m9 : hMo 2 = 1 := (by decide); have l9 : hLo 2 = 1 := (by decide); have h9 : hHi 2 = 99 := (by decide); have s9 : hSl 2 = 2 := (by decide); exact xH_bad (f := 4) (by decide) (by decide) (fun ts pl ci => by rw [show (G 4 4).toInt = 2 by omega]; exact hO_n4 (by decide) (by decide) (by omega) (by omega) (by show ¬ (_ ∨ _ ∨ _); omega) (by omega))), (by show (4 ≠ 0 ∨ (G 1 3).toInt ≠ 0); (first | omega | (simp only [Int32.reduceToInt, true_and, and_true, ne_eq, not_true_eq_false, false_and, or_false, false_or, true_or, or_true, false_implies] <;> omega)))⟩) rfl rfl dX8_takeOfNumbers_126
          · refine g_iconst F 2 dX8_takeOfNumbers_112 (by decide) ?_
            exact u_iret F hA hQ hr G (⟨hI, gu_un.rf, (by decide), (nb), (by show ((G 4 4).toInt = -1 ∨ (G 4 5).toInt ≤ 1 ∨ ((G 4 5).toInt ≤ 2 ∧ ((G 4 4).toInt = 3 ∨ (G 4 4).toInt = 4)) ∨ ((G 4 5).toInt ≤ 4 ∧ (G 4 4).toInt = 8) ∨ (G 4 4).toInt = 9); (first | omega | (simp only [Int32.reduceToInt, true_and, and_true, ne_eq, not_true_eq_false, false_and, or_false, false_or, true_or, or_true, false_implies] <;> omega))), (by show ((G 4 4).toInt = -1 ∨ (G 4 4).toInt = (G 4 4).toInt); (first | omega | (simp only [Int32.reduceToInt, true_and, and_true, ne_eq, not_true_eq_false, false_and, or_false, false_or, true_or, or_true, false_implies] <;> omega))), (by show ((G 4 2).toInt ≤ (G 4 2).toInt + 1); (first | omega | (simp only [Int32.reduceToInt, true_and, and_true, ne_eq, not_true_eq_false, false_and, or_false, false_or, true_or, or_true, false_implies] <;> omega))), (by have m9 : hMo 2 = 1 := (by decide); have l9 : hLo 2 = 1 := (by decide); have h9 : hHi 2 = 99 := (by decide); have s9 : hSl 2 = 2 := (by decide); exact xH_bad (f := 2) (by decide) (by decide) (fun ts pl ci => by rw [show (G 4 4).toInt = 2 by omega]; exact hO_n2 (by decide) (by decide) (by omega) (by omega) (by show _ ∨ _ ∨ _; omega))), (by show (2 ≠ 0 ∨ (G 1 3).toInt ≠ 0); (first | omega | (simp only [Int32.reduceToInt, true_and, and_true, ne_eq, not_true_eq_false, false_and, or_false, false_or, true_or, or_true, false_implies] <;> omega)))⟩) rfl rfl dX8_takeOfNumbers_113
        · refine g_iconst F 1 dX8_takeOfNumbers_102 (by decide) ?_
          exact u_iret F hA hQ hr G (⟨hI, gu_un.rf, (by decide), (nb), (by show ((G 4 4).toInt = -1 ∨ (G 4 5).toInt ≤ 1 ∨ ((G 4 5).toInt ≤ 2 ∧ ((G 4 4).toInt = 3 ∨ (G 4 4).toInt = 4)) ∨ ((G 4 5).toInt ≤ 4 ∧ (G 4 4).toInt = 8) ∨ (G 4 4).toInt = 9); (first | omega | (simp only [Int32.reduceToInt, true_and, and_true, ne_eq, not_true_eq_false, false_and, or_false, false_or, true_or, or_true, false_implies] <;> omega))), (by show ((G 4 4).toInt = -1 ∨ (G 4 4).toInt = (G 4 4).toInt); (first | omega | (simp only [Int32.reduceToInt, true_and, and_true, ne_eq, not_true_eq_false, false_and, or_false, false_or, true_or, or_true, false_implies] <;> omega))), (by show ((G 4 2).toInt ≤ (G 4 2).toInt + 1); (first | omega | (simp only [Int32.reduceToInt, true_and, and_true, ne_eq, not_true_eq_false, false_and, or_false, false_or, true_or, or_true, false_implies] <;> omega))), (by have m9 : hMo 2 = 1 := (by decide); have l9 : hLo 2 = 1 := (by decide); have h9 : hHi 2 = 99 := (by decide); have s9 : hSl 2 = 2 := (by decide); exact xH_bad (f := 1) (by decide) (by decide) (fun ts pl ci => by rw [show (G 4 4).toInt = 2 by omega]; exact hO_n1 (by decide) (by decide) (by show ¬ (_ ∧ _ ∧ _); omega) (by omega))), (by show (1 ≠ 0 ∨ (G 1 3).toInt ≠ 0); (first | omega | (simp only [Int32.reduceToInt, true_and, and_true, ne_eq, not_true_eq_false, false_and, or_false, false_or, true_or, or_true, false_implies] <;> omega)))⟩) rfl rfl dX8_takeOfNumbers_103
    · refine g_iload_n F 0 dX8_takeOfNumbers_51 rfl rfl ?_
      refine v_if_eq F 70 dX8_takeOfNumbers_52 (by decide) 0 rfl (fun c36 => ?_) (fun c36 => absurd c36 (by decide))
      refine g_aload_n F 1 dX8_takeOfNumbers_70 rfl rfl ?_
      refine u_callVv (k := 0) (n := 0) (b := a 4) (As := []) (st := []) F (fun sz => S_X8_closeClause l D K a G  (by (first | omega | (simp only [Int32.reduceToInt, true_and, and_true, ne_eq, not_true_eq_false, false_and, or_false, false_or, true_or, or_true, false_implies] <;> omega))) hI sz) (cwV 0 hts gX8_takeOfNumbers_X8_closeClause rfl rfl rfl (by decide +kernel) ⟨Nat.le_of_ble_eq_true rfl, Nat.le_of_ble_eq_true rfl⟩) rfl 4 xc_4 rfl (Nat.le_of_ble_eq_true rfl) ⟨Nat.zero_le _, Nat.zero_le _⟩ dX8_takeOfNumbers_71 (fun G39 hw38 => ?_)
      have hI40 : xI G39 := hw38.1
      have hU41 : gu_un xcd [403, 405] G G39 := hw38.2.1
      have hp42 := hw38.2.2
      have b43 : ((-1) : Int) ≤ (G39 4 4).toInt ∧ (G39 4 4).toInt ≤ 12 := hI40 4 4
      have q44 : ((G39 4 4).toInt = -1) := hp42.1
      have b45 : (0 : Int) ≤ (G39 4 2).toInt ∧ (G39 4 2).toInt ≤ 1001 := hI40 4 2
      have q46 : ((G39 4 2).toInt = (G 4 2).toInt + 1) := hp42.2
      clear hp42 hw38
      refine g_iconst F 0 dX8_takeOfNumbers_74 (by decide) ?_
      exact u_iret F hA hQ hr G39 (⟨hI40, (gu_un.tr gu_un.rf (gu_un.su hU41 rfl)), (by decide), ((xNb.un nb (show gu_un xcd [403, 405] G G39 from (gu_un.tr gu_un.rf (gu_un.su hU41 rfl))) rfl)), (by show ((G39 4 4).toInt = -1 ∨ (G39 4 5).toInt ≤ 1 ∨ ((G39 4 5).toInt ≤ 2 ∧ ((G39 4 4).toInt = 3 ∨ (G39 4 4).toInt = 4)) ∨ ((G39 4 5).toInt ≤ 4 ∧ (G39 4 4).toInt = 8) ∨ (G39 4 4).toInt = 9); have e9_4_5 : G39 4 5 = (G 4 5) := hU41 4 5 (by decide); (try simp only [e9_4_5, true_and, and_true]) <;> (first | omega | (simp only [Int32.reduceToInt, true_and, and_true, ne_eq, not_true_eq_false, false_and, or_false, false_or, true_or, or_true, false_implies] <;> omega))), (by show ((G39 4 4).toInt = -1 ∨ (G39 4 4).toInt = (G 4 4).toInt); (first | omega | (simp only [Int32.reduceToInt, true_and, and_true, ne_eq, not_true_eq_false, false_and, or_false, false_or, true_or, or_true, false_implies] <;> omega))), (by show ((G39 4 2).toInt ≤ (G 4 2).toInt + 1); (first | omega | (simp only [Int32.reduceToInt, true_and, and_true, ne_eq, not_true_eq_false, false_and, or_false, false_or, true_or, or_true, false_implies] <;> omega))), (by have m9 : hMo 2 = 1 := (by decide); have l9 : hLo 2 = 1 := (by decide); have h9 : hHi 2 = 99 := (by decide); have s9 : hSl 2 = 2 := (by decide); exact xH_nE (c := 2) (by decide) (show (G 4 4).toInt = 2 by omega) (by decide) (by decide) ⟨by omega, by omega, by omega⟩ (show (G39 4 4).toInt = -1 by rw [show G39 4 4 = (G39 4 4) from rfl] <;> first | rfl | omega) (show G39 4 5 = (G 4 5) from hU41 4 5 (by decide)) (show G39 4 6 = (G 4 6) from hU41 4 6 (by decide)) (show (G39 4 2).toInt = (G 4 2).toInt + 1 by rw [show G39 4 2 = (G39 4 2) from rfl] <;> first | rfl | omega) (show G39 4 3 = (G 4 3) from hU41 4 3 (by decide)) (by rw [if_neg (by decide), if_neg (by decide)]; exact (show G39 19 = G 19 from funext fun k_ => hU41 19 k_ (show (1900 : Nat) ∉ ([403, 405] : List Nat) by decide))) (xSg_un (show gu_un xcd [403, 405] G G39 from (gu_un.tr gu_un.rf (gu_un.su hU41 rfl))) rfl rfl rfl)), (by show (0 ≠ 0 ∨ (G 1 3).toInt ≠ 0); (first | omega | (simp only [Int32.reduceToInt, true_and, and_true, ne_eq, not_true_eq_false, false_and, or_false, false_or, true_or, or_true, false_implies] <;> omega)))⟩) rfl rfl dX8_takeOfNumbers_75
  · have b47 : (0 : Int) ≤ (G 1 3).toInt ∧ (G 1 3).toInt ≤ 4 := hI 1 3
    have q12 : ((G 1 3).toInt ≠ 3 ∨ (G 1 5).toInt ≠ (59 : Int)) := q12
    refine v_if_eq F 76 dX8_takeOfNumbers_23 (by decide) 0 rfl (fun c48 => ?_) (fun c48 => absurd c48 (by decide))
    refine g_aload_n F 1 dX8_takeOfNumbers_76 rfl rfl ?_
    refine xg_4_0 F i_X8 w_0 dX8_takeOfNumbers_77 ?_
    refine xg_1_3 F i_X10 w_3 dX8_takeOfNumbers_80 (G 1 3) (rfl) ?_
    refine g_iconst F 2 dX8_takeOfNumbers_83 (by decide) ?_
    refine v_icmp_ne F 102 dX8_takeOfNumbers_84 (by decide) (G 1 3).toInt 2 rfl rfl (fun c49 => ?_) (fun c49 => ?_)
    · refine g_iconst F 1 dX8_takeOfNumbers_102 (by decide) ?_
      exact u_iret F hA hQ hr G (⟨hI, gu_un.rf, (by decide), (nb), (by show ((G 4 4).toInt = -1 ∨ (G 4 5).toInt ≤ 1 ∨ ((G 4 5).toInt ≤ 2 ∧ ((G 4 4).toInt = 3 ∨ (G 4 4).toInt = 4)) ∨ ((G 4 5).toInt ≤ 4 ∧ (G 4 4).toInt = 8) ∨ (G 4 4).toInt = 9); (first | omega | (simp only [Int32.reduceToInt, true_and, and_true, ne_eq, not_true_eq_false, false_and, or_false, false_or, true_or, or_true, false_implies] <;> omega))), (by show ((G 4 4).toInt = -1 ∨ (G 4 4).toInt = (G 4 4).toInt); (first | omega | (simp only [Int32.reduceToInt, true_and, and_true, ne_eq, not_true_eq_false, false_and, or_false, false_or, true_or, or_true, false_implies] <;> omega))), (by show ((G 4 2).toInt ≤ (G 4 2).toInt + 1); (first | omega | (simp only [Int32.reduceToInt, true_and, and_true, ne_eq, not_true_eq_false, false_and, or_false, false_or, true_or, or_true, false_implies] <;> omega))), (by have m9 : hMo 2 = 1 := (by decide); have l9 : hLo 2 = 1 := (by decide); have h9 : hHi 2 = 99 := (by decide); have s9 : hSl 2 = 2 := (by decide); exact xH_bad (f := 1) (by decide) (by decide) (fun ts pl ci => by rw [show (G 4 4).toInt = 2 by omega]; exact hO_n1 (by decide) (by decide) (by show ¬ (_ ∧ _ ∧ _); omega) (by omega))), (by show (1 ≠ 0 ∨ (G 1 3).toInt ≠ 0); (first | omega | (simp only [Int32.reduceToInt, true_and, and_true, ne_eq, not_true_eq_false, false_and, or_false, false_or, true_or, or_true, false_implies] <;> omega)))⟩) rfl rfl dX8_takeOfNumbers_103
    · refine g_iload_n F 0 dX8_takeOfNumbers_87 rfl rfl ?_
      refine v_if_ne F 104 dX8_takeOfNumbers_88 (by decide) 0 rfl (fun c50 => absurd c50 (by decide)) (fun c50 => ?_)
      refine g_aload_n F 1 dX8_takeOfNumbers_91 rfl rfl ?_
      refine xg_4_5 F i_X8 w_1 dX8_takeOfNumbers_92 (G 4 5) (rfl) ?_
      refine g_aload_n F 2 dX8_takeOfNumbers_95 rfl rfl ?_
      refine uz_getf F (show va_OF "QuietCut$Clause" "most" "I" (.int 1) (zf 12) A s s.heap from (hZ.2.2.2.2.2 2 (by decide)).2.2.2.1) w_2 dX8_takeOfNumbers_96 ?_
      refine v_icmp_ne F 104 dX8_takeOfNumbers_99 (by decide) (G 4 5).toInt 1 rfl rfl (fun c51 => ?_) (fun c51 => ?_)
      · refine g_aload_n F 1 dX8_takeOfNumbers_104 rfl rfl ?_
        refine g_aload_n F 2 dX8_takeOfNumbers_105 rfl rfl ?_
        refine uz_callVi (k := 0) (n := 0) (b := a 4) (As := [.ref (zf 12)]) (st := []) F xZ_st hZ (fun sz => S_X8_isInBounds_c2 l D K a G zf  hI sz) (cwV 1 hts gX8_takeOfNumbers_X8_isInBounds rfl rfl rfl (by decide +kernel) ⟨Nat.le_of_ble_eq_true rfl, Nat.le_of_ble_eq_true rfl⟩) rfl 4 xc_4 rfl (Nat.le_of_ble_eq_true rfl) ⟨Nat.zero_le _, Nat.zero_le _⟩ dX8_takeOfNumbers_106 (fun r52 _ hw53 => ?_)
        have q55 : ((r52.toInt = 1 ∧ (1 ≤ (G 1 5).toInt ∧ (G 1 5).toInt ≤ 99 ∧ ((G 4 5).toInt ≠ 1 ∨ ((G 4 6).toInt ≤ (G 1 5).toInt ∧ (G 1 5).toInt ≤ (G 4 6).toInt + 3)))) ∨ (r52.toInt = 0 ∧ ¬ (1 ≤ (G 1 5).toInt ∧ (G 1 5).toInt ≤ 99 ∧ ((G 4 5).toInt ≠ 1 ∨ ((G 4 6).toInt ≤ (G 1 5).toInt ∧ (G 1 5).toInt ≤ (G 4 6).toInt + 3))))) := hw53.2
        have rg56 := hw53.1
        clear hw53
        refine v_if_ne F 114 dX8_takeOfNumbers_109 (by decide) r52.toInt rfl (fun c57 => ?_) (fun c57 => ?_)
        · refine g_aload_n F 1 dX8_takeOfNumbers_114 rfl rfl ?_
          refine xg_4_5 F i_X8 w_1 dX8_takeOfNumbers_115 (G 4 5) (rfl) ?_
          refine g_aload_n F 2 dX8_takeOfNumbers_118 rfl rfl ?_
          refine uz_getf F (show va_OF "QuietCut$Clause" "most" "I" (.int 1) (zf 12) A s s.heap from (hZ.2.2.2.2.2 2 (by decide)).2.2.2.1) w_2 dX8_takeOfNumbers_119 ?_
          refine v_icmp_ne F 127 dX8_takeOfNumbers_122 (by decide) (G 4 5).toInt 1 rfl rfl (fun c58 => ?_) (fun c58 => ?_)
          · refine g_aload_n F 1 dX8_takeOfNumbers_127 rfl rfl ?_
            refine xg_4_1 F i_X8 w_4 dX8_takeOfNumbers_128 ?_
            refine g_aload_n F 2 dX8_takeOfNumbers_131 rfl rfl ?_
            refine uz_getf F (show va_OF "QuietCut$Clause" "slot" "I" (.int 2) (zf 12) A s s.heap from (hZ.2.2.2.2.2 2 (by decide)).2.2.1) w_5 dX8_takeOfNumbers_132 ?_
            refine g_aload_n F 1 dX8_takeOfNumbers_135 rfl rfl ?_
            refine xg_4_5 F i_X8 w_1 dX8_takeOfNumbers_136 (G 4 5) (rfl) ?_
            refine u_iadd F dX8_takeOfNumbers_139 2 (G 4 5).toInt rfl rfl (by omega) (by omega) (fun y59 ey59 => ?_)
            refine g_aload_n F 1 dX8_takeOfNumbers_140 rfl rfl ?_
            refine xg_4_0 F i_X8 w_0 dX8_takeOfNumbers_141 ?_
            refine xg_1_5 F i_X10 w_6 dX8_takeOfNumbers_144 (G 1 5) (rfl) ?_
            refine u_callVv (k := 0) (n := 0) (b := a 3) (As := [.int y59, .int (G 1 5)]) (st := []) F (fun sz => S_X7_put_3 l D K a G y59 y59.toInt (G 1 5) (G 1 5).toInt rfl (by omega) rfl hI sz) (cwV 2 hts gX8_takeOfNumbers_X7_put rfl rfl rfl (by decide +kernel) ⟨Nat.le_of_ble_eq_true rfl, Nat.le_of_ble_eq_true rfl⟩) rfl 3 xc_3 rfl (Nat.le_of_ble_eq_true rfl) ⟨Nat.zero_le _, Nat.zero_le _⟩ dX8_takeOfNumbers_147 (fun G62 hw61 => ?_)
            have hI63 : xI G62 := hw61.1
            have hU64 : gu_un xcd [1900] G G62 := hw61.2.1
            have hp65 := hw61.2.2
            have q66 : (G62 19 = upd (G 19) (y59.toInt).toNat (G 1 5)) := hp65
            clear hp65 hw61
            refine g_aload_n F 1 dX8_takeOfNumbers_150 rfl rfl ?_
            refine g_dup F dX8_takeOfNumbers_151 rfl ?_
            refine xg_4_5 F i_X8 w_1 dX8_takeOfNumbers_152 (G 4 5) (hU64 4 5 (by decide)) ?_
            refine g_iconst F 1 dX8_takeOfNumbers_155 (by decide) ?_
            refine u_iadd F dX8_takeOfNumbers_156 (G 4 5).toInt 1 rfl rfl (by omega) (by omega) (fun y67 ey67 => ?_)
            refine xp_4_5 F i_X8 w_1 dX8_takeOfNumbers_157 ?_
            refine g_aload_n F 1 dX8_takeOfNumbers_160 rfl rfl ?_
            refine g_aload_n F 1 dX8_takeOfNumbers_161 rfl rfl ?_
            refine xg_4_0 F i_X8 w_0 dX8_takeOfNumbers_162 ?_
            refine xg_1_5 F i_X10 w_6 dX8_takeOfNumbers_165 (G 1 5) (hU64 1 5 (by decide)) ?_
            refine xp_4_6 F i_X8 w_7 dX8_takeOfNumbers_168 ?_
            refine g_iconst F 0 dX8_takeOfNumbers_171 (by decide) ?_
            exact u_iret F hA hQ hr (gu_up (gu_up G62 4 5 y67) 4 6 (G 1 5)) (⟨(gu_I.up (j := 4) (k := 6) (v := (G 1 5)) (gu_I.up (j := 4) (k := 5) (v := y67) hI63 (show (0 : Int) ≤ Int32.toInt y67 by omega) (show Int32.toInt y67 ≤ 6 by omega)) (show (0 : Int) ≤ Int32.toInt (G 1 5) by omega) (show Int32.toInt (G 1 5) ≤ 9999 by omega)), (gu_un.up (j := 4) (k := 6) (v := (G 1 5)) (gu_un.up (j := 4) (k := 5) (v := y67) (gu_un.tr gu_un.rf (gu_un.su hU64 rfl)) (show (406 : Nat) ∈ ([403, 405, 406, 407, 1900] : List Nat) by decide)) (show (407 : Nat) ∈ ([403, 405, 406, 407, 1900] : List Nat) by decide)), (by decide), ((xNb.un (G := G62) (by rw [q66]; rcases (show y59.toInt = 2 by omega) with h9 <;> (rw [h9]; first | exact xNb.put nb (show (1 : Int) ≤ Int32.toInt (G 1 5) by omega) (show Int32.toInt (G 1 5) ≤ 99 by omega))) (show gu_un xcd [406, 407] G62 (gu_up (gu_up G62 4 5 y67) 4 6 (G 1 5)) from (gu_un.up (j := 4) (k := 6) (v := (G 1 5)) (gu_un.up (j := 4) (k := 5) (v := y67) gu_un.rf (show (406 : Nat) ∈ ([406, 407] : List Nat) by decide)) (show (407 : Nat) ∈ ([406, 407] : List Nat) by decide))) rfl)), (by show (((gu_up (gu_up G62 4 5 y67) 4 6 (G 1 5)) 4 4).toInt = -1 ∨ ((gu_up (gu_up G62 4 5 y67) 4 6 (G 1 5)) 4 5).toInt ≤ 1 ∨ (((gu_up (gu_up G62 4 5 y67) 4 6 (G 1 5)) 4 5).toInt ≤ 2 ∧ (((gu_up (gu_up G62 4 5 y67) 4 6 (G 1 5)) 4 4).toInt = 3 ∨ ((gu_up (gu_up G62 4 5 y67) 4 6 (G 1 5)) 4 4).toInt = 4)) ∨ (((gu_up (gu_up G62 4 5 y67) 4 6 (G 1 5)) 4 5).toInt ≤ 4 ∧ ((gu_up (gu_up G62 4 5 y67) 4 6 (G 1 5)) 4 4).toInt = 8) ∨ ((gu_up (gu_up G62 4 5 y67) 4 6 (G 1 5)) 4 4).toInt = 9); have e9_4_4 : (gu_up (gu_up G62 4 5 y67) 4 6 (G 1 5)) 4 4 = (G 4 4) := hU64 4 4 (by decide); have e9_4_5 : (gu_up (gu_up G62 4 5 y67) 4 6 (G 1 5)) 4 5 = y67 := rfl; (try simp only [e9_4_4, e9_4_5, true_and, and_true]) <;> (first | omega | (simp only [Int32.reduceToInt, true_and, and_true, ne_eq, not_true_eq_false, false_and, or_false, false_or, true_or, or_true, false_implies] <;> omega))), (by show (((gu_up (gu_up G62 4 5 y67) 4 6 (G 1 5)) 4 4).toInt = -1 ∨ ((gu_up (gu_up G62 4 5 y67) 4 6 (G 1 5)) 4 4).toInt = (G 4 4).toInt); have e9_4_4 : (gu_up (gu_up G62 4 5 y67) 4 6 (G 1 5)) 4 4 = (G 4 4) := hU64 4 4 (by decide); (try simp only [e9_4_4, true_and, and_true]) <;> (first | omega | (simp only [Int32.reduceToInt, true_and, and_true, ne_eq, not_true_eq_false, false_and, or_false, false_or, true_or, or_true, false_implies] <;> omega))), (by show (((gu_up (gu_up G62 4 5 y67) 4 6 (G 1 5)) 4 2).toInt ≤ (G 4 2).toInt + 1); have e9_4_2 : (gu_up (gu_up G62 4 5 y67) 4 6 (G 1 5)) 4 2 = (G 4 2) := hU64 4 2 (by decide); (try simp only [e9_4_2, true_and, and_true]) <;> (first | omega | (simp only [Int32.reduceToInt, true_and, and_true, ne_eq, not_true_eq_false, false_and, or_false, false_or, true_or, or_true, false_implies] <;> omega))), (by have m9 : hMo 2 = 1 := (by decide); have l9 : hLo 2 = 1 := (by decide); have h9 : hHi 2 = 99 := (by decide); have s9 : hSl 2 = 2 := (by decide); exact xH_nP (c := 2) (by decide) (show (G 4 4).toInt = 2 by omega) (by decide) (by decide) (by omega) (by show ¬ (_ ∨ _ ∨ _); omega) (by omega) (show (gu_up (gu_up G62 4 5 y67) 4 6 (G 1 5)) 4 4 = (G 4 4) from hU64 4 4 (by decide)) (show ((gu_up (gu_up G62 4 5 y67) 4 6 (G 1 5)) 4 5).toInt = (G 4 5).toInt + 1 by rw [show (gu_up (gu_up G62 4 5 y67) 4 6 (G 1 5)) 4 5 = y67 from rfl] <;> first | rfl | omega) (show ((gu_up (gu_up G62 4 5 y67) 4 6 (G 1 5)) 4 6).toInt = (G 1 5).toInt by rw [show (gu_up (gu_up G62 4 5 y67) 4 6 (G 1 5)) 4 6 = (G 1 5) from rfl] <;> first | rfl | omega) (show (gu_up (gu_up G62 4 5 y67) 4 6 (G 1 5)) 4 2 = (G 4 2) from hU64 4 2 (by decide)) (show (gu_up (gu_up G62 4 5 y67) 4 6 (G 1 5)) 4 3 = (G 4 3) from hU64 4 3 (by decide)) (x := (G 1 5)) rfl (q := y59.toInt) (by omega) (show (gu_up (gu_up G62 4 5 y67) 4 6 (G 1 5)) 19 = upd (G 19) (y59.toInt).toNat (G 1 5) from (show (gu_up (gu_up G62 4 5 y67) 4 6 (G 1 5)) 19 = G62 19 from funext fun k_ => (show gu_un xcd [406, 407] G62 (gu_up (gu_up G62 4 5 y67) 4 6 (G 1 5)) from (gu_un.up (j := 4) (k := 6) (v := (G 1 5)) (gu_un.up (j := 4) (k := 5) (v := y67) gu_un.rf (show (406 : Nat) ∈ ([406, 407] : List Nat) by decide)) (show (407 : Nat) ∈ ([406, 407] : List Nat) by decide))) 19 k_ (by simp [xcd])).trans q66) (xSg_un (show gu_un xcd [406, 407, 1900] G (gu_up (gu_up G62 4 5 y67) 4 6 (G 1 5)) from (gu_un.up (j := 4) (k := 6) (v := (G 1 5)) (gu_un.up (j := 4) (k := 5) (v := y67) (gu_un.tr gu_un.rf (gu_un.su hU64 rfl)) (show (406 : Nat) ∈ ([406, 407, 1900] : List Nat) by decide)) (show (407 : Nat) ∈ ([406, 407, 1900] : List Nat) by decide))) rfl rfl rfl)), (by show (0 ≠ 0 ∨ (G 1 3).toInt ≠ 0); (first | omega | (simp only [Int32.reduceToInt, true_and, and_true, ne_eq, not_true_eq_false, false_and, or_false, false_or, true_or, or_true, false_implies] <;> omega)))⟩) rfl rfl dX8_takeOfNumbers_172
          · refine g_iconst F 4 dX8_takeOfNumbers_125 (by decide) ?_
            exact u_iret F hA hQ hr G (⟨hI, gu_un.rf, (by decide), (nb), (by show ((G 4 4).toInt = -1 ∨ (G 4 5).toInt ≤ 1 ∨ ((G 4 5).toInt ≤ 2 ∧ ((G 4 4).toInt = 3 ∨ (G 4 4).toInt = 4)) ∨ ((G 4 5).toInt ≤ 4 ∧ (G 4 4).toInt = 8) ∨ (G 4 4).toInt = 9); (first | omega | (simp only [Int32.reduceToInt, true_and, and_true, ne_eq, not_true_eq_false, false_and, or_false, false_or, true_or, or_true, false_implies] <;> omega))), (by show ((G 4 4).toInt = -1 ∨ (G 4 4).toInt = (G 4 4).toInt); (first | omega | (simp only [Int32.reduceToInt, true_and, and_true, ne_eq, not_true_eq_false, false_and, or_false, false_or, true_or, or_true, false_implies] <;> omega))), (by show ((G 4 2).toInt ≤ (G 4 2).toInt + 1); (first | omega | (simp only [Int32.reduceToInt, true_and, and_true, ne_eq, not_true_eq_false, false_and, or_false, false_or, true_or, or_true, false_implies] <;> omega))), (by have m9 : hMo 2 = 1 := (by decide); have l9 : hLo 2 = 1 := (by decide); have h9 : hHi 2 = 99 := (by decide); have s9 : hSl 2 = 2 := (by decide); exact xH_bad (f := 4) (by decide) (by decide) (fun ts pl ci => by rw [show (G 4 4).toInt = 2 by omega]; exact hO_n4 (by decide) (by decide) (by omega) (by omega) (by show ¬ (_ ∨ _ ∨ _); omega) (by omega))), (by show (4 ≠ 0 ∨ (G 1 3).toInt ≠ 0); (first | omega | (simp only [Int32.reduceToInt, true_and, and_true, ne_eq, not_true_eq_false, false_and, or_false, false_or, true_or, or_true, false_implies] <;> omega)))⟩) rfl rfl dX8_takeOfNumbers_126
        · refine g_iconst F 2 dX8_takeOfNumbers_112 (by decide) ?_
          exact u_iret F hA hQ hr G (⟨hI, gu_un.rf, (by decide), (nb), (by show ((G 4 4).toInt = -1 ∨ (G 4 5).toInt ≤ 1 ∨ ((G 4 5).toInt ≤ 2 ∧ ((G 4 4).toInt = 3 ∨ (G 4 4).toInt = 4)) ∨ ((G 4 5).toInt ≤ 4 ∧ (G 4 4).toInt = 8) ∨ (G 4 4).toInt = 9); (first | omega | (simp only [Int32.reduceToInt, true_and, and_true, ne_eq, not_true_eq_false, false_and, or_false, false_or, true_or, or_true, false_implies] <;> omega))), (by show ((G 4 4).toInt = -1 ∨ (G 4 4).toInt = (G 4 4).toInt); (first | omega | (simp only [Int32.reduceToInt, true_and, and_true, ne_eq, not_true_eq_false, false_and, or_false, false_or, true_or, or_true, false_implies] <;> omega))), (by show ((G 4 2).toInt ≤ (G 4 2).toInt + 1); (first | omega | (simp only [Int32.reduceToInt, true_and, and_true, ne_eq, not_true_eq_false, false_and, or_false, false_or, true_or, or_true, false_implies] <;> omega))), (by have m9 : hMo 2 = 1 := (by decide); have l9 : hLo 2 = 1 := (by decide); have h9 : hHi 2 = 99 := (by decide); have s9 : hSl 2 = 2 := (by decide); exact xH_bad (f := 2) (by decide) (by decide) (fun ts pl ci => by rw [show (G 4 4).toInt = 2 by omega]; exact hO_n2 (by decide) (by decide) (by omega) (by omega) (by show _ ∨ _ ∨ _; omega))), (by show (2 ≠ 0 ∨ (G 1 3).toInt ≠ 0); (first | omega | (simp only [Int32.reduceToInt, true_and, and_true, ne_eq, not_true_eq_false, false_and, or_false, false_or, true_or, or_true, false_implies] <;> omega)))⟩) rfl rfl dX8_takeOfNumbers_113
      · refine g_iconst F 1 dX8_takeOfNumbers_102 (by decide) ?_
        exact u_iret F hA hQ hr G (⟨hI, gu_un.rf, (by decide), (nb), (by show ((G 4 4).toInt = -1 ∨ (G 4 5).toInt ≤ 1 ∨ ((G 4 5).toInt ≤ 2 ∧ ((G 4 4).toInt = 3 ∨ (G 4 4).toInt = 4)) ∨ ((G 4 5).toInt ≤ 4 ∧ (G 4 4).toInt = 8) ∨ (G 4 4).toInt = 9); (first | omega | (simp only [Int32.reduceToInt, true_and, and_true, ne_eq, not_true_eq_false, false_and, or_false, false_or, true_or, or_true, false_implies] <;> omega))), (by show ((G 4 4).toInt = -1 ∨ (G 4 4).toInt = (G 4 4).toInt); (first | omega | (simp only [Int32.reduceToInt, true_and, and_true, ne_eq, not_true_eq_false, false_and, or_false, false_or, true_or, or_true, false_implies] <;> omega))), (by show ((G 4 2).toInt ≤ (G 4 2).toInt + 1); (first | omega | (simp only [Int32.reduceToInt, true_and, and_true, ne_eq, not_true_eq_false, false_and, or_false, false_or, true_or, or_true, false_implies] <;> omega))), (by have m9 : hMo 2 = 1 := (by decide); have l9 : hLo 2 = 1 := (by decide); have h9 : hHi 2 = 99 := (by decide); have s9 : hSl 2 = 2 := (by decide); exact xH_bad (f := 1) (by decide) (by decide) (fun ts pl ci => by rw [show (G 4 4).toInt = 2 by omega]; exact hO_n1 (by decide) (by decide) (by show ¬ (_ ∧ _ ∧ _); omega) (by omega))), (by show (1 ≠ 0 ∨ (G 1 3).toInt ≠ 0); (first | omega | (simp only [Int32.reduceToInt, true_and, and_true, ne_eq, not_true_eq_false, false_and, or_false, false_or, true_or, or_true, false_implies] <;> omega)))⟩) rfl rfl dX8_takeOfNumbers_103


set_option maxHeartbeats 4000000 in
set_option maxRecDepth 100000 in
theorem S_X8_isInBounds_c3 (l : Launch) (D : va_G) (K : Nat → ClassId) (a : Nat → Nat) (G : gS) (zf : Nat → Nat) (hI : xI G) (sz : Nat) : KiZ (xZ zf) l yX8_isInBounds wsX8_isInBounds 2 60 D [.ref (a 4), .ref (zf 13)] (xW K a G) (tK K) sz (fun (r : Int32) (_ : Unit) => (0 ≤ r.toInt ∧ r.toInt ≤ 1) ∧ (((r.toInt = 1 ∧ (0 ≤ (G 1 5).toInt ∧ (G 1 5).toInt ≤ 200 ∧ ((G 4 5).toInt ≠ 1 ∨ ((G 4 6).toInt ≤ (G 1 5).toInt ∧ (G 1 5).toInt ≤ (G 4 6).toInt + 3)))) ∨ (r.toInt = 0 ∧ ¬ (0 ≤ (G 1 5).toInt ∧ (G 1 5).toInt ≤ 200 ∧ ((G 4 5).toInt ≠ 1 ∨ ((G 4 6).toInt ≤ (G 1 5).toInt ∧ (G 1 5).toInt ≤ (G 4 6).toInt + 3))))))) (fun (_ : Unit) => (xW K a G)) := by
  unfold KiZ
  refine gz_ofW (cc := cX8_isInBounds) (lv := [(0, .ref (a 4)), (1, .ref (zf 13))]) (by decide) rfl (Nat.le_of_ble_eq_true rfl) rfl ?_
  intro p e s m args below meth c A Q hA hQ hZ F hr hnm
  have hts := F.2.2.2.2.1
  have w_0 : (Cond.fieldLink RX8 9 "QuietCut$ShopReader" "tape" "LQuietCut$Tape;").before args s = true := hts _ (List.mem_of_getElem? (i := 1) rfl)
  have i_X8 : ∀ w ∈ u_ws RX8 TX8 7, w ∈ wsX8_isInBounds := fun _ h => List.mem_cons_of_mem _ (List.mem_append_left _ (List.mem_append_right _ h))
  have w_1 : (Cond.fieldLink RX8 125 "QuietCut$Tape" "value" "I").before args s = true := hts _ (List.mem_of_getElem? (i := 2) rfl)
  have i_X10 : ∀ w ∈ u_ws RX10 TX10 6, w ∈ wsX8_isInBounds := fun _ h => List.mem_cons_of_mem _ (List.mem_append_right _ h)
  have w_2 : (Cond.fieldLink RX8 131 "QuietCut$Clause" "low" "I").before args s = true := hts _ (List.mem_of_getElem? (i := 3) rfl)
  have w_3 : (Cond.fieldLink RX8 134 "QuietCut$Clause" "high" "I").before args s = true := hts _ (List.mem_of_getElem? (i := 4) rfl)
  have w_4 : (Cond.fieldLink RX8 77 "QuietCut$ShopReader" "numbers" "I").before args s = true := hts _ (List.mem_of_getElem? (i := 5) rfl)
  have w_5 : (Cond.fieldLink RX8 128 "QuietCut$ShopReader" "latest" "I").before args s = true := hts _ (List.mem_of_getElem? (i := 6) rfl)
  have b1 : (0 : Int) ≤ (G 4 5).toInt ∧ (G 4 5).toInt ≤ 6 := hI 4 5
  have b2 : (0 : Int) ≤ (G 4 6).toInt ∧ (G 4 6).toInt ≤ 9999 := hI 4 6
  refine g_aload_n F 0 dX8_isInBounds_0 rfl rfl ?_
  refine xg_4_0 F i_X8 w_0 dX8_isInBounds_1 ?_
  refine xg_1_5 F i_X10 w_1 dX8_isInBounds_4 (G 1 5) (rfl) ?_
  refine g_aload_n F 1 dX8_isInBounds_7 rfl rfl ?_
  refine uz_getf F (show va_OF "QuietCut$Clause" "low" "I" (.int 0) (zf 13) A s s.heap from (hZ.2.2.2.2.2 3 (by decide)).2.2.2.2.1) w_2 dX8_isInBounds_8 ?_
  refine v_icmp_lt F 28 dX8_isInBounds_11 (by decide) (G 1 5).toInt 0 rfl rfl (fun c3 => ?_) (fun c3 => ?_)
  · refine g_iconst F 0 dX8_isInBounds_28 (by decide) ?_
    exact u_zret F hA hQ hr rfl () (⟨(by decide), (by show ((0 = 1 ∧ (0 ≤ (G 1 5).toInt ∧ (G 1 5).toInt ≤ 200 ∧ ((G 4 5).toInt ≠ 1 ∨ ((G 4 6).toInt ≤ (G 1 5).toInt ∧ (G 1 5).toInt ≤ (G 4 6).toInt + 3)))) ∨ (0 = 0 ∧ ¬ (0 ≤ (G 1 5).toInt ∧ (G 1 5).toInt ≤ 200 ∧ ((G 4 5).toInt ≠ 1 ∨ ((G 4 6).toInt ≤ (G 1 5).toInt ∧ (G 1 5).toInt ≤ (G 4 6).toInt + 3))))); (first | omega | (simp only [Int32.reduceToInt, true_and, and_true, ne_eq, not_true_eq_false, false_and, or_false, false_or, true_or, or_true, false_implies] <;> omega)))⟩) rfl rfl dX8_isInBounds_29
  · refine g_aload_n F 0 dX8_isInBounds_14 rfl rfl ?_
    refine xg_4_0 F i_X8 w_0 dX8_isInBounds_15 ?_
    refine xg_1_5 F i_X10 w_1 dX8_isInBounds_18 (G 1 5) (rfl) ?_
    refine g_aload_n F 1 dX8_isInBounds_21 rfl rfl ?_
    refine uz_getf F (show va_OF "QuietCut$Clause" "high" "I" (.int 200) (zf 13) A s s.heap from (hZ.2.2.2.2.2 3 (by decide)).2.2.2.2.2.1) w_3 dX8_isInBounds_22 ?_
    have b4 := ti_rng (G 1 5)
    refine v_icmp_le F 30 dX8_isInBounds_25 (by decide) (G 1 5).toInt 200 rfl rfl (fun c5 => ?_) (fun c5 => ?_)
    · refine g_aload_n F 1 dX8_isInBounds_30 rfl rfl ?_
      refine uz_call0Vi (k := 0) (n := 0) (b := (zf 13)) (As := []) (st := []) F xZ_st hZ (fun sz => S_X1_manySlot_c3 l D zf sz) (cwV 0 hts gX8_isInBounds_X1_manySlot rfl rfl rfl (by decide +kernel) ⟨Nat.le_of_ble_eq_true rfl, Nat.le_of_ble_eq_true rfl⟩) (hZ.2.2.2.2.2 3 (by decide)).1 rfl (Nat.le_of_ble_eq_true rfl) ⟨Nat.zero_le _, Nat.zero_le _⟩ dX8_isInBounds_31 (fun r6 _ hw7 => ?_)
      have hw7 : r6.toInt = -1 := hw7
      refine g_fold (-1) ((ti_eq rfl (show ((-1) : Int32).toInt = (-1) from rfl)).mpr hw7) ?_
      refine g_iconst F (-1) dX8_isInBounds_34 (by decide) ?_
      refine v_icmp_ne F 50 dX8_isInBounds_35 (by decide) (-1) (-1) rfl rfl (fun c8 => absurd c8 (by decide)) (fun c8 => ?_)
      refine g_aload_n F 0 dX8_isInBounds_38 rfl rfl ?_
      refine xg_4_5 F i_X8 w_4 dX8_isInBounds_39 (G 4 5) (rfl) ?_
      refine g_iconst F 1 dX8_isInBounds_42 (by decide) ?_
      refine v_icmp_ne F 50 dX8_isInBounds_43 (by decide) (G 4 5).toInt 1 rfl rfl (fun c9 => ?_) (fun c9 => ?_)
      · refine g_iconst F 0 dX8_isInBounds_50 (by decide) ?_
        refine g_istore_n F [(2, .int 0), (0, .ref (a 4)), (1, .ref (zf 13))] dX8_isInBounds_51 rfl (by decide) rfl ?_
        refine g_iload_n F 0 dX8_isInBounds_52 rfl rfl ?_
        refine v_if_eq F 86 dX8_isInBounds_53 (by decide) 0 rfl (fun c10 => ?_) (fun c10 => absurd c10 (by decide))
        refine g_iconst F 1 dX8_isInBounds_86 (by decide) ?_
        refine g_goto F 91 dX8_isInBounds_87 (by decide) ?_
        exact u_zret F hA hQ hr rfl () (⟨(by decide), (by show ((1 = 1 ∧ (0 ≤ (G 1 5).toInt ∧ (G 1 5).toInt ≤ 200 ∧ ((G 4 5).toInt ≠ 1 ∨ ((G 4 6).toInt ≤ (G 1 5).toInt ∧ (G 1 5).toInt ≤ (G 4 6).toInt + 3)))) ∨ (1 = 0 ∧ ¬ (0 ≤ (G 1 5).toInt ∧ (G 1 5).toInt ≤ 200 ∧ ((G 4 5).toInt ≠ 1 ∨ ((G 4 6).toInt ≤ (G 1 5).toInt ∧ (G 1 5).toInt ≤ (G 4 6).toInt + 3))))); (first | omega | (simp only [Int32.reduceToInt, true_and, and_true, ne_eq, not_true_eq_false, false_and, or_false, false_or, true_or, or_true, false_implies] <;> omega)))⟩) rfl rfl dX8_isInBounds_91
      · refine g_iconst F 1 dX8_isInBounds_46 (by decide) ?_
        refine g_goto F 51 dX8_isInBounds_47 (by decide) ?_
        refine g_istore_n F [(2, .int 1), (0, .ref (a 4)), (1, .ref (zf 13))] dX8_isInBounds_51 rfl (by decide) rfl ?_
        refine g_iload_n F 0 dX8_isInBounds_52 rfl rfl ?_
        refine v_if_eq F 86 dX8_isInBounds_53 (by decide) 1 rfl (fun c11 => absurd c11 (by decide)) (fun c11 => ?_)
        refine g_aload_n F 1 dX8_isInBounds_56 rfl rfl ?_
        refine xg_4_0 F i_X8 w_0 dX8_isInBounds_57 ?_
        refine xg_1_5 F i_X10 w_1 dX8_isInBounds_60 (G 1 5) (rfl) ?_
        refine g_aload_n F 1 dX8_isInBounds_63 rfl rfl ?_
        refine xg_4_6 F i_X8 w_5 dX8_isInBounds_64 (G 4 6) (rfl) ?_
        refine v_icmp_lt F 90 dX8_isInBounds_67 (by decide) (G 1 5).toInt (G 4 6).toInt rfl rfl (fun c12 => ?_) (fun c12 => ?_)
        · refine g_iconst F 0 dX8_isInBounds_90 (by decide) ?_
          exact u_zret F hA hQ hr rfl () (⟨(by decide), (by show ((0 = 1 ∧ (0 ≤ (G 1 5).toInt ∧ (G 1 5).toInt ≤ 200 ∧ ((G 4 5).toInt ≠ 1 ∨ ((G 4 6).toInt ≤ (G 1 5).toInt ∧ (G 1 5).toInt ≤ (G 4 6).toInt + 3)))) ∨ (0 = 0 ∧ ¬ (0 ≤ (G 1 5).toInt ∧ (G 1 5).toInt ≤ 200 ∧ ((G 4 5).toInt ≠ 1 ∨ ((G 4 6).toInt ≤ (G 1 5).toInt ∧ (G 1 5).toInt ≤ (G 4 6).toInt + 3))))); (first | omega | (simp only [Int32.reduceToInt, true_and, and_true, ne_eq, not_true_eq_false, false_and, or_false, false_or, true_or, or_true, false_implies] <;> omega)))⟩) rfl rfl dX8_isInBounds_91
        · refine g_aload_n F 1 dX8_isInBounds_70 rfl rfl ?_
          refine xg_4_0 F i_X8 w_0 dX8_isInBounds_71 ?_
          refine xg_1_5 F i_X10 w_1 dX8_isInBounds_74 (G 1 5) (rfl) ?_
          refine g_aload_n F 1 dX8_isInBounds_77 rfl rfl ?_
          refine xg_4_6 F i_X8 w_5 dX8_isInBounds_78 (G 4 6) (rfl) ?_
          refine g_iconst F 3 dX8_isInBounds_81 (by decide) ?_
          refine u_iadd F dX8_isInBounds_82 (G 4 6).toInt 3 rfl rfl (by omega) (by omega) (fun y13 ey13 => ?_)
          refine v_icmp_gt F 90 dX8_isInBounds_83 (by decide) (G 1 5).toInt y13.toInt rfl rfl (fun c14 => ?_) (fun c14 => ?_)
          · refine g_iconst F 0 dX8_isInBounds_90 (by decide) ?_
            exact u_zret F hA hQ hr rfl () (⟨(by decide), (by show ((0 = 1 ∧ (0 ≤ (G 1 5).toInt ∧ (G 1 5).toInt ≤ 200 ∧ ((G 4 5).toInt ≠ 1 ∨ ((G 4 6).toInt ≤ (G 1 5).toInt ∧ (G 1 5).toInt ≤ (G 4 6).toInt + 3)))) ∨ (0 = 0 ∧ ¬ (0 ≤ (G 1 5).toInt ∧ (G 1 5).toInt ≤ 200 ∧ ((G 4 5).toInt ≠ 1 ∨ ((G 4 6).toInt ≤ (G 1 5).toInt ∧ (G 1 5).toInt ≤ (G 4 6).toInt + 3))))); (first | omega | (simp only [Int32.reduceToInt, true_and, and_true, ne_eq, not_true_eq_false, false_and, or_false, false_or, true_or, or_true, false_implies] <;> omega)))⟩) rfl rfl dX8_isInBounds_91
          · refine g_iconst F 1 dX8_isInBounds_86 (by decide) ?_
            refine g_goto F 91 dX8_isInBounds_87 (by decide) ?_
            exact u_zret F hA hQ hr rfl () (⟨(by decide), (by show ((1 = 1 ∧ (0 ≤ (G 1 5).toInt ∧ (G 1 5).toInt ≤ 200 ∧ ((G 4 5).toInt ≠ 1 ∨ ((G 4 6).toInt ≤ (G 1 5).toInt ∧ (G 1 5).toInt ≤ (G 4 6).toInt + 3)))) ∨ (1 = 0 ∧ ¬ (0 ≤ (G 1 5).toInt ∧ (G 1 5).toInt ≤ 200 ∧ ((G 4 5).toInt ≠ 1 ∨ ((G 4 6).toInt ≤ (G 1 5).toInt ∧ (G 1 5).toInt ≤ (G 4 6).toInt + 3))))); (first | omega | (simp only [Int32.reduceToInt, true_and, and_true, ne_eq, not_true_eq_false, false_and, or_false, false_or, true_or, or_true, false_implies] <;> omega)))⟩) rfl rfl dX8_isInBounds_91
    · refine g_iconst F 0 dX8_isInBounds_28 (by decide) ?_
      exact u_zret F hA hQ hr rfl () (⟨(by decide), (by show ((0 = 1 ∧ (0 ≤ (G 1 5).toInt ∧ (G 1 5).toInt ≤ 200 ∧ ((G 4 5).toInt ≠ 1 ∨ ((G 4 6).toInt ≤ (G 1 5).toInt ∧ (G 1 5).toInt ≤ (G 4 6).toInt + 3)))) ∨ (0 = 0 ∧ ¬ (0 ≤ (G 1 5).toInt ∧ (G 1 5).toInt ≤ 200 ∧ ((G 4 5).toInt ≠ 1 ∨ ((G 4 6).toInt ≤ (G 1 5).toInt ∧ (G 1 5).toInt ≤ (G 4 6).toInt + 3))))); (first | omega | (simp only [Int32.reduceToInt, true_and, and_true, ne_eq, not_true_eq_false, false_and, or_false, false_or, true_or, or_true, false_implies] <;> omega)))⟩) rfl rfl dX8_isInBounds_29


set_option maxHeartbeats 4000000 in
set_option maxRecDepth 100000 in
theorem S_X8_takeOfNumbers_c3 (l : Launch) (D : va_G) (K : Nat → ClassId) (a : Nat → Nat) (G : gS) (zf : Nat → Nat) (nb : xNb (G 19)) (ck : ((G 4 2).toInt ≤ 1000)) (rn : ((G 4 5).toInt ≤ 2 ∧ (G 4 4).toInt = 3)) (hI : xI G) (sz : Nat) : KiZ (xZ zf) l yX8_takeOfNumbers wsX8_takeOfNumbers 3 82 D [.ref (a 4), .ref (zf 13)] (xW K a G) (tK K) sz (fun (r : Int32) (G' : gS) => (xI G') ∧ (gu_un xcd [403, 405, 406, 407, 1900] G G') ∧ (0 ≤ r.toInt ∧ r.toInt ≤ 4) ∧ (xNb (G' 19)) ∧ (((G' 4 4).toInt = -1 ∨ (G' 4 5).toInt ≤ 1 ∨ ((G' 4 5).toInt ≤ 2 ∧ ((G' 4 4).toInt = 3 ∨ (G' 4 4).toInt = 4)) ∨ ((G' 4 5).toInt ≤ 4 ∧ (G' 4 4).toInt = 8) ∨ (G' 4 4).toInt = 9)) ∧ (((G' 4 4).toInt = -1 ∨ (G' 4 4).toInt = (G 4 4).toInt)) ∧ (((G' 4 2).toInt ≤ (G 4 2).toInt + 1)) ∧ ((∀ (ts : List hTk) (pl ci : Int), xH (((G 1 3).toInt, pl, (G 1 5).toInt, ci) :: ts) G = if r.toInt = 0 then xH ts G' else hBad r.toInt pl)) ∧ ((r.toInt ≠ 0 ∨ (G 1 3).toInt ≠ 0))) (fun (G' : gS) => (xW K a G')) := by
  unfold KiZ
  refine gz_ofW (cc := cX8_takeOfNumbers) (lv := [(0, .ref (a 4)), (1, .ref (zf 13))]) (by decide) rfl (Nat.le_of_ble_eq_true rfl) rfl ?_
  intro p e s m args below meth c A Q hA hQ hZ F hr hnm
  have hts := F.2.2.2.2.1
  have w_0 : (Cond.fieldLink RX8 9 "QuietCut$ShopReader" "tape" "LQuietCut$Tape;").before args s = true := hts _ (List.mem_of_getElem? (i := 1) rfl)
  have i_X8 : ∀ w ∈ u_ws RX8 TX8 7, w ∈ wsX8_takeOfNumbers := fun _ h => List.mem_cons_of_mem _ (List.mem_append_left _ (List.mem_append_left _ (List.mem_append_right _ h)))
  have w_1 : (Cond.fieldLink RX8 77 "QuietCut$ShopReader" "numbers" "I").before args s = true := hts _ (List.mem_of_getElem? (i := 2) rfl)
  have w_2 : (Cond.fieldLink RX8 114 "QuietCut$Clause" "most" "I").before args s = true := hts _ (List.mem_of_getElem? (i := 3) rfl)
  have w_3 : (Cond.fieldLink RX8 42 "QuietCut$Tape" "kind" "I").before args s = true := hts _ (List.mem_of_getElem? (i := 5) rfl)
  have i_X10 : ∀ w ∈ u_ws RX10 TX10 6, w ∈ wsX8_takeOfNumbers := fun _ h => List.mem_cons_of_mem _ (List.mem_append_left _ (List.mem_append_right _ h))
  have w_4 : (Cond.fieldLink RX8 15 "QuietCut$ShopReader" "target" "LQuietCut$Shop;").before args s = true := hts _ (List.mem_of_getElem? (i := 4) rfl)
  have w_5 : (Cond.fieldLink RX8 80 "QuietCut$Clause" "slot" "I").before args s = true := hts _ (List.mem_of_getElem? (i := 6) rfl)
  have w_6 : (Cond.fieldLink RX8 125 "QuietCut$Tape" "value" "I").before args s = true := hts _ (List.mem_of_getElem? (i := 7) rfl)
  have w_7 : (Cond.fieldLink RX8 128 "QuietCut$ShopReader" "latest" "I").before args s = true := hts _ (List.mem_of_getElem? (i := 8) rfl)
  have b1 : (0 : Int) ≤ (G 4 5).toInt ∧ (G 4 5).toInt ≤ 6 := hI 4 5
  have b2 : ((-1) : Int) ≤ (G 4 4).toInt ∧ (G 4 4).toInt ≤ 12 := hI 4 4
  have b3 : (0 : Int) ≤ (G 4 2).toInt ∧ (G 4 2).toInt ≤ 1001 := hI 4 2
  have b4 : (0 : Int) ≤ (G 4 6).toInt ∧ (G 4 6).toInt ≤ 9999 := hI 4 6
  refine g_aload_n F 1 dX8_takeOfNumbers_0 rfl rfl ?_
  refine uz_call0Vi (k := 0) (n := 0) (b := (zf 13)) (As := []) (st := []) F xZ_st hZ (fun sz => S_X1_manySlot_c3 l D zf sz) (cwV 0 hts gX8_takeOfNumbers_X1_manySlot rfl rfl rfl (by decide +kernel) ⟨Nat.le_of_ble_eq_true rfl, Nat.le_of_ble_eq_true rfl⟩) (hZ.2.2.2.2.2 3 (by decide)).1 rfl (Nat.le_of_ble_eq_true rfl) ⟨Nat.zero_le _, Nat.zero_le _⟩ dX8_takeOfNumbers_1 (fun r5 _ hw6 => ?_)
  have hw6 : r5.toInt = -1 := hw6
  refine g_fold (-1) ((ti_eq rfl (show ((-1) : Int32).toInt = (-1) from rfl)).mpr hw6) ?_
  refine g_iconst F (-1) dX8_takeOfNumbers_4 (by decide) ?_
  refine v_icmp_eq F 12 dX8_takeOfNumbers_5 (by decide) (-1) (-1) rfl rfl (fun c7 => ?_) (fun c7 => absurd c7 (by decide))
  refine g_iconst F 0 dX8_takeOfNumbers_12 (by decide) ?_
  refine g_istore_n F [(2, .int 0), (0, .ref (a 4)), (1, .ref (zf 13))] dX8_takeOfNumbers_13 rfl (by decide) rfl ?_
  refine g_aload_n F 1 dX8_takeOfNumbers_14 rfl rfl ?_
  refine xg_4_0 F i_X8 w_0 dX8_takeOfNumbers_15 ?_
  refine g_bipush F 59 dX8_takeOfNumbers_18 (by decide) ?_
  refine u_callVi (k := 0) (n := 0) (b := a 1) (As := [.int 59]) (st := []) F (fun sz => S_X10_isSign l D K a G 59 59 rfl hI sz) (cwV 1 hts gX8_takeOfNumbers_X10_isSign rfl rfl rfl (by decide +kernel) ⟨Nat.le_of_ble_eq_true rfl, Nat.le_of_ble_eq_true rfl⟩) rfl 1 xc_1 rfl (Nat.le_of_ble_eq_true rfl) ⟨Nat.zero_le _, Nat.zero_le _⟩ dX8_takeOfNumbers_20 (fun r8 _ hw9 => ?_)
  rcases hw9 with ⟨rfl, q11⟩ | ⟨rfl, q12⟩
  · have b13 : (0 : Int) ≤ (G 1 3).toInt ∧ (G 1 3).toInt ≤ 4 := hI 1 3
    have q11 : ((G 1 3).toInt = 3 ∧ (G 1 5).toInt = (59 : Int)) := q11
    refine v_if_eq F 76 dX8_takeOfNumbers_23 (by decide) 1 rfl (fun c14 => absurd c14 (by decide)) (fun c14 => ?_)
    refine g_iload_n F 0 dX8_takeOfNumbers_26 rfl rfl ?_
    refine v_if_eq F 40 dX8_takeOfNumbers_27 (by decide) 0 rfl (fun c15 => ?_) (fun c15 => absurd c15 (by decide))
    refine g_aload_n F 1 dX8_takeOfNumbers_40 rfl rfl ?_
    refine xg_4_5 F i_X8 w_1 dX8_takeOfNumbers_41 (G 4 5) (rfl) ?_
    refine g_aload_n F 2 dX8_takeOfNumbers_44 rfl rfl ?_
    refine uz_getf F (show va_OF "QuietCut$Clause" "most" "I" (.int 2) (zf 13) A s s.heap from (hZ.2.2.2.2.2 3 (by decide)).2.2.2.1) w_2 dX8_takeOfNumbers_45 ?_
    refine v_icmp_ne F 76 dX8_takeOfNumbers_48 (by decide) (G 4 5).toInt 2 rfl rfl (fun c16 => ?_) (fun c16 => ?_)
    · refine g_aload_n F 1 dX8_takeOfNumbers_76 rfl rfl ?_
      refine xg_4_0 F i_X8 w_0 dX8_takeOfNumbers_77 ?_
      refine xg_1_3 F i_X10 w_3 dX8_takeOfNumbers_80 (G 1 3) (rfl) ?_
      refine g_iconst F 2 dX8_takeOfNumbers_83 (by decide) ?_
      refine v_icmp_ne F 102 dX8_takeOfNumbers_84 (by decide) (G 1 3).toInt 2 rfl rfl (fun c17 => ?_) (fun c17 => ?_)
      · refine g_iconst F 1 dX8_takeOfNumbers_102 (by decide) ?_
        exact u_iret F hA hQ hr G (⟨hI, gu_un.rf, (by decide), (nb), (by show ((G 4 4).toInt = -1 ∨ (G 4 5).toInt ≤ 1 ∨ ((G 4 5).toInt ≤ 2 ∧ ((G 4 4).toInt = 3 ∨ (G 4 4).toInt = 4)) ∨ ((G 4 5).toInt ≤ 4 ∧ (G 4 4).toInt = 8) ∨ (G 4 4).toInt = 9); (first | omega | (simp only [Int32.reduceToInt, true_and, and_true, ne_eq, not_true_eq_false, false_and, or_false, false_or, true_or, or_true, false_implies] <;> omega))), (by show ((G 4 4).toInt = -1 ∨ (G 4 4).toInt = (G 4 4).toInt); (first | omega | (simp only [Int32.reduceToInt, true_and, and_true, ne_eq, not_true_eq_false, false_and, or_false, false_or, true_or, or_true, false_implies] <;> omega))), (by show ((G 4 2).toInt ≤ (G 4 2).toInt + 1); (first | omega | (simp only [Int32.reduceToInt, true_and, and_true, ne_eq, not_true_eq_false, false_and, or_false, false_or, true_or, or_true, false_implies] <;> omega))), (by have m9 : hMo 3 = 2 := (by decide); have l9 : hLo 3 = 0 := (by decide); have h9 : hHi 3 = 200 := (by decide); have s9 : hSl 3 = 3 := (by decide); exact xH_bad (f := 1) (by decide) (by decide) (fun ts pl ci => by rw [show (G 4 4).toInt = 3 by omega]; exact hO_n1 (by decide) (by decide) (by show ¬ (_ ∧ _ ∧ _); omega) (by omega))), (by show (1 ≠ 0 ∨ (G 1 3).toInt ≠ 0); (first | omega | (simp only [Int32.reduceToInt, true_and, and_true, ne_eq, not_true_eq_false, false_and, or_false, false_or, true_or, or_true, false_implies] <;> omega)))⟩) rfl rfl dX8_takeOfNumbers_103
      · refine g_iload_n F 0 dX8_takeOfNumbers_87 rfl rfl ?_
        refine v_if_ne F 104 dX8_takeOfNumbers_88 (by decide) 0 rfl (fun c18 => absurd c18 (by decide)) (fun c18 => ?_)
        refine g_aload_n F 1 dX8_takeOfNumbers_91 rfl rfl ?_
        refine xg_4_5 F i_X8 w_1 dX8_takeOfNumbers_92 (G 4 5) (rfl) ?_
        refine g_aload_n F 2 dX8_takeOfNumbers_95 rfl rfl ?_
        refine uz_getf F (show va_OF "QuietCut$Clause" "most" "I" (.int 2) (zf 13) A s s.heap from (hZ.2.2.2.2.2 3 (by decide)).2.2.2.1) w_2 dX8_takeOfNumbers_96 ?_
        refine v_icmp_ne F 104 dX8_takeOfNumbers_99 (by decide) (G 4 5).toInt 2 rfl rfl (fun c19 => ?_) (fun c19 => ?_)
        · refine g_aload_n F 1 dX8_takeOfNumbers_104 rfl rfl ?_
          refine g_aload_n F 2 dX8_takeOfNumbers_105 rfl rfl ?_
          refine uz_callVi (k := 0) (n := 0) (b := a 4) (As := [.ref (zf 13)]) (st := []) F xZ_st hZ (fun sz => S_X8_isInBounds_c3 l D K a G zf  hI sz) (cwV 1 hts gX8_takeOfNumbers_X8_isInBounds rfl rfl rfl (by decide +kernel) ⟨Nat.le_of_ble_eq_true rfl, Nat.le_of_ble_eq_true rfl⟩) rfl 4 xc_4 rfl (Nat.le_of_ble_eq_true rfl) ⟨Nat.zero_le _, Nat.zero_le _⟩ dX8_takeOfNumbers_106 (fun r20 _ hw21 => ?_)
          have q23 : ((r20.toInt = 1 ∧ (0 ≤ (G 1 5).toInt ∧ (G 1 5).toInt ≤ 200 ∧ ((G 4 5).toInt ≠ 1 ∨ ((G 4 6).toInt ≤ (G 1 5).toInt ∧ (G 1 5).toInt ≤ (G 4 6).toInt + 3)))) ∨ (r20.toInt = 0 ∧ ¬ (0 ≤ (G 1 5).toInt ∧ (G 1 5).toInt ≤ 200 ∧ ((G 4 5).toInt ≠ 1 ∨ ((G 4 6).toInt ≤ (G 1 5).toInt ∧ (G 1 5).toInt ≤ (G 4 6).toInt + 3))))) := hw21.2
          have rg24 := hw21.1
          clear hw21
          refine v_if_ne F 114 dX8_takeOfNumbers_109 (by decide) r20.toInt rfl (fun c25 => ?_) (fun c25 => ?_)
          · refine g_aload_n F 1 dX8_takeOfNumbers_114 rfl rfl ?_
            refine xg_4_5 F i_X8 w_1 dX8_takeOfNumbers_115 (G 4 5) (rfl) ?_
            refine g_aload_n F 2 dX8_takeOfNumbers_118 rfl rfl ?_
            refine uz_getf F (show va_OF "QuietCut$Clause" "most" "I" (.int 2) (zf 13) A s s.heap from (hZ.2.2.2.2.2 3 (by decide)).2.2.2.1) w_2 dX8_takeOfNumbers_119 ?_
            refine v_icmp_ne F 127 dX8_takeOfNumbers_122 (by decide) (G 4 5).toInt 2 rfl rfl (fun c26 => ?_) (fun c26 => ?_)
            · refine g_aload_n F 1 dX8_takeOfNumbers_127 rfl rfl ?_
              refine xg_4_1 F i_X8 w_4 dX8_takeOfNumbers_128 ?_
              refine g_aload_n F 2 dX8_takeOfNumbers_131 rfl rfl ?_
              refine uz_getf F (show va_OF "QuietCut$Clause" "slot" "I" (.int 3) (zf 13) A s s.heap from (hZ.2.2.2.2.2 3 (by decide)).2.2.1) w_5 dX8_takeOfNumbers_132 ?_
              refine g_aload_n F 1 dX8_takeOfNumbers_135 rfl rfl ?_
              refine xg_4_5 F i_X8 w_1 dX8_takeOfNumbers_136 (G 4 5) (rfl) ?_
              refine u_iadd F dX8_takeOfNumbers_139 3 (G 4 5).toInt rfl rfl (by omega) (by omega) (fun y27 ey27 => ?_)
              refine g_aload_n F 1 dX8_takeOfNumbers_140 rfl rfl ?_
              refine xg_4_0 F i_X8 w_0 dX8_takeOfNumbers_141 ?_
              refine xg_1_5 F i_X10 w_6 dX8_takeOfNumbers_144 (G 1 5) (rfl) ?_
              refine u_callVv (k := 0) (n := 0) (b := a 3) (As := [.int y27, .int (G 1 5)]) (st := []) F (fun sz => S_X7_put_3 l D K a G y27 y27.toInt (G 1 5) (G 1 5).toInt rfl (by omega) rfl hI sz) (cwV 2 hts gX8_takeOfNumbers_X7_put rfl rfl rfl (by decide +kernel) ⟨Nat.le_of_ble_eq_true rfl, Nat.le_of_ble_eq_true rfl⟩) rfl 3 xc_3 rfl (Nat.le_of_ble_eq_true rfl) ⟨Nat.zero_le _, Nat.zero_le _⟩ dX8_takeOfNumbers_147 (fun G30 hw29 => ?_)
              have hI31 : xI G30 := hw29.1
              have hU32 : gu_un xcd [1900] G G30 := hw29.2.1
              have hp33 := hw29.2.2
              have q34 : (G30 19 = upd (G 19) (y27.toInt).toNat (G 1 5)) := hp33
              clear hp33 hw29
              refine g_aload_n F 1 dX8_takeOfNumbers_150 rfl rfl ?_
              refine g_dup F dX8_takeOfNumbers_151 rfl ?_
              refine xg_4_5 F i_X8 w_1 dX8_takeOfNumbers_152 (G 4 5) (hU32 4 5 (by decide)) ?_
              refine g_iconst F 1 dX8_takeOfNumbers_155 (by decide) ?_
              refine u_iadd F dX8_takeOfNumbers_156 (G 4 5).toInt 1 rfl rfl (by omega) (by omega) (fun y35 ey35 => ?_)
              refine xp_4_5 F i_X8 w_1 dX8_takeOfNumbers_157 ?_
              refine g_aload_n F 1 dX8_takeOfNumbers_160 rfl rfl ?_
              refine g_aload_n F 1 dX8_takeOfNumbers_161 rfl rfl ?_
              refine xg_4_0 F i_X8 w_0 dX8_takeOfNumbers_162 ?_
              refine xg_1_5 F i_X10 w_6 dX8_takeOfNumbers_165 (G 1 5) (hU32 1 5 (by decide)) ?_
              refine xp_4_6 F i_X8 w_7 dX8_takeOfNumbers_168 ?_
              refine g_iconst F 0 dX8_takeOfNumbers_171 (by decide) ?_
              exact u_iret F hA hQ hr (gu_up (gu_up G30 4 5 y35) 4 6 (G 1 5)) (⟨(gu_I.up (j := 4) (k := 6) (v := (G 1 5)) (gu_I.up (j := 4) (k := 5) (v := y35) hI31 (show (0 : Int) ≤ Int32.toInt y35 by omega) (show Int32.toInt y35 ≤ 6 by omega)) (show (0 : Int) ≤ Int32.toInt (G 1 5) by omega) (show Int32.toInt (G 1 5) ≤ 9999 by omega)), (gu_un.up (j := 4) (k := 6) (v := (G 1 5)) (gu_un.up (j := 4) (k := 5) (v := y35) (gu_un.tr gu_un.rf (gu_un.su hU32 rfl)) (show (406 : Nat) ∈ ([403, 405, 406, 407, 1900] : List Nat) by decide)) (show (407 : Nat) ∈ ([403, 405, 406, 407, 1900] : List Nat) by decide)), (by decide), ((xNb.un (G := G30) (by rw [q34]; rcases (show y27.toInt = 3 ∨ y27.toInt = 4 by omega) with h9 | h9 <;> (rw [h9]; first | exact xNb.put nb (show (0 : Int) ≤ Int32.toInt (G 1 5) by omega) (show Int32.toInt (G 1 5) ≤ 200 by omega) | exact xNb.put nb (show (0 : Int) ≤ Int32.toInt (G 1 5) by omega) (show Int32.toInt (G 1 5) ≤ 200 by omega))) (show gu_un xcd [406, 407] G30 (gu_up (gu_up G30 4 5 y35) 4 6 (G 1 5)) from (gu_un.up (j := 4) (k := 6) (v := (G 1 5)) (gu_un.up (j := 4) (k := 5) (v := y35) gu_un.rf (show (406 : Nat) ∈ ([406, 407] : List Nat) by decide)) (show (407 : Nat) ∈ ([406, 407] : List Nat) by decide))) rfl)), (by show (((gu_up (gu_up G30 4 5 y35) 4 6 (G 1 5)) 4 4).toInt = -1 ∨ ((gu_up (gu_up G30 4 5 y35) 4 6 (G 1 5)) 4 5).toInt ≤ 1 ∨ (((gu_up (gu_up G30 4 5 y35) 4 6 (G 1 5)) 4 5).toInt ≤ 2 ∧ (((gu_up (gu_up G30 4 5 y35) 4 6 (G 1 5)) 4 4).toInt = 3 ∨ ((gu_up (gu_up G30 4 5 y35) 4 6 (G 1 5)) 4 4).toInt = 4)) ∨ (((gu_up (gu_up G30 4 5 y35) 4 6 (G 1 5)) 4 5).toInt ≤ 4 ∧ ((gu_up (gu_up G30 4 5 y35) 4 6 (G 1 5)) 4 4).toInt = 8) ∨ ((gu_up (gu_up G30 4 5 y35) 4 6 (G 1 5)) 4 4).toInt = 9); have e9_4_4 : (gu_up (gu_up G30 4 5 y35) 4 6 (G 1 5)) 4 4 = (G 4 4) := hU32 4 4 (by decide); have e9_4_5 : (gu_up (gu_up G30 4 5 y35) 4 6 (G 1 5)) 4 5 = y35 := rfl; (try simp only [e9_4_4, e9_4_5, true_and, and_true]) <;> (first | omega | (simp only [Int32.reduceToInt, true_and, and_true, ne_eq, not_true_eq_false, false_and, or_false, false_or, true_or, or_true, false_implies] <;> omega))), (by show (((gu_up (gu_up G30 4 5 y35) 4 6 (G 1 5)) 4 4).toInt = -1 ∨ ((gu_up (gu_up G30 4 5 y35) 4 6 (G 1 5)) 4 4).toInt = (G 4 4).toInt); have e9_4_4 : (gu_up (gu_up G30 4 5 y35) 4 6 (G 1 5)) 4 4 = (G 4 4) := hU32 4 4 (by decide); (try simp only [e9_4_4, true_and, and_true]) <;> (first | omega | (simp only [Int32.reduceToInt, true_and, and_true, ne_eq, not_true_eq_false, false_and, or_false, false_or, true_or, or_true, false_implies] <;> omega))), (by show (((gu_up (gu_up G30 4 5 y35) 4 6 (G 1 5)) 4 2).toInt ≤ (G 4 2).toInt + 1); have e9_4_2 : (gu_up (gu_up G30 4 5 y35) 4 6 (G 1 5)) 4 2 = (G 4 2) := hU32 4 2 (by decide); (try simp only [e9_4_2, true_and, and_true]) <;> (first | omega | (simp only [Int32.reduceToInt, true_and, and_true, ne_eq, not_true_eq_false, false_and, or_false, false_or, true_or, or_true, false_implies] <;> omega))), (by have m9 : hMo 3 = 2 := (by decide); have l9 : hLo 3 = 0 := (by decide); have h9 : hHi 3 = 200 := (by decide); have s9 : hSl 3 = 3 := (by decide); exact xH_nP (c := 3) (by decide) (show (G 4 4).toInt = 3 by omega) (by decide) (by decide) (by omega) (by show ¬ (_ ∨ _ ∨ _); omega) (by omega) (show (gu_up (gu_up G30 4 5 y35) 4 6 (G 1 5)) 4 4 = (G 4 4) from hU32 4 4 (by decide)) (show ((gu_up (gu_up G30 4 5 y35) 4 6 (G 1 5)) 4 5).toInt = (G 4 5).toInt + 1 by rw [show (gu_up (gu_up G30 4 5 y35) 4 6 (G 1 5)) 4 5 = y35 from rfl] <;> first | rfl | omega) (show ((gu_up (gu_up G30 4 5 y35) 4 6 (G 1 5)) 4 6).toInt = (G 1 5).toInt by rw [show (gu_up (gu_up G30 4 5 y35) 4 6 (G 1 5)) 4 6 = (G 1 5) from rfl] <;> first | rfl | omega) (show (gu_up (gu_up G30 4 5 y35) 4 6 (G 1 5)) 4 2 = (G 4 2) from hU32 4 2 (by decide)) (show (gu_up (gu_up G30 4 5 y35) 4 6 (G 1 5)) 4 3 = (G 4 3) from hU32 4 3 (by decide)) (x := (G 1 5)) rfl (q := y27.toInt) (by omega) (show (gu_up (gu_up G30 4 5 y35) 4 6 (G 1 5)) 19 = upd (G 19) (y27.toInt).toNat (G 1 5) from (show (gu_up (gu_up G30 4 5 y35) 4 6 (G 1 5)) 19 = G30 19 from funext fun k_ => (show gu_un xcd [406, 407] G30 (gu_up (gu_up G30 4 5 y35) 4 6 (G 1 5)) from (gu_un.up (j := 4) (k := 6) (v := (G 1 5)) (gu_un.up (j := 4) (k := 5) (v := y35) gu_un.rf (show (406 : Nat) ∈ ([406, 407] : List Nat) by decide)) (show (407 : Nat) ∈ ([406, 407] : List Nat) by decide))) 19 k_ (by simp [xcd])).trans q34) (xSg_un (show gu_un xcd [406, 407, 1900] G (gu_up (gu_up G30 4 5 y35) 4 6 (G 1 5)) from (gu_un.up (j := 4) (k := 6) (v := (G 1 5)) (gu_un.up (j := 4) (k := 5) (v := y35) (gu_un.tr gu_un.rf (gu_un.su hU32 rfl)) (show (406 : Nat) ∈ ([406, 407, 1900] : List Nat) by decide)) (show (407 : Nat) ∈ ([406, 407, 1900] : List Nat) by decide))) rfl rfl rfl)), (by show (0 ≠ 0 ∨ (G 1 3).toInt ≠ 0); (first | omega | (simp only [Int32.reduceToInt, true_and, and_true, ne_eq, not_true_eq_false, false_and, or_false, false_or, true_or, or_true, false_implies] <;> omega)))⟩) rfl rfl dX8_takeOfNumbers_172
            · refine g_iconst F 4 dX8_takeOfNumbers_125 (by decide) ?_
              exact u_iret F hA hQ hr G (⟨hI, gu_un.rf, (by decide), (nb), (by show ((G 4 4).toInt = -1 ∨ (G 4 5).toInt ≤ 1 ∨ ((G 4 5).toInt ≤ 2 ∧ ((G 4 4).toInt = 3 ∨ (G 4 4).toInt = 4)) ∨ ((G 4 5).toInt ≤ 4 ∧ (G 4 4).toInt = 8) ∨ (G 4 4).toInt = 9); (first | omega | (simp only [Int32.reduceToInt, true_and, and_true, ne_eq, not_true_eq_false, false_and, or_false, false_or, true_or, or_true, false_implies] <;> omega))), (by show ((G 4 4).toInt = -1 ∨ (G 4 4).toInt = (G 4 4).toInt); (first | omega | (simp only [Int32.reduceToInt, true_and, and_true, ne_eq, not_true_eq_false, false_and, or_false, false_or, true_or, or_true, false_implies] <;> omega))), (by show ((G 4 2).toInt ≤ (G 4 2).toInt + 1); (first | omega | (simp only [Int32.reduceToInt, true_and, and_true, ne_eq, not_true_eq_false, false_and, or_false, false_or, true_or, or_true, false_implies] <;> omega))), (by have m9 : hMo 3 = 2 := (by decide); have l9 : hLo 3 = 0 := (by decide); have h9 : hHi 3 = 200 := (by decide); have s9 : hSl 3 = 3 := (by decide); exact xH_bad (f := 4) (by decide) (by decide) (fun ts pl ci => by rw [show (G 4 4).toInt = 3 by omega]; exact hO_n4 (by decide) (by decide) (by omega) (by omega) (by show ¬ (_ ∨ _ ∨ _); omega) (by omega))), (by show (4 ≠ 0 ∨ (G 1 3).toInt ≠ 0); (first | omega | (simp only [Int32.reduceToInt, true_and, and_true, ne_eq, not_true_eq_false, false_and, or_false, false_or, true_or, or_true, false_implies] <;> omega)))⟩) rfl rfl dX8_takeOfNumbers_126
          · refine g_iconst F 2 dX8_takeOfNumbers_112 (by decide) ?_
            exact u_iret F hA hQ hr G (⟨hI, gu_un.rf, (by decide), (nb), (by show ((G 4 4).toInt = -1 ∨ (G 4 5).toInt ≤ 1 ∨ ((G 4 5).toInt ≤ 2 ∧ ((G 4 4).toInt = 3 ∨ (G 4 4).toInt = 4)) ∨ ((G 4 5).toInt ≤ 4 ∧ (G 4 4).toInt = 8) ∨ (G 4 4).toInt = 9); (first | omega | (simp only [Int32.reduceToInt, true_and, and_true, ne_eq, not_true_eq_false, false_and, or_false, false_or, true_or, or_true, false_implies] <;> omega))), (by show ((G 4 4).toInt = -1 ∨ (G 4 4).toInt = (G 4 4).toInt); (first | omega | (simp only [Int32.reduceToInt, true_and, and_true, ne_eq, not_true_eq_false, false_and, or_false, false_or, true_or, or_true, false_implies] <;> omega))), (by show ((G 4 2).toInt ≤ (G 4 2).toInt + 1); (first | omega | (simp only [Int32.reduceToInt, true_and, and_true, ne_eq, not_true_eq_false, false_and, or_false, false_or, true_or, or_true, false_implies] <;> omega))), (by have m9 : hMo 3 = 2 := (by decide); have l9 : hLo 3 = 0 := (by decide); have h9 : hHi 3 = 200 := (by decide); have s9 : hSl 3 = 3 := (by decide); exact xH_bad (f := 2) (by decide) (by decide) (fun ts pl ci => by rw [show (G 4 4).toInt = 3 by omega]; exact hO_n2 (by decide) (by decide) (by omega) (by omega) (by show _ ∨ _ ∨ _; omega))), (by show (2 ≠ 0 ∨ (G 1 3).toInt ≠ 0); (first | omega | (simp only [Int32.reduceToInt, true_and, and_true, ne_eq, not_true_eq_false, false_and, or_false, false_or, true_or, or_true, false_implies] <;> omega)))⟩) rfl rfl dX8_takeOfNumbers_113
        · refine g_iconst F 1 dX8_takeOfNumbers_102 (by decide) ?_
          exact u_iret F hA hQ hr G (⟨hI, gu_un.rf, (by decide), (nb), (by show ((G 4 4).toInt = -1 ∨ (G 4 5).toInt ≤ 1 ∨ ((G 4 5).toInt ≤ 2 ∧ ((G 4 4).toInt = 3 ∨ (G 4 4).toInt = 4)) ∨ ((G 4 5).toInt ≤ 4 ∧ (G 4 4).toInt = 8) ∨ (G 4 4).toInt = 9); (first | omega | (simp only [Int32.reduceToInt, true_and, and_true, ne_eq, not_true_eq_false, false_and, or_false, false_or, true_or, or_true, false_implies] <;> omega))), (by show ((G 4 4).toInt = -1 ∨ (G 4 4).toInt = (G 4 4).toInt); (first | omega | (simp only [Int32.reduceToInt, true_and, and_true, ne_eq, not_true_eq_false, false_and, or_false, false_or, true_or, or_true, false_implies] <;> omega))), (by show ((G 4 2).toInt ≤ (G 4 2).toInt + 1); (first | omega | (simp only [Int32.reduceToInt, true_and, and_true, ne_eq, not_true_eq_false, false_and, or_false, false_or, true_or, or_true, false_implies] <;> omega))), (by have m9 : hMo 3 = 2 := (by decide); have l9 : hLo 3 = 0 := (by decide); have h9 : hHi 3 = 200 := (by decide); have s9 : hSl 3 = 3 := (by decide); exact xH_bad (f := 1) (by decide) (by decide) (fun ts pl ci => by rw [show (G 4 4).toInt = 3 by omega]; exact hO_n1 (by decide) (by decide) (by show ¬ (_ ∧ _ ∧ _); omega) (by omega))), (by show (1 ≠ 0 ∨ (G 1 3).toInt ≠ 0); (first | omega | (simp only [Int32.reduceToInt, true_and, and_true, ne_eq, not_true_eq_false, false_and, or_false, false_or, true_or, or_true, false_implies] <;> omega)))⟩) rfl rfl dX8_takeOfNumbers_103
    · refine g_iload_n F 0 dX8_takeOfNumbers_51 rfl rfl ?_
      refine v_if_eq F 70 dX8_takeOfNumbers_52 (by decide) 0 rfl (fun c36 => ?_) (fun c36 => absurd c36 (by decide))
      refine g_aload_n F 1 dX8_takeOfNumbers_70 rfl rfl ?_
      refine u_callVv (k := 0) (n := 0) (b := a 4) (As := []) (st := []) F (fun sz => S_X8_closeClause l D K a G  (by (first | omega | (simp only [Int32.reduceToInt, true_and, and_true, ne_eq, not_true_eq_false, false_and, or_false, false_or, true_or, or_true, false_implies] <;> omega))) hI sz) (cwV 0 hts gX8_takeOfNumbers_X8_closeClause rfl rfl rfl (by decide +kernel) ⟨Nat.le_of_ble_eq_true rfl, Nat.le_of_ble_eq_true rfl⟩) rfl 4 xc_4 rfl (Nat.le_of_ble_eq_true rfl) ⟨Nat.zero_le _, Nat.zero_le _⟩ dX8_takeOfNumbers_71 (fun G39 hw38 => ?_)
      have hI40 : xI G39 := hw38.1
      have hU41 : gu_un xcd [403, 405] G G39 := hw38.2.1
      have hp42 := hw38.2.2
      have b43 : ((-1) : Int) ≤ (G39 4 4).toInt ∧ (G39 4 4).toInt ≤ 12 := hI40 4 4
      have q44 : ((G39 4 4).toInt = -1) := hp42.1
      have b45 : (0 : Int) ≤ (G39 4 2).toInt ∧ (G39 4 2).toInt ≤ 1001 := hI40 4 2
      have q46 : ((G39 4 2).toInt = (G 4 2).toInt + 1) := hp42.2
      clear hp42 hw38
      refine g_iconst F 0 dX8_takeOfNumbers_74 (by decide) ?_
      exact u_iret F hA hQ hr G39 (⟨hI40, (gu_un.tr gu_un.rf (gu_un.su hU41 rfl)), (by decide), ((xNb.un nb (show gu_un xcd [403, 405] G G39 from (gu_un.tr gu_un.rf (gu_un.su hU41 rfl))) rfl)), (by show ((G39 4 4).toInt = -1 ∨ (G39 4 5).toInt ≤ 1 ∨ ((G39 4 5).toInt ≤ 2 ∧ ((G39 4 4).toInt = 3 ∨ (G39 4 4).toInt = 4)) ∨ ((G39 4 5).toInt ≤ 4 ∧ (G39 4 4).toInt = 8) ∨ (G39 4 4).toInt = 9); have e9_4_5 : G39 4 5 = (G 4 5) := hU41 4 5 (by decide); (try simp only [e9_4_5, true_and, and_true]) <;> (first | omega | (simp only [Int32.reduceToInt, true_and, and_true, ne_eq, not_true_eq_false, false_and, or_false, false_or, true_or, or_true, false_implies] <;> omega))), (by show ((G39 4 4).toInt = -1 ∨ (G39 4 4).toInt = (G 4 4).toInt); (first | omega | (simp only [Int32.reduceToInt, true_and, and_true, ne_eq, not_true_eq_false, false_and, or_false, false_or, true_or, or_true, false_implies] <;> omega))), (by show ((G39 4 2).toInt ≤ (G 4 2).toInt + 1); (first | omega | (simp only [Int32.reduceToInt, true_and, and_true, ne_eq, not_true_eq_false, false_and, or_false, false_or, true_or, or_true, false_implies] <;> omega))), (by have m9 : hMo 3 = 2 := (by decide); have l9 : hLo 3 = 0 := (by decide); have h9 : hHi 3 = 200 := (by decide); have s9 : hSl 3 = 3 := (by decide); exact xH_nE (c := 3) (by decide) (show (G 4 4).toInt = 3 by omega) (by decide) (by decide) ⟨by omega, by omega, by omega⟩ (show (G39 4 4).toInt = -1 by rw [show G39 4 4 = (G39 4 4) from rfl] <;> first | rfl | omega) (show G39 4 5 = (G 4 5) from hU41 4 5 (by decide)) (show G39 4 6 = (G 4 6) from hU41 4 6 (by decide)) (show (G39 4 2).toInt = (G 4 2).toInt + 1 by rw [show G39 4 2 = (G39 4 2) from rfl] <;> first | rfl | omega) (show G39 4 3 = (G 4 3) from hU41 4 3 (by decide)) (by rw [if_neg (by decide), if_neg (by decide)]; exact (show G39 19 = G 19 from funext fun k_ => hU41 19 k_ (show (1900 : Nat) ∉ ([403, 405] : List Nat) by decide))) (xSg_un (show gu_un xcd [403, 405] G G39 from (gu_un.tr gu_un.rf (gu_un.su hU41 rfl))) rfl rfl rfl)), (by show (0 ≠ 0 ∨ (G 1 3).toInt ≠ 0); (first | omega | (simp only [Int32.reduceToInt, true_and, and_true, ne_eq, not_true_eq_false, false_and, or_false, false_or, true_or, or_true, false_implies] <;> omega)))⟩) rfl rfl dX8_takeOfNumbers_75
  · have b47 : (0 : Int) ≤ (G 1 3).toInt ∧ (G 1 3).toInt ≤ 4 := hI 1 3
    have q12 : ((G 1 3).toInt ≠ 3 ∨ (G 1 5).toInt ≠ (59 : Int)) := q12
    refine v_if_eq F 76 dX8_takeOfNumbers_23 (by decide) 0 rfl (fun c48 => ?_) (fun c48 => absurd c48 (by decide))
    refine g_aload_n F 1 dX8_takeOfNumbers_76 rfl rfl ?_
    refine xg_4_0 F i_X8 w_0 dX8_takeOfNumbers_77 ?_
    refine xg_1_3 F i_X10 w_3 dX8_takeOfNumbers_80 (G 1 3) (rfl) ?_
    refine g_iconst F 2 dX8_takeOfNumbers_83 (by decide) ?_
    refine v_icmp_ne F 102 dX8_takeOfNumbers_84 (by decide) (G 1 3).toInt 2 rfl rfl (fun c49 => ?_) (fun c49 => ?_)
    · refine g_iconst F 1 dX8_takeOfNumbers_102 (by decide) ?_
      exact u_iret F hA hQ hr G (⟨hI, gu_un.rf, (by decide), (nb), (by show ((G 4 4).toInt = -1 ∨ (G 4 5).toInt ≤ 1 ∨ ((G 4 5).toInt ≤ 2 ∧ ((G 4 4).toInt = 3 ∨ (G 4 4).toInt = 4)) ∨ ((G 4 5).toInt ≤ 4 ∧ (G 4 4).toInt = 8) ∨ (G 4 4).toInt = 9); (first | omega | (simp only [Int32.reduceToInt, true_and, and_true, ne_eq, not_true_eq_false, false_and, or_false, false_or, true_or, or_true, false_implies] <;> omega))), (by show ((G 4 4).toInt = -1 ∨ (G 4 4).toInt = (G 4 4).toInt); (first | omega | (simp only [Int32.reduceToInt, true_and, and_true, ne_eq, not_true_eq_false, false_and, or_false, false_or, true_or, or_true, false_implies] <;> omega))), (by show ((G 4 2).toInt ≤ (G 4 2).toInt + 1); (first | omega | (simp only [Int32.reduceToInt, true_and, and_true, ne_eq, not_true_eq_false, false_and, or_false, false_or, true_or, or_true, false_implies] <;> omega))), (by have m9 : hMo 3 = 2 := (by decide); have l9 : hLo 3 = 0 := (by decide); have h9 : hHi 3 = 200 := (by decide); have s9 : hSl 3 = 3 := (by decide); exact xH_bad (f := 1) (by decide) (by decide) (fun ts pl ci => by rw [show (G 4 4).toInt = 3 by omega]; exact hO_n1 (by decide) (by decide) (by show ¬ (_ ∧ _ ∧ _); omega) (by omega))), (by show (1 ≠ 0 ∨ (G 1 3).toInt ≠ 0); (first | omega | (simp only [Int32.reduceToInt, true_and, and_true, ne_eq, not_true_eq_false, false_and, or_false, false_or, true_or, or_true, false_implies] <;> omega)))⟩) rfl rfl dX8_takeOfNumbers_103
    · refine g_iload_n F 0 dX8_takeOfNumbers_87 rfl rfl ?_
      refine v_if_ne F 104 dX8_takeOfNumbers_88 (by decide) 0 rfl (fun c50 => absurd c50 (by decide)) (fun c50 => ?_)
      refine g_aload_n F 1 dX8_takeOfNumbers_91 rfl rfl ?_
      refine xg_4_5 F i_X8 w_1 dX8_takeOfNumbers_92 (G 4 5) (rfl) ?_
      refine g_aload_n F 2 dX8_takeOfNumbers_95 rfl rfl ?_
      refine uz_getf F (show va_OF "QuietCut$Clause" "most" "I" (.int 2) (zf 13) A s s.heap from (hZ.2.2.2.2.2 3 (by decide)).2.2.2.1) w_2 dX8_takeOfNumbers_96 ?_
      refine v_icmp_ne F 104 dX8_takeOfNumbers_99 (by decide) (G 4 5).toInt 2 rfl rfl (fun c51 => ?_) (fun c51 => ?_)
      · refine g_aload_n F 1 dX8_takeOfNumbers_104 rfl rfl ?_
        refine g_aload_n F 2 dX8_takeOfNumbers_105 rfl rfl ?_
        refine uz_callVi (k := 0) (n := 0) (b := a 4) (As := [.ref (zf 13)]) (st := []) F xZ_st hZ (fun sz => S_X8_isInBounds_c3 l D K a G zf  hI sz) (cwV 1 hts gX8_takeOfNumbers_X8_isInBounds rfl rfl rfl (by decide +kernel) ⟨Nat.le_of_ble_eq_true rfl, Nat.le_of_ble_eq_true rfl⟩) rfl 4 xc_4 rfl (Nat.le_of_ble_eq_true rfl) ⟨Nat.zero_le _, Nat.zero_le _⟩ dX8_takeOfNumbers_106 (fun r52 _ hw53 => ?_)
        have q55 : ((r52.toInt = 1 ∧ (0 ≤ (G 1 5).toInt ∧ (G 1 5).toInt ≤ 200 ∧ ((G 4 5).toInt ≠ 1 ∨ ((G 4 6).toInt ≤ (G 1 5).toInt ∧ (G 1 5).toInt ≤ (G 4 6).toInt + 3)))) ∨ (r52.toInt = 0 ∧ ¬ (0 ≤ (G 1 5).toInt ∧ (G 1 5).toInt ≤ 200 ∧ ((G 4 5).toInt ≠ 1 ∨ ((G 4 6).toInt ≤ (G 1 5).toInt ∧ (G 1 5).toInt ≤ (G 4 6).toInt + 3))))) := hw53.2
        have rg56 := hw53.1
        clear hw53
        refine v_if_ne F 114 dX8_takeOfNumbers_109 (by decide) r52.toInt rfl (fun c57 => ?_) (fun c57 => ?_)
        · refine g_aload_n F 1 dX8_takeOfNumbers_114 rfl rfl ?_
          refine xg_4_5 F i_X8 w_1 dX8_takeOfNumbers_115 (G 4 5) (rfl) ?_
          refine g_aload_n F 2 dX8_takeOfNumbers_118 rfl rfl ?_
          refine uz_getf F (show va_OF "QuietCut$Clause" "most" "I" (.int 2) (zf 13) A s s.heap from (hZ.2.2.2.2.2 3 (by decide)).2.2.2.1) w_2 dX8_takeOfNumbers_119 ?_
          refine v_icmp_ne F 127 dX8_takeOfNumbers_122 (by decide) (G 4 5).toInt 2 rfl rfl (fun c58 => ?_) (fun c58 => ?_)
          · refine g_aload_n F 1 dX8_takeOfNumbers_127 rfl rfl ?_
            refine xg_4_1 F i_X8 w_4 dX8_takeOfNumbers_128 ?_
            refine g_aload_n F 2 dX8_takeOfNumbers_131 rfl rfl ?_
            refine uz_getf F (show va_OF "QuietCut$Clause" "slot" "I" (.int 3) (zf 13) A s s.heap from (hZ.2.2.2.2.2 3 (by decide)).2.2.1) w_5 dX8_takeOfNumbers_132 ?_
            refine g_aload_n F 1 dX8_takeOfNumbers_135 rfl rfl ?_
            refine xg_4_5 F i_X8 w_1 dX8_takeOfNumbers_136 (G 4 5) (rfl) ?_
            refine u_iadd F dX8_takeOfNumbers_139 3 (G 4 5).toInt rfl rfl (by omega) (by omega) (fun y59 ey59 => ?_)
            refine g_aload_n F 1 dX8_takeOfNumbers_140 rfl rfl ?_
            refine xg_4_0 F i_X8 w_0 dX8_takeOfNumbers_141 ?_
            refine xg_1_5 F i_X10 w_6 dX8_takeOfNumbers_144 (G 1 5) (rfl) ?_
            refine u_callVv (k := 0) (n := 0) (b := a 3) (As := [.int y59, .int (G 1 5)]) (st := []) F (fun sz => S_X7_put_3 l D K a G y59 y59.toInt (G 1 5) (G 1 5).toInt rfl (by omega) rfl hI sz) (cwV 2 hts gX8_takeOfNumbers_X7_put rfl rfl rfl (by decide +kernel) ⟨Nat.le_of_ble_eq_true rfl, Nat.le_of_ble_eq_true rfl⟩) rfl 3 xc_3 rfl (Nat.le_of_ble_eq_true rfl) ⟨Nat.zero_le _, Nat.zero_le _⟩ dX8_takeOfNumbers_147 (fun G62 hw61 => ?_)
            have hI63 : xI G62 := hw61.1
            have hU64 : gu_un xcd [1900] G G62 := hw61.2.1
            have hp65 := hw61.2.2
            have q66 : (G62 19 = upd (G 19) (y59.toInt).toNat (G 1 5)) := hp65
            clear hp65 hw61
            refine g_aload_n F 1 dX8_takeOfNumbers_150 rfl rfl ?_
            refine g_dup F dX8_takeOfNumbers_151 rfl ?_
            refine xg_4_5 F i_X8 w_1 dX8_takeOfNumbers_152 (G 4 5) (hU64 4 5 (by decide)) ?_
            refine g_iconst F 1 dX8_takeOfNumbers_155 (by decide) ?_
            refine u_iadd F dX8_takeOfNumbers_156 (G 4 5).toInt 1 rfl rfl (by omega) (by omega) (fun y67 ey67 => ?_)
            refine xp_4_5 F i_X8 w_1 dX8_takeOfNumbers_157 ?_
            refine g_aload_n F 1 dX8_takeOfNumbers_160 rfl rfl ?_
            refine g_aload_n F 1 dX8_takeOfNumbers_161 rfl rfl ?_
            refine xg_4_0 F i_X8 w_0 dX8_takeOfNumbers_162 ?_
            refine xg_1_5 F i_X10 w_6 dX8_takeOfNumbers_165 (G 1 5) (hU64 1 5 (by decide)) ?_
            refine xp_4_6 F i_X8 w_7 dX8_takeOfNumbers_168 ?_
            refine g_iconst F 0 dX8_takeOfNumbers_171 (by decide) ?_
            exact u_iret F hA hQ hr (gu_up (gu_up G62 4 5 y67) 4 6 (G 1 5)) (⟨(gu_I.up (j := 4) (k := 6) (v := (G 1 5)) (gu_I.up (j := 4) (k := 5) (v := y67) hI63 (show (0 : Int) ≤ Int32.toInt y67 by omega) (show Int32.toInt y67 ≤ 6 by omega)) (show (0 : Int) ≤ Int32.toInt (G 1 5) by omega) (show Int32.toInt (G 1 5) ≤ 9999 by omega)), (gu_un.up (j := 4) (k := 6) (v := (G 1 5)) (gu_un.up (j := 4) (k := 5) (v := y67) (gu_un.tr gu_un.rf (gu_un.su hU64 rfl)) (show (406 : Nat) ∈ ([403, 405, 406, 407, 1900] : List Nat) by decide)) (show (407 : Nat) ∈ ([403, 405, 406, 407, 1900] : List Nat) by decide)), (by decide), ((xNb.un (G := G62) (by rw [q66]; rcases (show y59.toInt = 3 ∨ y59.toInt = 4 by omega) with h9 | h9 <;> (rw [h9]; first | exact xNb.put nb (show (0 : Int) ≤ Int32.toInt (G 1 5) by omega) (show Int32.toInt (G 1 5) ≤ 200 by omega) | exact xNb.put nb (show (0 : Int) ≤ Int32.toInt (G 1 5) by omega) (show Int32.toInt (G 1 5) ≤ 200 by omega))) (show gu_un xcd [406, 407] G62 (gu_up (gu_up G62 4 5 y67) 4 6 (G 1 5)) from (gu_un.up (j := 4) (k := 6) (v := (G 1 5)) (gu_un.up (j := 4) (k := 5) (v := y67) gu_un.rf (show (406 : Nat) ∈ ([406, 407] : List Nat) by decide)) (show (407 : Nat) ∈ ([406, 407] : List Nat) by decide))) rfl)), (by show (((gu_up (gu_up G62 4 5 y67) 4 6 (G 1 5)) 4 4).toInt = -1 ∨ ((gu_up (gu_up G62 4 5 y67) 4 6 (G 1 5)) 4 5).toInt ≤ 1 ∨ (((gu_up (gu_up G62 4 5 y67) 4 6 (G 1 5)) 4 5).toInt ≤ 2 ∧ (((gu_up (gu_up G62 4 5 y67) 4 6 (G 1 5)) 4 4).toInt = 3 ∨ ((gu_up (gu_up G62 4 5 y67) 4 6 (G 1 5)) 4 4).toInt = 4)) ∨ (((gu_up (gu_up G62 4 5 y67) 4 6 (G 1 5)) 4 5).toInt ≤ 4 ∧ ((gu_up (gu_up G62 4 5 y67) 4 6 (G 1 5)) 4 4).toInt = 8) ∨ ((gu_up (gu_up G62 4 5 y67) 4 6 (G 1 5)) 4 4).toInt = 9); have e9_4_4 : (gu_up (gu_up G62 4 5 y67) 4 6 (G 1 5)) 4 4 = (G 4 4) := hU64 4 4 (by decide); have e9_4_5 : (gu_up (gu_up G62 4 5 y67) 4 6 (G 1 5)) 4 5 = y67 := rfl; (try simp only [e9_4_4, e9_4_5, true_and, and_true]) <;> (first | omega | (simp only [Int32.reduceToInt, true_and, and_true, ne_eq, not_true_eq_false, false_and, or_false, false_or, true_or, or_true, false_implies] <;> omega))), (by show (((gu_up (gu_up G62 4 5 y67) 4 6 (G 1 5)) 4 4).toInt = -1 ∨ ((gu_up (gu_up G62 4 5 y67) 4 6 (G 1 5)) 4 4).toInt = (G 4 4).toInt); have e9_4_4 : (gu_up (gu_up G62 4 5 y67) 4 6 (G 1 5)) 4 4 = (G 4 4) := hU64 4 4 (by decide); (try simp only [e9_4_4, true_and, and_true]) <;> (first | omega | (simp only [Int32.reduceToInt, true_and, and_true, ne_eq, not_true_eq_false, false_and, or_false, false_or, true_or, or_true, false_implies] <;> omega))), (by show (((gu_up (gu_up G62 4 5 y67) 4 6 (G 1 5)) 4 2).toInt ≤ (G 4 2).toInt + 1); have e9_4_2 : (gu_up (gu_up G62 4 5 y67) 4 6 (G 1 5)) 4 2 = (G 4 2) := hU64 4 2 (by decide); (try simp only [e9_4_2, true_and, and_true]) <;> (first | omega | (simp only [Int32.reduceToInt, true_and, and_true, ne_eq, not_true_eq_false, false_and, or_false, false_or, true_or, or_true, false_implies] <;> omega))), (by have m9 : hMo 3 = 2 := (by decide); have l9 : hLo 3 = 0 := (by decide); have h9 : hHi 3 = 200 := (by decide); have s9 : hSl 3 = 3 := (by decide); exact xH_nP (c := 3) (by decide) (show (G 4 4).toInt = 3 by omega) (by decide) (by decide) (by omega) (by show ¬ (_ ∨ _ ∨ _); omega) (by omega) (show (gu_up (gu_up G62 4 5 y67) 4 6 (G 1 5)) 4 4 = (G 4 4) from hU64 4 4 (by decide)) (show ((gu_up (gu_up G62 4 5 y67) 4 6 (G 1 5)) 4 5).toInt = (G 4 5).toInt + 1 by rw [show (gu_up (gu_up G62 4 5 y67) 4 6 (G 1 5)) 4 5 = y67 from rfl] <;> first | rfl | omega) (show ((gu_up (gu_up G62 4 5 y67) 4 6 (G 1 5)) 4 6).toInt = (G 1 5).toInt by rw [show (gu_up (gu_up G62 4 5 y67) 4 6 (G 1 5)) 4 6 = (G 1 5) from rfl] <;> first | rfl | omega) (show (gu_up (gu_up G62 4 5 y67) 4 6 (G 1 5)) 4 2 = (G 4 2) from hU64 4 2 (by decide)) (show (gu_up (gu_up G62 4 5 y67) 4 6 (G 1 5)) 4 3 = (G 4 3) from hU64 4 3 (by decide)) (x := (G 1 5)) rfl (q := y59.toInt) (by omega) (show (gu_up (gu_up G62 4 5 y67) 4 6 (G 1 5)) 19 = upd (G 19) (y59.toInt).toNat (G 1 5) from (show (gu_up (gu_up G62 4 5 y67) 4 6 (G 1 5)) 19 = G62 19 from funext fun k_ => (show gu_un xcd [406, 407] G62 (gu_up (gu_up G62 4 5 y67) 4 6 (G 1 5)) from (gu_un.up (j := 4) (k := 6) (v := (G 1 5)) (gu_un.up (j := 4) (k := 5) (v := y67) gu_un.rf (show (406 : Nat) ∈ ([406, 407] : List Nat) by decide)) (show (407 : Nat) ∈ ([406, 407] : List Nat) by decide))) 19 k_ (by simp [xcd])).trans q66) (xSg_un (show gu_un xcd [406, 407, 1900] G (gu_up (gu_up G62 4 5 y67) 4 6 (G 1 5)) from (gu_un.up (j := 4) (k := 6) (v := (G 1 5)) (gu_un.up (j := 4) (k := 5) (v := y67) (gu_un.tr gu_un.rf (gu_un.su hU64 rfl)) (show (406 : Nat) ∈ ([406, 407, 1900] : List Nat) by decide)) (show (407 : Nat) ∈ ([406, 407, 1900] : List Nat) by decide))) rfl rfl rfl)), (by show (0 ≠ 0 ∨ (G 1 3).toInt ≠ 0); (first | omega | (simp only [Int32.reduceToInt, true_and, and_true, ne_eq, not_true_eq_false, false_and, or_false, false_or, true_or, or_true, false_implies] <;> omega)))⟩) rfl rfl dX8_takeOfNumbers_172
          · refine g_iconst F 4 dX8_takeOfNumbers_125 (by decide) ?_
            exact u_iret F hA hQ hr G (⟨hI, gu_un.rf, (by decide), (nb), (by show ((G 4 4).toInt = -1 ∨ (G 4 5).toInt ≤ 1 ∨ ((G 4 5).toInt ≤ 2 ∧ ((G 4 4).toInt = 3 ∨ (G 4 4).toInt = 4)) ∨ ((G 4 5).toInt ≤ 4 ∧ (G 4 4).toInt = 8) ∨ (G 4 4).toInt = 9); (first | omega | (simp only [Int32.reduceToInt, true_and, and_true, ne_eq, not_true_eq_false, false_and, or_false, false_or, true_or, or_true, false_implies] <;> omega))), (by show ((G 4 4).toInt = -1 ∨ (G 4 4).toInt = (G 4 4).toInt); (first | omega | (simp only [Int32.reduceToInt, true_and, and_true, ne_eq, not_true_eq_false, false_and, or_false, false_or, true_or, or_true, false_implies] <;> omega))), (by show ((G 4 2).toInt ≤ (G 4 2).toInt + 1); (first | omega | (simp only [Int32.reduceToInt, true_and, and_true, ne_eq, not_true_eq_false, false_and, or_false, false_or, true_or, or_true, false_implies] <;> omega))), (by have m9 : hMo 3 = 2 := (by decide); have l9 : hLo 3 = 0 := (by decide); have h9 : hHi 3 = 200 := (by decide); have s9 : hSl 3 = 3 := (by decide); exact xH_bad (f := 4) (by decide) (by decide) (fun ts pl ci => by rw [show (G 4 4).toInt = 3 by omega]; exact hO_n4 (by decide) (by decide) (by omega) (by omega) (by show ¬ (_ ∨ _ ∨ _); omega) (by omega))), (by show (4 ≠ 0 ∨ (G 1 3).toInt ≠ 0); (first | omega | (simp only [Int32.reduceToInt, true_and, and_true, ne_eq, not_true_eq_false, false_and, or_false, false_or, true_or, or_true, false_implies] <;> omega)))⟩) rfl rfl dX8_takeOfNumbers_126
        · refine g_iconst F 2 dX8_takeOfNumbers_112 (by decide) ?_
          exact u_iret F hA hQ hr G (⟨hI, gu_un.rf, (by decide), (nb), (by show ((G 4 4).toInt = -1 ∨ (G 4 5).toInt ≤ 1 ∨ ((G 4 5).toInt ≤ 2 ∧ ((G 4 4).toInt = 3 ∨ (G 4 4).toInt = 4)) ∨ ((G 4 5).toInt ≤ 4 ∧ (G 4 4).toInt = 8) ∨ (G 4 4).toInt = 9); (first | omega | (simp only [Int32.reduceToInt, true_and, and_true, ne_eq, not_true_eq_false, false_and, or_false, false_or, true_or, or_true, false_implies] <;> omega))), (by show ((G 4 4).toInt = -1 ∨ (G 4 4).toInt = (G 4 4).toInt); (first | omega | (simp only [Int32.reduceToInt, true_and, and_true, ne_eq, not_true_eq_false, false_and, or_false, false_or, true_or, or_true, false_implies] <;> omega))), (by show ((G 4 2).toInt ≤ (G 4 2).toInt + 1); (first | omega | (simp only [Int32.reduceToInt, true_and, and_true, ne_eq, not_true_eq_false, false_and, or_false, false_or, true_or, or_true, false_implies] <;> omega))), (by have m9 : hMo 3 = 2 := (by decide); have l9 : hLo 3 = 0 := (by decide); have h9 : hHi 3 = 200 := (by decide); have s9 : hSl 3 = 3 := (by decide); exact xH_bad (f := 2) (by decide) (by decide) (fun ts pl ci => by rw [show (G 4 4).toInt = 3 by omega]; exact hO_n2 (by decide) (by decide) (by omega) (by omega) (by show _ ∨ _ ∨ _; omega))), (by show (2 ≠ 0 ∨ (G 1 3).toInt ≠ 0); (first | omega | (simp only [Int32.reduceToInt, true_and, and_true, ne_eq, not_true_eq_false, false_and, or_false, false_or, true_or, or_true, false_implies] <;> omega)))⟩) rfl rfl dX8_takeOfNumbers_113
      · refine g_iconst F 1 dX8_takeOfNumbers_102 (by decide) ?_
        exact u_iret F hA hQ hr G (⟨hI, gu_un.rf, (by decide), (nb), (by show ((G 4 4).toInt = -1 ∨ (G 4 5).toInt ≤ 1 ∨ ((G 4 5).toInt ≤ 2 ∧ ((G 4 4).toInt = 3 ∨ (G 4 4).toInt = 4)) ∨ ((G 4 5).toInt ≤ 4 ∧ (G 4 4).toInt = 8) ∨ (G 4 4).toInt = 9); (first | omega | (simp only [Int32.reduceToInt, true_and, and_true, ne_eq, not_true_eq_false, false_and, or_false, false_or, true_or, or_true, false_implies] <;> omega))), (by show ((G 4 4).toInt = -1 ∨ (G 4 4).toInt = (G 4 4).toInt); (first | omega | (simp only [Int32.reduceToInt, true_and, and_true, ne_eq, not_true_eq_false, false_and, or_false, false_or, true_or, or_true, false_implies] <;> omega))), (by show ((G 4 2).toInt ≤ (G 4 2).toInt + 1); (first | omega | (simp only [Int32.reduceToInt, true_and, and_true, ne_eq, not_true_eq_false, false_and, or_false, false_or, true_or, or_true, false_implies] <;> omega))), (by have m9 : hMo 3 = 2 := (by decide); have l9 : hLo 3 = 0 := (by decide); have h9 : hHi 3 = 200 := (by decide); have s9 : hSl 3 = 3 := (by decide); exact xH_bad (f := 1) (by decide) (by decide) (fun ts pl ci => by rw [show (G 4 4).toInt = 3 by omega]; exact hO_n1 (by decide) (by decide) (by show ¬ (_ ∧ _ ∧ _); omega) (by omega))), (by show (1 ≠ 0 ∨ (G 1 3).toInt ≠ 0); (first | omega | (simp only [Int32.reduceToInt, true_and, and_true, ne_eq, not_true_eq_false, false_and, or_false, false_or, true_or, or_true, false_implies] <;> omega)))⟩) rfl rfl dX8_takeOfNumbers_103


set_option maxHeartbeats 4000000 in
set_option maxRecDepth 100000 in
theorem S_X8_isInBounds_c4 (l : Launch) (D : va_G) (K : Nat → ClassId) (a : Nat → Nat) (G : gS) (zf : Nat → Nat) (hI : xI G) (sz : Nat) : KiZ (xZ zf) l yX8_isInBounds wsX8_isInBounds 2 60 D [.ref (a 4), .ref (zf 14)] (xW K a G) (tK K) sz (fun (r : Int32) (_ : Unit) => (0 ≤ r.toInt ∧ r.toInt ≤ 1) ∧ (((r.toInt = 1 ∧ (0 ≤ (G 1 5).toInt ∧ (G 1 5).toInt ≤ 200 ∧ ((G 4 5).toInt ≠ 1 ∨ ((G 4 6).toInt ≤ (G 1 5).toInt ∧ (G 1 5).toInt ≤ (G 4 6).toInt + 3)))) ∨ (r.toInt = 0 ∧ ¬ (0 ≤ (G 1 5).toInt ∧ (G 1 5).toInt ≤ 200 ∧ ((G 4 5).toInt ≠ 1 ∨ ((G 4 6).toInt ≤ (G 1 5).toInt ∧ (G 1 5).toInt ≤ (G 4 6).toInt + 3))))))) (fun (_ : Unit) => (xW K a G)) := by
  unfold KiZ
  refine gz_ofW (cc := cX8_isInBounds) (lv := [(0, .ref (a 4)), (1, .ref (zf 14))]) (by decide) rfl (Nat.le_of_ble_eq_true rfl) rfl ?_
  intro p e s m args below meth c A Q hA hQ hZ F hr hnm
  have hts := F.2.2.2.2.1
  have w_0 : (Cond.fieldLink RX8 9 "QuietCut$ShopReader" "tape" "LQuietCut$Tape;").before args s = true := hts _ (List.mem_of_getElem? (i := 1) rfl)
  have i_X8 : ∀ w ∈ u_ws RX8 TX8 7, w ∈ wsX8_isInBounds := fun _ h => List.mem_cons_of_mem _ (List.mem_append_left _ (List.mem_append_right _ h))
  have w_1 : (Cond.fieldLink RX8 125 "QuietCut$Tape" "value" "I").before args s = true := hts _ (List.mem_of_getElem? (i := 2) rfl)
  have i_X10 : ∀ w ∈ u_ws RX10 TX10 6, w ∈ wsX8_isInBounds := fun _ h => List.mem_cons_of_mem _ (List.mem_append_right _ h)
  have w_2 : (Cond.fieldLink RX8 131 "QuietCut$Clause" "low" "I").before args s = true := hts _ (List.mem_of_getElem? (i := 3) rfl)
  have w_3 : (Cond.fieldLink RX8 134 "QuietCut$Clause" "high" "I").before args s = true := hts _ (List.mem_of_getElem? (i := 4) rfl)
  have w_4 : (Cond.fieldLink RX8 77 "QuietCut$ShopReader" "numbers" "I").before args s = true := hts _ (List.mem_of_getElem? (i := 5) rfl)
  have w_5 : (Cond.fieldLink RX8 128 "QuietCut$ShopReader" "latest" "I").before args s = true := hts _ (List.mem_of_getElem? (i := 6) rfl)
  have b1 : (0 : Int) ≤ (G 4 5).toInt ∧ (G 4 5).toInt ≤ 6 := hI 4 5
  have b2 : (0 : Int) ≤ (G 4 6).toInt ∧ (G 4 6).toInt ≤ 9999 := hI 4 6
  refine g_aload_n F 0 dX8_isInBounds_0 rfl rfl ?_
  refine xg_4_0 F i_X8 w_0 dX8_isInBounds_1 ?_
  refine xg_1_5 F i_X10 w_1 dX8_isInBounds_4 (G 1 5) (rfl) ?_
  refine g_aload_n F 1 dX8_isInBounds_7 rfl rfl ?_
  refine uz_getf F (show va_OF "QuietCut$Clause" "low" "I" (.int 0) (zf 14) A s s.heap from (hZ.2.2.2.2.2 4 (by decide)).2.2.2.2.1) w_2 dX8_isInBounds_8 ?_
  refine v_icmp_lt F 28 dX8_isInBounds_11 (by decide) (G 1 5).toInt 0 rfl rfl (fun c3 => ?_) (fun c3 => ?_)
  · refine g_iconst F 0 dX8_isInBounds_28 (by decide) ?_
    exact u_zret F hA hQ hr rfl () (⟨(by decide), (by show ((0 = 1 ∧ (0 ≤ (G 1 5).toInt ∧ (G 1 5).toInt ≤ 200 ∧ ((G 4 5).toInt ≠ 1 ∨ ((G 4 6).toInt ≤ (G 1 5).toInt ∧ (G 1 5).toInt ≤ (G 4 6).toInt + 3)))) ∨ (0 = 0 ∧ ¬ (0 ≤ (G 1 5).toInt ∧ (G 1 5).toInt ≤ 200 ∧ ((G 4 5).toInt ≠ 1 ∨ ((G 4 6).toInt ≤ (G 1 5).toInt ∧ (G 1 5).toInt ≤ (G 4 6).toInt + 3))))); (first | omega | (simp only [Int32.reduceToInt, true_and, and_true, ne_eq, not_true_eq_false, false_and, or_false, false_or, true_or, or_true, false_implies] <;> omega)))⟩) rfl rfl dX8_isInBounds_29
  · refine g_aload_n F 0 dX8_isInBounds_14 rfl rfl ?_
    refine xg_4_0 F i_X8 w_0 dX8_isInBounds_15 ?_
    refine xg_1_5 F i_X10 w_1 dX8_isInBounds_18 (G 1 5) (rfl) ?_
    refine g_aload_n F 1 dX8_isInBounds_21 rfl rfl ?_
    refine uz_getf F (show va_OF "QuietCut$Clause" "high" "I" (.int 200) (zf 14) A s s.heap from (hZ.2.2.2.2.2 4 (by decide)).2.2.2.2.2.1) w_3 dX8_isInBounds_22 ?_
    have b4 := ti_rng (G 1 5)
    refine v_icmp_le F 30 dX8_isInBounds_25 (by decide) (G 1 5).toInt 200 rfl rfl (fun c5 => ?_) (fun c5 => ?_)
    · refine g_aload_n F 1 dX8_isInBounds_30 rfl rfl ?_
      refine uz_call0Vi (k := 0) (n := 0) (b := (zf 14)) (As := []) (st := []) F xZ_st hZ (fun sz => S_X1_manySlot_c4 l D zf sz) (cwV 0 hts gX8_isInBounds_X1_manySlot rfl rfl rfl (by decide +kernel) ⟨Nat.le_of_ble_eq_true rfl, Nat.le_of_ble_eq_true rfl⟩) (hZ.2.2.2.2.2 4 (by decide)).1 rfl (Nat.le_of_ble_eq_true rfl) ⟨Nat.zero_le _, Nat.zero_le _⟩ dX8_isInBounds_31 (fun r6 _ hw7 => ?_)
      have hw7 : r6.toInt = -1 := hw7
      refine g_fold (-1) ((ti_eq rfl (show ((-1) : Int32).toInt = (-1) from rfl)).mpr hw7) ?_
      refine g_iconst F (-1) dX8_isInBounds_34 (by decide) ?_
      refine v_icmp_ne F 50 dX8_isInBounds_35 (by decide) (-1) (-1) rfl rfl (fun c8 => absurd c8 (by decide)) (fun c8 => ?_)
      refine g_aload_n F 0 dX8_isInBounds_38 rfl rfl ?_
      refine xg_4_5 F i_X8 w_4 dX8_isInBounds_39 (G 4 5) (rfl) ?_
      refine g_iconst F 1 dX8_isInBounds_42 (by decide) ?_
      refine v_icmp_ne F 50 dX8_isInBounds_43 (by decide) (G 4 5).toInt 1 rfl rfl (fun c9 => ?_) (fun c9 => ?_)
      · refine g_iconst F 0 dX8_isInBounds_50 (by decide) ?_
        refine g_istore_n F [(2, .int 0), (0, .ref (a 4)), (1, .ref (zf 14))] dX8_isInBounds_51 rfl (by decide) rfl ?_
        refine g_iload_n F 0 dX8_isInBounds_52 rfl rfl ?_
        refine v_if_eq F 86 dX8_isInBounds_53 (by decide) 0 rfl (fun c10 => ?_) (fun c10 => absurd c10 (by decide))
        refine g_iconst F 1 dX8_isInBounds_86 (by decide) ?_
        refine g_goto F 91 dX8_isInBounds_87 (by decide) ?_
        exact u_zret F hA hQ hr rfl () (⟨(by decide), (by show ((1 = 1 ∧ (0 ≤ (G 1 5).toInt ∧ (G 1 5).toInt ≤ 200 ∧ ((G 4 5).toInt ≠ 1 ∨ ((G 4 6).toInt ≤ (G 1 5).toInt ∧ (G 1 5).toInt ≤ (G 4 6).toInt + 3)))) ∨ (1 = 0 ∧ ¬ (0 ≤ (G 1 5).toInt ∧ (G 1 5).toInt ≤ 200 ∧ ((G 4 5).toInt ≠ 1 ∨ ((G 4 6).toInt ≤ (G 1 5).toInt ∧ (G 1 5).toInt ≤ (G 4 6).toInt + 3))))); (first | omega | (simp only [Int32.reduceToInt, true_and, and_true, ne_eq, not_true_eq_false, false_and, or_false, false_or, true_or, or_true, false_implies] <;> omega)))⟩) rfl rfl dX8_isInBounds_91
      · refine g_iconst F 1 dX8_isInBounds_46 (by decide) ?_
        refine g_goto F 51 dX8_isInBounds_47 (by decide) ?_
        refine g_istore_n F [(2, .int 1), (0, .ref (a 4)), (1, .ref (zf 14))] dX8_isInBounds_51 rfl (by decide) rfl ?_
        refine g_iload_n F 0 dX8_isInBounds_52 rfl rfl ?_
        refine v_if_eq F 86 dX8_isInBounds_53 (by decide) 1 rfl (fun c11 => absurd c11 (by decide)) (fun c11 => ?_)
        refine g_aload_n F 1 dX8_isInBounds_56 rfl rfl ?_
        refine xg_4_0 F i_X8 w_0 dX8_isInBounds_57 ?_
        refine xg_1_5 F i_X10 w_1 dX8_isInBounds_60 (G 1 5) (rfl) ?_
        refine g_aload_n F 1 dX8_isInBounds_63 rfl rfl ?_
        refine xg_4_6 F i_X8 w_5 dX8_isInBounds_64 (G 4 6) (rfl) ?_
        refine v_icmp_lt F 90 dX8_isInBounds_67 (by decide) (G 1 5).toInt (G 4 6).toInt rfl rfl (fun c12 => ?_) (fun c12 => ?_)
        · refine g_iconst F 0 dX8_isInBounds_90 (by decide) ?_
          exact u_zret F hA hQ hr rfl () (⟨(by decide), (by show ((0 = 1 ∧ (0 ≤ (G 1 5).toInt ∧ (G 1 5).toInt ≤ 200 ∧ ((G 4 5).toInt ≠ 1 ∨ ((G 4 6).toInt ≤ (G 1 5).toInt ∧ (G 1 5).toInt ≤ (G 4 6).toInt + 3)))) ∨ (0 = 0 ∧ ¬ (0 ≤ (G 1 5).toInt ∧ (G 1 5).toInt ≤ 200 ∧ ((G 4 5).toInt ≠ 1 ∨ ((G 4 6).toInt ≤ (G 1 5).toInt ∧ (G 1 5).toInt ≤ (G 4 6).toInt + 3))))); (first | omega | (simp only [Int32.reduceToInt, true_and, and_true, ne_eq, not_true_eq_false, false_and, or_false, false_or, true_or, or_true, false_implies] <;> omega)))⟩) rfl rfl dX8_isInBounds_91
        · refine g_aload_n F 1 dX8_isInBounds_70 rfl rfl ?_
          refine xg_4_0 F i_X8 w_0 dX8_isInBounds_71 ?_
          refine xg_1_5 F i_X10 w_1 dX8_isInBounds_74 (G 1 5) (rfl) ?_
          refine g_aload_n F 1 dX8_isInBounds_77 rfl rfl ?_
          refine xg_4_6 F i_X8 w_5 dX8_isInBounds_78 (G 4 6) (rfl) ?_
          refine g_iconst F 3 dX8_isInBounds_81 (by decide) ?_
          refine u_iadd F dX8_isInBounds_82 (G 4 6).toInt 3 rfl rfl (by omega) (by omega) (fun y13 ey13 => ?_)
          refine v_icmp_gt F 90 dX8_isInBounds_83 (by decide) (G 1 5).toInt y13.toInt rfl rfl (fun c14 => ?_) (fun c14 => ?_)
          · refine g_iconst F 0 dX8_isInBounds_90 (by decide) ?_
            exact u_zret F hA hQ hr rfl () (⟨(by decide), (by show ((0 = 1 ∧ (0 ≤ (G 1 5).toInt ∧ (G 1 5).toInt ≤ 200 ∧ ((G 4 5).toInt ≠ 1 ∨ ((G 4 6).toInt ≤ (G 1 5).toInt ∧ (G 1 5).toInt ≤ (G 4 6).toInt + 3)))) ∨ (0 = 0 ∧ ¬ (0 ≤ (G 1 5).toInt ∧ (G 1 5).toInt ≤ 200 ∧ ((G 4 5).toInt ≠ 1 ∨ ((G 4 6).toInt ≤ (G 1 5).toInt ∧ (G 1 5).toInt ≤ (G 4 6).toInt + 3))))); (first | omega | (simp only [Int32.reduceToInt, true_and, and_true, ne_eq, not_true_eq_false, false_and, or_false, false_or, true_or, or_true, false_implies] <;> omega)))⟩) rfl rfl dX8_isInBounds_91
          · refine g_iconst F 1 dX8_isInBounds_86 (by decide) ?_
            refine g_goto F 91 dX8_isInBounds_87 (by decide) ?_
            exact u_zret F hA hQ hr rfl () (⟨(by decide), (by show ((1 = 1 ∧ (0 ≤ (G 1 5).toInt ∧ (G 1 5).toInt ≤ 200 ∧ ((G 4 5).toInt ≠ 1 ∨ ((G 4 6).toInt ≤ (G 1 5).toInt ∧ (G 1 5).toInt ≤ (G 4 6).toInt + 3)))) ∨ (1 = 0 ∧ ¬ (0 ≤ (G 1 5).toInt ∧ (G 1 5).toInt ≤ 200 ∧ ((G 4 5).toInt ≠ 1 ∨ ((G 4 6).toInt ≤ (G 1 5).toInt ∧ (G 1 5).toInt ≤ (G 4 6).toInt + 3))))); (first | omega | (simp only [Int32.reduceToInt, true_and, and_true, ne_eq, not_true_eq_false, false_and, or_false, false_or, true_or, or_true, false_implies] <;> omega)))⟩) rfl rfl dX8_isInBounds_91
    · refine g_iconst F 0 dX8_isInBounds_28 (by decide) ?_
      exact u_zret F hA hQ hr rfl () (⟨(by decide), (by show ((0 = 1 ∧ (0 ≤ (G 1 5).toInt ∧ (G 1 5).toInt ≤ 200 ∧ ((G 4 5).toInt ≠ 1 ∨ ((G 4 6).toInt ≤ (G 1 5).toInt ∧ (G 1 5).toInt ≤ (G 4 6).toInt + 3)))) ∨ (0 = 0 ∧ ¬ (0 ≤ (G 1 5).toInt ∧ (G 1 5).toInt ≤ 200 ∧ ((G 4 5).toInt ≠ 1 ∨ ((G 4 6).toInt ≤ (G 1 5).toInt ∧ (G 1 5).toInt ≤ (G 4 6).toInt + 3))))); (first | omega | (simp only [Int32.reduceToInt, true_and, and_true, ne_eq, not_true_eq_false, false_and, or_false, false_or, true_or, or_true, false_implies] <;> omega)))⟩) rfl rfl dX8_isInBounds_29


set_option maxHeartbeats 4000000 in
set_option maxRecDepth 100000 in
theorem S_X8_takeOfNumbers_c4 (l : Launch) (D : va_G) (K : Nat → ClassId) (a : Nat → Nat) (G : gS) (zf : Nat → Nat) (nb : xNb (G 19)) (ck : ((G 4 2).toInt ≤ 1000)) (rn : ((G 4 5).toInt ≤ 2 ∧ (G 4 4).toInt = 4)) (hI : xI G) (sz : Nat) : KiZ (xZ zf) l yX8_takeOfNumbers wsX8_takeOfNumbers 3 82 D [.ref (a 4), .ref (zf 14)] (xW K a G) (tK K) sz (fun (r : Int32) (G' : gS) => (xI G') ∧ (gu_un xcd [403, 405, 406, 407, 1900] G G') ∧ (0 ≤ r.toInt ∧ r.toInt ≤ 4) ∧ (xNb (G' 19)) ∧ (((G' 4 4).toInt = -1 ∨ (G' 4 5).toInt ≤ 1 ∨ ((G' 4 5).toInt ≤ 2 ∧ ((G' 4 4).toInt = 3 ∨ (G' 4 4).toInt = 4)) ∨ ((G' 4 5).toInt ≤ 4 ∧ (G' 4 4).toInt = 8) ∨ (G' 4 4).toInt = 9)) ∧ (((G' 4 4).toInt = -1 ∨ (G' 4 4).toInt = (G 4 4).toInt)) ∧ (((G' 4 2).toInt ≤ (G 4 2).toInt + 1)) ∧ ((∀ (ts : List hTk) (pl ci : Int), xH (((G 1 3).toInt, pl, (G 1 5).toInt, ci) :: ts) G = if r.toInt = 0 then xH ts G' else hBad r.toInt pl)) ∧ ((r.toInt ≠ 0 ∨ (G 1 3).toInt ≠ 0))) (fun (G' : gS) => (xW K a G')) := by
  unfold KiZ
  refine gz_ofW (cc := cX8_takeOfNumbers) (lv := [(0, .ref (a 4)), (1, .ref (zf 14))]) (by decide) rfl (Nat.le_of_ble_eq_true rfl) rfl ?_
  intro p e s m args below meth c A Q hA hQ hZ F hr hnm
  have hts := F.2.2.2.2.1
  have w_0 : (Cond.fieldLink RX8 9 "QuietCut$ShopReader" "tape" "LQuietCut$Tape;").before args s = true := hts _ (List.mem_of_getElem? (i := 1) rfl)
  have i_X8 : ∀ w ∈ u_ws RX8 TX8 7, w ∈ wsX8_takeOfNumbers := fun _ h => List.mem_cons_of_mem _ (List.mem_append_left _ (List.mem_append_left _ (List.mem_append_right _ h)))
  have w_1 : (Cond.fieldLink RX8 77 "QuietCut$ShopReader" "numbers" "I").before args s = true := hts _ (List.mem_of_getElem? (i := 2) rfl)
  have w_2 : (Cond.fieldLink RX8 114 "QuietCut$Clause" "most" "I").before args s = true := hts _ (List.mem_of_getElem? (i := 3) rfl)
  have w_3 : (Cond.fieldLink RX8 42 "QuietCut$Tape" "kind" "I").before args s = true := hts _ (List.mem_of_getElem? (i := 5) rfl)
  have i_X10 : ∀ w ∈ u_ws RX10 TX10 6, w ∈ wsX8_takeOfNumbers := fun _ h => List.mem_cons_of_mem _ (List.mem_append_left _ (List.mem_append_right _ h))
  have w_4 : (Cond.fieldLink RX8 15 "QuietCut$ShopReader" "target" "LQuietCut$Shop;").before args s = true := hts _ (List.mem_of_getElem? (i := 4) rfl)
  have w_5 : (Cond.fieldLink RX8 80 "QuietCut$Clause" "slot" "I").before args s = true := hts _ (List.mem_of_getElem? (i := 6) rfl)
  have w_6 : (Cond.fieldLink RX8 125 "QuietCut$Tape" "value" "I").before args s = true := hts _ (List.mem_of_getElem? (i := 7) rfl)
  have w_7 : (Cond.fieldLink RX8 128 "QuietCut$ShopReader" "latest" "I").before args s = true := hts _ (List.mem_of_getElem? (i := 8) rfl)
  have b1 : (0 : Int) ≤ (G 4 5).toInt ∧ (G 4 5).toInt ≤ 6 := hI 4 5
  have b2 : ((-1) : Int) ≤ (G 4 4).toInt ∧ (G 4 4).toInt ≤ 12 := hI 4 4
  have b3 : (0 : Int) ≤ (G 4 2).toInt ∧ (G 4 2).toInt ≤ 1001 := hI 4 2
  have b4 : (0 : Int) ≤ (G 4 6).toInt ∧ (G 4 6).toInt ≤ 9999 := hI 4 6
  refine g_aload_n F 1 dX8_takeOfNumbers_0 rfl rfl ?_
  refine uz_call0Vi (k := 0) (n := 0) (b := (zf 14)) (As := []) (st := []) F xZ_st hZ (fun sz => S_X1_manySlot_c4 l D zf sz) (cwV 0 hts gX8_takeOfNumbers_X1_manySlot rfl rfl rfl (by decide +kernel) ⟨Nat.le_of_ble_eq_true rfl, Nat.le_of_ble_eq_true rfl⟩) (hZ.2.2.2.2.2 4 (by decide)).1 rfl (Nat.le_of_ble_eq_true rfl) ⟨Nat.zero_le _, Nat.zero_le _⟩ dX8_takeOfNumbers_1 (fun r5 _ hw6 => ?_)
  have hw6 : r5.toInt = -1 := hw6
  refine g_fold (-1) ((ti_eq rfl (show ((-1) : Int32).toInt = (-1) from rfl)).mpr hw6) ?_
  refine g_iconst F (-1) dX8_takeOfNumbers_4 (by decide) ?_
  refine v_icmp_eq F 12 dX8_takeOfNumbers_5 (by decide) (-1) (-1) rfl rfl (fun c7 => ?_) (fun c7 => absurd c7 (by decide))
  refine g_iconst F 0 dX8_takeOfNumbers_12 (by decide) ?_
  refine g_istore_n F [(2, .int 0), (0, .ref (a 4)), (1, .ref (zf 14))] dX8_takeOfNumbers_13 rfl (by decide) rfl ?_
  refine g_aload_n F 1 dX8_takeOfNumbers_14 rfl rfl ?_
  refine xg_4_0 F i_X8 w_0 dX8_takeOfNumbers_15 ?_
  refine g_bipush F 59 dX8_takeOfNumbers_18 (by decide) ?_
  refine u_callVi (k := 0) (n := 0) (b := a 1) (As := [.int 59]) (st := []) F (fun sz => S_X10_isSign l D K a G 59 59 rfl hI sz) (cwV 1 hts gX8_takeOfNumbers_X10_isSign rfl rfl rfl (by decide +kernel) ⟨Nat.le_of_ble_eq_true rfl, Nat.le_of_ble_eq_true rfl⟩) rfl 1 xc_1 rfl (Nat.le_of_ble_eq_true rfl) ⟨Nat.zero_le _, Nat.zero_le _⟩ dX8_takeOfNumbers_20 (fun r8 _ hw9 => ?_)
  rcases hw9 with ⟨rfl, q11⟩ | ⟨rfl, q12⟩
  · have b13 : (0 : Int) ≤ (G 1 3).toInt ∧ (G 1 3).toInt ≤ 4 := hI 1 3
    have q11 : ((G 1 3).toInt = 3 ∧ (G 1 5).toInt = (59 : Int)) := q11
    refine v_if_eq F 76 dX8_takeOfNumbers_23 (by decide) 1 rfl (fun c14 => absurd c14 (by decide)) (fun c14 => ?_)
    refine g_iload_n F 0 dX8_takeOfNumbers_26 rfl rfl ?_
    refine v_if_eq F 40 dX8_takeOfNumbers_27 (by decide) 0 rfl (fun c15 => ?_) (fun c15 => absurd c15 (by decide))
    refine g_aload_n F 1 dX8_takeOfNumbers_40 rfl rfl ?_
    refine xg_4_5 F i_X8 w_1 dX8_takeOfNumbers_41 (G 4 5) (rfl) ?_
    refine g_aload_n F 2 dX8_takeOfNumbers_44 rfl rfl ?_
    refine uz_getf F (show va_OF "QuietCut$Clause" "most" "I" (.int 2) (zf 14) A s s.heap from (hZ.2.2.2.2.2 4 (by decide)).2.2.2.1) w_2 dX8_takeOfNumbers_45 ?_
    refine v_icmp_ne F 76 dX8_takeOfNumbers_48 (by decide) (G 4 5).toInt 2 rfl rfl (fun c16 => ?_) (fun c16 => ?_)
    · refine g_aload_n F 1 dX8_takeOfNumbers_76 rfl rfl ?_
      refine xg_4_0 F i_X8 w_0 dX8_takeOfNumbers_77 ?_
      refine xg_1_3 F i_X10 w_3 dX8_takeOfNumbers_80 (G 1 3) (rfl) ?_
      refine g_iconst F 2 dX8_takeOfNumbers_83 (by decide) ?_
      refine v_icmp_ne F 102 dX8_takeOfNumbers_84 (by decide) (G 1 3).toInt 2 rfl rfl (fun c17 => ?_) (fun c17 => ?_)
      · refine g_iconst F 1 dX8_takeOfNumbers_102 (by decide) ?_
        exact u_iret F hA hQ hr G (⟨hI, gu_un.rf, (by decide), (nb), (by show ((G 4 4).toInt = -1 ∨ (G 4 5).toInt ≤ 1 ∨ ((G 4 5).toInt ≤ 2 ∧ ((G 4 4).toInt = 3 ∨ (G 4 4).toInt = 4)) ∨ ((G 4 5).toInt ≤ 4 ∧ (G 4 4).toInt = 8) ∨ (G 4 4).toInt = 9); (first | omega | (simp only [Int32.reduceToInt, true_and, and_true, ne_eq, not_true_eq_false, false_and, or_false, false_or, true_or, or_true, false_implies] <;> omega))), (by show ((G 4 4).toInt = -1 ∨ (G 4 4).toInt = (G 4 4).toInt); (first | omega | (simp only [Int32.reduceToInt, true_and, and_true, ne_eq, not_true_eq_false, false_and, or_false, false_or, true_or, or_true, false_implies] <;> omega))), (by show ((G 4 2).toInt ≤ (G 4 2).toInt + 1); (first | omega | (simp only [Int32.reduceToInt, true_and, and_true, ne_eq, not_true_eq_false, false_and, or_false, false_or, true_or, or_true, false_implies] <;> omega))), (by have m9 : hMo 4 = 2 := (by decide); have l9 : hLo 4 = 0 := (by decide); have h9 : hHi 4 = 200 := (by decide); have s9 : hSl 4 = 5 := (by decide); exact xH_bad (f := 1) (by decide) (by decide) (fun ts pl ci => by rw [show (G 4 4).toInt = 4 by omega]; exact hO_n1 (by decide) (by decide) (by show ¬ (_ ∧ _ ∧ _); omega) (by omega))), (by show (1 ≠ 0 ∨ (G 1 3).toInt ≠ 0); (first | omega | (simp only [Int32.reduceToInt, true_and, and_true, ne_eq, not_true_eq_false, false_and, or_false, false_or, true_or, or_true, false_implies] <;> omega)))⟩) rfl rfl dX8_takeOfNumbers_103
      · refine g_iload_n F 0 dX8_takeOfNumbers_87 rfl rfl ?_
        refine v_if_ne F 104 dX8_takeOfNumbers_88 (by decide) 0 rfl (fun c18 => absurd c18 (by decide)) (fun c18 => ?_)
        refine g_aload_n F 1 dX8_takeOfNumbers_91 rfl rfl ?_
        refine xg_4_5 F i_X8 w_1 dX8_takeOfNumbers_92 (G 4 5) (rfl) ?_
        refine g_aload_n F 2 dX8_takeOfNumbers_95 rfl rfl ?_
        refine uz_getf F (show va_OF "QuietCut$Clause" "most" "I" (.int 2) (zf 14) A s s.heap from (hZ.2.2.2.2.2 4 (by decide)).2.2.2.1) w_2 dX8_takeOfNumbers_96 ?_
        refine v_icmp_ne F 104 dX8_takeOfNumbers_99 (by decide) (G 4 5).toInt 2 rfl rfl (fun c19 => ?_) (fun c19 => ?_)
        · refine g_aload_n F 1 dX8_takeOfNumbers_104 rfl rfl ?_
          refine g_aload_n F 2 dX8_takeOfNumbers_105 rfl rfl ?_
          refine uz_callVi (k := 0) (n := 0) (b := a 4) (As := [.ref (zf 14)]) (st := []) F xZ_st hZ (fun sz => S_X8_isInBounds_c4 l D K a G zf  hI sz) (cwV 1 hts gX8_takeOfNumbers_X8_isInBounds rfl rfl rfl (by decide +kernel) ⟨Nat.le_of_ble_eq_true rfl, Nat.le_of_ble_eq_true rfl⟩) rfl 4 xc_4 rfl (Nat.le_of_ble_eq_true rfl) ⟨Nat.zero_le _, Nat.zero_le _⟩ dX8_takeOfNumbers_106 (fun r20 _ hw21 => ?_)
          have q23 : ((r20.toInt = 1 ∧ (0 ≤ (G 1 5).toInt ∧ (G 1 5).toInt ≤ 200 ∧ ((G 4 5).toInt ≠ 1 ∨ ((G 4 6).toInt ≤ (G 1 5).toInt ∧ (G 1 5).toInt ≤ (G 4 6).toInt + 3)))) ∨ (r20.toInt = 0 ∧ ¬ (0 ≤ (G 1 5).toInt ∧ (G 1 5).toInt ≤ 200 ∧ ((G 4 5).toInt ≠ 1 ∨ ((G 4 6).toInt ≤ (G 1 5).toInt ∧ (G 1 5).toInt ≤ (G 4 6).toInt + 3))))) := hw21.2
          have rg24 := hw21.1
          clear hw21
          refine v_if_ne F 114 dX8_takeOfNumbers_109 (by decide) r20.toInt rfl (fun c25 => ?_) (fun c25 => ?_)
          · refine g_aload_n F 1 dX8_takeOfNumbers_114 rfl rfl ?_
            refine xg_4_5 F i_X8 w_1 dX8_takeOfNumbers_115 (G 4 5) (rfl) ?_
            refine g_aload_n F 2 dX8_takeOfNumbers_118 rfl rfl ?_
            refine uz_getf F (show va_OF "QuietCut$Clause" "most" "I" (.int 2) (zf 14) A s s.heap from (hZ.2.2.2.2.2 4 (by decide)).2.2.2.1) w_2 dX8_takeOfNumbers_119 ?_
            refine v_icmp_ne F 127 dX8_takeOfNumbers_122 (by decide) (G 4 5).toInt 2 rfl rfl (fun c26 => ?_) (fun c26 => ?_)
            · refine g_aload_n F 1 dX8_takeOfNumbers_127 rfl rfl ?_
              refine xg_4_1 F i_X8 w_4 dX8_takeOfNumbers_128 ?_
              refine g_aload_n F 2 dX8_takeOfNumbers_131 rfl rfl ?_
              refine uz_getf F (show va_OF "QuietCut$Clause" "slot" "I" (.int 5) (zf 14) A s s.heap from (hZ.2.2.2.2.2 4 (by decide)).2.2.1) w_5 dX8_takeOfNumbers_132 ?_
              refine g_aload_n F 1 dX8_takeOfNumbers_135 rfl rfl ?_
              refine xg_4_5 F i_X8 w_1 dX8_takeOfNumbers_136 (G 4 5) (rfl) ?_
              refine u_iadd F dX8_takeOfNumbers_139 5 (G 4 5).toInt rfl rfl (by omega) (by omega) (fun y27 ey27 => ?_)
              refine g_aload_n F 1 dX8_takeOfNumbers_140 rfl rfl ?_
              refine xg_4_0 F i_X8 w_0 dX8_takeOfNumbers_141 ?_
              refine xg_1_5 F i_X10 w_6 dX8_takeOfNumbers_144 (G 1 5) (rfl) ?_
              refine u_callVv (k := 0) (n := 0) (b := a 3) (As := [.int y27, .int (G 1 5)]) (st := []) F (fun sz => S_X7_put_3 l D K a G y27 y27.toInt (G 1 5) (G 1 5).toInt rfl (by omega) rfl hI sz) (cwV 2 hts gX8_takeOfNumbers_X7_put rfl rfl rfl (by decide +kernel) ⟨Nat.le_of_ble_eq_true rfl, Nat.le_of_ble_eq_true rfl⟩) rfl 3 xc_3 rfl (Nat.le_of_ble_eq_true rfl) ⟨Nat.zero_le _, Nat.zero_le _⟩ dX8_takeOfNumbers_147 (fun G30 hw29 => ?_)
              have hI31 : xI G30 := hw29.1
              have hU32 : gu_un xcd [1900] G G30 := hw29.2.1
              have hp33 := hw29.2.2
              have q34 : (G30 19 = upd (G 19) (y27.toInt).toNat (G 1 5)) := hp33
              clear hp33 hw29
              refine g_aload_n F 1 dX8_takeOfNumbers_150 rfl rfl ?_
              refine g_dup F dX8_takeOfNumbers_151 rfl ?_
              refine xg_4_5 F i_X8 w_1 dX8_takeOfNumbers_152 (G 4 5) (hU32 4 5 (by decide)) ?_
              refine g_iconst F 1 dX8_takeOfNumbers_155 (by decide) ?_
              refine u_iadd F dX8_takeOfNumbers_156 (G 4 5).toInt 1 rfl rfl (by omega) (by omega) (fun y35 ey35 => ?_)
              refine xp_4_5 F i_X8 w_1 dX8_takeOfNumbers_157 ?_
              refine g_aload_n F 1 dX8_takeOfNumbers_160 rfl rfl ?_
              refine g_aload_n F 1 dX8_takeOfNumbers_161 rfl rfl ?_
              refine xg_4_0 F i_X8 w_0 dX8_takeOfNumbers_162 ?_
              refine xg_1_5 F i_X10 w_6 dX8_takeOfNumbers_165 (G 1 5) (hU32 1 5 (by decide)) ?_
              refine xp_4_6 F i_X8 w_7 dX8_takeOfNumbers_168 ?_
              refine g_iconst F 0 dX8_takeOfNumbers_171 (by decide) ?_
              exact u_iret F hA hQ hr (gu_up (gu_up G30 4 5 y35) 4 6 (G 1 5)) (⟨(gu_I.up (j := 4) (k := 6) (v := (G 1 5)) (gu_I.up (j := 4) (k := 5) (v := y35) hI31 (show (0 : Int) ≤ Int32.toInt y35 by omega) (show Int32.toInt y35 ≤ 6 by omega)) (show (0 : Int) ≤ Int32.toInt (G 1 5) by omega) (show Int32.toInt (G 1 5) ≤ 9999 by omega)), (gu_un.up (j := 4) (k := 6) (v := (G 1 5)) (gu_un.up (j := 4) (k := 5) (v := y35) (gu_un.tr gu_un.rf (gu_un.su hU32 rfl)) (show (406 : Nat) ∈ ([403, 405, 406, 407, 1900] : List Nat) by decide)) (show (407 : Nat) ∈ ([403, 405, 406, 407, 1900] : List Nat) by decide)), (by decide), ((xNb.un (G := G30) (by rw [q34]; rcases (show y27.toInt = 5 ∨ y27.toInt = 6 by omega) with h9 | h9 <;> (rw [h9]; first | exact xNb.put nb (show (0 : Int) ≤ Int32.toInt (G 1 5) by omega) (show Int32.toInt (G 1 5) ≤ 200 by omega) | exact xNb.put nb (show (0 : Int) ≤ Int32.toInt (G 1 5) by omega) (show Int32.toInt (G 1 5) ≤ 200 by omega))) (show gu_un xcd [406, 407] G30 (gu_up (gu_up G30 4 5 y35) 4 6 (G 1 5)) from (gu_un.up (j := 4) (k := 6) (v := (G 1 5)) (gu_un.up (j := 4) (k := 5) (v := y35) gu_un.rf (show (406 : Nat) ∈ ([406, 407] : List Nat) by decide)) (show (407 : Nat) ∈ ([406, 407] : List Nat) by decide))) rfl)), (by show (((gu_up (gu_up G30 4 5 y35) 4 6 (G 1 5)) 4 4).toInt = -1 ∨ ((gu_up (gu_up G30 4 5 y35) 4 6 (G 1 5)) 4 5).toInt ≤ 1 ∨ (((gu_up (gu_up G30 4 5 y35) 4 6 (G 1 5)) 4 5).toInt ≤ 2 ∧ (((gu_up (gu_up G30 4 5 y35) 4 6 (G 1 5)) 4 4).toInt = 3 ∨ ((gu_up (gu_up G30 4 5 y35) 4 6 (G 1 5)) 4 4).toInt = 4)) ∨ (((gu_up (gu_up G30 4 5 y35) 4 6 (G 1 5)) 4 5).toInt ≤ 4 ∧ ((gu_up (gu_up G30 4 5 y35) 4 6 (G 1 5)) 4 4).toInt = 8) ∨ ((gu_up (gu_up G30 4 5 y35) 4 6 (G 1 5)) 4 4).toInt = 9); have e9_4_4 : (gu_up (gu_up G30 4 5 y35) 4 6 (G 1 5)) 4 4 = (G 4 4) := hU32 4 4 (by decide); have e9_4_5 : (gu_up (gu_up G30 4 5 y35) 4 6 (G 1 5)) 4 5 = y35 := rfl; (try simp only [e9_4_4, e9_4_5, true_and, and_true]) <;> (first | omega | (simp only [Int32.reduceToInt, true_and, and_true, ne_eq, not_true_eq_false, false_and, or_false, false_or, true_or, or_true, false_implies] <;> omega))), (by show (((gu_up (gu_up G30 4 5 y35) 4 6 (G 1 5)) 4 4).toInt = -1 ∨ ((gu_up (gu_up G30 4 5 y35) 4 6 (G 1 5)) 4 4).toInt = (G 4 4).toInt); have e9_4_4 : (gu_up (gu_up G30 4 5 y35) 4 6 (G 1 5)) 4 4 = (G 4 4) := hU32 4 4 (by decide); (try simp only [e9_4_4, true_and, and_true]) <;> (first | omega | (simp only [Int32.reduceToInt, true_and, and_true, ne_eq, not_true_eq_false, false_and, or_false, false_or, true_or, or_true, false_implies] <;> omega))), (by show (((gu_up (gu_up G30 4 5 y35) 4 6 (G 1 5)) 4 2).toInt ≤ (G 4 2).toInt + 1); have e9_4_2 : (gu_up (gu_up G30 4 5 y35) 4 6 (G 1 5)) 4 2 = (G 4 2) := hU32 4 2 (by decide); (try simp only [e9_4_2, true_and, and_true]) <;> (first | omega | (simp only [Int32.reduceToInt, true_and, and_true, ne_eq, not_true_eq_false, false_and, or_false, false_or, true_or, or_true, false_implies] <;> omega))), (by have m9 : hMo 4 = 2 := (by decide); have l9 : hLo 4 = 0 := (by decide); have h9 : hHi 4 = 200 := (by decide); have s9 : hSl 4 = 5 := (by decide); exact xH_nP (c := 4) (by decide) (show (G 4 4).toInt = 4 by omega) (by decide) (by decide) (by omega) (by show ¬ (_ ∨ _ ∨ _); omega) (by omega) (show (gu_up (gu_up G30 4 5 y35) 4 6 (G 1 5)) 4 4 = (G 4 4) from hU32 4 4 (by decide)) (show ((gu_up (gu_up G30 4 5 y35) 4 6 (G 1 5)) 4 5).toInt = (G 4 5).toInt + 1 by rw [show (gu_up (gu_up G30 4 5 y35) 4 6 (G 1 5)) 4 5 = y35 from rfl] <;> first | rfl | omega) (show ((gu_up (gu_up G30 4 5 y35) 4 6 (G 1 5)) 4 6).toInt = (G 1 5).toInt by rw [show (gu_up (gu_up G30 4 5 y35) 4 6 (G 1 5)) 4 6 = (G 1 5) from rfl] <;> first | rfl | omega) (show (gu_up (gu_up G30 4 5 y35) 4 6 (G 1 5)) 4 2 = (G 4 2) from hU32 4 2 (by decide)) (show (gu_up (gu_up G30 4 5 y35) 4 6 (G 1 5)) 4 3 = (G 4 3) from hU32 4 3 (by decide)) (x := (G 1 5)) rfl (q := y27.toInt) (by omega) (show (gu_up (gu_up G30 4 5 y35) 4 6 (G 1 5)) 19 = upd (G 19) (y27.toInt).toNat (G 1 5) from (show (gu_up (gu_up G30 4 5 y35) 4 6 (G 1 5)) 19 = G30 19 from funext fun k_ => (show gu_un xcd [406, 407] G30 (gu_up (gu_up G30 4 5 y35) 4 6 (G 1 5)) from (gu_un.up (j := 4) (k := 6) (v := (G 1 5)) (gu_un.up (j := 4) (k := 5) (v := y35) gu_un.rf (show (406 : Nat) ∈ ([406, 407] : List Nat) by decide)) (show (407 : Nat) ∈ ([406, 407] : List Nat) by decide))) 19 k_ (by simp [xcd])).trans q34) (xSg_un (show gu_un xcd [406, 407, 1900] G (gu_up (gu_up G30 4 5 y35) 4 6 (G 1 5)) from (gu_un.up (j := 4) (k := 6) (v := (G 1 5)) (gu_un.up (j := 4) (k := 5) (v := y35) (gu_un.tr gu_un.rf (gu_un.su hU32 rfl)) (show (406 : Nat) ∈ ([406, 407, 1900] : List Nat) by decide)) (show (407 : Nat) ∈ ([406, 407, 1900] : List Nat) by decide))) rfl rfl rfl)), (by show (0 ≠ 0 ∨ (G 1 3).toInt ≠ 0); (first | omega | (simp only [Int32.reduceToInt, true_and, and_true, ne_eq, not_true_eq_false, false_and, or_false, false_or, true_or, or_true, false_implies] <;> omega)))⟩) rfl rfl dX8_takeOfNumbers_172
            · refine g_iconst F 4 dX8_takeOfNumbers_125 (by decide) ?_
              exact u_iret F hA hQ hr G (⟨hI, gu_un.rf, (by decide), (nb), (by show ((G 4 4).toInt = -1 ∨ (G 4 5).toInt ≤ 1 ∨ ((G 4 5).toInt ≤ 2 ∧ ((G 4 4).toInt = 3 ∨ (G 4 4).toInt = 4)) ∨ ((G 4 5).toInt ≤ 4 ∧ (G 4 4).toInt = 8) ∨ (G 4 4).toInt = 9); (first | omega | (simp only [Int32.reduceToInt, true_and, and_true, ne_eq, not_true_eq_false, false_and, or_false, false_or, true_or, or_true, false_implies] <;> omega))), (by show ((G 4 4).toInt = -1 ∨ (G 4 4).toInt = (G 4 4).toInt); (first | omega | (simp only [Int32.reduceToInt, true_and, and_true, ne_eq, not_true_eq_false, false_and, or_false, false_or, true_or, or_true, false_implies] <;> omega))), (by show ((G 4 2).toInt ≤ (G 4 2).toInt + 1); (first | omega | (simp only [Int32.reduceToInt, true_and, and_true, ne_eq, not_true_eq_false, false_and, or_false, false_or, true_or, or_true, false_implies] <;> omega))), (by have m9 : hMo 4 = 2 := (by decide); have l9 : hLo 4 = 0 := (by decide); have h9 : hHi 4 = 200 := (by decide); have s9 : hSl 4 = 5 := (by decide); exact xH_bad (f := 4) (by decide) (by decide) (fun ts pl ci => by rw [show (G 4 4).toInt = 4 by omega]; exact hO_n4 (by decide) (by decide) (by omega) (by omega) (by show ¬ (_ ∨ _ ∨ _); omega) (by omega))), (by show (4 ≠ 0 ∨ (G 1 3).toInt ≠ 0); (first | omega | (simp only [Int32.reduceToInt, true_and, and_true, ne_eq, not_true_eq_false, false_and, or_false, false_or, true_or, or_true, false_implies] <;> omega)))⟩) rfl rfl dX8_takeOfNumbers_126
          · refine g_iconst F 2 dX8_takeOfNumbers_112 (by decide) ?_
            exact u_iret F hA hQ hr G (⟨hI, gu_un.rf, (by decide), (nb), (by show ((G 4 4).toInt = -1 ∨ (G 4 5).toInt ≤ 1 ∨ ((G 4 5).toInt ≤ 2 ∧ ((G 4 4).toInt = 3 ∨ (G 4 4).toInt = 4)) ∨ ((G 4 5).toInt ≤ 4 ∧ (G 4 4).toInt = 8) ∨ (G 4 4).toInt = 9); (first | omega | (simp only [Int32.reduceToInt, true_and, and_true, ne_eq, not_true_eq_false, false_and, or_false, false_or, true_or, or_true, false_implies] <;> omega))), (by show ((G 4 4).toInt = -1 ∨ (G 4 4).toInt = (G 4 4).toInt); (first | omega | (simp only [Int32.reduceToInt, true_and, and_true, ne_eq, not_true_eq_false, false_and, or_false, false_or, true_or, or_true, false_implies] <;> omega))), (by show ((G 4 2).toInt ≤ (G 4 2).toInt + 1); (first | omega | (simp only [Int32.reduceToInt, true_and, and_true, ne_eq, not_true_eq_false, false_and, or_false, false_or, true_or, or_true, false_implies] <;> omega))), (by have m9 : hMo 4 = 2 := (by decide); have l9 : hLo 4 = 0 := (by decide); have h9 : hHi 4 = 200 := (by decide); have s9 : hSl 4 = 5 := (by decide); exact xH_bad (f := 2) (by decide) (by decide) (fun ts pl ci => by rw [show (G 4 4).toInt = 4 by omega]; exact hO_n2 (by decide) (by decide) (by omega) (by omega) (by show _ ∨ _ ∨ _; omega))), (by show (2 ≠ 0 ∨ (G 1 3).toInt ≠ 0); (first | omega | (simp only [Int32.reduceToInt, true_and, and_true, ne_eq, not_true_eq_false, false_and, or_false, false_or, true_or, or_true, false_implies] <;> omega)))⟩) rfl rfl dX8_takeOfNumbers_113
        · refine g_iconst F 1 dX8_takeOfNumbers_102 (by decide) ?_
          exact u_iret F hA hQ hr G (⟨hI, gu_un.rf, (by decide), (nb), (by show ((G 4 4).toInt = -1 ∨ (G 4 5).toInt ≤ 1 ∨ ((G 4 5).toInt ≤ 2 ∧ ((G 4 4).toInt = 3 ∨ (G 4 4).toInt = 4)) ∨ ((G 4 5).toInt ≤ 4 ∧ (G 4 4).toInt = 8) ∨ (G 4 4).toInt = 9); (first | omega | (simp only [Int32.reduceToInt, true_and, and_true, ne_eq, not_true_eq_false, false_and, or_false, false_or, true_or, or_true, false_implies] <;> omega))), (by show ((G 4 4).toInt = -1 ∨ (G 4 4).toInt = (G 4 4).toInt); (first | omega | (simp only [Int32.reduceToInt, true_and, and_true, ne_eq, not_true_eq_false, false_and, or_false, false_or, true_or, or_true, false_implies] <;> omega))), (by show ((G 4 2).toInt ≤ (G 4 2).toInt + 1); (first | omega | (simp only [Int32.reduceToInt, true_and, and_true, ne_eq, not_true_eq_false, false_and, or_false, false_or, true_or, or_true, false_implies] <;> omega))), (by have m9 : hMo 4 = 2 := (by decide); have l9 : hLo 4 = 0 := (by decide); have h9 : hHi 4 = 200 := (by decide); have s9 : hSl 4 = 5 := (by decide); exact xH_bad (f := 1) (by decide) (by decide) (fun ts pl ci => by rw [show (G 4 4).toInt = 4 by omega]; exact hO_n1 (by decide) (by decide) (by show ¬ (_ ∧ _ ∧ _); omega) (by omega))), (by show (1 ≠ 0 ∨ (G 1 3).toInt ≠ 0); (first | omega | (simp only [Int32.reduceToInt, true_and, and_true, ne_eq, not_true_eq_false, false_and, or_false, false_or, true_or, or_true, false_implies] <;> omega)))⟩) rfl rfl dX8_takeOfNumbers_103
    · refine g_iload_n F 0 dX8_takeOfNumbers_51 rfl rfl ?_
      refine v_if_eq F 70 dX8_takeOfNumbers_52 (by decide) 0 rfl (fun c36 => ?_) (fun c36 => absurd c36 (by decide))
      refine g_aload_n F 1 dX8_takeOfNumbers_70 rfl rfl ?_
      refine u_callVv (k := 0) (n := 0) (b := a 4) (As := []) (st := []) F (fun sz => S_X8_closeClause l D K a G  (by (first | omega | (simp only [Int32.reduceToInt, true_and, and_true, ne_eq, not_true_eq_false, false_and, or_false, false_or, true_or, or_true, false_implies] <;> omega))) hI sz) (cwV 0 hts gX8_takeOfNumbers_X8_closeClause rfl rfl rfl (by decide +kernel) ⟨Nat.le_of_ble_eq_true rfl, Nat.le_of_ble_eq_true rfl⟩) rfl 4 xc_4 rfl (Nat.le_of_ble_eq_true rfl) ⟨Nat.zero_le _, Nat.zero_le _⟩ dX8_takeOfNumbers_71 (fun G39 hw38 => ?_)
      have hI40 : xI G39 := hw38.1
      have hU41 : gu_un xcd [403, 405] G G39 := hw38.2.1
      have hp42 := hw38.2.2
      have b43 : ((-1) : Int) ≤ (G39 4 4).toInt ∧ (G39 4 4).toInt ≤ 12 := hI40 4 4
      have q44 : ((G39 4 4).toInt = -1) := hp42.1
      have b45 : (0 : Int) ≤ (G39 4 2).toInt ∧ (G39 4 2).toInt ≤ 1001 := hI40 4 2
      have q46 : ((G39 4 2).toInt = (G 4 2).toInt + 1) := hp42.2
      clear hp42 hw38
      refine g_iconst F 0 dX8_takeOfNumbers_74 (by decide) ?_
      exact u_iret F hA hQ hr G39 (⟨hI40, (gu_un.tr gu_un.rf (gu_un.su hU41 rfl)), (by decide), ((xNb.un nb (show gu_un xcd [403, 405] G G39 from (gu_un.tr gu_un.rf (gu_un.su hU41 rfl))) rfl)), (by show ((G39 4 4).toInt = -1 ∨ (G39 4 5).toInt ≤ 1 ∨ ((G39 4 5).toInt ≤ 2 ∧ ((G39 4 4).toInt = 3 ∨ (G39 4 4).toInt = 4)) ∨ ((G39 4 5).toInt ≤ 4 ∧ (G39 4 4).toInt = 8) ∨ (G39 4 4).toInt = 9); have e9_4_5 : G39 4 5 = (G 4 5) := hU41 4 5 (by decide); (try simp only [e9_4_5, true_and, and_true]) <;> (first | omega | (simp only [Int32.reduceToInt, true_and, and_true, ne_eq, not_true_eq_false, false_and, or_false, false_or, true_or, or_true, false_implies] <;> omega))), (by show ((G39 4 4).toInt = -1 ∨ (G39 4 4).toInt = (G 4 4).toInt); (first | omega | (simp only [Int32.reduceToInt, true_and, and_true, ne_eq, not_true_eq_false, false_and, or_false, false_or, true_or, or_true, false_implies] <;> omega))), (by show ((G39 4 2).toInt ≤ (G 4 2).toInt + 1); (first | omega | (simp only [Int32.reduceToInt, true_and, and_true, ne_eq, not_true_eq_false, false_and, or_false, false_or, true_or, or_true, false_implies] <;> omega))), (by have m9 : hMo 4 = 2 := (by decide); have l9 : hLo 4 = 0 := (by decide); have h9 : hHi 4 = 200 := (by decide); have s9 : hSl 4 = 5 := (by decide); exact xH_nE (c := 4) (by decide) (show (G 4 4).toInt = 4 by omega) (by decide) (by decide) ⟨by omega, by omega, by omega⟩ (show (G39 4 4).toInt = -1 by rw [show G39 4 4 = (G39 4 4) from rfl] <;> first | rfl | omega) (show G39 4 5 = (G 4 5) from hU41 4 5 (by decide)) (show G39 4 6 = (G 4 6) from hU41 4 6 (by decide)) (show (G39 4 2).toInt = (G 4 2).toInt + 1 by rw [show G39 4 2 = (G39 4 2) from rfl] <;> first | rfl | omega) (show G39 4 3 = (G 4 3) from hU41 4 3 (by decide)) (by rw [if_neg (by decide), if_neg (by decide)]; exact (show G39 19 = G 19 from funext fun k_ => hU41 19 k_ (show (1900 : Nat) ∉ ([403, 405] : List Nat) by decide))) (xSg_un (show gu_un xcd [403, 405] G G39 from (gu_un.tr gu_un.rf (gu_un.su hU41 rfl))) rfl rfl rfl)), (by show (0 ≠ 0 ∨ (G 1 3).toInt ≠ 0); (first | omega | (simp only [Int32.reduceToInt, true_and, and_true, ne_eq, not_true_eq_false, false_and, or_false, false_or, true_or, or_true, false_implies] <;> omega)))⟩) rfl rfl dX8_takeOfNumbers_75
  · have b47 : (0 : Int) ≤ (G 1 3).toInt ∧ (G 1 3).toInt ≤ 4 := hI 1 3
    have q12 : ((G 1 3).toInt ≠ 3 ∨ (G 1 5).toInt ≠ (59 : Int)) := q12
    refine v_if_eq F 76 dX8_takeOfNumbers_23 (by decide) 0 rfl (fun c48 => ?_) (fun c48 => absurd c48 (by decide))
    refine g_aload_n F 1 dX8_takeOfNumbers_76 rfl rfl ?_
    refine xg_4_0 F i_X8 w_0 dX8_takeOfNumbers_77 ?_
    refine xg_1_3 F i_X10 w_3 dX8_takeOfNumbers_80 (G 1 3) (rfl) ?_
    refine g_iconst F 2 dX8_takeOfNumbers_83 (by decide) ?_
    refine v_icmp_ne F 102 dX8_takeOfNumbers_84 (by decide) (G 1 3).toInt 2 rfl rfl (fun c49 => ?_) (fun c49 => ?_)
    · refine g_iconst F 1 dX8_takeOfNumbers_102 (by decide) ?_
      exact u_iret F hA hQ hr G (⟨hI, gu_un.rf, (by decide), (nb), (by show ((G 4 4).toInt = -1 ∨ (G 4 5).toInt ≤ 1 ∨ ((G 4 5).toInt ≤ 2 ∧ ((G 4 4).toInt = 3 ∨ (G 4 4).toInt = 4)) ∨ ((G 4 5).toInt ≤ 4 ∧ (G 4 4).toInt = 8) ∨ (G 4 4).toInt = 9); (first | omega | (simp only [Int32.reduceToInt, true_and, and_true, ne_eq, not_true_eq_false, false_and, or_false, false_or, true_or, or_true, false_implies] <;> omega))), (by show ((G 4 4).toInt = -1 ∨ (G 4 4).toInt = (G 4 4).toInt); (first | omega | (simp only [Int32.reduceToInt, true_and, and_true, ne_eq, not_true_eq_false, false_and, or_false, false_or, true_or, or_true, false_implies] <;> omega))), (by show ((G 4 2).toInt ≤ (G 4 2).toInt + 1); (first | omega | (simp only [Int32.reduceToInt, true_and, and_true, ne_eq, not_true_eq_false, false_and, or_false, false_or, true_or, or_true, false_implies] <;> omega))), (by have m9 : hMo 4 = 2 := (by decide); have l9 : hLo 4 = 0 := (by decide); have h9 : hHi 4 = 200 := (by decide); have s9 : hSl 4 = 5 := (by decide); exact xH_bad (f := 1) (by decide) (by decide) (fun ts pl ci => by rw [show (G 4 4).toInt = 4 by omega]; exact hO_n1 (by decide) (by decide) (by show ¬ (_ ∧ _ ∧ _); omega) (by omega))), (by show (1 ≠ 0 ∨ (G 1 3).toInt ≠ 0); (first | omega | (simp only [Int32.reduceToInt, true_and, and_true, ne_eq, not_true_eq_false, false_and, or_false, false_or, true_or, or_true, false_implies] <;> omega)))⟩) rfl rfl dX8_takeOfNumbers_103
    · refine g_iload_n F 0 dX8_takeOfNumbers_87 rfl rfl ?_
      refine v_if_ne F 104 dX8_takeOfNumbers_88 (by decide) 0 rfl (fun c50 => absurd c50 (by decide)) (fun c50 => ?_)
      refine g_aload_n F 1 dX8_takeOfNumbers_91 rfl rfl ?_
      refine xg_4_5 F i_X8 w_1 dX8_takeOfNumbers_92 (G 4 5) (rfl) ?_
      refine g_aload_n F 2 dX8_takeOfNumbers_95 rfl rfl ?_
      refine uz_getf F (show va_OF "QuietCut$Clause" "most" "I" (.int 2) (zf 14) A s s.heap from (hZ.2.2.2.2.2 4 (by decide)).2.2.2.1) w_2 dX8_takeOfNumbers_96 ?_
      refine v_icmp_ne F 104 dX8_takeOfNumbers_99 (by decide) (G 4 5).toInt 2 rfl rfl (fun c51 => ?_) (fun c51 => ?_)
      · refine g_aload_n F 1 dX8_takeOfNumbers_104 rfl rfl ?_
        refine g_aload_n F 2 dX8_takeOfNumbers_105 rfl rfl ?_
        refine uz_callVi (k := 0) (n := 0) (b := a 4) (As := [.ref (zf 14)]) (st := []) F xZ_st hZ (fun sz => S_X8_isInBounds_c4 l D K a G zf  hI sz) (cwV 1 hts gX8_takeOfNumbers_X8_isInBounds rfl rfl rfl (by decide +kernel) ⟨Nat.le_of_ble_eq_true rfl, Nat.le_of_ble_eq_true rfl⟩) rfl 4 xc_4 rfl (Nat.le_of_ble_eq_true rfl) ⟨Nat.zero_le _, Nat.zero_le _⟩ dX8_takeOfNumbers_106 (fun r52 _ hw53 => ?_)
        have q55 : ((r52.toInt = 1 ∧ (0 ≤ (G 1 5).toInt ∧ (G 1 5).toInt ≤ 200 ∧ ((G 4 5).toInt ≠ 1 ∨ ((G 4 6).toInt ≤ (G 1 5).toInt ∧ (G 1 5).toInt ≤ (G 4 6).toInt + 3)))) ∨ (r52.toInt = 0 ∧ ¬ (0 ≤ (G 1 5).toInt ∧ (G 1 5).toInt ≤ 200 ∧ ((G 4 5).toInt ≠ 1 ∨ ((G 4 6).toInt ≤ (G 1 5).toInt ∧ (G 1 5).toInt ≤ (G 4 6).toInt + 3))))) := hw53.2
        have rg56 := hw53.1
        clear hw53
        refine v_if_ne F 114 dX8_takeOfNumbers_109 (by decide) r52.toInt rfl (fun c57 => ?_) (fun c57 => ?_)
        · refine g_aload_n F 1 dX8_takeOfNumbers_114 rfl rfl ?_
          refine xg_4_5 F i_X8 w_1 dX8_takeOfNumbers_115 (G 4 5) (rfl) ?_
          refine g_aload_n F 2 dX8_takeOfNumbers_118 rfl rfl ?_
          refine uz_getf F (show va_OF "QuietCut$Clause" "most" "I" (.int 2) (zf 14) A s s.heap from (hZ.2.2.2.2.2 4 (by decide)).2.2.2.1) w_2 dX8_takeOfNumbers_119 ?_
          refine v_icmp_ne F 127 dX8_takeOfNumbers_122 (by decide) (G 4 5).toInt 2 rfl rfl (fun c58 => ?_) (fun c58 => ?_)
          · refine g_aload_n F 1 dX8_takeOfNumbers_127 rfl rfl ?_
            refine xg_4_1 F i_X8 w_4 dX8_takeOfNumbers_128 ?_
            refine g_aload_n F 2 dX8_takeOfNumbers_131 rfl rfl ?_
            refine uz_getf F (show va_OF "QuietCut$Clause" "slot" "I" (.int 5) (zf 14) A s s.heap from (hZ.2.2.2.2.2 4 (by decide)).2.2.1) w_5 dX8_takeOfNumbers_132 ?_
            refine g_aload_n F 1 dX8_takeOfNumbers_135 rfl rfl ?_
            refine xg_4_5 F i_X8 w_1 dX8_takeOfNumbers_136 (G 4 5) (rfl) ?_
            refine u_iadd F dX8_takeOfNumbers_139 5 (G 4 5).toInt rfl rfl (by omega) (by omega) (fun y59 ey59 => ?_)
            refine g_aload_n F 1 dX8_takeOfNumbers_140 rfl rfl ?_
            refine xg_4_0 F i_X8 w_0 dX8_takeOfNumbers_141 ?_
            refine xg_1_5 F i_X10 w_6 dX8_takeOfNumbers_144 (G 1 5) (rfl) ?_
            refine u_callVv (k := 0) (n := 0) (b := a 3) (As := [.int y59, .int (G 1 5)]) (st := []) F (fun sz => S_X7_put_3 l D K a G y59 y59.toInt (G 1 5) (G 1 5).toInt rfl (by omega) rfl hI sz) (cwV 2 hts gX8_takeOfNumbers_X7_put rfl rfl rfl (by decide +kernel) ⟨Nat.le_of_ble_eq_true rfl, Nat.le_of_ble_eq_true rfl⟩) rfl 3 xc_3 rfl (Nat.le_of_ble_eq_true rfl) ⟨Nat.zero_le _, Nat.zero_le _⟩ dX8_takeOfNumbers_147 (fun G62 hw61 => ?_)
            have hI63 : xI G62 := hw61.1
            have hU64 : gu_un xcd [1900] G G62 := hw61.2.1
            have hp65 := hw61.2.2
            have q66 : (G62 19 = upd (G 19) (y59.toInt).toNat (G 1 5)) := hp65
            clear hp65 hw61
            refine g_aload_n F 1 dX8_takeOfNumbers_150 rfl rfl ?_
            refine g_dup F dX8_takeOfNumbers_151 rfl ?_
            refine xg_4_5 F i_X8 w_1 dX8_takeOfNumbers_152 (G 4 5) (hU64 4 5 (by decide)) ?_
            refine g_iconst F 1 dX8_takeOfNumbers_155 (by decide) ?_
            refine u_iadd F dX8_takeOfNumbers_156 (G 4 5).toInt 1 rfl rfl (by omega) (by omega) (fun y67 ey67 => ?_)
            refine xp_4_5 F i_X8 w_1 dX8_takeOfNumbers_157 ?_
            refine g_aload_n F 1 dX8_takeOfNumbers_160 rfl rfl ?_
            refine g_aload_n F 1 dX8_takeOfNumbers_161 rfl rfl ?_
            refine xg_4_0 F i_X8 w_0 dX8_takeOfNumbers_162 ?_
            refine xg_1_5 F i_X10 w_6 dX8_takeOfNumbers_165 (G 1 5) (hU64 1 5 (by decide)) ?_
            refine xp_4_6 F i_X8 w_7 dX8_takeOfNumbers_168 ?_
            refine g_iconst F 0 dX8_takeOfNumbers_171 (by decide) ?_
            exact u_iret F hA hQ hr (gu_up (gu_up G62 4 5 y67) 4 6 (G 1 5)) (⟨(gu_I.up (j := 4) (k := 6) (v := (G 1 5)) (gu_I.up (j := 4) (k := 5) (v := y67) hI63 (show (0 : Int) ≤ Int32.toInt y67 by omega) (show Int32.toInt y67 ≤ 6 by omega)) (show (0 : Int) ≤ Int32.toInt (G 1 5) by omega) (show Int32.toInt (G 1 5) ≤ 9999 by omega)), (gu_un.up (j := 4) (k := 6) (v := (G 1 5)) (gu_un.up (j := 4) (k := 5) (v := y67) (gu_un.tr gu_un.rf (gu_un.su hU64 rfl)) (show (406 : Nat) ∈ ([403, 405, 406, 407, 1900] : List Nat) by decide)) (show (407 : Nat) ∈ ([403, 405, 406, 407, 1900] : List Nat) by decide)), (by decide), ((xNb.un (G := G62) (by rw [q66]; rcases (show y59.toInt = 5 ∨ y59.toInt = 6 by omega) with h9 | h9 <;> (rw [h9]; first | exact xNb.put nb (show (0 : Int) ≤ Int32.toInt (G 1 5) by omega) (show Int32.toInt (G 1 5) ≤ 200 by omega) | exact xNb.put nb (show (0 : Int) ≤ Int32.toInt (G 1 5) by omega) (show Int32.toInt (G 1 5) ≤ 200 by omega))) (show gu_un xcd [406, 407] G62 (gu_up (gu_up G62 4 5 y67) 4 6 (G 1 5)) from (gu_un.up (j := 4) (k := 6) (v := (G 1 5)) (gu_un.up (j := 4) (k := 5) (v := y67) gu_un.rf (show (406 : Nat) ∈ ([406, 407] : List Nat) by decide)) (show (407 : Nat) ∈ ([406, 407] : List Nat) by decide))) rfl)), (by show (((gu_up (gu_up G62 4 5 y67) 4 6 (G 1 5)) 4 4).toInt = -1 ∨ ((gu_up (gu_up G62 4 5 y67) 4 6 (G 1 5)) 4 5).toInt ≤ 1 ∨ (((gu_up (gu_up G62 4 5 y67) 4 6 (G 1 5)) 4 5).toInt ≤ 2 ∧ (((gu_up (gu_up G62 4 5 y67) 4 6 (G 1 5)) 4 4).toInt = 3 ∨ ((gu_up (gu_up G62 4 5 y67) 4 6 (G 1 5)) 4 4).toInt = 4)) ∨ (((gu_up (gu_up G62 4 5 y67) 4 6 (G 1 5)) 4 5).toInt ≤ 4 ∧ ((gu_up (gu_up G62 4 5 y67) 4 6 (G 1 5)) 4 4).toInt = 8) ∨ ((gu_up (gu_up G62 4 5 y67) 4 6 (G 1 5)) 4 4).toInt = 9); have e9_4_4 : (gu_up (gu_up G62 4 5 y67) 4 6 (G 1 5)) 4 4 = (G 4 4) := hU64 4 4 (by decide); have e9_4_5 : (gu_up (gu_up G62 4 5 y67) 4 6 (G 1 5)) 4 5 = y67 := rfl; (try simp only [e9_4_4, e9_4_5, true_and, and_true]) <;> (first | omega | (simp only [Int32.reduceToInt, true_and, and_true, ne_eq, not_true_eq_false, false_and, or_false, false_or, true_or, or_true, false_implies] <;> omega))), (by show (((gu_up (gu_up G62 4 5 y67) 4 6 (G 1 5)) 4 4).toInt = -1 ∨ ((gu_up (gu_up G62 4 5 y67) 4 6 (G 1 5)) 4 4).toInt = (G 4 4).toInt); have e9_4_4 : (gu_up (gu_up G62 4 5 y67) 4 6 (G 1 5)) 4 4 = (G 4 4) := hU64 4 4 (by decide); (try simp only [e9_4_4, true_and, and_true]) <;> (first | omega | (simp only [Int32.reduceToInt, true_and, and_true, ne_eq, not_true_eq_false, false_and, or_false, false_or, true_or, or_true, false_implies] <;> omega))), (by show (((gu_up (gu_up G62 4 5 y67) 4 6 (G 1 5)) 4 2).toInt ≤ (G 4 2).toInt + 1); have e9_4_2 : (gu_up (gu_up G62 4 5 y67) 4 6 (G 1 5)) 4 2 = (G 4 2) := hU64 4 2 (by decide); (try simp only [e9_4_2, true_and, and_true]) <;> (first | omega | (simp only [Int32.reduceToInt, true_and, and_true, ne_eq, not_true_eq_false, false_and, or_false, false_or, true_or, or_true, false_implies] <;> omega))), (by have m9 : hMo 4 = 2 := (by decide); have l9 : hLo 4 = 0 := (by decide); have h9 : hHi 4 = 200 := (by decide); have s9 : hSl 4 = 5 := (by decide); exact xH_nP (c := 4) (by decide) (show (G 4 4).toInt = 4 by omega) (by decide) (by decide) (by omega) (by show ¬ (_ ∨ _ ∨ _); omega) (by omega) (show (gu_up (gu_up G62 4 5 y67) 4 6 (G 1 5)) 4 4 = (G 4 4) from hU64 4 4 (by decide)) (show ((gu_up (gu_up G62 4 5 y67) 4 6 (G 1 5)) 4 5).toInt = (G 4 5).toInt + 1 by rw [show (gu_up (gu_up G62 4 5 y67) 4 6 (G 1 5)) 4 5 = y67 from rfl] <;> first | rfl | omega) (show ((gu_up (gu_up G62 4 5 y67) 4 6 (G 1 5)) 4 6).toInt = (G 1 5).toInt by rw [show (gu_up (gu_up G62 4 5 y67) 4 6 (G 1 5)) 4 6 = (G 1 5) from rfl] <;> first | rfl | omega) (show (gu_up (gu_up G62 4 5 y67) 4 6 (G 1 5)) 4 2 = (G 4 2) from hU64 4 2 (by decide)) (show (gu_up (gu_up G62 4 5 y67) 4 6 (G 1 5)) 4 3 = (G 4 3) from hU64 4 3 (by decide)) (x := (G 1 5)) rfl (q := y59.toInt) (by omega) (show (gu_up (gu_up G62 4 5 y67) 4 6 (G 1 5)) 19 = upd (G 19) (y59.toInt).toNat (G 1 5) from (show (gu_up (gu_up G62 4 5 y67) 4 6 (G 1 5)) 19 = G62 19 from funext fun k_ => (show gu_un xcd [406, 407] G62 (gu_up (gu_up G62 4 5 y67) 4 6 (G 1 5)) from (gu_un.up (j := 4) (k := 6) (v := (G 1 5)) (gu_un.up (j := 4) (k := 5) (v := y67) gu_un.rf (show (406 : Nat) ∈ ([406, 407] : List Nat) by decide)) (show (407 : Nat) ∈ ([406, 407] : List Nat) by decide))) 19 k_ (by simp [xcd])).trans q66) (xSg_un (show gu_un xcd [406, 407, 1900] G (gu_up (gu_up G62 4 5 y67) 4 6 (G 1 5)) from (gu_un.up (j := 4) (k := 6) (v := (G 1 5)) (gu_un.up (j := 4) (k := 5) (v := y67) (gu_un.tr gu_un.rf (gu_un.su hU64 rfl)) (show (406 : Nat) ∈ ([406, 407, 1900] : List Nat) by decide)) (show (407 : Nat) ∈ ([406, 407, 1900] : List Nat) by decide))) rfl rfl rfl)), (by show (0 ≠ 0 ∨ (G 1 3).toInt ≠ 0); (first | omega | (simp only [Int32.reduceToInt, true_and, and_true, ne_eq, not_true_eq_false, false_and, or_false, false_or, true_or, or_true, false_implies] <;> omega)))⟩) rfl rfl dX8_takeOfNumbers_172
          · refine g_iconst F 4 dX8_takeOfNumbers_125 (by decide) ?_
            exact u_iret F hA hQ hr G (⟨hI, gu_un.rf, (by decide), (nb), (by show ((G 4 4).toInt = -1 ∨ (G 4 5).toInt ≤ 1 ∨ ((G 4 5).toInt ≤ 2 ∧ ((G 4 4).toInt = 3 ∨ (G 4 4).toInt = 4)) ∨ ((G 4 5).toInt ≤ 4 ∧ (G 4 4).toInt = 8) ∨ (G 4 4).toInt = 9); (first | omega | (simp only [Int32.reduceToInt, true_and, and_true, ne_eq, not_true_eq_false, false_and, or_false, false_or, true_or, or_true, false_implies] <;> omega))), (by show ((G 4 4).toInt = -1 ∨ (G 4 4).toInt = (G 4 4).toInt); (first | omega | (simp only [Int32.reduceToInt, true_and, and_true, ne_eq, not_true_eq_false, false_and, or_false, false_or, true_or, or_true, false_implies] <;> omega))), (by show ((G 4 2).toInt ≤ (G 4 2).toInt + 1); (first | omega | (simp only [Int32.reduceToInt, true_and, and_true, ne_eq, not_true_eq_false, false_and, or_false, false_or, true_or, or_true, false_implies] <;> omega))), (by have m9 : hMo 4 = 2 := (by decide); have l9 : hLo 4 = 0 := (by decide); have h9 : hHi 4 = 200 := (by decide); have s9 : hSl 4 = 5 := (by decide); exact xH_bad (f := 4) (by decide) (by decide) (fun ts pl ci => by rw [show (G 4 4).toInt = 4 by omega]; exact hO_n4 (by decide) (by decide) (by omega) (by omega) (by show ¬ (_ ∨ _ ∨ _); omega) (by omega))), (by show (4 ≠ 0 ∨ (G 1 3).toInt ≠ 0); (first | omega | (simp only [Int32.reduceToInt, true_and, and_true, ne_eq, not_true_eq_false, false_and, or_false, false_or, true_or, or_true, false_implies] <;> omega)))⟩) rfl rfl dX8_takeOfNumbers_126
        · refine g_iconst F 2 dX8_takeOfNumbers_112 (by decide) ?_
          exact u_iret F hA hQ hr G (⟨hI, gu_un.rf, (by decide), (nb), (by show ((G 4 4).toInt = -1 ∨ (G 4 5).toInt ≤ 1 ∨ ((G 4 5).toInt ≤ 2 ∧ ((G 4 4).toInt = 3 ∨ (G 4 4).toInt = 4)) ∨ ((G 4 5).toInt ≤ 4 ∧ (G 4 4).toInt = 8) ∨ (G 4 4).toInt = 9); (first | omega | (simp only [Int32.reduceToInt, true_and, and_true, ne_eq, not_true_eq_false, false_and, or_false, false_or, true_or, or_true, false_implies] <;> omega))), (by show ((G 4 4).toInt = -1 ∨ (G 4 4).toInt = (G 4 4).toInt); (first | omega | (simp only [Int32.reduceToInt, true_and, and_true, ne_eq, not_true_eq_false, false_and, or_false, false_or, true_or, or_true, false_implies] <;> omega))), (by show ((G 4 2).toInt ≤ (G 4 2).toInt + 1); (first | omega | (simp only [Int32.reduceToInt, true_and, and_true, ne_eq, not_true_eq_false, false_and, or_false, false_or, true_or, or_true, false_implies] <;> omega))), (by have m9 : hMo 4 = 2 := (by decide); have l9 : hLo 4 = 0 := (by decide); have h9 : hHi 4 = 200 := (by decide); have s9 : hSl 4 = 5 := (by decide); exact xH_bad (f := 2) (by decide) (by decide) (fun ts pl ci => by rw [show (G 4 4).toInt = 4 by omega]; exact hO_n2 (by decide) (by decide) (by omega) (by omega) (by show _ ∨ _ ∨ _; omega))), (by show (2 ≠ 0 ∨ (G 1 3).toInt ≠ 0); (first | omega | (simp only [Int32.reduceToInt, true_and, and_true, ne_eq, not_true_eq_false, false_and, or_false, false_or, true_or, or_true, false_implies] <;> omega)))⟩) rfl rfl dX8_takeOfNumbers_113
      · refine g_iconst F 1 dX8_takeOfNumbers_102 (by decide) ?_
        exact u_iret F hA hQ hr G (⟨hI, gu_un.rf, (by decide), (nb), (by show ((G 4 4).toInt = -1 ∨ (G 4 5).toInt ≤ 1 ∨ ((G 4 5).toInt ≤ 2 ∧ ((G 4 4).toInt = 3 ∨ (G 4 4).toInt = 4)) ∨ ((G 4 5).toInt ≤ 4 ∧ (G 4 4).toInt = 8) ∨ (G 4 4).toInt = 9); (first | omega | (simp only [Int32.reduceToInt, true_and, and_true, ne_eq, not_true_eq_false, false_and, or_false, false_or, true_or, or_true, false_implies] <;> omega))), (by show ((G 4 4).toInt = -1 ∨ (G 4 4).toInt = (G 4 4).toInt); (first | omega | (simp only [Int32.reduceToInt, true_and, and_true, ne_eq, not_true_eq_false, false_and, or_false, false_or, true_or, or_true, false_implies] <;> omega))), (by show ((G 4 2).toInt ≤ (G 4 2).toInt + 1); (first | omega | (simp only [Int32.reduceToInt, true_and, and_true, ne_eq, not_true_eq_false, false_and, or_false, false_or, true_or, or_true, false_implies] <;> omega))), (by have m9 : hMo 4 = 2 := (by decide); have l9 : hLo 4 = 0 := (by decide); have h9 : hHi 4 = 200 := (by decide); have s9 : hSl 4 = 5 := (by decide); exact xH_bad (f := 1) (by decide) (by decide) (fun ts pl ci => by rw [show (G 4 4).toInt = 4 by omega]; exact hO_n1 (by decide) (by decide) (by show ¬ (_ ∧ _ ∧ _); omega) (by omega))), (by show (1 ≠ 0 ∨ (G 1 3).toInt ≠ 0); (first | omega | (simp only [Int32.reduceToInt, true_and, and_true, ne_eq, not_true_eq_false, false_and, or_false, false_or, true_or, or_true, false_implies] <;> omega)))⟩) rfl rfl dX8_takeOfNumbers_103


set_option maxHeartbeats 4000000 in
set_option maxRecDepth 100000 in
theorem S_X8_isInBounds_c5 (l : Launch) (D : va_G) (K : Nat → ClassId) (a : Nat → Nat) (G : gS) (zf : Nat → Nat) (hI : xI G) (sz : Nat) : KiZ (xZ zf) l yX8_isInBounds wsX8_isInBounds 2 60 D [.ref (a 4), .ref (zf 15)] (xW K a G) (tK K) sz (fun (r : Int32) (_ : Unit) => (0 ≤ r.toInt ∧ r.toInt ≤ 1) ∧ (((r.toInt = 1 ∧ (1 ≤ (G 1 5).toInt ∧ (G 1 5).toInt ≤ 9999 ∧ ((G 4 5).toInt ≠ 1 ∨ ((G 4 6).toInt ≤ (G 1 5).toInt ∧ (G 1 5).toInt ≤ (G 4 6).toInt + 3)))) ∨ (r.toInt = 0 ∧ ¬ (1 ≤ (G 1 5).toInt ∧ (G 1 5).toInt ≤ 9999 ∧ ((G 4 5).toInt ≠ 1 ∨ ((G 4 6).toInt ≤ (G 1 5).toInt ∧ (G 1 5).toInt ≤ (G 4 6).toInt + 3))))))) (fun (_ : Unit) => (xW K a G)) := by
  unfold KiZ
  refine gz_ofW (cc := cX8_isInBounds) (lv := [(0, .ref (a 4)), (1, .ref (zf 15))]) (by decide) rfl (Nat.le_of_ble_eq_true rfl) rfl ?_
  intro p e s m args below meth c A Q hA hQ hZ F hr hnm
  have hts := F.2.2.2.2.1
  have w_0 : (Cond.fieldLink RX8 9 "QuietCut$ShopReader" "tape" "LQuietCut$Tape;").before args s = true := hts _ (List.mem_of_getElem? (i := 1) rfl)
  have i_X8 : ∀ w ∈ u_ws RX8 TX8 7, w ∈ wsX8_isInBounds := fun _ h => List.mem_cons_of_mem _ (List.mem_append_left _ (List.mem_append_right _ h))
  have w_1 : (Cond.fieldLink RX8 125 "QuietCut$Tape" "value" "I").before args s = true := hts _ (List.mem_of_getElem? (i := 2) rfl)
  have i_X10 : ∀ w ∈ u_ws RX10 TX10 6, w ∈ wsX8_isInBounds := fun _ h => List.mem_cons_of_mem _ (List.mem_append_right _ h)
  have w_2 : (Cond.fieldLink RX8 131 "QuietCut$Clause" "low" "I").before args s = true := hts _ (List.mem_of_getElem? (i := 3) rfl)
  have w_3 : (Cond.fieldLink RX8 134 "QuietCut$Clause" "high" "I").before args s = true := hts _ (List.mem_of_getElem? (i := 4) rfl)
  have w_4 : (Cond.fieldLink RX8 77 "QuietCut$ShopReader" "numbers" "I").before args s = true := hts _ (List.mem_of_getElem? (i := 5) rfl)
  have w_5 : (Cond.fieldLink RX8 128 "QuietCut$ShopReader" "latest" "I").before args s = true := hts _ (List.mem_of_getElem? (i := 6) rfl)
  have b1 : (0 : Int) ≤ (G 4 5).toInt ∧ (G 4 5).toInt ≤ 6 := hI 4 5
  have b2 : (0 : Int) ≤ (G 4 6).toInt ∧ (G 4 6).toInt ≤ 9999 := hI 4 6
  refine g_aload_n F 0 dX8_isInBounds_0 rfl rfl ?_
  refine xg_4_0 F i_X8 w_0 dX8_isInBounds_1 ?_
  refine xg_1_5 F i_X10 w_1 dX8_isInBounds_4 (G 1 5) (rfl) ?_
  refine g_aload_n F 1 dX8_isInBounds_7 rfl rfl ?_
  refine uz_getf F (show va_OF "QuietCut$Clause" "low" "I" (.int 1) (zf 15) A s s.heap from (hZ.2.2.2.2.2 5 (by decide)).2.2.2.2.1) w_2 dX8_isInBounds_8 ?_
  refine v_icmp_lt F 28 dX8_isInBounds_11 (by decide) (G 1 5).toInt 1 rfl rfl (fun c3 => ?_) (fun c3 => ?_)
  · refine g_iconst F 0 dX8_isInBounds_28 (by decide) ?_
    exact u_zret F hA hQ hr rfl () (⟨(by decide), (by show ((0 = 1 ∧ (1 ≤ (G 1 5).toInt ∧ (G 1 5).toInt ≤ 9999 ∧ ((G 4 5).toInt ≠ 1 ∨ ((G 4 6).toInt ≤ (G 1 5).toInt ∧ (G 1 5).toInt ≤ (G 4 6).toInt + 3)))) ∨ (0 = 0 ∧ ¬ (1 ≤ (G 1 5).toInt ∧ (G 1 5).toInt ≤ 9999 ∧ ((G 4 5).toInt ≠ 1 ∨ ((G 4 6).toInt ≤ (G 1 5).toInt ∧ (G 1 5).toInt ≤ (G 4 6).toInt + 3))))); (first | omega | (simp only [Int32.reduceToInt, true_and, and_true, ne_eq, not_true_eq_false, false_and, or_false, false_or, true_or, or_true, false_implies] <;> omega)))⟩) rfl rfl dX8_isInBounds_29
  · refine g_aload_n F 0 dX8_isInBounds_14 rfl rfl ?_
    refine xg_4_0 F i_X8 w_0 dX8_isInBounds_15 ?_
    refine xg_1_5 F i_X10 w_1 dX8_isInBounds_18 (G 1 5) (rfl) ?_
    refine g_aload_n F 1 dX8_isInBounds_21 rfl rfl ?_
    refine uz_getf F (show va_OF "QuietCut$Clause" "high" "I" (.int 9999) (zf 15) A s s.heap from (hZ.2.2.2.2.2 5 (by decide)).2.2.2.2.2.1) w_3 dX8_isInBounds_22 ?_
    have b4 := ti_rng (G 1 5)
    refine v_icmp_le F 30 dX8_isInBounds_25 (by decide) (G 1 5).toInt 9999 rfl rfl (fun c5 => ?_) (fun c5 => ?_)
    · refine g_aload_n F 1 dX8_isInBounds_30 rfl rfl ?_
      refine uz_call0Vi (k := 0) (n := 0) (b := (zf 15)) (As := []) (st := []) F xZ_st hZ (fun sz => S_X1_manySlot_c5 l D zf sz) (cwV 0 hts gX8_isInBounds_X1_manySlot rfl rfl rfl (by decide +kernel) ⟨Nat.le_of_ble_eq_true rfl, Nat.le_of_ble_eq_true rfl⟩) (hZ.2.2.2.2.2 5 (by decide)).1 rfl (Nat.le_of_ble_eq_true rfl) ⟨Nat.zero_le _, Nat.zero_le _⟩ dX8_isInBounds_31 (fun r6 _ hw7 => ?_)
      have hw7 : r6.toInt = -1 := hw7
      refine g_fold (-1) ((ti_eq rfl (show ((-1) : Int32).toInt = (-1) from rfl)).mpr hw7) ?_
      refine g_iconst F (-1) dX8_isInBounds_34 (by decide) ?_
      refine v_icmp_ne F 50 dX8_isInBounds_35 (by decide) (-1) (-1) rfl rfl (fun c8 => absurd c8 (by decide)) (fun c8 => ?_)
      refine g_aload_n F 0 dX8_isInBounds_38 rfl rfl ?_
      refine xg_4_5 F i_X8 w_4 dX8_isInBounds_39 (G 4 5) (rfl) ?_
      refine g_iconst F 1 dX8_isInBounds_42 (by decide) ?_
      refine v_icmp_ne F 50 dX8_isInBounds_43 (by decide) (G 4 5).toInt 1 rfl rfl (fun c9 => ?_) (fun c9 => ?_)
      · refine g_iconst F 0 dX8_isInBounds_50 (by decide) ?_
        refine g_istore_n F [(2, .int 0), (0, .ref (a 4)), (1, .ref (zf 15))] dX8_isInBounds_51 rfl (by decide) rfl ?_
        refine g_iload_n F 0 dX8_isInBounds_52 rfl rfl ?_
        refine v_if_eq F 86 dX8_isInBounds_53 (by decide) 0 rfl (fun c10 => ?_) (fun c10 => absurd c10 (by decide))
        refine g_iconst F 1 dX8_isInBounds_86 (by decide) ?_
        refine g_goto F 91 dX8_isInBounds_87 (by decide) ?_
        exact u_zret F hA hQ hr rfl () (⟨(by decide), (by show ((1 = 1 ∧ (1 ≤ (G 1 5).toInt ∧ (G 1 5).toInt ≤ 9999 ∧ ((G 4 5).toInt ≠ 1 ∨ ((G 4 6).toInt ≤ (G 1 5).toInt ∧ (G 1 5).toInt ≤ (G 4 6).toInt + 3)))) ∨ (1 = 0 ∧ ¬ (1 ≤ (G 1 5).toInt ∧ (G 1 5).toInt ≤ 9999 ∧ ((G 4 5).toInt ≠ 1 ∨ ((G 4 6).toInt ≤ (G 1 5).toInt ∧ (G 1 5).toInt ≤ (G 4 6).toInt + 3))))); (first | omega | (simp only [Int32.reduceToInt, true_and, and_true, ne_eq, not_true_eq_false, false_and, or_false, false_or, true_or, or_true, false_implies] <;> omega)))⟩) rfl rfl dX8_isInBounds_91
      · refine g_iconst F 1 dX8_isInBounds_46 (by decide) ?_
        refine g_goto F 51 dX8_isInBounds_47 (by decide) ?_
        refine g_istore_n F [(2, .int 1), (0, .ref (a 4)), (1, .ref (zf 15))] dX8_isInBounds_51 rfl (by decide) rfl ?_
        refine g_iload_n F 0 dX8_isInBounds_52 rfl rfl ?_
        refine v_if_eq F 86 dX8_isInBounds_53 (by decide) 1 rfl (fun c11 => absurd c11 (by decide)) (fun c11 => ?_)
        refine g_aload_n F 1 dX8_isInBounds_56 rfl rfl ?_
        refine xg_4_0 F i_X8 w_0 dX8_isInBounds_57 ?_
        refine xg_1_5 F i_X10 w_1 dX8_isInBounds_60 (G 1 5) (rfl) ?_
        refine g_aload_n F 1 dX8_isInBounds_63 rfl rfl ?_
        refine xg_4_6 F i_X8 w_5 dX8_isInBounds_64 (G 4 6) (rfl) ?_
        refine v_icmp_lt F 90 dX8_isInBounds_67 (by decide) (G 1 5).toInt (G 4 6).toInt rfl rfl (fun c12 => ?_) (fun c12 => ?_)
        · refine g_iconst F 0 dX8_isInBounds_90 (by decide) ?_
          exact u_zret F hA hQ hr rfl () (⟨(by decide), (by show ((0 = 1 ∧ (1 ≤ (G 1 5).toInt ∧ (G 1 5).toInt ≤ 9999 ∧ ((G 4 5).toInt ≠ 1 ∨ ((G 4 6).toInt ≤ (G 1 5).toInt ∧ (G 1 5).toInt ≤ (G 4 6).toInt + 3)))) ∨ (0 = 0 ∧ ¬ (1 ≤ (G 1 5).toInt ∧ (G 1 5).toInt ≤ 9999 ∧ ((G 4 5).toInt ≠ 1 ∨ ((G 4 6).toInt ≤ (G 1 5).toInt ∧ (G 1 5).toInt ≤ (G 4 6).toInt + 3))))); (first | omega | (simp only [Int32.reduceToInt, true_and, and_true, ne_eq, not_true_eq_false, false_and, or_false, false_or, true_or, or_true, false_implies] <;> omega)))⟩) rfl rfl dX8_isInBounds_91
        · refine g_aload_n F 1 dX8_isInBounds_70 rfl rfl ?_
          refine xg_4_0 F i_X8 w_0 dX8_isInBounds_71 ?_
          refine xg_1_5 F i_X10 w_1 dX8_isInBounds_74 (G 1 5) (rfl) ?_
          refine g_aload_n F 1 dX8_isInBounds_77 rfl rfl ?_
          refine xg_4_6 F i_X8 w_5 dX8_isInBounds_78 (G 4 6) (rfl) ?_
          refine g_iconst F 3 dX8_isInBounds_81 (by decide) ?_
          refine u_iadd F dX8_isInBounds_82 (G 4 6).toInt 3 rfl rfl (by omega) (by omega) (fun y13 ey13 => ?_)
          refine v_icmp_gt F 90 dX8_isInBounds_83 (by decide) (G 1 5).toInt y13.toInt rfl rfl (fun c14 => ?_) (fun c14 => ?_)
          · refine g_iconst F 0 dX8_isInBounds_90 (by decide) ?_
            exact u_zret F hA hQ hr rfl () (⟨(by decide), (by show ((0 = 1 ∧ (1 ≤ (G 1 5).toInt ∧ (G 1 5).toInt ≤ 9999 ∧ ((G 4 5).toInt ≠ 1 ∨ ((G 4 6).toInt ≤ (G 1 5).toInt ∧ (G 1 5).toInt ≤ (G 4 6).toInt + 3)))) ∨ (0 = 0 ∧ ¬ (1 ≤ (G 1 5).toInt ∧ (G 1 5).toInt ≤ 9999 ∧ ((G 4 5).toInt ≠ 1 ∨ ((G 4 6).toInt ≤ (G 1 5).toInt ∧ (G 1 5).toInt ≤ (G 4 6).toInt + 3))))); (first | omega | (simp only [Int32.reduceToInt, true_and, and_true, ne_eq, not_true_eq_false, false_and, or_false, false_or, true_or, or_true, false_implies] <;> omega)))⟩) rfl rfl dX8_isInBounds_91
          · refine g_iconst F 1 dX8_isInBounds_86 (by decide) ?_
            refine g_goto F 91 dX8_isInBounds_87 (by decide) ?_
            exact u_zret F hA hQ hr rfl () (⟨(by decide), (by show ((1 = 1 ∧ (1 ≤ (G 1 5).toInt ∧ (G 1 5).toInt ≤ 9999 ∧ ((G 4 5).toInt ≠ 1 ∨ ((G 4 6).toInt ≤ (G 1 5).toInt ∧ (G 1 5).toInt ≤ (G 4 6).toInt + 3)))) ∨ (1 = 0 ∧ ¬ (1 ≤ (G 1 5).toInt ∧ (G 1 5).toInt ≤ 9999 ∧ ((G 4 5).toInt ≠ 1 ∨ ((G 4 6).toInt ≤ (G 1 5).toInt ∧ (G 1 5).toInt ≤ (G 4 6).toInt + 3))))); (first | omega | (simp only [Int32.reduceToInt, true_and, and_true, ne_eq, not_true_eq_false, false_and, or_false, false_or, true_or, or_true, false_implies] <;> omega)))⟩) rfl rfl dX8_isInBounds_91
    · refine g_iconst F 0 dX8_isInBounds_28 (by decide) ?_
      exact u_zret F hA hQ hr rfl () (⟨(by decide), (by show ((0 = 1 ∧ (1 ≤ (G 1 5).toInt ∧ (G 1 5).toInt ≤ 9999 ∧ ((G 4 5).toInt ≠ 1 ∨ ((G 4 6).toInt ≤ (G 1 5).toInt ∧ (G 1 5).toInt ≤ (G 4 6).toInt + 3)))) ∨ (0 = 0 ∧ ¬ (1 ≤ (G 1 5).toInt ∧ (G 1 5).toInt ≤ 9999 ∧ ((G 4 5).toInt ≠ 1 ∨ ((G 4 6).toInt ≤ (G 1 5).toInt ∧ (G 1 5).toInt ≤ (G 4 6).toInt + 3))))); (first | omega | (simp only [Int32.reduceToInt, true_and, and_true, ne_eq, not_true_eq_false, false_and, or_false, false_or, true_or, or_true, false_implies] <;> omega)))⟩) rfl rfl dX8_isInBounds_29


set_option maxHeartbeats 4000000 in
set_option maxRecDepth 100000 in
theorem S_X8_takeOfNumbers_c5 (l : Launch) (D : va_G) (K : Nat → ClassId) (a : Nat → Nat) (G : gS) (zf : Nat → Nat) (nb : xNb (G 19)) (ck : ((G 4 2).toInt ≤ 1000)) (rn : ((G 4 5).toInt ≤ 1 ∧ (G 4 4).toInt = 5)) (hI : xI G) (sz : Nat) : KiZ (xZ zf) l yX8_takeOfNumbers wsX8_takeOfNumbers 3 82 D [.ref (a 4), .ref (zf 15)] (xW K a G) (tK K) sz (fun (r : Int32) (G' : gS) => (xI G') ∧ (gu_un xcd [403, 405, 406, 407, 1900] G G') ∧ (0 ≤ r.toInt ∧ r.toInt ≤ 4) ∧ (xNb (G' 19)) ∧ (((G' 4 4).toInt = -1 ∨ (G' 4 5).toInt ≤ 1 ∨ ((G' 4 5).toInt ≤ 2 ∧ ((G' 4 4).toInt = 3 ∨ (G' 4 4).toInt = 4)) ∨ ((G' 4 5).toInt ≤ 4 ∧ (G' 4 4).toInt = 8) ∨ (G' 4 4).toInt = 9)) ∧ (((G' 4 4).toInt = -1 ∨ (G' 4 4).toInt = (G 4 4).toInt)) ∧ (((G' 4 2).toInt ≤ (G 4 2).toInt + 1)) ∧ ((∀ (ts : List hTk) (pl ci : Int), xH (((G 1 3).toInt, pl, (G 1 5).toInt, ci) :: ts) G = if r.toInt = 0 then xH ts G' else hBad r.toInt pl)) ∧ ((r.toInt ≠ 0 ∨ (G 1 3).toInt ≠ 0))) (fun (G' : gS) => (xW K a G')) := by
  unfold KiZ
  refine gz_ofW (cc := cX8_takeOfNumbers) (lv := [(0, .ref (a 4)), (1, .ref (zf 15))]) (by decide) rfl (Nat.le_of_ble_eq_true rfl) rfl ?_
  intro p e s m args below meth c A Q hA hQ hZ F hr hnm
  have hts := F.2.2.2.2.1
  have w_0 : (Cond.fieldLink RX8 9 "QuietCut$ShopReader" "tape" "LQuietCut$Tape;").before args s = true := hts _ (List.mem_of_getElem? (i := 1) rfl)
  have i_X8 : ∀ w ∈ u_ws RX8 TX8 7, w ∈ wsX8_takeOfNumbers := fun _ h => List.mem_cons_of_mem _ (List.mem_append_left _ (List.mem_append_left _ (List.mem_append_right _ h)))
  have w_1 : (Cond.fieldLink RX8 77 "QuietCut$ShopReader" "numbers" "I").before args s = true := hts _ (List.mem_of_getElem? (i := 2) rfl)
  have w_2 : (Cond.fieldLink RX8 114 "QuietCut$Clause" "most" "I").before args s = true := hts _ (List.mem_of_getElem? (i := 3) rfl)
  have w_3 : (Cond.fieldLink RX8 42 "QuietCut$Tape" "kind" "I").before args s = true := hts _ (List.mem_of_getElem? (i := 5) rfl)
  have i_X10 : ∀ w ∈ u_ws RX10 TX10 6, w ∈ wsX8_takeOfNumbers := fun _ h => List.mem_cons_of_mem _ (List.mem_append_left _ (List.mem_append_right _ h))
  have w_4 : (Cond.fieldLink RX8 15 "QuietCut$ShopReader" "target" "LQuietCut$Shop;").before args s = true := hts _ (List.mem_of_getElem? (i := 4) rfl)
  have w_5 : (Cond.fieldLink RX8 80 "QuietCut$Clause" "slot" "I").before args s = true := hts _ (List.mem_of_getElem? (i := 6) rfl)
  have w_6 : (Cond.fieldLink RX8 125 "QuietCut$Tape" "value" "I").before args s = true := hts _ (List.mem_of_getElem? (i := 7) rfl)
  have w_7 : (Cond.fieldLink RX8 128 "QuietCut$ShopReader" "latest" "I").before args s = true := hts _ (List.mem_of_getElem? (i := 8) rfl)
  have b1 : (0 : Int) ≤ (G 4 5).toInt ∧ (G 4 5).toInt ≤ 6 := hI 4 5
  have b2 : ((-1) : Int) ≤ (G 4 4).toInt ∧ (G 4 4).toInt ≤ 12 := hI 4 4
  have b3 : (0 : Int) ≤ (G 4 2).toInt ∧ (G 4 2).toInt ≤ 1001 := hI 4 2
  have b4 : (0 : Int) ≤ (G 4 6).toInt ∧ (G 4 6).toInt ≤ 9999 := hI 4 6
  refine g_aload_n F 1 dX8_takeOfNumbers_0 rfl rfl ?_
  refine uz_call0Vi (k := 0) (n := 0) (b := (zf 15)) (As := []) (st := []) F xZ_st hZ (fun sz => S_X1_manySlot_c5 l D zf sz) (cwV 0 hts gX8_takeOfNumbers_X1_manySlot rfl rfl rfl (by decide +kernel) ⟨Nat.le_of_ble_eq_true rfl, Nat.le_of_ble_eq_true rfl⟩) (hZ.2.2.2.2.2 5 (by decide)).1 rfl (Nat.le_of_ble_eq_true rfl) ⟨Nat.zero_le _, Nat.zero_le _⟩ dX8_takeOfNumbers_1 (fun r5 _ hw6 => ?_)
  have hw6 : r5.toInt = -1 := hw6
  refine g_fold (-1) ((ti_eq rfl (show ((-1) : Int32).toInt = (-1) from rfl)).mpr hw6) ?_
  refine g_iconst F (-1) dX8_takeOfNumbers_4 (by decide) ?_
  refine v_icmp_eq F 12 dX8_takeOfNumbers_5 (by decide) (-1) (-1) rfl rfl (fun c7 => ?_) (fun c7 => absurd c7 (by decide))
  refine g_iconst F 0 dX8_takeOfNumbers_12 (by decide) ?_
  refine g_istore_n F [(2, .int 0), (0, .ref (a 4)), (1, .ref (zf 15))] dX8_takeOfNumbers_13 rfl (by decide) rfl ?_
  refine g_aload_n F 1 dX8_takeOfNumbers_14 rfl rfl ?_
  refine xg_4_0 F i_X8 w_0 dX8_takeOfNumbers_15 ?_
  refine g_bipush F 59 dX8_takeOfNumbers_18 (by decide) ?_
  refine u_callVi (k := 0) (n := 0) (b := a 1) (As := [.int 59]) (st := []) F (fun sz => S_X10_isSign l D K a G 59 59 rfl hI sz) (cwV 1 hts gX8_takeOfNumbers_X10_isSign rfl rfl rfl (by decide +kernel) ⟨Nat.le_of_ble_eq_true rfl, Nat.le_of_ble_eq_true rfl⟩) rfl 1 xc_1 rfl (Nat.le_of_ble_eq_true rfl) ⟨Nat.zero_le _, Nat.zero_le _⟩ dX8_takeOfNumbers_20 (fun r8 _ hw9 => ?_)
  rcases hw9 with ⟨rfl, q11⟩ | ⟨rfl, q12⟩
  · have b13 : (0 : Int) ≤ (G 1 3).toInt ∧ (G 1 3).toInt ≤ 4 := hI 1 3
    have q11 : ((G 1 3).toInt = 3 ∧ (G 1 5).toInt = (59 : Int)) := q11
    refine v_if_eq F 76 dX8_takeOfNumbers_23 (by decide) 1 rfl (fun c14 => absurd c14 (by decide)) (fun c14 => ?_)
    refine g_iload_n F 0 dX8_takeOfNumbers_26 rfl rfl ?_
    refine v_if_eq F 40 dX8_takeOfNumbers_27 (by decide) 0 rfl (fun c15 => ?_) (fun c15 => absurd c15 (by decide))
    refine g_aload_n F 1 dX8_takeOfNumbers_40 rfl rfl ?_
    refine xg_4_5 F i_X8 w_1 dX8_takeOfNumbers_41 (G 4 5) (rfl) ?_
    refine g_aload_n F 2 dX8_takeOfNumbers_44 rfl rfl ?_
    refine uz_getf F (show va_OF "QuietCut$Clause" "most" "I" (.int 1) (zf 15) A s s.heap from (hZ.2.2.2.2.2 5 (by decide)).2.2.2.1) w_2 dX8_takeOfNumbers_45 ?_
    refine v_icmp_ne F 76 dX8_takeOfNumbers_48 (by decide) (G 4 5).toInt 1 rfl rfl (fun c16 => ?_) (fun c16 => ?_)
    · refine g_aload_n F 1 dX8_takeOfNumbers_76 rfl rfl ?_
      refine xg_4_0 F i_X8 w_0 dX8_takeOfNumbers_77 ?_
      refine xg_1_3 F i_X10 w_3 dX8_takeOfNumbers_80 (G 1 3) (rfl) ?_
      refine g_iconst F 2 dX8_takeOfNumbers_83 (by decide) ?_
      refine v_icmp_ne F 102 dX8_takeOfNumbers_84 (by decide) (G 1 3).toInt 2 rfl rfl (fun c17 => ?_) (fun c17 => ?_)
      · refine g_iconst F 1 dX8_takeOfNumbers_102 (by decide) ?_
        exact u_iret F hA hQ hr G (⟨hI, gu_un.rf, (by decide), (nb), (by show ((G 4 4).toInt = -1 ∨ (G 4 5).toInt ≤ 1 ∨ ((G 4 5).toInt ≤ 2 ∧ ((G 4 4).toInt = 3 ∨ (G 4 4).toInt = 4)) ∨ ((G 4 5).toInt ≤ 4 ∧ (G 4 4).toInt = 8) ∨ (G 4 4).toInt = 9); (first | omega | (simp only [Int32.reduceToInt, true_and, and_true, ne_eq, not_true_eq_false, false_and, or_false, false_or, true_or, or_true, false_implies] <;> omega))), (by show ((G 4 4).toInt = -1 ∨ (G 4 4).toInt = (G 4 4).toInt); (first | omega | (simp only [Int32.reduceToInt, true_and, and_true, ne_eq, not_true_eq_false, false_and, or_false, false_or, true_or, or_true, false_implies] <;> omega))), (by show ((G 4 2).toInt ≤ (G 4 2).toInt + 1); (first | omega | (simp only [Int32.reduceToInt, true_and, and_true, ne_eq, not_true_eq_false, false_and, or_false, false_or, true_or, or_true, false_implies] <;> omega))), (by have m9 : hMo 5 = 1 := (by decide); have l9 : hLo 5 = 1 := (by decide); have h9 : hHi 5 = 9999 := (by decide); have s9 : hSl 5 = 7 := (by decide); exact xH_bad (f := 1) (by decide) (by decide) (fun ts pl ci => by rw [show (G 4 4).toInt = 5 by omega]; exact hO_n1 (by decide) (by decide) (by show ¬ (_ ∧ _ ∧ _); omega) (by omega))), (by show (1 ≠ 0 ∨ (G 1 3).toInt ≠ 0); (first | omega | (simp only [Int32.reduceToInt, true_and, and_true, ne_eq, not_true_eq_false, false_and, or_false, false_or, true_or, or_true, false_implies] <;> omega)))⟩) rfl rfl dX8_takeOfNumbers_103
      · refine g_iload_n F 0 dX8_takeOfNumbers_87 rfl rfl ?_
        refine v_if_ne F 104 dX8_takeOfNumbers_88 (by decide) 0 rfl (fun c18 => absurd c18 (by decide)) (fun c18 => ?_)
        refine g_aload_n F 1 dX8_takeOfNumbers_91 rfl rfl ?_
        refine xg_4_5 F i_X8 w_1 dX8_takeOfNumbers_92 (G 4 5) (rfl) ?_
        refine g_aload_n F 2 dX8_takeOfNumbers_95 rfl rfl ?_
        refine uz_getf F (show va_OF "QuietCut$Clause" "most" "I" (.int 1) (zf 15) A s s.heap from (hZ.2.2.2.2.2 5 (by decide)).2.2.2.1) w_2 dX8_takeOfNumbers_96 ?_
        refine v_icmp_ne F 104 dX8_takeOfNumbers_99 (by decide) (G 4 5).toInt 1 rfl rfl (fun c19 => ?_) (fun c19 => ?_)
        · refine g_aload_n F 1 dX8_takeOfNumbers_104 rfl rfl ?_
          refine g_aload_n F 2 dX8_takeOfNumbers_105 rfl rfl ?_
          refine uz_callVi (k := 0) (n := 0) (b := a 4) (As := [.ref (zf 15)]) (st := []) F xZ_st hZ (fun sz => S_X8_isInBounds_c5 l D K a G zf  hI sz) (cwV 1 hts gX8_takeOfNumbers_X8_isInBounds rfl rfl rfl (by decide +kernel) ⟨Nat.le_of_ble_eq_true rfl, Nat.le_of_ble_eq_true rfl⟩) rfl 4 xc_4 rfl (Nat.le_of_ble_eq_true rfl) ⟨Nat.zero_le _, Nat.zero_le _⟩ dX8_takeOfNumbers_106 (fun r20 _ hw21 => ?_)
          have q23 : ((r20.toInt = 1 ∧ (1 ≤ (G 1 5).toInt ∧ (G 1 5).toInt ≤ 9999 ∧ ((G 4 5).toInt ≠ 1 ∨ ((G 4 6).toInt ≤ (G 1 5).toInt ∧ (G 1 5).toInt ≤ (G 4 6).toInt + 3)))) ∨ (r20.toInt = 0 ∧ ¬ (1 ≤ (G 1 5).toInt ∧ (G 1 5).toInt ≤ 9999 ∧ ((G 4 5).toInt ≠ 1 ∨ ((G 4 6).toInt ≤ (G 1 5).toInt ∧ (G 1 5).toInt ≤ (G 4 6).toInt + 3))))) := hw21.2
          have rg24 := hw21.1
          clear hw21
          refine v_if_ne F 114 dX8_takeOfNumbers_109 (by decide) r20.toInt rfl (fun c25 => ?_) (fun c25 => ?_)
          · refine g_aload_n F 1 dX8_takeOfNumbers_114 rfl rfl ?_
            refine xg_4_5 F i_X8 w_1 dX8_takeOfNumbers_115 (G 4 5) (rfl) ?_
            refine g_aload_n F 2 dX8_takeOfNumbers_118 rfl rfl ?_
            refine uz_getf F (show va_OF "QuietCut$Clause" "most" "I" (.int 1) (zf 15) A s s.heap from (hZ.2.2.2.2.2 5 (by decide)).2.2.2.1) w_2 dX8_takeOfNumbers_119 ?_
            refine v_icmp_ne F 127 dX8_takeOfNumbers_122 (by decide) (G 4 5).toInt 1 rfl rfl (fun c26 => ?_) (fun c26 => ?_)
            · refine g_aload_n F 1 dX8_takeOfNumbers_127 rfl rfl ?_
              refine xg_4_1 F i_X8 w_4 dX8_takeOfNumbers_128 ?_
              refine g_aload_n F 2 dX8_takeOfNumbers_131 rfl rfl ?_
              refine uz_getf F (show va_OF "QuietCut$Clause" "slot" "I" (.int 7) (zf 15) A s s.heap from (hZ.2.2.2.2.2 5 (by decide)).2.2.1) w_5 dX8_takeOfNumbers_132 ?_
              refine g_aload_n F 1 dX8_takeOfNumbers_135 rfl rfl ?_
              refine xg_4_5 F i_X8 w_1 dX8_takeOfNumbers_136 (G 4 5) (rfl) ?_
              refine u_iadd F dX8_takeOfNumbers_139 7 (G 4 5).toInt rfl rfl (by omega) (by omega) (fun y27 ey27 => ?_)
              refine g_aload_n F 1 dX8_takeOfNumbers_140 rfl rfl ?_
              refine xg_4_0 F i_X8 w_0 dX8_takeOfNumbers_141 ?_
              refine xg_1_5 F i_X10 w_6 dX8_takeOfNumbers_144 (G 1 5) (rfl) ?_
              refine u_callVv (k := 0) (n := 0) (b := a 3) (As := [.int y27, .int (G 1 5)]) (st := []) F (fun sz => S_X7_put_3 l D K a G y27 y27.toInt (G 1 5) (G 1 5).toInt rfl (by omega) rfl hI sz) (cwV 2 hts gX8_takeOfNumbers_X7_put rfl rfl rfl (by decide +kernel) ⟨Nat.le_of_ble_eq_true rfl, Nat.le_of_ble_eq_true rfl⟩) rfl 3 xc_3 rfl (Nat.le_of_ble_eq_true rfl) ⟨Nat.zero_le _, Nat.zero_le _⟩ dX8_takeOfNumbers_147 (fun G30 hw29 => ?_)
              have hI31 : xI G30 := hw29.1
              have hU32 : gu_un xcd [1900] G G30 := hw29.2.1
              have hp33 := hw29.2.2
              have q34 : (G30 19 = upd (G 19) (y27.toInt).toNat (G 1 5)) := hp33
              clear hp33 hw29
              refine g_aload_n F 1 dX8_takeOfNumbers_150 rfl rfl ?_
              refine g_dup F dX8_takeOfNumbers_151 rfl ?_
              refine xg_4_5 F i_X8 w_1 dX8_takeOfNumbers_152 (G 4 5) (hU32 4 5 (by decide)) ?_
              refine g_iconst F 1 dX8_takeOfNumbers_155 (by decide) ?_
              refine u_iadd F dX8_takeOfNumbers_156 (G 4 5).toInt 1 rfl rfl (by omega) (by omega) (fun y35 ey35 => ?_)
              refine xp_4_5 F i_X8 w_1 dX8_takeOfNumbers_157 ?_
              refine g_aload_n F 1 dX8_takeOfNumbers_160 rfl rfl ?_
              refine g_aload_n F 1 dX8_takeOfNumbers_161 rfl rfl ?_
              refine xg_4_0 F i_X8 w_0 dX8_takeOfNumbers_162 ?_
              refine xg_1_5 F i_X10 w_6 dX8_takeOfNumbers_165 (G 1 5) (hU32 1 5 (by decide)) ?_
              refine xp_4_6 F i_X8 w_7 dX8_takeOfNumbers_168 ?_
              refine g_iconst F 0 dX8_takeOfNumbers_171 (by decide) ?_
              exact u_iret F hA hQ hr (gu_up (gu_up G30 4 5 y35) 4 6 (G 1 5)) (⟨(gu_I.up (j := 4) (k := 6) (v := (G 1 5)) (gu_I.up (j := 4) (k := 5) (v := y35) hI31 (show (0 : Int) ≤ Int32.toInt y35 by omega) (show Int32.toInt y35 ≤ 6 by omega)) (show (0 : Int) ≤ Int32.toInt (G 1 5) by omega) (show Int32.toInt (G 1 5) ≤ 9999 by omega)), (gu_un.up (j := 4) (k := 6) (v := (G 1 5)) (gu_un.up (j := 4) (k := 5) (v := y35) (gu_un.tr gu_un.rf (gu_un.su hU32 rfl)) (show (406 : Nat) ∈ ([403, 405, 406, 407, 1900] : List Nat) by decide)) (show (407 : Nat) ∈ ([403, 405, 406, 407, 1900] : List Nat) by decide)), (by decide), ((xNb.un (G := G30) (by rw [q34]; rcases (show y27.toInt = 7 by omega) with h9 <;> (rw [h9]; first | exact xNb.put nb (show (1 : Int) ≤ Int32.toInt (G 1 5) by omega) (show Int32.toInt (G 1 5) ≤ 9999 by omega))) (show gu_un xcd [406, 407] G30 (gu_up (gu_up G30 4 5 y35) 4 6 (G 1 5)) from (gu_un.up (j := 4) (k := 6) (v := (G 1 5)) (gu_un.up (j := 4) (k := 5) (v := y35) gu_un.rf (show (406 : Nat) ∈ ([406, 407] : List Nat) by decide)) (show (407 : Nat) ∈ ([406, 407] : List Nat) by decide))) rfl)), (by show (((gu_up (gu_up G30 4 5 y35) 4 6 (G 1 5)) 4 4).toInt = -1 ∨ ((gu_up (gu_up G30 4 5 y35) 4 6 (G 1 5)) 4 5).toInt ≤ 1 ∨ (((gu_up (gu_up G30 4 5 y35) 4 6 (G 1 5)) 4 5).toInt ≤ 2 ∧ (((gu_up (gu_up G30 4 5 y35) 4 6 (G 1 5)) 4 4).toInt = 3 ∨ ((gu_up (gu_up G30 4 5 y35) 4 6 (G 1 5)) 4 4).toInt = 4)) ∨ (((gu_up (gu_up G30 4 5 y35) 4 6 (G 1 5)) 4 5).toInt ≤ 4 ∧ ((gu_up (gu_up G30 4 5 y35) 4 6 (G 1 5)) 4 4).toInt = 8) ∨ ((gu_up (gu_up G30 4 5 y35) 4 6 (G 1 5)) 4 4).toInt = 9); have e9_4_4 : (gu_up (gu_up G30 4 5 y35) 4 6 (G 1 5)) 4 4 = (G 4 4) := hU32 4 4 (by decide); have e9_4_5 : (gu_up (gu_up G30 4 5 y35) 4 6 (G 1 5)) 4 5 = y35 := rfl; (try simp only [e9_4_4, e9_4_5, true_and, and_true]) <;> (first | omega | (simp only [Int32.reduceToInt, true_and, and_true, ne_eq, not_true_eq_false, false_and, or_false, false_or, true_or, or_true, false_implies] <;> omega))), (by show (((gu_up (gu_up G30 4 5 y35) 4 6 (G 1 5)) 4 4).toInt = -1 ∨ ((gu_up (gu_up G30 4 5 y35) 4 6 (G 1 5)) 4 4).toInt = (G 4 4).toInt); have e9_4_4 : (gu_up (gu_up G30 4 5 y35) 4 6 (G 1 5)) 4 4 = (G 4 4) := hU32 4 4 (by decide); (try simp only [e9_4_4, true_and, and_true]) <;> (first | omega | (simp only [Int32.reduceToInt, true_and, and_true, ne_eq, not_true_eq_false, false_and, or_false, false_or, true_or, or_true, false_implies] <;> omega))), (by show (((gu_up (gu_up G30 4 5 y35) 4 6 (G 1 5)) 4 2).toInt ≤ (G 4 2).toInt + 1); have e9_4_2 : (gu_up (gu_up G30 4 5 y35) 4 6 (G 1 5)) 4 2 = (G 4 2) := hU32 4 2 (by decide); (try simp only [e9_4_2, true_and, and_true]) <;> (first | omega | (simp only [Int32.reduceToInt, true_and, and_true, ne_eq, not_true_eq_false, false_and, or_false, false_or, true_or, or_true, false_implies] <;> omega))), (by have m9 : hMo 5 = 1 := (by decide); have l9 : hLo 5 = 1 := (by decide); have h9 : hHi 5 = 9999 := (by decide); have s9 : hSl 5 = 7 := (by decide); exact xH_nP (c := 5) (by decide) (show (G 4 4).toInt = 5 by omega) (by decide) (by decide) (by omega) (by show ¬ (_ ∨ _ ∨ _); omega) (by omega) (show (gu_up (gu_up G30 4 5 y35) 4 6 (G 1 5)) 4 4 = (G 4 4) from hU32 4 4 (by decide)) (show ((gu_up (gu_up G30 4 5 y35) 4 6 (G 1 5)) 4 5).toInt = (G 4 5).toInt + 1 by rw [show (gu_up (gu_up G30 4 5 y35) 4 6 (G 1 5)) 4 5 = y35 from rfl] <;> first | rfl | omega) (show ((gu_up (gu_up G30 4 5 y35) 4 6 (G 1 5)) 4 6).toInt = (G 1 5).toInt by rw [show (gu_up (gu_up G30 4 5 y35) 4 6 (G 1 5)) 4 6 = (G 1 5) from rfl] <;> first | rfl | omega) (show (gu_up (gu_up G30 4 5 y35) 4 6 (G 1 5)) 4 2 = (G 4 2) from hU32 4 2 (by decide)) (show (gu_up (gu_up G30 4 5 y35) 4 6 (G 1 5)) 4 3 = (G 4 3) from hU32 4 3 (by decide)) (x := (G 1 5)) rfl (q := y27.toInt) (by omega) (show (gu_up (gu_up G30 4 5 y35) 4 6 (G 1 5)) 19 = upd (G 19) (y27.toInt).toNat (G 1 5) from (show (gu_up (gu_up G30 4 5 y35) 4 6 (G 1 5)) 19 = G30 19 from funext fun k_ => (show gu_un xcd [406, 407] G30 (gu_up (gu_up G30 4 5 y35) 4 6 (G 1 5)) from (gu_un.up (j := 4) (k := 6) (v := (G 1 5)) (gu_un.up (j := 4) (k := 5) (v := y35) gu_un.rf (show (406 : Nat) ∈ ([406, 407] : List Nat) by decide)) (show (407 : Nat) ∈ ([406, 407] : List Nat) by decide))) 19 k_ (by simp [xcd])).trans q34) (xSg_un (show gu_un xcd [406, 407, 1900] G (gu_up (gu_up G30 4 5 y35) 4 6 (G 1 5)) from (gu_un.up (j := 4) (k := 6) (v := (G 1 5)) (gu_un.up (j := 4) (k := 5) (v := y35) (gu_un.tr gu_un.rf (gu_un.su hU32 rfl)) (show (406 : Nat) ∈ ([406, 407, 1900] : List Nat) by decide)) (show (407 : Nat) ∈ ([406, 407, 1900] : List Nat) by decide))) rfl rfl rfl)), (by show (0 ≠ 0 ∨ (G 1 3).toInt ≠ 0); (first | omega | (simp only [Int32.reduceToInt, true_and, and_true, ne_eq, not_true_eq_false, false_and, or_false, false_or, true_or, or_true, false_implies] <;> omega)))⟩) rfl rfl dX8_takeOfNumbers_172
            · refine g_iconst F 4 dX8_takeOfNumbers_125 (by decide) ?_
              exact u_iret F hA hQ hr G (⟨hI, gu_un.rf, (by decide), (nb), (by show ((G 4 4).toInt = -1 ∨ (G 4 5).toInt ≤ 1 ∨ ((G 4 5).toInt ≤ 2 ∧ ((G 4 4).toInt = 3 ∨ (G 4 4).toInt = 4)) ∨ ((G 4 5).toInt ≤ 4 ∧ (G 4 4).toInt = 8) ∨ (G 4 4).toInt = 9); (first | omega | (simp only [Int32.reduceToInt, true_and, and_true, ne_eq, not_true_eq_false, false_and, or_false, false_or, true_or, or_true, false_implies] <;> omega))), (by show ((G 4 4).toInt = -1 ∨ (G 4 4).toInt = (G 4 4).toInt); (first | omega | (simp only [Int32.reduceToInt, true_and, and_true, ne_eq, not_true_eq_false, false_and, or_false, false_or, true_or, or_true, false_implies] <;> omega))), (by show ((G 4 2).toInt ≤ (G 4 2).toInt + 1); (first | omega | (simp only [Int32.reduceToInt, true_and, and_true, ne_eq, not_true_eq_false, false_and, or_false, false_or, true_or, or_true, false_implies] <;> omega))), (by have m9 : hMo 5 = 1 := (by decide); have l9 : hLo 5 = 1 := (by decide); have h9 : hHi 5 = 9999 := (by decide); have s9 : hSl 5 = 7 := (by decide); exact xH_bad (f := 4) (by decide) (by decide) (fun ts pl ci => by rw [show (G 4 4).toInt = 5 by omega]; exact hO_n4 (by decide) (by decide) (by omega) (by omega) (by show ¬ (_ ∨ _ ∨ _); omega) (by omega))), (by show (4 ≠ 0 ∨ (G 1 3).toInt ≠ 0); (first | omega | (simp only [Int32.reduceToInt, true_and, and_true, ne_eq, not_true_eq_false, false_and, or_false, false_or, true_or, or_true, false_implies] <;> omega)))⟩) rfl rfl dX8_takeOfNumbers_126
          · refine g_iconst F 2 dX8_takeOfNumbers_112 (by decide) ?_
            exact u_iret F hA hQ hr G (⟨hI, gu_un.rf, (by decide), (nb), (by show ((G 4 4).toInt = -1 ∨ (G 4 5).toInt ≤ 1 ∨ ((G 4 5).toInt ≤ 2 ∧ ((G 4 4).toInt = 3 ∨ (G 4 4).toInt = 4)) ∨ ((G 4 5).toInt ≤ 4 ∧ (G 4 4).toInt = 8) ∨ (G 4 4).toInt = 9); (first | omega | (simp only [Int32.reduceToInt, true_and, and_true, ne_eq, not_true_eq_false, false_and, or_false, false_or, true_or, or_true, false_implies] <;> omega))), (by show ((G 4 4).toInt = -1 ∨ (G 4 4).toInt = (G 4 4).toInt); (first | omega | (simp only [Int32.reduceToInt, true_and, and_true, ne_eq, not_true_eq_false, false_and, or_false, false_or, true_or, or_true, false_implies] <;> omega))), (by show ((G 4 2).toInt ≤ (G 4 2).toInt + 1); (first | omega | (simp only [Int32.reduceToInt, true_and, and_true, ne_eq, not_true_eq_false, false_and, or_false, false_or, true_or, or_true, false_implies] <;> omega))), (by have m9 : hMo 5 = 1 := (by decide); have l9 : hLo 5 = 1 := (by decide); have h9 : hHi 5 = 9999 := (by decide); have s9 : hSl 5 = 7 := (by decide); exact xH_bad (f := 2) (by decide) (by decide) (fun ts pl ci => by rw [show (G 4 4).toInt = 5 by omega]; exact hO_n2 (by decide) (by decide) (by omega) (by omega) (by show _ ∨ _ ∨ _; omega))), (by show (2 ≠ 0 ∨ (G 1 3).toInt ≠ 0); (first | omega | (simp only [Int32.reduceToInt, true_and, and_true, ne_eq, not_true_eq_false, false_and, or_false, false_or, true_or, or_true, false_implies] <;> omega)))⟩) rfl rfl dX8_takeOfNumbers_113
        · refine g_iconst F 1 dX8_takeOfNumbers_102 (by decide) ?_
          exact u_iret F hA hQ hr G (⟨hI, gu_un.rf, (by decide), (nb), (by show ((G 4 4).toInt = -1 ∨ (G 4 5).toInt ≤ 1 ∨ ((G 4 5).toInt ≤ 2 ∧ ((G 4 4).toInt = 3 ∨ (G 4 4).toInt = 4)) ∨ ((G 4 5).toInt ≤ 4 ∧ (G 4 4).toInt = 8) ∨ (G 4 4).toInt = 9); (first | omega | (simp only [Int32.reduceToInt, true_and, and_true, ne_eq, not_true_eq_false, false_and, or_false, false_or, true_or, or_true, false_implies] <;> omega))), (by show ((G 4 4).toInt = -1 ∨ (G 4 4).toInt = (G 4 4).toInt); (first | omega | (simp only [Int32.reduceToInt, true_and, and_true, ne_eq, not_true_eq_false, false_and, or_false, false_or, true_or, or_true, false_implies] <;> omega))), (by show ((G 4 2).toInt ≤ (G 4 2).toInt + 1); (first | omega | (simp only [Int32.reduceToInt, true_and, and_true, ne_eq, not_true_eq_false, false_and, or_false, false_or, true_or, or_true, false_implies] <;> omega))), (by have m9 : hMo 5 = 1 := (by decide); have l9 : hLo 5 = 1 := (by decide); have h9 : hHi 5 = 9999 := (by decide); have s9 : hSl 5 = 7 := (by decide); exact xH_bad (f := 1) (by decide) (by decide) (fun ts pl ci => by rw [show (G 4 4).toInt = 5 by omega]; exact hO_n1 (by decide) (by decide) (by show ¬ (_ ∧ _ ∧ _); omega) (by omega))), (by show (1 ≠ 0 ∨ (G 1 3).toInt ≠ 0); (first | omega | (simp only [Int32.reduceToInt, true_and, and_true, ne_eq, not_true_eq_false, false_and, or_false, false_or, true_or, or_true, false_implies] <;> omega)))⟩) rfl rfl dX8_takeOfNumbers_103
    · refine g_iload_n F 0 dX8_takeOfNumbers_51 rfl rfl ?_
      refine v_if_eq F 70 dX8_takeOfNumbers_52 (by decide) 0 rfl (fun c36 => ?_) (fun c36 => absurd c36 (by decide))
      refine g_aload_n F 1 dX8_takeOfNumbers_70 rfl rfl ?_
      refine u_callVv (k := 0) (n := 0) (b := a 4) (As := []) (st := []) F (fun sz => S_X8_closeClause l D K a G  (by (first | omega | (simp only [Int32.reduceToInt, true_and, and_true, ne_eq, not_true_eq_false, false_and, or_false, false_or, true_or, or_true, false_implies] <;> omega))) hI sz) (cwV 0 hts gX8_takeOfNumbers_X8_closeClause rfl rfl rfl (by decide +kernel) ⟨Nat.le_of_ble_eq_true rfl, Nat.le_of_ble_eq_true rfl⟩) rfl 4 xc_4 rfl (Nat.le_of_ble_eq_true rfl) ⟨Nat.zero_le _, Nat.zero_le _⟩ dX8_takeOfNumbers_71 (fun G39 hw38 => ?_)
      have hI40 : xI G39 := hw38.1
      have hU41 : gu_un xcd [403, 405] G G39 := hw38.2.1
      have hp42 := hw38.2.2
      have b43 : ((-1) : Int) ≤ (G39 4 4).toInt ∧ (G39 4 4).toInt ≤ 12 := hI40 4 4
      have q44 : ((G39 4 4).toInt = -1) := hp42.1
      have b45 : (0 : Int) ≤ (G39 4 2).toInt ∧ (G39 4 2).toInt ≤ 1001 := hI40 4 2
      have q46 : ((G39 4 2).toInt = (G 4 2).toInt + 1) := hp42.2
      clear hp42 hw38
      refine g_iconst F 0 dX8_takeOfNumbers_74 (by decide) ?_
      exact u_iret F hA hQ hr G39 (⟨hI40, (gu_un.tr gu_un.rf (gu_un.su hU41 rfl)), (by decide), ((xNb.un nb (show gu_un xcd [403, 405] G G39 from (gu_un.tr gu_un.rf (gu_un.su hU41 rfl))) rfl)), (by show ((G39 4 4).toInt = -1 ∨ (G39 4 5).toInt ≤ 1 ∨ ((G39 4 5).toInt ≤ 2 ∧ ((G39 4 4).toInt = 3 ∨ (G39 4 4).toInt = 4)) ∨ ((G39 4 5).toInt ≤ 4 ∧ (G39 4 4).toInt = 8) ∨ (G39 4 4).toInt = 9); have e9_4_5 : G39 4 5 = (G 4 5) := hU41 4 5 (by decide); (try simp only [e9_4_5, true_and, and_true]) <;> (first | omega | (simp only [Int32.reduceToInt, true_and, and_true, ne_eq, not_true_eq_false, false_and, or_false, false_or, true_or, or_true, false_implies] <;> omega))), (by show ((G39 4 4).toInt = -1 ∨ (G39 4 4).toInt = (G 4 4).toInt); (first | omega | (simp only [Int32.reduceToInt, true_and, and_true, ne_eq, not_true_eq_false, false_and, or_false, false_or, true_or, or_true, false_implies] <;> omega))), (by show ((G39 4 2).toInt ≤ (G 4 2).toInt + 1); (first | omega | (simp only [Int32.reduceToInt, true_and, and_true, ne_eq, not_true_eq_false, false_and, or_false, false_or, true_or, or_true, false_implies] <;> omega))), (by have m9 : hMo 5 = 1 := (by decide); have l9 : hLo 5 = 1 := (by decide); have h9 : hHi 5 = 9999 := (by decide); have s9 : hSl 5 = 7 := (by decide); exact xH_nE (c := 5) (by decide) (show (G 4 4).toInt = 5 by omega) (by decide) (by decide) ⟨by omega, by omega, by omega⟩ (show (G39 4 4).toInt = -1 by rw [show G39 4 4 = (G39 4 4) from rfl] <;> first | rfl | omega) (show G39 4 5 = (G 4 5) from hU41 4 5 (by decide)) (show G39 4 6 = (G 4 6) from hU41 4 6 (by decide)) (show (G39 4 2).toInt = (G 4 2).toInt + 1 by rw [show G39 4 2 = (G39 4 2) from rfl] <;> first | rfl | omega) (show G39 4 3 = (G 4 3) from hU41 4 3 (by decide)) (by rw [if_neg (by decide), if_neg (by decide)]; exact (show G39 19 = G 19 from funext fun k_ => hU41 19 k_ (show (1900 : Nat) ∉ ([403, 405] : List Nat) by decide))) (xSg_un (show gu_un xcd [403, 405] G G39 from (gu_un.tr gu_un.rf (gu_un.su hU41 rfl))) rfl rfl rfl)), (by show (0 ≠ 0 ∨ (G 1 3).toInt ≠ 0); (first | omega | (simp only [Int32.reduceToInt, true_and, and_true, ne_eq, not_true_eq_false, false_and, or_false, false_or, true_or, or_true, false_implies] <;> omega)))⟩) rfl rfl dX8_takeOfNumbers_75
  · have b47 : (0 : Int) ≤ (G 1 3).toInt ∧ (G 1 3).toInt ≤ 4 := hI 1 3
    have q12 : ((G 1 3).toInt ≠ 3 ∨ (G 1 5).toInt ≠ (59 : Int)) := q12
    refine v_if_eq F 76 dX8_takeOfNumbers_23 (by decide) 0 rfl (fun c48 => ?_) (fun c48 => absurd c48 (by decide))
    refine g_aload_n F 1 dX8_takeOfNumbers_76 rfl rfl ?_
    refine xg_4_0 F i_X8 w_0 dX8_takeOfNumbers_77 ?_
    refine xg_1_3 F i_X10 w_3 dX8_takeOfNumbers_80 (G 1 3) (rfl) ?_
    refine g_iconst F 2 dX8_takeOfNumbers_83 (by decide) ?_
    refine v_icmp_ne F 102 dX8_takeOfNumbers_84 (by decide) (G 1 3).toInt 2 rfl rfl (fun c49 => ?_) (fun c49 => ?_)
    · refine g_iconst F 1 dX8_takeOfNumbers_102 (by decide) ?_
      exact u_iret F hA hQ hr G (⟨hI, gu_un.rf, (by decide), (nb), (by show ((G 4 4).toInt = -1 ∨ (G 4 5).toInt ≤ 1 ∨ ((G 4 5).toInt ≤ 2 ∧ ((G 4 4).toInt = 3 ∨ (G 4 4).toInt = 4)) ∨ ((G 4 5).toInt ≤ 4 ∧ (G 4 4).toInt = 8) ∨ (G 4 4).toInt = 9); (first | omega | (simp only [Int32.reduceToInt, true_and, and_true, ne_eq, not_true_eq_false, false_and, or_false, false_or, true_or, or_true, false_implies] <;> omega))), (by show ((G 4 4).toInt = -1 ∨ (G 4 4).toInt = (G 4 4).toInt); (first | omega | (simp only [Int32.reduceToInt, true_and, and_true, ne_eq, not_true_eq_false, false_and, or_false, false_or, true_or, or_true, false_implies] <;> omega))), (by show ((G 4 2).toInt ≤ (G 4 2).toInt + 1); (first | omega | (simp only [Int32.reduceToInt, true_and, and_true, ne_eq, not_true_eq_false, false_and, or_false, false_or, true_or, or_true, false_implies] <;> omega))), (by have m9 : hMo 5 = 1 := (by decide); have l9 : hLo 5 = 1 := (by decide); have h9 : hHi 5 = 9999 := (by decide); have s9 : hSl 5 = 7 := (by decide); exact xH_bad (f := 1) (by decide) (by decide) (fun ts pl ci => by rw [show (G 4 4).toInt = 5 by omega]; exact hO_n1 (by decide) (by decide) (by show ¬ (_ ∧ _ ∧ _); omega) (by omega))), (by show (1 ≠ 0 ∨ (G 1 3).toInt ≠ 0); (first | omega | (simp only [Int32.reduceToInt, true_and, and_true, ne_eq, not_true_eq_false, false_and, or_false, false_or, true_or, or_true, false_implies] <;> omega)))⟩) rfl rfl dX8_takeOfNumbers_103
    · refine g_iload_n F 0 dX8_takeOfNumbers_87 rfl rfl ?_
      refine v_if_ne F 104 dX8_takeOfNumbers_88 (by decide) 0 rfl (fun c50 => absurd c50 (by decide)) (fun c50 => ?_)
      refine g_aload_n F 1 dX8_takeOfNumbers_91 rfl rfl ?_
      refine xg_4_5 F i_X8 w_1 dX8_takeOfNumbers_92 (G 4 5) (rfl) ?_
      refine g_aload_n F 2 dX8_takeOfNumbers_95 rfl rfl ?_
      refine uz_getf F (show va_OF "QuietCut$Clause" "most" "I" (.int 1) (zf 15) A s s.heap from (hZ.2.2.2.2.2 5 (by decide)).2.2.2.1) w_2 dX8_takeOfNumbers_96 ?_
      refine v_icmp_ne F 104 dX8_takeOfNumbers_99 (by decide) (G 4 5).toInt 1 rfl rfl (fun c51 => ?_) (fun c51 => ?_)
      · refine g_aload_n F 1 dX8_takeOfNumbers_104 rfl rfl ?_
        refine g_aload_n F 2 dX8_takeOfNumbers_105 rfl rfl ?_
        refine uz_callVi (k := 0) (n := 0) (b := a 4) (As := [.ref (zf 15)]) (st := []) F xZ_st hZ (fun sz => S_X8_isInBounds_c5 l D K a G zf  hI sz) (cwV 1 hts gX8_takeOfNumbers_X8_isInBounds rfl rfl rfl (by decide +kernel) ⟨Nat.le_of_ble_eq_true rfl, Nat.le_of_ble_eq_true rfl⟩) rfl 4 xc_4 rfl (Nat.le_of_ble_eq_true rfl) ⟨Nat.zero_le _, Nat.zero_le _⟩ dX8_takeOfNumbers_106 (fun r52 _ hw53 => ?_)
        have q55 : ((r52.toInt = 1 ∧ (1 ≤ (G 1 5).toInt ∧ (G 1 5).toInt ≤ 9999 ∧ ((G 4 5).toInt ≠ 1 ∨ ((G 4 6).toInt ≤ (G 1 5).toInt ∧ (G 1 5).toInt ≤ (G 4 6).toInt + 3)))) ∨ (r52.toInt = 0 ∧ ¬ (1 ≤ (G 1 5).toInt ∧ (G 1 5).toInt ≤ 9999 ∧ ((G 4 5).toInt ≠ 1 ∨ ((G 4 6).toInt ≤ (G 1 5).toInt ∧ (G 1 5).toInt ≤ (G 4 6).toInt + 3))))) := hw53.2
        have rg56 := hw53.1
        clear hw53
        refine v_if_ne F 114 dX8_takeOfNumbers_109 (by decide) r52.toInt rfl (fun c57 => ?_) (fun c57 => ?_)
        · refine g_aload_n F 1 dX8_takeOfNumbers_114 rfl rfl ?_
          refine xg_4_5 F i_X8 w_1 dX8_takeOfNumbers_115 (G 4 5) (rfl) ?_
          refine g_aload_n F 2 dX8_takeOfNumbers_118 rfl rfl ?_
          refine uz_getf F (show va_OF "QuietCut$Clause" "most" "I" (.int 1) (zf 15) A s s.heap from (hZ.2.2.2.2.2 5 (by decide)).2.2.2.1) w_2 dX8_takeOfNumbers_119 ?_
          refine v_icmp_ne F 127 dX8_takeOfNumbers_122 (by decide) (G 4 5).toInt 1 rfl rfl (fun c58 => ?_) (fun c58 => ?_)
          · refine g_aload_n F 1 dX8_takeOfNumbers_127 rfl rfl ?_
            refine xg_4_1 F i_X8 w_4 dX8_takeOfNumbers_128 ?_
            refine g_aload_n F 2 dX8_takeOfNumbers_131 rfl rfl ?_
            refine uz_getf F (show va_OF "QuietCut$Clause" "slot" "I" (.int 7) (zf 15) A s s.heap from (hZ.2.2.2.2.2 5 (by decide)).2.2.1) w_5 dX8_takeOfNumbers_132 ?_
            refine g_aload_n F 1 dX8_takeOfNumbers_135 rfl rfl ?_
            refine xg_4_5 F i_X8 w_1 dX8_takeOfNumbers_136 (G 4 5) (rfl) ?_
            refine u_iadd F dX8_takeOfNumbers_139 7 (G 4 5).toInt rfl rfl (by omega) (by omega) (fun y59 ey59 => ?_)
            refine g_aload_n F 1 dX8_takeOfNumbers_140 rfl rfl ?_
            refine xg_4_0 F i_X8 w_0 dX8_takeOfNumbers_141 ?_
            refine xg_1_5 F i_X10 w_6 dX8_takeOfNumbers_144 (G 1 5) (rfl) ?_
            refine u_callVv (k := 0) (n := 0) (b := a 3) (As := [.int y59, .int (G 1 5)]) (st := []) F (fun sz => S_X7_put_3 l D K a G y59 y59.toInt (G 1 5) (G 1 5).toInt rfl (by omega) rfl hI sz) (cwV 2 hts gX8_takeOfNumbers_X7_put rfl rfl rfl (by decide +kernel) ⟨Nat.le_of_ble_eq_true rfl, Nat.le_of_ble_eq_true rfl⟩) rfl 3 xc_3 rfl (Nat.le_of_ble_eq_true rfl) ⟨Nat.zero_le _, Nat.zero_le _⟩ dX8_takeOfNumbers_147 (fun G62 hw61 => ?_)
            have hI63 : xI G62 := hw61.1
            have hU64 : gu_un xcd [1900] G G62 := hw61.2.1
            have hp65 := hw61.2.2
            have q66 : (G62 19 = upd (G 19) (y59.toInt).toNat (G 1 5)) := hp65
            clear hp65 hw61
            refine g_aload_n F 1 dX8_takeOfNumbers_150 rfl rfl ?_
            refine g_dup F dX8_takeOfNumbers_151 rfl ?_
            refine xg_4_5 F i_X8 w_1 dX8_takeOfNumbers_152 (G 4 5) (hU64 4 5 (by decide)) ?_
            refine g_iconst F 1 dX8_takeOfNumbers_155 (by decide) ?_
            refine u_iadd F dX8_takeOfNumbers_156 (G 4 5).toInt 1 rfl rfl (by omega) (by omega) (fun y67 ey67 => ?_)
            refine xp_4_5 F i_X8 w_1 dX8_takeOfNumbers_157 ?_
            refine g_aload_n F 1 dX8_takeOfNumbers_160 rfl rfl ?_
            refine g_aload_n F 1 dX8_takeOfNumbers_161 rfl rfl ?_
            refine xg_4_0 F i_X8 w_0 dX8_takeOfNumbers_162 ?_
            refine xg_1_5 F i_X10 w_6 dX8_takeOfNumbers_165 (G 1 5) (hU64 1 5 (by decide)) ?_
            refine xp_4_6 F i_X8 w_7 dX8_takeOfNumbers_168 ?_
            refine g_iconst F 0 dX8_takeOfNumbers_171 (by decide) ?_
            exact u_iret F hA hQ hr (gu_up (gu_up G62 4 5 y67) 4 6 (G 1 5)) (⟨(gu_I.up (j := 4) (k := 6) (v := (G 1 5)) (gu_I.up (j := 4) (k := 5) (v := y67) hI63 (show (0 : Int) ≤ Int32.toInt y67 by omega) (show Int32.toInt y67 ≤ 6 by omega)) (show (0 : Int) ≤ Int32.toInt (G 1 5) by omega) (show Int32.toInt (G 1 5) ≤ 9999 by omega)), (gu_un.up (j := 4) (k := 6) (v := (G 1 5)) (gu_un.up (j := 4) (k := 5) (v := y67) (gu_un.tr gu_un.rf (gu_un.su hU64 rfl)) (show (406 : Nat) ∈ ([403, 405, 406, 407, 1900] : List Nat) by decide)) (show (407 : Nat) ∈ ([403, 405, 406, 407, 1900] : List Nat) by decide)), (by decide), ((xNb.un (G := G62) (by rw [q66]; rcases (show y59.toInt = 7 by omega) with h9 <;> (rw [h9]; first | exact xNb.put nb (show (1 : Int) ≤ Int32.toInt (G 1 5) by omega) (show Int32.toInt (G 1 5) ≤ 9999 by omega))) (show gu_un xcd [406, 407] G62 (gu_up (gu_up G62 4 5 y67) 4 6 (G 1 5)) from (gu_un.up (j := 4) (k := 6) (v := (G 1 5)) (gu_un.up (j := 4) (k := 5) (v := y67) gu_un.rf (show (406 : Nat) ∈ ([406, 407] : List Nat) by decide)) (show (407 : Nat) ∈ ([406, 407] : List Nat) by decide))) rfl)), (by show (((gu_up (gu_up G62 4 5 y67) 4 6 (G 1 5)) 4 4).toInt = -1 ∨ ((gu_up (gu_up G62 4 5 y67) 4 6 (G 1 5)) 4 5).toInt ≤ 1 ∨ (((gu_up (gu_up G62 4 5 y67) 4 6 (G 1 5)) 4 5).toInt ≤ 2 ∧ (((gu_up (gu_up G62 4 5 y67) 4 6 (G 1 5)) 4 4).toInt = 3 ∨ ((gu_up (gu_up G62 4 5 y67) 4 6 (G 1 5)) 4 4).toInt = 4)) ∨ (((gu_up (gu_up G62 4 5 y67) 4 6 (G 1 5)) 4 5).toInt ≤ 4 ∧ ((gu_up (gu_up G62 4 5 y67) 4 6 (G 1 5)) 4 4).toInt = 8) ∨ ((gu_up (gu_up G62 4 5 y67) 4 6 (G 1 5)) 4 4).toInt = 9); have e9_4_4 : (gu_up (gu_up G62 4 5 y67) 4 6 (G 1 5)) 4 4 = (G 4 4) := hU64 4 4 (by decide); have e9_4_5 : (gu_up (gu_up G62 4 5 y67) 4 6 (G 1 5)) 4 5 = y67 := rfl; (try simp only [e9_4_4, e9_4_5, true_and, and_true]) <;> (first | omega | (simp only [Int32.reduceToInt, true_and, and_true, ne_eq, not_true_eq_false, false_and, or_false, false_or, true_or, or_true, false_implies] <;> omega))), (by show (((gu_up (gu_up G62 4 5 y67) 4 6 (G 1 5)) 4 4).toInt = -1 ∨ ((gu_up (gu_up G62 4 5 y67) 4 6 (G 1 5)) 4 4).toInt = (G 4 4).toInt); have e9_4_4 : (gu_up (gu_up G62 4 5 y67) 4 6 (G 1 5)) 4 4 = (G 4 4) := hU64 4 4 (by decide); (try simp only [e9_4_4, true_and, and_true]) <;> (first | omega | (simp only [Int32.reduceToInt, true_and, and_true, ne_eq, not_true_eq_false, false_and, or_false, false_or, true_or, or_true, false_implies] <;> omega))), (by show (((gu_up (gu_up G62 4 5 y67) 4 6 (G 1 5)) 4 2).toInt ≤ (G 4 2).toInt + 1); have e9_4_2 : (gu_up (gu_up G62 4 5 y67) 4 6 (G 1 5)) 4 2 = (G 4 2) := hU64 4 2 (by decide); (try simp only [e9_4_2, true_and, and_true]) <;> (first | omega | (simp only [Int32.reduceToInt, true_and, and_true, ne_eq, not_true_eq_false, false_and, or_false, false_or, true_or, or_true, false_implies] <;> omega))), (by have m9 : hMo 5 = 1 := (by decide); have l9 : hLo 5 = 1 := (by decide); have h9 : hHi 5 = 9999 := (by decide); have s9 : hSl 5 = 7 := (by decide); exact xH_nP (c := 5) (by decide) (show (G 4 4).toInt = 5 by omega) (by decide) (by decide) (by omega) (by show ¬ (_ ∨ _ ∨ _); omega) (by omega) (show (gu_up (gu_up G62 4 5 y67) 4 6 (G 1 5)) 4 4 = (G 4 4) from hU64 4 4 (by decide)) (show ((gu_up (gu_up G62 4 5 y67) 4 6 (G 1 5)) 4 5).toInt = (G 4 5).toInt + 1 by rw [show (gu_up (gu_up G62 4 5 y67) 4 6 (G 1 5)) 4 5 = y67 from rfl] <;> first | rfl | omega) (show ((gu_up (gu_up G62 4 5 y67) 4 6 (G 1 5)) 4 6).toInt = (G 1 5).toInt by rw [show (gu_up (gu_up G62 4 5 y67) 4 6 (G 1 5)) 4 6 = (G 1 5) from rfl] <;> first | rfl | omega) (show (gu_up (gu_up G62 4 5 y67) 4 6 (G 1 5)) 4 2 = (G 4 2) from hU64 4 2 (by decide)) (show (gu_up (gu_up G62 4 5 y67) 4 6 (G 1 5)) 4 3 = (G 4 3) from hU64 4 3 (by decide)) (x := (G 1 5)) rfl (q := y59.toInt) (by omega) (show (gu_up (gu_up G62 4 5 y67) 4 6 (G 1 5)) 19 = upd (G 19) (y59.toInt).toNat (G 1 5) from (show (gu_up (gu_up G62 4 5 y67) 4 6 (G 1 5)) 19 = G62 19 from funext fun k_ => (show gu_un xcd [406, 407] G62 (gu_up (gu_up G62 4 5 y67) 4 6 (G 1 5)) from (gu_un.up (j := 4) (k := 6) (v := (G 1 5)) (gu_un.up (j := 4) (k := 5) (v := y67) gu_un.rf (show (406 : Nat) ∈ ([406, 407] : List Nat) by decide)) (show (407 : Nat) ∈ ([406, 407] : List Nat) by decide))) 19 k_ (by simp [xcd])).trans q66) (xSg_un (show gu_un xcd [406, 407, 1900] G (gu_up (gu_up G62 4 5 y67) 4 6 (G 1 5)) from (gu_un.up (j := 4) (k := 6) (v := (G 1 5)) (gu_un.up (j := 4) (k := 5) (v := y67) (gu_un.tr gu_un.rf (gu_un.su hU64 rfl)) (show (406 : Nat) ∈ ([406, 407, 1900] : List Nat) by decide)) (show (407 : Nat) ∈ ([406, 407, 1900] : List Nat) by decide))) rfl rfl rfl)), (by show (0 ≠ 0 ∨ (G 1 3).toInt ≠ 0); (first | omega | (simp only [Int32.reduceToInt, true_and, and_true, ne_eq, not_true_eq_false, false_and, or_false, false_or, true_or, or_true, false_implies] <;> omega)))⟩) rfl rfl dX8_takeOfNumbers_172
          · refine g_iconst F 4 dX8_takeOfNumbers_125 (by decide) ?_
            exact u_iret F hA hQ hr G (⟨hI, gu_un.rf, (by decide), (nb), (by show ((G 4 4).toInt = -1 ∨ (G 4 5).toInt ≤ 1 ∨ ((G 4 5).toInt ≤ 2 ∧ ((G 4 4).toInt = 3 ∨ (G 4 4).toInt = 4)) ∨ ((G 4 5).toInt ≤ 4 ∧ (G 4 4).toInt = 8) ∨ (G 4 4).toInt = 9); (first | omega | (simp only [Int32.reduceToInt, true_and, and_true, ne_eq, not_true_eq_false, false_and, or_false, false_or, true_or, or_true, false_implies] <;> omega))), (by show ((G 4 4).toInt = -1 ∨ (G 4 4).toInt = (G 4 4).toInt); (first | omega | (simp only [Int32.reduceToInt, true_and, and_true, ne_eq, not_true_eq_false, false_and, or_false, false_or, true_or, or_true, false_implies] <;> omega))), (by show ((G 4 2).toInt ≤ (G 4 2).toInt + 1); (first | omega | (simp only [Int32.reduceToInt, true_and, and_true, ne_eq, not_true_eq_false, false_and, or_false, false_or, true_or, or_true, false_implies] <;> omega))), (by have m9 : hMo 5 = 1 := (by decide); have l9 : hLo 5 = 1 := (by decide); have h9 : hHi 5 = 9999 := (by decide); have s9 : hSl 5 = 7 := (by decide); exact xH_bad (f := 4) (by decide) (by decide) (fun ts pl ci => by rw [show (G 4 4).toInt = 5 by omega]; exact hO_n4 (by decide) (by decide) (by omega) (by omega) (by show ¬ (_ ∨ _ ∨ _); omega) (by omega))), (by show (4 ≠ 0 ∨ (G 1 3).toInt ≠ 0); (first | omega | (simp only [Int32.reduceToInt, true_and, and_true, ne_eq, not_true_eq_false, false_and, or_false, false_or, true_or, or_true, false_implies] <;> omega)))⟩) rfl rfl dX8_takeOfNumbers_126
        · refine g_iconst F 2 dX8_takeOfNumbers_112 (by decide) ?_
          exact u_iret F hA hQ hr G (⟨hI, gu_un.rf, (by decide), (nb), (by show ((G 4 4).toInt = -1 ∨ (G 4 5).toInt ≤ 1 ∨ ((G 4 5).toInt ≤ 2 ∧ ((G 4 4).toInt = 3 ∨ (G 4 4).toInt = 4)) ∨ ((G 4 5).toInt ≤ 4 ∧ (G 4 4).toInt = 8) ∨ (G 4 4).toInt = 9); (first | omega | (simp only [Int32.reduceToInt, true_and, and_true, ne_eq, not_true_eq_false, false_and, or_false, false_or, true_or, or_true, false_implies] <;> omega))), (by show ((G 4 4).toInt = -1 ∨ (G 4 4).toInt = (G 4 4).toInt); (first | omega | (simp only [Int32.reduceToInt, true_and, and_true, ne_eq, not_true_eq_false, false_and, or_false, false_or, true_or, or_true, false_implies] <;> omega))), (by show ((G 4 2).toInt ≤ (G 4 2).toInt + 1); (first | omega | (simp only [Int32.reduceToInt, true_and, and_true, ne_eq, not_true_eq_false, false_and, or_false, false_or, true_or, or_true, false_implies] <;> omega))), (by have m9 : hMo 5 = 1 := (by decide); have l9 : hLo 5 = 1 := (by decide); have h9 : hHi 5 = 9999 := (by decide); have s9 : hSl 5 = 7 := (by decide); exact xH_bad (f := 2) (by decide) (by decide) (fun ts pl ci => by rw [show (G 4 4).toInt = 5 by omega]; exact hO_n2 (by decide) (by decide) (by omega) (by omega) (by show _ ∨ _ ∨ _; omega))), (by show (2 ≠ 0 ∨ (G 1 3).toInt ≠ 0); (first | omega | (simp only [Int32.reduceToInt, true_and, and_true, ne_eq, not_true_eq_false, false_and, or_false, false_or, true_or, or_true, false_implies] <;> omega)))⟩) rfl rfl dX8_takeOfNumbers_113
      · refine g_iconst F 1 dX8_takeOfNumbers_102 (by decide) ?_
        exact u_iret F hA hQ hr G (⟨hI, gu_un.rf, (by decide), (nb), (by show ((G 4 4).toInt = -1 ∨ (G 4 5).toInt ≤ 1 ∨ ((G 4 5).toInt ≤ 2 ∧ ((G 4 4).toInt = 3 ∨ (G 4 4).toInt = 4)) ∨ ((G 4 5).toInt ≤ 4 ∧ (G 4 4).toInt = 8) ∨ (G 4 4).toInt = 9); (first | omega | (simp only [Int32.reduceToInt, true_and, and_true, ne_eq, not_true_eq_false, false_and, or_false, false_or, true_or, or_true, false_implies] <;> omega))), (by show ((G 4 4).toInt = -1 ∨ (G 4 4).toInt = (G 4 4).toInt); (first | omega | (simp only [Int32.reduceToInt, true_and, and_true, ne_eq, not_true_eq_false, false_and, or_false, false_or, true_or, or_true, false_implies] <;> omega))), (by show ((G 4 2).toInt ≤ (G 4 2).toInt + 1); (first | omega | (simp only [Int32.reduceToInt, true_and, and_true, ne_eq, not_true_eq_false, false_and, or_false, false_or, true_or, or_true, false_implies] <;> omega))), (by have m9 : hMo 5 = 1 := (by decide); have l9 : hLo 5 = 1 := (by decide); have h9 : hHi 5 = 9999 := (by decide); have s9 : hSl 5 = 7 := (by decide); exact xH_bad (f := 1) (by decide) (by decide) (fun ts pl ci => by rw [show (G 4 4).toInt = 5 by omega]; exact hO_n1 (by decide) (by decide) (by show ¬ (_ ∧ _ ∧ _); omega) (by omega))), (by show (1 ≠ 0 ∨ (G 1 3).toInt ≠ 0); (first | omega | (simp only [Int32.reduceToInt, true_and, and_true, ne_eq, not_true_eq_false, false_and, or_false, false_or, true_or, or_true, false_implies] <;> omega)))⟩) rfl rfl dX8_takeOfNumbers_103


set_option maxHeartbeats 4000000 in
set_option maxRecDepth 100000 in
theorem S_X8_isInBounds_c6 (l : Launch) (D : va_G) (K : Nat → ClassId) (a : Nat → Nat) (G : gS) (zf : Nat → Nat) (hI : xI G) (sz : Nat) : KiZ (xZ zf) l yX8_isInBounds wsX8_isInBounds 2 60 D [.ref (a 4), .ref (zf 16)] (xW K a G) (tK K) sz (fun (r : Int32) (_ : Unit) => (0 ≤ r.toInt ∧ r.toInt ≤ 1) ∧ (((r.toInt = 1 ∧ (0 ≤ (G 1 5).toInt ∧ (G 1 5).toInt ≤ 9999 ∧ ((G 4 5).toInt ≠ 1 ∨ ((G 4 6).toInt ≤ (G 1 5).toInt ∧ (G 1 5).toInt ≤ (G 4 6).toInt + 3)))) ∨ (r.toInt = 0 ∧ ¬ (0 ≤ (G 1 5).toInt ∧ (G 1 5).toInt ≤ 9999 ∧ ((G 4 5).toInt ≠ 1 ∨ ((G 4 6).toInt ≤ (G 1 5).toInt ∧ (G 1 5).toInt ≤ (G 4 6).toInt + 3))))))) (fun (_ : Unit) => (xW K a G)) := by
  unfold KiZ
  refine gz_ofW (cc := cX8_isInBounds) (lv := [(0, .ref (a 4)), (1, .ref (zf 16))]) (by decide) rfl (Nat.le_of_ble_eq_true rfl) rfl ?_
  intro p e s m args below meth c A Q hA hQ hZ F hr hnm
  have hts := F.2.2.2.2.1
  have w_0 : (Cond.fieldLink RX8 9 "QuietCut$ShopReader" "tape" "LQuietCut$Tape;").before args s = true := hts _ (List.mem_of_getElem? (i := 1) rfl)
  have i_X8 : ∀ w ∈ u_ws RX8 TX8 7, w ∈ wsX8_isInBounds := fun _ h => List.mem_cons_of_mem _ (List.mem_append_left _ (List.mem_append_right _ h))
  have w_1 : (Cond.fieldLink RX8 125 "QuietCut$Tape" "value" "I").before args s = true := hts _ (List.mem_of_getElem? (i := 2) rfl)
  have i_X10 : ∀ w ∈ u_ws RX10 TX10 6, w ∈ wsX8_isInBounds := fun _ h => List.mem_cons_of_mem _ (List.mem_append_right _ h)
  have w_2 : (Cond.fieldLink RX8 131 "QuietCut$Clause" "low" "I").before args s = true := hts _ (List.mem_of_getElem? (i := 3) rfl)
  have w_3 : (Cond.fieldLink RX8 134 "QuietCut$Clause" "high" "I").before args s = true := hts _ (List.mem_of_getElem? (i := 4) rfl)
  have w_4 : (Cond.fieldLink RX8 77 "QuietCut$ShopReader" "numbers" "I").before args s = true := hts _ (List.mem_of_getElem? (i := 5) rfl)
  have w_5 : (Cond.fieldLink RX8 128 "QuietCut$ShopReader" "latest" "I").before args s = true := hts _ (List.mem_of_getElem? (i := 6) rfl)
  have b1 : (0 : Int) ≤ (G 4 5).toInt ∧ (G 4 5).toInt ≤ 6 := hI 4 5
  have b2 : (0 : Int) ≤ (G 4 6).toInt ∧ (G 4 6).toInt ≤ 9999 := hI 4 6
  refine g_aload_n F 0 dX8_isInBounds_0 rfl rfl ?_
  refine xg_4_0 F i_X8 w_0 dX8_isInBounds_1 ?_
  refine xg_1_5 F i_X10 w_1 dX8_isInBounds_4 (G 1 5) (rfl) ?_
  refine g_aload_n F 1 dX8_isInBounds_7 rfl rfl ?_
  refine uz_getf F (show va_OF "QuietCut$Clause" "low" "I" (.int 0) (zf 16) A s s.heap from (hZ.2.2.2.2.2 6 (by decide)).2.2.2.2.1) w_2 dX8_isInBounds_8 ?_
  refine v_icmp_lt F 28 dX8_isInBounds_11 (by decide) (G 1 5).toInt 0 rfl rfl (fun c3 => ?_) (fun c3 => ?_)
  · refine g_iconst F 0 dX8_isInBounds_28 (by decide) ?_
    exact u_zret F hA hQ hr rfl () (⟨(by decide), (by show ((0 = 1 ∧ (0 ≤ (G 1 5).toInt ∧ (G 1 5).toInt ≤ 9999 ∧ ((G 4 5).toInt ≠ 1 ∨ ((G 4 6).toInt ≤ (G 1 5).toInt ∧ (G 1 5).toInt ≤ (G 4 6).toInt + 3)))) ∨ (0 = 0 ∧ ¬ (0 ≤ (G 1 5).toInt ∧ (G 1 5).toInt ≤ 9999 ∧ ((G 4 5).toInt ≠ 1 ∨ ((G 4 6).toInt ≤ (G 1 5).toInt ∧ (G 1 5).toInt ≤ (G 4 6).toInt + 3))))); (first | omega | (simp only [Int32.reduceToInt, true_and, and_true, ne_eq, not_true_eq_false, false_and, or_false, false_or, true_or, or_true, false_implies] <;> omega)))⟩) rfl rfl dX8_isInBounds_29
  · refine g_aload_n F 0 dX8_isInBounds_14 rfl rfl ?_
    refine xg_4_0 F i_X8 w_0 dX8_isInBounds_15 ?_
    refine xg_1_5 F i_X10 w_1 dX8_isInBounds_18 (G 1 5) (rfl) ?_
    refine g_aload_n F 1 dX8_isInBounds_21 rfl rfl ?_
    refine uz_getf F (show va_OF "QuietCut$Clause" "high" "I" (.int 9999) (zf 16) A s s.heap from (hZ.2.2.2.2.2 6 (by decide)).2.2.2.2.2.1) w_3 dX8_isInBounds_22 ?_
    have b4 := ti_rng (G 1 5)
    refine v_icmp_le F 30 dX8_isInBounds_25 (by decide) (G 1 5).toInt 9999 rfl rfl (fun c5 => ?_) (fun c5 => ?_)
    · refine g_aload_n F 1 dX8_isInBounds_30 rfl rfl ?_
      refine uz_call0Vi (k := 0) (n := 0) (b := (zf 16)) (As := []) (st := []) F xZ_st hZ (fun sz => S_X1_manySlot_c6 l D zf sz) (cwV 0 hts gX8_isInBounds_X1_manySlot rfl rfl rfl (by decide +kernel) ⟨Nat.le_of_ble_eq_true rfl, Nat.le_of_ble_eq_true rfl⟩) (hZ.2.2.2.2.2 6 (by decide)).1 rfl (Nat.le_of_ble_eq_true rfl) ⟨Nat.zero_le _, Nat.zero_le _⟩ dX8_isInBounds_31 (fun r6 _ hw7 => ?_)
      have hw7 : r6.toInt = -1 := hw7
      refine g_fold (-1) ((ti_eq rfl (show ((-1) : Int32).toInt = (-1) from rfl)).mpr hw7) ?_
      refine g_iconst F (-1) dX8_isInBounds_34 (by decide) ?_
      refine v_icmp_ne F 50 dX8_isInBounds_35 (by decide) (-1) (-1) rfl rfl (fun c8 => absurd c8 (by decide)) (fun c8 => ?_)
      refine g_aload_n F 0 dX8_isInBounds_38 rfl rfl ?_
      refine xg_4_5 F i_X8 w_4 dX8_isInBounds_39 (G 4 5) (rfl) ?_
      refine g_iconst F 1 dX8_isInBounds_42 (by decide) ?_
      refine v_icmp_ne F 50 dX8_isInBounds_43 (by decide) (G 4 5).toInt 1 rfl rfl (fun c9 => ?_) (fun c9 => ?_)
      · refine g_iconst F 0 dX8_isInBounds_50 (by decide) ?_
        refine g_istore_n F [(2, .int 0), (0, .ref (a 4)), (1, .ref (zf 16))] dX8_isInBounds_51 rfl (by decide) rfl ?_
        refine g_iload_n F 0 dX8_isInBounds_52 rfl rfl ?_
        refine v_if_eq F 86 dX8_isInBounds_53 (by decide) 0 rfl (fun c10 => ?_) (fun c10 => absurd c10 (by decide))
        refine g_iconst F 1 dX8_isInBounds_86 (by decide) ?_
        refine g_goto F 91 dX8_isInBounds_87 (by decide) ?_
        exact u_zret F hA hQ hr rfl () (⟨(by decide), (by show ((1 = 1 ∧ (0 ≤ (G 1 5).toInt ∧ (G 1 5).toInt ≤ 9999 ∧ ((G 4 5).toInt ≠ 1 ∨ ((G 4 6).toInt ≤ (G 1 5).toInt ∧ (G 1 5).toInt ≤ (G 4 6).toInt + 3)))) ∨ (1 = 0 ∧ ¬ (0 ≤ (G 1 5).toInt ∧ (G 1 5).toInt ≤ 9999 ∧ ((G 4 5).toInt ≠ 1 ∨ ((G 4 6).toInt ≤ (G 1 5).toInt ∧ (G 1 5).toInt ≤ (G 4 6).toInt + 3))))); (first | omega | (simp only [Int32.reduceToInt, true_and, and_true, ne_eq, not_true_eq_false, false_and, or_false, false_or, true_or, or_true, false_implies] <;> omega)))⟩) rfl rfl dX8_isInBounds_91
      · refine g_iconst F 1 dX8_isInBounds_46 (by decide) ?_
        refine g_goto F 51 dX8_isInBounds_47 (by decide) ?_
        refine g_istore_n F [(2, .int 1), (0, .ref (a 4)), (1, .ref (zf 16))] dX8_isInBounds_51 rfl (by decide) rfl ?_
        refine g_iload_n F 0 dX8_isInBounds_52 rfl rfl ?_
        refine v_if_eq F 86 dX8_isInBounds_53 (by decide) 1 rfl (fun c11 => absurd c11 (by decide)) (fun c11 => ?_)
        refine g_aload_n F 1 dX8_isInBounds_56 rfl rfl ?_
        refine xg_4_0 F i_X8 w_0 dX8_isInBounds_57 ?_
        refine xg_1_5 F i_X10 w_1 dX8_isInBounds_60 (G 1 5) (rfl) ?_
        refine g_aload_n F 1 dX8_isInBounds_63 rfl rfl ?_
        refine xg_4_6 F i_X8 w_5 dX8_isInBounds_64 (G 4 6) (rfl) ?_
        refine v_icmp_lt F 90 dX8_isInBounds_67 (by decide) (G 1 5).toInt (G 4 6).toInt rfl rfl (fun c12 => ?_) (fun c12 => ?_)
        · refine g_iconst F 0 dX8_isInBounds_90 (by decide) ?_
          exact u_zret F hA hQ hr rfl () (⟨(by decide), (by show ((0 = 1 ∧ (0 ≤ (G 1 5).toInt ∧ (G 1 5).toInt ≤ 9999 ∧ ((G 4 5).toInt ≠ 1 ∨ ((G 4 6).toInt ≤ (G 1 5).toInt ∧ (G 1 5).toInt ≤ (G 4 6).toInt + 3)))) ∨ (0 = 0 ∧ ¬ (0 ≤ (G 1 5).toInt ∧ (G 1 5).toInt ≤ 9999 ∧ ((G 4 5).toInt ≠ 1 ∨ ((G 4 6).toInt ≤ (G 1 5).toInt ∧ (G 1 5).toInt ≤ (G 4 6).toInt + 3))))); (first | omega | (simp only [Int32.reduceToInt, true_and, and_true, ne_eq, not_true_eq_false, false_and, or_false, false_or, true_or, or_true, false_implies] <;> omega)))⟩) rfl rfl dX8_isInBounds_91
        · refine g_aload_n F 1 dX8_isInBounds_70 rfl rfl ?_
          refine xg_4_0 F i_X8 w_0 dX8_isInBounds_71 ?_
          refine xg_1_5 F i_X10 w_1 dX8_isInBounds_74 (G 1 5) (rfl) ?_
          refine g_aload_n F 1 dX8_isInBounds_77 rfl rfl ?_
          refine xg_4_6 F i_X8 w_5 dX8_isInBounds_78 (G 4 6) (rfl) ?_
          refine g_iconst F 3 dX8_isInBounds_81 (by decide) ?_
          refine u_iadd F dX8_isInBounds_82 (G 4 6).toInt 3 rfl rfl (by omega) (by omega) (fun y13 ey13 => ?_)
          refine v_icmp_gt F 90 dX8_isInBounds_83 (by decide) (G 1 5).toInt y13.toInt rfl rfl (fun c14 => ?_) (fun c14 => ?_)
          · refine g_iconst F 0 dX8_isInBounds_90 (by decide) ?_
            exact u_zret F hA hQ hr rfl () (⟨(by decide), (by show ((0 = 1 ∧ (0 ≤ (G 1 5).toInt ∧ (G 1 5).toInt ≤ 9999 ∧ ((G 4 5).toInt ≠ 1 ∨ ((G 4 6).toInt ≤ (G 1 5).toInt ∧ (G 1 5).toInt ≤ (G 4 6).toInt + 3)))) ∨ (0 = 0 ∧ ¬ (0 ≤ (G 1 5).toInt ∧ (G 1 5).toInt ≤ 9999 ∧ ((G 4 5).toInt ≠ 1 ∨ ((G 4 6).toInt ≤ (G 1 5).toInt ∧ (G 1 5).toInt ≤ (G 4 6).toInt + 3))))); (first | omega | (simp only [Int32.reduceToInt, true_and, and_true, ne_eq, not_true_eq_false, false_and, or_false, false_or, true_or, or_true, false_implies] <;> omega)))⟩) rfl rfl dX8_isInBounds_91
          · refine g_iconst F 1 dX8_isInBounds_86 (by decide) ?_
            refine g_goto F 91 dX8_isInBounds_87 (by decide) ?_
            exact u_zret F hA hQ hr rfl () (⟨(by decide), (by show ((1 = 1 ∧ (0 ≤ (G 1 5).toInt ∧ (G 1 5).toInt ≤ 9999 ∧ ((G 4 5).toInt ≠ 1 ∨ ((G 4 6).toInt ≤ (G 1 5).toInt ∧ (G 1 5).toInt ≤ (G 4 6).toInt + 3)))) ∨ (1 = 0 ∧ ¬ (0 ≤ (G 1 5).toInt ∧ (G 1 5).toInt ≤ 9999 ∧ ((G 4 5).toInt ≠ 1 ∨ ((G 4 6).toInt ≤ (G 1 5).toInt ∧ (G 1 5).toInt ≤ (G 4 6).toInt + 3))))); (first | omega | (simp only [Int32.reduceToInt, true_and, and_true, ne_eq, not_true_eq_false, false_and, or_false, false_or, true_or, or_true, false_implies] <;> omega)))⟩) rfl rfl dX8_isInBounds_91
    · refine g_iconst F 0 dX8_isInBounds_28 (by decide) ?_
      exact u_zret F hA hQ hr rfl () (⟨(by decide), (by show ((0 = 1 ∧ (0 ≤ (G 1 5).toInt ∧ (G 1 5).toInt ≤ 9999 ∧ ((G 4 5).toInt ≠ 1 ∨ ((G 4 6).toInt ≤ (G 1 5).toInt ∧ (G 1 5).toInt ≤ (G 4 6).toInt + 3)))) ∨ (0 = 0 ∧ ¬ (0 ≤ (G 1 5).toInt ∧ (G 1 5).toInt ≤ 9999 ∧ ((G 4 5).toInt ≠ 1 ∨ ((G 4 6).toInt ≤ (G 1 5).toInt ∧ (G 1 5).toInt ≤ (G 4 6).toInt + 3))))); (first | omega | (simp only [Int32.reduceToInt, true_and, and_true, ne_eq, not_true_eq_false, false_and, or_false, false_or, true_or, or_true, false_implies] <;> omega)))⟩) rfl rfl dX8_isInBounds_29


set_option maxHeartbeats 4000000 in
set_option maxRecDepth 100000 in
theorem S_X8_takeOfNumbers_c6 (l : Launch) (D : va_G) (K : Nat → ClassId) (a : Nat → Nat) (G : gS) (zf : Nat → Nat) (nb : xNb (G 19)) (ck : ((G 4 2).toInt ≤ 1000)) (rn : ((G 4 5).toInt ≤ 1 ∧ (G 4 4).toInt = 6)) (hI : xI G) (sz : Nat) : KiZ (xZ zf) l yX8_takeOfNumbers wsX8_takeOfNumbers 3 82 D [.ref (a 4), .ref (zf 16)] (xW K a G) (tK K) sz (fun (r : Int32) (G' : gS) => (xI G') ∧ (gu_un xcd [403, 405, 406, 407, 1900] G G') ∧ (0 ≤ r.toInt ∧ r.toInt ≤ 4) ∧ (xNb (G' 19)) ∧ (((G' 4 4).toInt = -1 ∨ (G' 4 5).toInt ≤ 1 ∨ ((G' 4 5).toInt ≤ 2 ∧ ((G' 4 4).toInt = 3 ∨ (G' 4 4).toInt = 4)) ∨ ((G' 4 5).toInt ≤ 4 ∧ (G' 4 4).toInt = 8) ∨ (G' 4 4).toInt = 9)) ∧ (((G' 4 4).toInt = -1 ∨ (G' 4 4).toInt = (G 4 4).toInt)) ∧ (((G' 4 2).toInt ≤ (G 4 2).toInt + 1)) ∧ ((∀ (ts : List hTk) (pl ci : Int), xH (((G 1 3).toInt, pl, (G 1 5).toInt, ci) :: ts) G = if r.toInt = 0 then xH ts G' else hBad r.toInt pl)) ∧ ((r.toInt ≠ 0 ∨ (G 1 3).toInt ≠ 0))) (fun (G' : gS) => (xW K a G')) := by
  unfold KiZ
  refine gz_ofW (cc := cX8_takeOfNumbers) (lv := [(0, .ref (a 4)), (1, .ref (zf 16))]) (by decide) rfl (Nat.le_of_ble_eq_true rfl) rfl ?_
  intro p e s m args below meth c A Q hA hQ hZ F hr hnm
  have hts := F.2.2.2.2.1
  have w_0 : (Cond.fieldLink RX8 9 "QuietCut$ShopReader" "tape" "LQuietCut$Tape;").before args s = true := hts _ (List.mem_of_getElem? (i := 1) rfl)
  have i_X8 : ∀ w ∈ u_ws RX8 TX8 7, w ∈ wsX8_takeOfNumbers := fun _ h => List.mem_cons_of_mem _ (List.mem_append_left _ (List.mem_append_left _ (List.mem_append_right _ h)))
  have w_1 : (Cond.fieldLink RX8 77 "QuietCut$ShopReader" "numbers" "I").before args s = true := hts _ (List.mem_of_getElem? (i := 2) rfl)
  have w_2 : (Cond.fieldLink RX8 114 "QuietCut$Clause" "most" "I").before args s = true := hts _ (List.mem_of_getElem? (i := 3) rfl)
  have w_3 : (Cond.fieldLink RX8 42 "QuietCut$Tape" "kind" "I").before args s = true := hts _ (List.mem_of_getElem? (i := 5) rfl)
  have i_X10 : ∀ w ∈ u_ws RX10 TX10 6, w ∈ wsX8_takeOfNumbers := fun _ h => List.mem_cons_of_mem _ (List.mem_append_left _ (List.mem_append_right _ h))
  have w_4 : (Cond.fieldLink RX8 15 "QuietCut$ShopReader" "target" "LQuietCut$Shop;").before args s = true := hts _ (List.mem_of_getElem? (i := 4) rfl)
  have w_5 : (Cond.fieldLink RX8 80 "QuietCut$Clause" "slot" "I").before args s = true := hts _ (List.mem_of_getElem? (i := 6) rfl)
  have w_6 : (Cond.fieldLink RX8 125 "QuietCut$Tape" "value" "I").before args s = true := hts _ (List.mem_of_getElem? (i := 7) rfl)
  have w_7 : (Cond.fieldLink RX8 128 "QuietCut$ShopReader" "latest" "I").before args s = true := hts _ (List.mem_of_getElem? (i := 8) rfl)
  have b1 : (0 : Int) ≤ (G 4 5).toInt ∧ (G 4 5).toInt ≤ 6 := hI 4 5
  have b2 : ((-1) : Int) ≤ (G 4 4).toInt ∧ (G 4 4).toInt ≤ 12 := hI 4 4
  have b3 : (0 : Int) ≤ (G 4 2).toInt ∧ (G 4 2).toInt ≤ 1001 := hI 4 2
  have b4 : (0 : Int) ≤ (G 4 6).toInt ∧ (G 4 6).toInt ≤ 9999 := hI 4 6
  refine g_aload_n F 1 dX8_takeOfNumbers_0 rfl rfl ?_
  refine uz_call0Vi (k := 0) (n := 0) (b := (zf 16)) (As := []) (st := []) F xZ_st hZ (fun sz => S_X1_manySlot_c6 l D zf sz) (cwV 0 hts gX8_takeOfNumbers_X1_manySlot rfl rfl rfl (by decide +kernel) ⟨Nat.le_of_ble_eq_true rfl, Nat.le_of_ble_eq_true rfl⟩) (hZ.2.2.2.2.2 6 (by decide)).1 rfl (Nat.le_of_ble_eq_true rfl) ⟨Nat.zero_le _, Nat.zero_le _⟩ dX8_takeOfNumbers_1 (fun r5 _ hw6 => ?_)
  have hw6 : r5.toInt = -1 := hw6
  refine g_fold (-1) ((ti_eq rfl (show ((-1) : Int32).toInt = (-1) from rfl)).mpr hw6) ?_
  refine g_iconst F (-1) dX8_takeOfNumbers_4 (by decide) ?_
  refine v_icmp_eq F 12 dX8_takeOfNumbers_5 (by decide) (-1) (-1) rfl rfl (fun c7 => ?_) (fun c7 => absurd c7 (by decide))
  refine g_iconst F 0 dX8_takeOfNumbers_12 (by decide) ?_
  refine g_istore_n F [(2, .int 0), (0, .ref (a 4)), (1, .ref (zf 16))] dX8_takeOfNumbers_13 rfl (by decide) rfl ?_
  refine g_aload_n F 1 dX8_takeOfNumbers_14 rfl rfl ?_
  refine xg_4_0 F i_X8 w_0 dX8_takeOfNumbers_15 ?_
  refine g_bipush F 59 dX8_takeOfNumbers_18 (by decide) ?_
  refine u_callVi (k := 0) (n := 0) (b := a 1) (As := [.int 59]) (st := []) F (fun sz => S_X10_isSign l D K a G 59 59 rfl hI sz) (cwV 1 hts gX8_takeOfNumbers_X10_isSign rfl rfl rfl (by decide +kernel) ⟨Nat.le_of_ble_eq_true rfl, Nat.le_of_ble_eq_true rfl⟩) rfl 1 xc_1 rfl (Nat.le_of_ble_eq_true rfl) ⟨Nat.zero_le _, Nat.zero_le _⟩ dX8_takeOfNumbers_20 (fun r8 _ hw9 => ?_)
  rcases hw9 with ⟨rfl, q11⟩ | ⟨rfl, q12⟩
  · have b13 : (0 : Int) ≤ (G 1 3).toInt ∧ (G 1 3).toInt ≤ 4 := hI 1 3
    have q11 : ((G 1 3).toInt = 3 ∧ (G 1 5).toInt = (59 : Int)) := q11
    refine v_if_eq F 76 dX8_takeOfNumbers_23 (by decide) 1 rfl (fun c14 => absurd c14 (by decide)) (fun c14 => ?_)
    refine g_iload_n F 0 dX8_takeOfNumbers_26 rfl rfl ?_
    refine v_if_eq F 40 dX8_takeOfNumbers_27 (by decide) 0 rfl (fun c15 => ?_) (fun c15 => absurd c15 (by decide))
    refine g_aload_n F 1 dX8_takeOfNumbers_40 rfl rfl ?_
    refine xg_4_5 F i_X8 w_1 dX8_takeOfNumbers_41 (G 4 5) (rfl) ?_
    refine g_aload_n F 2 dX8_takeOfNumbers_44 rfl rfl ?_
    refine uz_getf F (show va_OF "QuietCut$Clause" "most" "I" (.int 1) (zf 16) A s s.heap from (hZ.2.2.2.2.2 6 (by decide)).2.2.2.1) w_2 dX8_takeOfNumbers_45 ?_
    refine v_icmp_ne F 76 dX8_takeOfNumbers_48 (by decide) (G 4 5).toInt 1 rfl rfl (fun c16 => ?_) (fun c16 => ?_)
    · refine g_aload_n F 1 dX8_takeOfNumbers_76 rfl rfl ?_
      refine xg_4_0 F i_X8 w_0 dX8_takeOfNumbers_77 ?_
      refine xg_1_3 F i_X10 w_3 dX8_takeOfNumbers_80 (G 1 3) (rfl) ?_
      refine g_iconst F 2 dX8_takeOfNumbers_83 (by decide) ?_
      refine v_icmp_ne F 102 dX8_takeOfNumbers_84 (by decide) (G 1 3).toInt 2 rfl rfl (fun c17 => ?_) (fun c17 => ?_)
      · refine g_iconst F 1 dX8_takeOfNumbers_102 (by decide) ?_
        exact u_iret F hA hQ hr G (⟨hI, gu_un.rf, (by decide), (nb), (by show ((G 4 4).toInt = -1 ∨ (G 4 5).toInt ≤ 1 ∨ ((G 4 5).toInt ≤ 2 ∧ ((G 4 4).toInt = 3 ∨ (G 4 4).toInt = 4)) ∨ ((G 4 5).toInt ≤ 4 ∧ (G 4 4).toInt = 8) ∨ (G 4 4).toInt = 9); (first | omega | (simp only [Int32.reduceToInt, true_and, and_true, ne_eq, not_true_eq_false, false_and, or_false, false_or, true_or, or_true, false_implies] <;> omega))), (by show ((G 4 4).toInt = -1 ∨ (G 4 4).toInt = (G 4 4).toInt); (first | omega | (simp only [Int32.reduceToInt, true_and, and_true, ne_eq, not_true_eq_false, false_and, or_false, false_or, true_or, or_true, false_implies] <;> omega))), (by show ((G 4 2).toInt ≤ (G 4 2).toInt + 1); (first | omega | (simp only [Int32.reduceToInt, true_and, and_true, ne_eq, not_true_eq_false, false_and, or_false, false_or, true_or, or_true, false_implies] <;> omega))), (by have m9 : hMo 6 = 1 := (by decide); have l9 : hLo 6 = 0 := (by decide); have h9 : hHi 6 = 9999 := (by decide); have s9 : hSl 6 = 8 := (by decide); exact xH_bad (f := 1) (by decide) (by decide) (fun ts pl ci => by rw [show (G 4 4).toInt = 6 by omega]; exact hO_n1 (by decide) (by decide) (by show ¬ (_ ∧ _ ∧ _); omega) (by omega))), (by show (1 ≠ 0 ∨ (G 1 3).toInt ≠ 0); (first | omega | (simp only [Int32.reduceToInt, true_and, and_true, ne_eq, not_true_eq_false, false_and, or_false, false_or, true_or, or_true, false_implies] <;> omega)))⟩) rfl rfl dX8_takeOfNumbers_103
      · refine g_iload_n F 0 dX8_takeOfNumbers_87 rfl rfl ?_
        refine v_if_ne F 104 dX8_takeOfNumbers_88 (by decide) 0 rfl (fun c18 => absurd c18 (by decide)) (fun c18 => ?_)
        refine g_aload_n F 1 dX8_takeOfNumbers_91 rfl rfl ?_
        refine xg_4_5 F i_X8 w_1 dX8_takeOfNumbers_92 (G 4 5) (rfl) ?_
        refine g_aload_n F 2 dX8_takeOfNumbers_95 rfl rfl ?_
        refine uz_getf F (show va_OF "QuietCut$Clause" "most" "I" (.int 1) (zf 16) A s s.heap from (hZ.2.2.2.2.2 6 (by decide)).2.2.2.1) w_2 dX8_takeOfNumbers_96 ?_
        refine v_icmp_ne F 104 dX8_takeOfNumbers_99 (by decide) (G 4 5).toInt 1 rfl rfl (fun c19 => ?_) (fun c19 => ?_)
        · refine g_aload_n F 1 dX8_takeOfNumbers_104 rfl rfl ?_
          refine g_aload_n F 2 dX8_takeOfNumbers_105 rfl rfl ?_
          refine uz_callVi (k := 0) (n := 0) (b := a 4) (As := [.ref (zf 16)]) (st := []) F xZ_st hZ (fun sz => S_X8_isInBounds_c6 l D K a G zf  hI sz) (cwV 1 hts gX8_takeOfNumbers_X8_isInBounds rfl rfl rfl (by decide +kernel) ⟨Nat.le_of_ble_eq_true rfl, Nat.le_of_ble_eq_true rfl⟩) rfl 4 xc_4 rfl (Nat.le_of_ble_eq_true rfl) ⟨Nat.zero_le _, Nat.zero_le _⟩ dX8_takeOfNumbers_106 (fun r20 _ hw21 => ?_)
          have q23 : ((r20.toInt = 1 ∧ (0 ≤ (G 1 5).toInt ∧ (G 1 5).toInt ≤ 9999 ∧ ((G 4 5).toInt ≠ 1 ∨ ((G 4 6).toInt ≤ (G 1 5).toInt ∧ (G 1 5).toInt ≤ (G 4 6).toInt + 3)))) ∨ (r20.toInt = 0 ∧ ¬ (0 ≤ (G 1 5).toInt ∧ (G 1 5).toInt ≤ 9999 ∧ ((G 4 5).toInt ≠ 1 ∨ ((G 4 6).toInt ≤ (G 1 5).toInt ∧ (G 1 5).toInt ≤ (G 4 6).toInt + 3))))) := hw21.2
          have rg24 := hw21.1
          clear hw21
          refine v_if_ne F 114 dX8_takeOfNumbers_109 (by decide) r20.toInt rfl (fun c25 => ?_) (fun c25 => ?_)
          · refine g_aload_n F 1 dX8_takeOfNumbers_114 rfl rfl ?_
            refine xg_4_5 F i_X8 w_1 dX8_takeOfNumbers_115 (G 4 5) (rfl) ?_
            refine g_aload_n F 2 dX8_takeOfNumbers_118 rfl rfl ?_
            refine uz_getf F (show va_OF "QuietCut$Clause" "most" "I" (.int 1) (zf 16) A s s.heap from (hZ.2.2.2.2.2 6 (by decide)).2.2.2.1) w_2 dX8_takeOfNumbers_119 ?_
            refine v_icmp_ne F 127 dX8_takeOfNumbers_122 (by decide) (G 4 5).toInt 1 rfl rfl (fun c26 => ?_) (fun c26 => ?_)
            · refine g_aload_n F 1 dX8_takeOfNumbers_127 rfl rfl ?_
              refine xg_4_1 F i_X8 w_4 dX8_takeOfNumbers_128 ?_
              refine g_aload_n F 2 dX8_takeOfNumbers_131 rfl rfl ?_
              refine uz_getf F (show va_OF "QuietCut$Clause" "slot" "I" (.int 8) (zf 16) A s s.heap from (hZ.2.2.2.2.2 6 (by decide)).2.2.1) w_5 dX8_takeOfNumbers_132 ?_
              refine g_aload_n F 1 dX8_takeOfNumbers_135 rfl rfl ?_
              refine xg_4_5 F i_X8 w_1 dX8_takeOfNumbers_136 (G 4 5) (rfl) ?_
              refine u_iadd F dX8_takeOfNumbers_139 8 (G 4 5).toInt rfl rfl (by omega) (by omega) (fun y27 ey27 => ?_)
              refine g_aload_n F 1 dX8_takeOfNumbers_140 rfl rfl ?_
              refine xg_4_0 F i_X8 w_0 dX8_takeOfNumbers_141 ?_
              refine xg_1_5 F i_X10 w_6 dX8_takeOfNumbers_144 (G 1 5) (rfl) ?_
              refine u_callVv (k := 0) (n := 0) (b := a 3) (As := [.int y27, .int (G 1 5)]) (st := []) F (fun sz => S_X7_put_3 l D K a G y27 y27.toInt (G 1 5) (G 1 5).toInt rfl (by omega) rfl hI sz) (cwV 2 hts gX8_takeOfNumbers_X7_put rfl rfl rfl (by decide +kernel) ⟨Nat.le_of_ble_eq_true rfl, Nat.le_of_ble_eq_true rfl⟩) rfl 3 xc_3 rfl (Nat.le_of_ble_eq_true rfl) ⟨Nat.zero_le _, Nat.zero_le _⟩ dX8_takeOfNumbers_147 (fun G30 hw29 => ?_)
              have hI31 : xI G30 := hw29.1
              have hU32 : gu_un xcd [1900] G G30 := hw29.2.1
              have hp33 := hw29.2.2
              have q34 : (G30 19 = upd (G 19) (y27.toInt).toNat (G 1 5)) := hp33
              clear hp33 hw29
              refine g_aload_n F 1 dX8_takeOfNumbers_150 rfl rfl ?_
              refine g_dup F dX8_takeOfNumbers_151 rfl ?_
              refine xg_4_5 F i_X8 w_1 dX8_takeOfNumbers_152 (G 4 5) (hU32 4 5 (by decide)) ?_
              refine g_iconst F 1 dX8_takeOfNumbers_155 (by decide) ?_
              refine u_iadd F dX8_takeOfNumbers_156 (G 4 5).toInt 1 rfl rfl (by omega) (by omega) (fun y35 ey35 => ?_)
              refine xp_4_5 F i_X8 w_1 dX8_takeOfNumbers_157 ?_
              refine g_aload_n F 1 dX8_takeOfNumbers_160 rfl rfl ?_
              refine g_aload_n F 1 dX8_takeOfNumbers_161 rfl rfl ?_
              refine xg_4_0 F i_X8 w_0 dX8_takeOfNumbers_162 ?_
              refine xg_1_5 F i_X10 w_6 dX8_takeOfNumbers_165 (G 1 5) (hU32 1 5 (by decide)) ?_
              refine xp_4_6 F i_X8 w_7 dX8_takeOfNumbers_168 ?_
              refine g_iconst F 0 dX8_takeOfNumbers_171 (by decide) ?_
              exact u_iret F hA hQ hr (gu_up (gu_up G30 4 5 y35) 4 6 (G 1 5)) (⟨(gu_I.up (j := 4) (k := 6) (v := (G 1 5)) (gu_I.up (j := 4) (k := 5) (v := y35) hI31 (show (0 : Int) ≤ Int32.toInt y35 by omega) (show Int32.toInt y35 ≤ 6 by omega)) (show (0 : Int) ≤ Int32.toInt (G 1 5) by omega) (show Int32.toInt (G 1 5) ≤ 9999 by omega)), (gu_un.up (j := 4) (k := 6) (v := (G 1 5)) (gu_un.up (j := 4) (k := 5) (v := y35) (gu_un.tr gu_un.rf (gu_un.su hU32 rfl)) (show (406 : Nat) ∈ ([403, 405, 406, 407, 1900] : List Nat) by decide)) (show (407 : Nat) ∈ ([403, 405, 406, 407, 1900] : List Nat) by decide)), (by decide), ((xNb.un (G := G30) (by rw [q34]; rcases (show y27.toInt = 8 by omega) with h9 <;> (rw [h9]; first | exact xNb.put nb (show (0 : Int) ≤ Int32.toInt (G 1 5) by omega) (show Int32.toInt (G 1 5) ≤ 9999 by omega))) (show gu_un xcd [406, 407] G30 (gu_up (gu_up G30 4 5 y35) 4 6 (G 1 5)) from (gu_un.up (j := 4) (k := 6) (v := (G 1 5)) (gu_un.up (j := 4) (k := 5) (v := y35) gu_un.rf (show (406 : Nat) ∈ ([406, 407] : List Nat) by decide)) (show (407 : Nat) ∈ ([406, 407] : List Nat) by decide))) rfl)), (by show (((gu_up (gu_up G30 4 5 y35) 4 6 (G 1 5)) 4 4).toInt = -1 ∨ ((gu_up (gu_up G30 4 5 y35) 4 6 (G 1 5)) 4 5).toInt ≤ 1 ∨ (((gu_up (gu_up G30 4 5 y35) 4 6 (G 1 5)) 4 5).toInt ≤ 2 ∧ (((gu_up (gu_up G30 4 5 y35) 4 6 (G 1 5)) 4 4).toInt = 3 ∨ ((gu_up (gu_up G30 4 5 y35) 4 6 (G 1 5)) 4 4).toInt = 4)) ∨ (((gu_up (gu_up G30 4 5 y35) 4 6 (G 1 5)) 4 5).toInt ≤ 4 ∧ ((gu_up (gu_up G30 4 5 y35) 4 6 (G 1 5)) 4 4).toInt = 8) ∨ ((gu_up (gu_up G30 4 5 y35) 4 6 (G 1 5)) 4 4).toInt = 9); have e9_4_4 : (gu_up (gu_up G30 4 5 y35) 4 6 (G 1 5)) 4 4 = (G 4 4) := hU32 4 4 (by decide); have e9_4_5 : (gu_up (gu_up G30 4 5 y35) 4 6 (G 1 5)) 4 5 = y35 := rfl; (try simp only [e9_4_4, e9_4_5, true_and, and_true]) <;> (first | omega | (simp only [Int32.reduceToInt, true_and, and_true, ne_eq, not_true_eq_false, false_and, or_false, false_or, true_or, or_true, false_implies] <;> omega))), (by show (((gu_up (gu_up G30 4 5 y35) 4 6 (G 1 5)) 4 4).toInt = -1 ∨ ((gu_up (gu_up G30 4 5 y35) 4 6 (G 1 5)) 4 4).toInt = (G 4 4).toInt); have e9_4_4 : (gu_up (gu_up G30 4 5 y35) 4 6 (G 1 5)) 4 4 = (G 4 4) := hU32 4 4 (by decide); (try simp only [e9_4_4, true_and, and_true]) <;> (first | omega | (simp only [Int32.reduceToInt, true_and, and_true, ne_eq, not_true_eq_false, false_and, or_false, false_or, true_or, or_true, false_implies] <;> omega))), (by show (((gu_up (gu_up G30 4 5 y35) 4 6 (G 1 5)) 4 2).toInt ≤ (G 4 2).toInt + 1); have e9_4_2 : (gu_up (gu_up G30 4 5 y35) 4 6 (G 1 5)) 4 2 = (G 4 2) := hU32 4 2 (by decide); (try simp only [e9_4_2, true_and, and_true]) <;> (first | omega | (simp only [Int32.reduceToInt, true_and, and_true, ne_eq, not_true_eq_false, false_and, or_false, false_or, true_or, or_true, false_implies] <;> omega))), (by have m9 : hMo 6 = 1 := (by decide); have l9 : hLo 6 = 0 := (by decide); have h9 : hHi 6 = 9999 := (by decide); have s9 : hSl 6 = 8 := (by decide); exact xH_nP (c := 6) (by decide) (show (G 4 4).toInt = 6 by omega) (by decide) (by decide) (by omega) (by show ¬ (_ ∨ _ ∨ _); omega) (by omega) (show (gu_up (gu_up G30 4 5 y35) 4 6 (G 1 5)) 4 4 = (G 4 4) from hU32 4 4 (by decide)) (show ((gu_up (gu_up G30 4 5 y35) 4 6 (G 1 5)) 4 5).toInt = (G 4 5).toInt + 1 by rw [show (gu_up (gu_up G30 4 5 y35) 4 6 (G 1 5)) 4 5 = y35 from rfl] <;> first | rfl | omega) (show ((gu_up (gu_up G30 4 5 y35) 4 6 (G 1 5)) 4 6).toInt = (G 1 5).toInt by rw [show (gu_up (gu_up G30 4 5 y35) 4 6 (G 1 5)) 4 6 = (G 1 5) from rfl] <;> first | rfl | omega) (show (gu_up (gu_up G30 4 5 y35) 4 6 (G 1 5)) 4 2 = (G 4 2) from hU32 4 2 (by decide)) (show (gu_up (gu_up G30 4 5 y35) 4 6 (G 1 5)) 4 3 = (G 4 3) from hU32 4 3 (by decide)) (x := (G 1 5)) rfl (q := y27.toInt) (by omega) (show (gu_up (gu_up G30 4 5 y35) 4 6 (G 1 5)) 19 = upd (G 19) (y27.toInt).toNat (G 1 5) from (show (gu_up (gu_up G30 4 5 y35) 4 6 (G 1 5)) 19 = G30 19 from funext fun k_ => (show gu_un xcd [406, 407] G30 (gu_up (gu_up G30 4 5 y35) 4 6 (G 1 5)) from (gu_un.up (j := 4) (k := 6) (v := (G 1 5)) (gu_un.up (j := 4) (k := 5) (v := y35) gu_un.rf (show (406 : Nat) ∈ ([406, 407] : List Nat) by decide)) (show (407 : Nat) ∈ ([406, 407] : List Nat) by decide))) 19 k_ (by simp [xcd])).trans q34) (xSg_un (show gu_un xcd [406, 407, 1900] G (gu_up (gu_up G30 4 5 y35) 4 6 (G 1 5)) from (gu_un.up (j := 4) (k := 6) (v := (G 1 5)) (gu_un.up (j := 4) (k := 5) (v := y35) (gu_un.tr gu_un.rf (gu_un.su hU32 rfl)) (show (406 : Nat) ∈ ([406, 407, 1900] : List Nat) by decide)) (show (407 : Nat) ∈ ([406, 407, 1900] : List Nat) by decide))) rfl rfl rfl)), (by show (0 ≠ 0 ∨ (G 1 3).toInt ≠ 0); (first | omega | (simp only [Int32.reduceToInt, true_and, and_true, ne_eq, not_true_eq_false, false_and, or_false, false_or, true_or, or_true, false_implies] <;> omega)))⟩) rfl rfl dX8_takeOfNumbers_172
            · refine g_iconst F 4 dX8_takeOfNumbers_125 (by decide) ?_
              exact u_iret F hA hQ hr G (⟨hI, gu_un.rf, (by decide), (nb), (by show ((G 4 4).toInt = -1 ∨ (G 4 5).toInt ≤ 1 ∨ ((G 4 5).toInt ≤ 2 ∧ ((G 4 4).toInt = 3 ∨ (G 4 4).toInt = 4)) ∨ ((G 4 5).toInt ≤ 4 ∧ (G 4 4).toInt = 8) ∨ (G 4 4).toInt = 9); (first | omega | (simp only [Int32.reduceToInt, true_and, and_true, ne_eq, not_true_eq_false, false_and, or_false, false_or, true_or, or_true, false_implies] <;> omega))), (by show ((G 4 4).toInt = -1 ∨ (G 4 4).toInt = (G 4 4).toInt); (first | omega | (simp only [Int32.reduceToInt, true_and, and_true, ne_eq, not_true_eq_false, false_and, or_false, false_or, true_or, or_true, false_implies] <;> omega))), (by show ((G 4 2).toInt ≤ (G 4 2).toInt + 1); (first | omega | (simp only [Int32.reduceToInt, true_and, and_true, ne_eq, not_true_eq_false, false_and, or_false, false_or, true_or, or_true, false_implies] <;> omega))), (by have m9 : hMo 6 = 1 := (by decide); have l9 : hLo 6 = 0 := (by decide); have h9 : hHi 6 = 9999 := (by decide); have s9 : hSl 6 = 8 := (by decide); exact xH_bad (f := 4) (by decide) (by decide) (fun ts pl ci => by rw [show (G 4 4).toInt = 6 by omega]; exact hO_n4 (by decide) (by decide) (by omega) (by omega) (by show ¬ (_ ∨ _ ∨ _); omega) (by omega))), (by show (4 ≠ 0 ∨ (G 1 3).toInt ≠ 0); (first | omega | (simp only [Int32.reduceToInt, true_and, and_true, ne_eq, not_true_eq_false, false_and, or_false, false_or, true_or, or_true, false_implies] <;> omega)))⟩) rfl rfl dX8_takeOfNumbers_126
          · refine g_iconst F 2 dX8_takeOfNumbers_112 (by decide) ?_
            exact u_iret F hA hQ hr G (⟨hI, gu_un.rf, (by decide), (nb), (by show ((G 4 4).toInt = -1 ∨ (G 4 5).toInt ≤ 1 ∨ ((G 4 5).toInt ≤ 2 ∧ ((G 4 4).toInt = 3 ∨ (G 4 4).toInt = 4)) ∨ ((G 4 5).toInt ≤ 4 ∧ (G 4 4).toInt = 8) ∨ (G 4 4).toInt = 9); (first | omega | (simp only [Int32.reduceToInt, true_and, and_true, ne_eq, not_true_eq_false, false_and, or_false, false_or, true_or, or_true, false_implies] <;> omega))), (by show ((G 4 4).toInt = -1 ∨ (G 4 4).toInt = (G 4 4).toInt); (first | omega | (simp only [Int32.reduceToInt, true_and, and_true, ne_eq, not_true_eq_false, false_and, or_false, false_or, true_or, or_true, false_implies] <;> omega))), (by show ((G 4 2).toInt ≤ (G 4 2).toInt + 1); (first | omega | (simp only [Int32.reduceToInt, true_and, and_true, ne_eq, not_true_eq_false, false_and, or_false, false_or, true_or, or_true, false_implies] <;> omega))), (by have m9 : hMo 6 = 1 := (by decide); have l9 : hLo 6 = 0 := (by decide); have h9 : hHi 6 = 9999 := (by decide); have s9 : hSl 6 = 8 := (by decide); exact xH_bad (f := 2) (by decide) (by decide) (fun ts pl ci => by rw [show (G 4 4).toInt = 6 by omega]; exact hO_n2 (by decide) (by decide) (by omega) (by omega) (by show _ ∨ _ ∨ _; omega))), (by show (2 ≠ 0 ∨ (G 1 3).toInt ≠ 0); (first | omega | (simp only [Int32.reduceToInt, true_and, and_true, ne_eq, not_true_eq_false, false_and, or_false, false_or, true_or, or_true, false_implies] <;> omega)))⟩) rfl rfl dX8_takeOfNumbers_113
        · refine g_iconst F 1 dX8_takeOfNumbers_102 (by decide) ?_
          exact u_iret F hA hQ hr G (⟨hI, gu_un.rf, (by decide), (nb), (by show ((G 4 4).toInt = -1 ∨ (G 4 5).toInt ≤ 1 ∨ ((G 4 5).toInt ≤ 2 ∧ ((G 4 4).toInt = 3 ∨ (G 4 4).toInt = 4)) ∨ ((G 4 5).toInt ≤ 4 ∧ (G 4 4).toInt = 8) ∨ (G 4 4).toInt = 9); (first | omega | (simp only [Int32.reduceToInt, true_and, and_true, ne_eq, not_true_eq_false, false_and, or_false, false_or, true_or, or_true, false_implies] <;> omega))), (by show ((G 4 4).toInt = -1 ∨ (G 4 4).toInt = (G 4 4).toInt); (first | omega | (simp only [Int32.reduceToInt, true_and, and_true, ne_eq, not_true_eq_false, false_and, or_false, false_or, true_or, or_true, false_implies] <;> omega))), (by show ((G 4 2).toInt ≤ (G 4 2).toInt + 1); (first | omega | (simp only [Int32.reduceToInt, true_and, and_true, ne_eq, not_true_eq_false, false_and, or_false, false_or, true_or, or_true, false_implies] <;> omega))), (by have m9 : hMo 6 = 1 := (by decide); have l9 : hLo 6 = 0 := (by decide); have h9 : hHi 6 = 9999 := (by decide); have s9 : hSl 6 = 8 := (by decide); exact xH_bad (f := 1) (by decide) (by decide) (fun ts pl ci => by rw [show (G 4 4).toInt = 6 by omega]; exact hO_n1 (by decide) (by decide) (by show ¬ (_ ∧ _ ∧ _); omega) (by omega))), (by show (1 ≠ 0 ∨ (G 1 3).toInt ≠ 0); (first | omega | (simp only [Int32.reduceToInt, true_and, and_true, ne_eq, not_true_eq_false, false_and, or_false, false_or, true_or, or_true, false_implies] <;> omega)))⟩) rfl rfl dX8_takeOfNumbers_103
    · refine g_iload_n F 0 dX8_takeOfNumbers_51 rfl rfl ?_
      refine v_if_eq F 70 dX8_takeOfNumbers_52 (by decide) 0 rfl (fun c36 => ?_) (fun c36 => absurd c36 (by decide))
      refine g_aload_n F 1 dX8_takeOfNumbers_70 rfl rfl ?_
      refine u_callVv (k := 0) (n := 0) (b := a 4) (As := []) (st := []) F (fun sz => S_X8_closeClause l D K a G  (by (first | omega | (simp only [Int32.reduceToInt, true_and, and_true, ne_eq, not_true_eq_false, false_and, or_false, false_or, true_or, or_true, false_implies] <;> omega))) hI sz) (cwV 0 hts gX8_takeOfNumbers_X8_closeClause rfl rfl rfl (by decide +kernel) ⟨Nat.le_of_ble_eq_true rfl, Nat.le_of_ble_eq_true rfl⟩) rfl 4 xc_4 rfl (Nat.le_of_ble_eq_true rfl) ⟨Nat.zero_le _, Nat.zero_le _⟩ dX8_takeOfNumbers_71 (fun G39 hw38 => ?_)
      have hI40 : xI G39 := hw38.1
      have hU41 : gu_un xcd [403, 405] G G39 := hw38.2.1
      have hp42 := hw38.2.2
      have b43 : ((-1) : Int) ≤ (G39 4 4).toInt ∧ (G39 4 4).toInt ≤ 12 := hI40 4 4
      have q44 : ((G39 4 4).toInt = -1) := hp42.1
      have b45 : (0 : Int) ≤ (G39 4 2).toInt ∧ (G39 4 2).toInt ≤ 1001 := hI40 4 2
      have q46 : ((G39 4 2).toInt = (G 4 2).toInt + 1) := hp42.2
      clear hp42 hw38
      refine g_iconst F 0 dX8_takeOfNumbers_74 (by decide) ?_
      exact u_iret F hA hQ hr G39 (⟨hI40, (gu_un.tr gu_un.rf (gu_un.su hU41 rfl)), (by decide), ((xNb.un nb (show gu_un xcd [403, 405] G G39 from (gu_un.tr gu_un.rf (gu_un.su hU41 rfl))) rfl)), (by show ((G39 4 4).toInt = -1 ∨ (G39 4 5).toInt ≤ 1 ∨ ((G39 4 5).toInt ≤ 2 ∧ ((G39 4 4).toInt = 3 ∨ (G39 4 4).toInt = 4)) ∨ ((G39 4 5).toInt ≤ 4 ∧ (G39 4 4).toInt = 8) ∨ (G39 4 4).toInt = 9); have e9_4_5 : G39 4 5 = (G 4 5) := hU41 4 5 (by decide); (try simp only [e9_4_5, true_and, and_true]) <;> (first | omega | (simp only [Int32.reduceToInt, true_and, and_true, ne_eq, not_true_eq_false, false_and, or_false, false_or, true_or, or_true, false_implies] <;> omega))), (by show ((G39 4 4).toInt = -1 ∨ (G39 4 4).toInt = (G 4 4).toInt); (first | omega | (simp only [Int32.reduceToInt, true_and, and_true, ne_eq, not_true_eq_false, false_and, or_false, false_or, true_or, or_true, false_implies] <;> omega))), (by show ((G39 4 2).toInt ≤ (G 4 2).toInt + 1); (first | omega | (simp only [Int32.reduceToInt, true_and, and_true, ne_eq, not_true_eq_false, false_and, or_false, false_or, true_or, or_true, false_implies] <;> omega))), (by have m9 : hMo 6 = 1 := (by decide); have l9 : hLo 6 = 0 := (by decide); have h9 : hHi 6 = 9999 := (by decide); have s9 : hSl 6 = 8 := (by decide); exact xH_nE (c := 6) (by decide) (show (G 4 4).toInt = 6 by omega) (by decide) (by decide) ⟨by omega, by omega, by omega⟩ (show (G39 4 4).toInt = -1 by rw [show G39 4 4 = (G39 4 4) from rfl] <;> first | rfl | omega) (show G39 4 5 = (G 4 5) from hU41 4 5 (by decide)) (show G39 4 6 = (G 4 6) from hU41 4 6 (by decide)) (show (G39 4 2).toInt = (G 4 2).toInt + 1 by rw [show G39 4 2 = (G39 4 2) from rfl] <;> first | rfl | omega) (show G39 4 3 = (G 4 3) from hU41 4 3 (by decide)) (by rw [if_neg (by decide), if_neg (by decide)]; exact (show G39 19 = G 19 from funext fun k_ => hU41 19 k_ (show (1900 : Nat) ∉ ([403, 405] : List Nat) by decide))) (xSg_un (show gu_un xcd [403, 405] G G39 from (gu_un.tr gu_un.rf (gu_un.su hU41 rfl))) rfl rfl rfl)), (by show (0 ≠ 0 ∨ (G 1 3).toInt ≠ 0); (first | omega | (simp only [Int32.reduceToInt, true_and, and_true, ne_eq, not_true_eq_false, false_and, or_false, false_or, true_or, or_true, false_implies] <;> omega)))⟩) rfl rfl dX8_takeOfNumbers_75
  · have b47 : (0 : Int) ≤ (G 1 3).toInt ∧ (G 1 3).toInt ≤ 4 := hI 1 3
    have q12 : ((G 1 3).toInt ≠ 3 ∨ (G 1 5).toInt ≠ (59 : Int)) := q12
    refine v_if_eq F 76 dX8_takeOfNumbers_23 (by decide) 0 rfl (fun c48 => ?_) (fun c48 => absurd c48 (by decide))
    refine g_aload_n F 1 dX8_takeOfNumbers_76 rfl rfl ?_
    refine xg_4_0 F i_X8 w_0 dX8_takeOfNumbers_77 ?_
    refine xg_1_3 F i_X10 w_3 dX8_takeOfNumbers_80 (G 1 3) (rfl) ?_
    refine g_iconst F 2 dX8_takeOfNumbers_83 (by decide) ?_
    refine v_icmp_ne F 102 dX8_takeOfNumbers_84 (by decide) (G 1 3).toInt 2 rfl rfl (fun c49 => ?_) (fun c49 => ?_)
    · refine g_iconst F 1 dX8_takeOfNumbers_102 (by decide) ?_
      exact u_iret F hA hQ hr G (⟨hI, gu_un.rf, (by decide), (nb), (by show ((G 4 4).toInt = -1 ∨ (G 4 5).toInt ≤ 1 ∨ ((G 4 5).toInt ≤ 2 ∧ ((G 4 4).toInt = 3 ∨ (G 4 4).toInt = 4)) ∨ ((G 4 5).toInt ≤ 4 ∧ (G 4 4).toInt = 8) ∨ (G 4 4).toInt = 9); (first | omega | (simp only [Int32.reduceToInt, true_and, and_true, ne_eq, not_true_eq_false, false_and, or_false, false_or, true_or, or_true, false_implies] <;> omega))), (by show ((G 4 4).toInt = -1 ∨ (G 4 4).toInt = (G 4 4).toInt); (first | omega | (simp only [Int32.reduceToInt, true_and, and_true, ne_eq, not_true_eq_false, false_and, or_false, false_or, true_or, or_true, false_implies] <;> omega))), (by show ((G 4 2).toInt ≤ (G 4 2).toInt + 1); (first | omega | (simp only [Int32.reduceToInt, true_and, and_true, ne_eq, not_true_eq_false, false_and, or_false, false_or, true_or, or_true, false_implies] <;> omega))), (by have m9 : hMo 6 = 1 := (by decide); have l9 : hLo 6 = 0 := (by decide); have h9 : hHi 6 = 9999 := (by decide); have s9 : hSl 6 = 8 := (by decide); exact xH_bad (f := 1) (by decide) (by decide) (fun ts pl ci => by rw [show (G 4 4).toInt = 6 by omega]; exact hO_n1 (by decide) (by decide) (by show ¬ (_ ∧ _ ∧ _); omega) (by omega))), (by show (1 ≠ 0 ∨ (G 1 3).toInt ≠ 0); (first | omega | (simp only [Int32.reduceToInt, true_and, and_true, ne_eq, not_true_eq_false, false_and, or_false, false_or, true_or, or_true, false_implies] <;> omega)))⟩) rfl rfl dX8_takeOfNumbers_103
    · refine g_iload_n F 0 dX8_takeOfNumbers_87 rfl rfl ?_
      refine v_if_ne F 104 dX8_takeOfNumbers_88 (by decide) 0 rfl (fun c50 => absurd c50 (by decide)) (fun c50 => ?_)
      refine g_aload_n F 1 dX8_takeOfNumbers_91 rfl rfl ?_
      refine xg_4_5 F i_X8 w_1 dX8_takeOfNumbers_92 (G 4 5) (rfl) ?_
      refine g_aload_n F 2 dX8_takeOfNumbers_95 rfl rfl ?_
      refine uz_getf F (show va_OF "QuietCut$Clause" "most" "I" (.int 1) (zf 16) A s s.heap from (hZ.2.2.2.2.2 6 (by decide)).2.2.2.1) w_2 dX8_takeOfNumbers_96 ?_
      refine v_icmp_ne F 104 dX8_takeOfNumbers_99 (by decide) (G 4 5).toInt 1 rfl rfl (fun c51 => ?_) (fun c51 => ?_)
      · refine g_aload_n F 1 dX8_takeOfNumbers_104 rfl rfl ?_
        refine g_aload_n F 2 dX8_takeOfNumbers_105 rfl rfl ?_
        refine uz_callVi (k := 0) (n := 0) (b := a 4) (As := [.ref (zf 16)]) (st := []) F xZ_st hZ (fun sz => S_X8_isInBounds_c6 l D K a G zf  hI sz) (cwV 1 hts gX8_takeOfNumbers_X8_isInBounds rfl rfl rfl (by decide +kernel) ⟨Nat.le_of_ble_eq_true rfl, Nat.le_of_ble_eq_true rfl⟩) rfl 4 xc_4 rfl (Nat.le_of_ble_eq_true rfl) ⟨Nat.zero_le _, Nat.zero_le _⟩ dX8_takeOfNumbers_106 (fun r52 _ hw53 => ?_)
        have q55 : ((r52.toInt = 1 ∧ (0 ≤ (G 1 5).toInt ∧ (G 1 5).toInt ≤ 9999 ∧ ((G 4 5).toInt ≠ 1 ∨ ((G 4 6).toInt ≤ (G 1 5).toInt ∧ (G 1 5).toInt ≤ (G 4 6).toInt + 3)))) ∨ (r52.toInt = 0 ∧ ¬ (0 ≤ (G 1 5).toInt ∧ (G 1 5).toInt ≤ 9999 ∧ ((G 4 5).toInt ≠ 1 ∨ ((G 4 6).toInt ≤ (G 1 5).toInt ∧ (G 1 5).toInt ≤ (G 4 6).toInt + 3))))) := hw53.2
        have rg56 := hw53.1
        clear hw53
        refine v_if_ne F 114 dX8_takeOfNumbers_109 (by decide) r52.toInt rfl (fun c57 => ?_) (fun c57 => ?_)
        · refine g_aload_n F 1 dX8_takeOfNumbers_114 rfl rfl ?_
          refine xg_4_5 F i_X8 w_1 dX8_takeOfNumbers_115 (G 4 5) (rfl) ?_
          refine g_aload_n F 2 dX8_takeOfNumbers_118 rfl rfl ?_
          refine uz_getf F (show va_OF "QuietCut$Clause" "most" "I" (.int 1) (zf 16) A s s.heap from (hZ.2.2.2.2.2 6 (by decide)).2.2.2.1) w_2 dX8_takeOfNumbers_119 ?_
          refine v_icmp_ne F 127 dX8_takeOfNumbers_122 (by decide) (G 4 5).toInt 1 rfl rfl (fun c58 => ?_) (fun c58 => ?_)
          · refine g_aload_n F 1 dX8_takeOfNumbers_127 rfl rfl ?_
            refine xg_4_1 F i_X8 w_4 dX8_takeOfNumbers_128 ?_
            refine g_aload_n F 2 dX8_takeOfNumbers_131 rfl rfl ?_
            refine uz_getf F (show va_OF "QuietCut$Clause" "slot" "I" (.int 8) (zf 16) A s s.heap from (hZ.2.2.2.2.2 6 (by decide)).2.2.1) w_5 dX8_takeOfNumbers_132 ?_
            refine g_aload_n F 1 dX8_takeOfNumbers_135 rfl rfl ?_
            refine xg_4_5 F i_X8 w_1 dX8_takeOfNumbers_136 (G 4 5) (rfl) ?_
            refine u_iadd F dX8_takeOfNumbers_139 8 (G 4 5).toInt rfl rfl (by omega) (by omega) (fun y59 ey59 => ?_)
            refine g_aload_n F 1 dX8_takeOfNumbers_140 rfl rfl ?_
            refine xg_4_0 F i_X8 w_0 dX8_takeOfNumbers_141 ?_
            refine xg_1_5 F i_X10 w_6 dX8_takeOfNumbers_144 (G 1 5) (rfl) ?_
            refine u_callVv (k := 0) (n := 0) (b := a 3) (As := [.int y59, .int (G 1 5)]) (st := []) F (fun sz => S_X7_put_3 l D K a G y59 y59.toInt (G 1 5) (G 1 5).toInt rfl (by omega) rfl hI sz) (cwV 2 hts gX8_takeOfNumbers_X7_put rfl rfl rfl (by decide +kernel) ⟨Nat.le_of_ble_eq_true rfl, Nat.le_of_ble_eq_true rfl⟩) rfl 3 xc_3 rfl (Nat.le_of_ble_eq_true rfl) ⟨Nat.zero_le _, Nat.zero_le _⟩ dX8_takeOfNumbers_147 (fun G62 hw61 => ?_)
            have hI63 : xI G62 := hw61.1
            have hU64 : gu_un xcd [1900] G G62 := hw61.2.1
            have hp65 := hw61.2.2
            have q66 : (G62 19 = upd (G 19) (y59.toInt).toNat (G 1 5)) := hp65
            clear hp65 hw61
            refine g_aload_n F 1 dX8_takeOfNumbers_150 rfl rfl ?_
            refine g_dup F dX8_takeOfNumbers_151 rfl ?_
            refine xg_4_5 F i_X8 w_1 dX8_takeOfNumbers_152 (G 4 5) (hU64 4 5 (by decide)) ?_
            refine g_iconst F 1 dX8_takeOfNumbers_155 (by decide) ?_
            refine u_iadd F dX8_takeOfNumbers_156 (G 4 5).toInt 1 rfl rfl (by omega) (by omega) (fun y67 ey67 => ?_)
            refine xp_4_5 F i_X8 w_1 dX8_takeOfNumbers_157 ?_
            refine g_aload_n F 1 dX8_takeOfNumbers_160 rfl rfl ?_
            refine g_aload_n F 1 dX8_takeOfNumbers_161 rfl rfl ?_
            refine xg_4_0 F i_X8 w_0 dX8_takeOfNumbers_162 ?_
            refine xg_1_5 F i_X10 w_6 dX8_takeOfNumbers_165 (G 1 5) (hU64 1 5 (by decide)) ?_
            refine xp_4_6 F i_X8 w_7 dX8_takeOfNumbers_168 ?_
            refine g_iconst F 0 dX8_takeOfNumbers_171 (by decide) ?_
            exact u_iret F hA hQ hr (gu_up (gu_up G62 4 5 y67) 4 6 (G 1 5)) (⟨(gu_I.up (j := 4) (k := 6) (v := (G 1 5)) (gu_I.up (j := 4) (k := 5) (v := y67) hI63 (show (0 : Int) ≤ Int32.toInt y67 by omega) (show Int32.toInt y67 ≤ 6 by omega)) (show (0 : Int) ≤ Int32.toInt (G 1 5) by omega) (show Int32.toInt (G 1 5) ≤ 9999 by omega)), (gu_un.up (j := 4) (k := 6) (v := (G 1 5)) (gu_un.up (j := 4) (k := 5) (v := y67) (gu_un.tr gu_un.rf (gu_un.su hU64 rfl)) (show (406 : Nat) ∈ ([403, 405, 406, 407, 1900] : List Nat) by decide)) (show (407 : Nat) ∈ ([403, 405, 406, 407, 1900] : List Nat) by decide)), (by decide), ((xNb.un (G := G62) (by rw [q66]; rcases (show y59.toInt = 8 by omega) with h9 <;> (rw [h9]; first | exact xNb.put nb (show (0 : Int) ≤ Int32.toInt (G 1 5) by omega) (show Int32.toInt (G 1 5) ≤ 9999 by omega))) (show gu_un xcd [406, 407] G62 (gu_up (gu_up G62 4 5 y67) 4 6 (G 1 5)) from (gu_un.up (j := 4) (k := 6) (v := (G 1 5)) (gu_un.up (j := 4) (k := 5) (v := y67) gu_un.rf (show (406 : Nat) ∈ ([406, 407] : List Nat) by decide)) (show (407 : Nat) ∈ ([406, 407] : List Nat) by decide))) rfl)), (by show (((gu_up (gu_up G62 4 5 y67) 4 6 (G 1 5)) 4 4).toInt = -1 ∨ ((gu_up (gu_up G62 4 5 y67) 4 6 (G 1 5)) 4 5).toInt ≤ 1 ∨ (((gu_up (gu_up G62 4 5 y67) 4 6 (G 1 5)) 4 5).toInt ≤ 2 ∧ (((gu_up (gu_up G62 4 5 y67) 4 6 (G 1 5)) 4 4).toInt = 3 ∨ ((gu_up (gu_up G62 4 5 y67) 4 6 (G 1 5)) 4 4).toInt = 4)) ∨ (((gu_up (gu_up G62 4 5 y67) 4 6 (G 1 5)) 4 5).toInt ≤ 4 ∧ ((gu_up (gu_up G62 4 5 y67) 4 6 (G 1 5)) 4 4).toInt = 8) ∨ ((gu_up (gu_up G62 4 5 y67) 4 6 (G 1 5)) 4 4).toInt = 9); have e9_4_4 : (gu_up (gu_up G62 4 5 y67) 4 6 (G 1 5)) 4 4 = (G 4 4) := hU64 4 4 (by decide); have e9_4_5 : (gu_up (gu_up G62 4 5 y67) 4 6 (G 1 5)) 4 5 = y67 := rfl; (try simp only [e9_4_4, e9_4_5, true_and, and_true]) <;> (first | omega | (simp only [Int32.reduceToInt, true_and, and_true, ne_eq, not_true_eq_false, false_and, or_false, false_or, true_or, or_true, false_implies] <;> omega))), (by show (((gu_up (gu_up G62 4 5 y67) 4 6 (G 1 5)) 4 4).toInt = -1 ∨ ((gu_up (gu_up G62 4 5 y67) 4 6 (G 1 5)) 4 4).toInt = (G 4 4).toInt); have e9_4_4 : (gu_up (gu_up G62 4 5 y67) 4 6 (G 1 5)) 4 4 = (G 4 4) := hU64 4 4 (by decide); (try simp only [e9_4_4, true_and, and_true]) <;> (first | omega | (simp only [Int32.reduceToInt, true_and, and_true, ne_eq, not_true_eq_false, false_and, or_false, false_or, true_or, or_true, false_implies] <;> omega))), (by show (((gu_up (gu_up G62 4 5 y67) 4 6 (G 1 5)) 4 2).toInt ≤ (G 4 2).toInt + 1); have e9_4_2 : (gu_up (gu_up G62 4 5 y67) 4 6 (G 1 5)) 4 2 = (G 4 2) := hU64 4 2 (by decide); (try simp only [e9_4_2, true_and, and_true]) <;> (first | omega | (simp only [Int32.reduceToInt, true_and, and_true, ne_eq, not_true_eq_false, false_and, or_false, false_or, true_or, or_true, false_implies] <;> omega))), (by have m9 : hMo 6 = 1 := (by decide); have l9 : hLo 6 = 0 := (by decide); have h9 : hHi 6 = 9999 := (by decide); have s9 : hSl 6 = 8 := (by decide); exact xH_nP (c := 6) (by decide) (show (G 4 4).toInt = 6 by omega) (by decide) (by decide) (by omega) (by show ¬ (_ ∨ _ ∨ _); omega) (by omega) (show (gu_up (gu_up G62 4 5 y67) 4 6 (G 1 5)) 4 4 = (G 4 4) from hU64 4 4 (by decide)) (show ((gu_up (gu_up G62 4 5 y67) 4 6 (G 1 5)) 4 5).toInt = (G 4 5).toInt + 1 by rw [show (gu_up (gu_up G62 4 5 y67) 4 6 (G 1 5)) 4 5 = y67 from rfl] <;> first | rfl | omega) (show ((gu_up (gu_up G62 4 5 y67) 4 6 (G 1 5)) 4 6).toInt = (G 1 5).toInt by rw [show (gu_up (gu_up G62 4 5 y67) 4 6 (G 1 5)) 4 6 = (G 1 5) from rfl] <;> first | rfl | omega) (show (gu_up (gu_up G62 4 5 y67) 4 6 (G 1 5)) 4 2 = (G 4 2) from hU64 4 2 (by decide)) (show (gu_up (gu_up G62 4 5 y67) 4 6 (G 1 5)) 4 3 = (G 4 3) from hU64 4 3 (by decide)) (x := (G 1 5)) rfl (q := y59.toInt) (by omega) (show (gu_up (gu_up G62 4 5 y67) 4 6 (G 1 5)) 19 = upd (G 19) (y59.toInt).toNat (G 1 5) from (show (gu_up (gu_up G62 4 5 y67) 4 6 (G 1 5)) 19 = G62 19 from funext fun k_ => (show gu_un xcd [406, 407] G62 (gu_up (gu_up G62 4 5 y67) 4 6 (G 1 5)) from (gu_un.up (j := 4) (k := 6) (v := (G 1 5)) (gu_un.up (j := 4) (k := 5) (v := y67) gu_un.rf (show (406 : Nat) ∈ ([406, 407] : List Nat) by decide)) (show (407 : Nat) ∈ ([406, 407] : List Nat) by decide))) 19 k_ (by simp [xcd])).trans q66) (xSg_un (show gu_un xcd [406, 407, 1900] G (gu_up (gu_up G62 4 5 y67) 4 6 (G 1 5)) from (gu_un.up (j := 4) (k := 6) (v := (G 1 5)) (gu_un.up (j := 4) (k := 5) (v := y67) (gu_un.tr gu_un.rf (gu_un.su hU64 rfl)) (show (406 : Nat) ∈ ([406, 407, 1900] : List Nat) by decide)) (show (407 : Nat) ∈ ([406, 407, 1900] : List Nat) by decide))) rfl rfl rfl)), (by show (0 ≠ 0 ∨ (G 1 3).toInt ≠ 0); (first | omega | (simp only [Int32.reduceToInt, true_and, and_true, ne_eq, not_true_eq_false, false_and, or_false, false_or, true_or, or_true, false_implies] <;> omega)))⟩) rfl rfl dX8_takeOfNumbers_172
          · refine g_iconst F 4 dX8_takeOfNumbers_125 (by decide) ?_
            exact u_iret F hA hQ hr G (⟨hI, gu_un.rf, (by decide), (nb), (by show ((G 4 4).toInt = -1 ∨ (G 4 5).toInt ≤ 1 ∨ ((G 4 5).toInt ≤ 2 ∧ ((G 4 4).toInt = 3 ∨ (G 4 4).toInt = 4)) ∨ ((G 4 5).toInt ≤ 4 ∧ (G 4 4).toInt = 8) ∨ (G 4 4).toInt = 9); (first | omega | (simp only [Int32.reduceToInt, true_and, and_true, ne_eq, not_true_eq_false, false_and, or_false, false_or, true_or, or_true, false_implies] <;> omega))), (by show ((G 4 4).toInt = -1 ∨ (G 4 4).toInt = (G 4 4).toInt); (first | omega | (simp only [Int32.reduceToInt, true_and, and_true, ne_eq, not_true_eq_false, false_and, or_false, false_or, true_or, or_true, false_implies] <;> omega))), (by show ((G 4 2).toInt ≤ (G 4 2).toInt + 1); (first | omega | (simp only [Int32.reduceToInt, true_and, and_true, ne_eq, not_true_eq_false, false_and, or_false, false_or, true_or, or_true, false_implies] <;> omega))), (by have m9 : hMo 6 = 1 := (by decide); have l9 : hLo 6 = 0 := (by decide); have h9 : hHi 6 = 9999 := (by decide); have s9 : hSl 6 = 8 := (by decide); exact xH_bad (f := 4) (by decide) (by decide) (fun ts pl ci => by rw [show (G 4 4).toInt = 6 by omega]; exact hO_n4 (by decide) (by decide) (by omega) (by omega) (by show ¬ (_ ∨ _ ∨ _); omega) (by omega))), (by show (4 ≠ 0 ∨ (G 1 3).toInt ≠ 0); (first | omega | (simp only [Int32.reduceToInt, true_and, and_true, ne_eq, not_true_eq_false, false_and, or_false, false_or, true_or, or_true, false_implies] <;> omega)))⟩) rfl rfl dX8_takeOfNumbers_126
        · refine g_iconst F 2 dX8_takeOfNumbers_112 (by decide) ?_
          exact u_iret F hA hQ hr G (⟨hI, gu_un.rf, (by decide), (nb), (by show ((G 4 4).toInt = -1 ∨ (G 4 5).toInt ≤ 1 ∨ ((G 4 5).toInt ≤ 2 ∧ ((G 4 4).toInt = 3 ∨ (G 4 4).toInt = 4)) ∨ ((G 4 5).toInt ≤ 4 ∧ (G 4 4).toInt = 8) ∨ (G 4 4).toInt = 9); (first | omega | (simp only [Int32.reduceToInt, true_and, and_true, ne_eq, not_true_eq_false, false_and, or_false, false_or, true_or, or_true, false_implies] <;> omega))), (by show ((G 4 4).toInt = -1 ∨ (G 4 4).toInt = (G 4 4).toInt); (first | omega | (simp only [Int32.reduceToInt, true_and, and_true, ne_eq, not_true_eq_false, false_and, or_false, false_or, true_or, or_true, false_implies] <;> omega))), (by show ((G 4 2).toInt ≤ (G 4 2).toInt + 1); (first | omega | (simp only [Int32.reduceToInt, true_and, and_true, ne_eq, not_true_eq_false, false_and, or_false, false_or, true_or, or_true, false_implies] <;> omega))), (by have m9 : hMo 6 = 1 := (by decide); have l9 : hLo 6 = 0 := (by decide); have h9 : hHi 6 = 9999 := (by decide); have s9 : hSl 6 = 8 := (by decide); exact xH_bad (f := 2) (by decide) (by decide) (fun ts pl ci => by rw [show (G 4 4).toInt = 6 by omega]; exact hO_n2 (by decide) (by decide) (by omega) (by omega) (by show _ ∨ _ ∨ _; omega))), (by show (2 ≠ 0 ∨ (G 1 3).toInt ≠ 0); (first | omega | (simp only [Int32.reduceToInt, true_and, and_true, ne_eq, not_true_eq_false, false_and, or_false, false_or, true_or, or_true, false_implies] <;> omega)))⟩) rfl rfl dX8_takeOfNumbers_113
      · refine g_iconst F 1 dX8_takeOfNumbers_102 (by decide) ?_
        exact u_iret F hA hQ hr G (⟨hI, gu_un.rf, (by decide), (nb), (by show ((G 4 4).toInt = -1 ∨ (G 4 5).toInt ≤ 1 ∨ ((G 4 5).toInt ≤ 2 ∧ ((G 4 4).toInt = 3 ∨ (G 4 4).toInt = 4)) ∨ ((G 4 5).toInt ≤ 4 ∧ (G 4 4).toInt = 8) ∨ (G 4 4).toInt = 9); (first | omega | (simp only [Int32.reduceToInt, true_and, and_true, ne_eq, not_true_eq_false, false_and, or_false, false_or, true_or, or_true, false_implies] <;> omega))), (by show ((G 4 4).toInt = -1 ∨ (G 4 4).toInt = (G 4 4).toInt); (first | omega | (simp only [Int32.reduceToInt, true_and, and_true, ne_eq, not_true_eq_false, false_and, or_false, false_or, true_or, or_true, false_implies] <;> omega))), (by show ((G 4 2).toInt ≤ (G 4 2).toInt + 1); (first | omega | (simp only [Int32.reduceToInt, true_and, and_true, ne_eq, not_true_eq_false, false_and, or_false, false_or, true_or, or_true, false_implies] <;> omega))), (by have m9 : hMo 6 = 1 := (by decide); have l9 : hLo 6 = 0 := (by decide); have h9 : hHi 6 = 9999 := (by decide); have s9 : hSl 6 = 8 := (by decide); exact xH_bad (f := 1) (by decide) (by decide) (fun ts pl ci => by rw [show (G 4 4).toInt = 6 by omega]; exact hO_n1 (by decide) (by decide) (by show ¬ (_ ∧ _ ∧ _); omega) (by omega))), (by show (1 ≠ 0 ∨ (G 1 3).toInt ≠ 0); (first | omega | (simp only [Int32.reduceToInt, true_and, and_true, ne_eq, not_true_eq_false, false_and, or_false, false_or, true_or, or_true, false_implies] <;> omega)))⟩) rfl rfl dX8_takeOfNumbers_103


set_option maxHeartbeats 4000000 in
set_option maxRecDepth 100000 in
theorem S_X8_isInBounds_c7 (l : Launch) (D : va_G) (K : Nat → ClassId) (a : Nat → Nat) (G : gS) (zf : Nat → Nat) (hI : xI G) (sz : Nat) : KiZ (xZ zf) l yX8_isInBounds wsX8_isInBounds 2 60 D [.ref (a 4), .ref (zf 17)] (xW K a G) (tK K) sz (fun (r : Int32) (_ : Unit) => (0 ≤ r.toInt ∧ r.toInt ≤ 1) ∧ (((r.toInt = 1 ∧ (1 ≤ (G 1 5).toInt ∧ (G 1 5).toInt ≤ 12 ∧ ((G 4 5).toInt ≠ 1 ∨ ((G 4 6).toInt ≤ (G 1 5).toInt ∧ (G 1 5).toInt ≤ (G 4 6).toInt + 3)))) ∨ (r.toInt = 0 ∧ ¬ (1 ≤ (G 1 5).toInt ∧ (G 1 5).toInt ≤ 12 ∧ ((G 4 5).toInt ≠ 1 ∨ ((G 4 6).toInt ≤ (G 1 5).toInt ∧ (G 1 5).toInt ≤ (G 4 6).toInt + 3))))))) (fun (_ : Unit) => (xW K a G)) := by
  unfold KiZ
  refine gz_ofW (cc := cX8_isInBounds) (lv := [(0, .ref (a 4)), (1, .ref (zf 17))]) (by decide) rfl (Nat.le_of_ble_eq_true rfl) rfl ?_
  intro p e s m args below meth c A Q hA hQ hZ F hr hnm
  have hts := F.2.2.2.2.1
  have w_0 : (Cond.fieldLink RX8 9 "QuietCut$ShopReader" "tape" "LQuietCut$Tape;").before args s = true := hts _ (List.mem_of_getElem? (i := 1) rfl)
  have i_X8 : ∀ w ∈ u_ws RX8 TX8 7, w ∈ wsX8_isInBounds := fun _ h => List.mem_cons_of_mem _ (List.mem_append_left _ (List.mem_append_right _ h))
  have w_1 : (Cond.fieldLink RX8 125 "QuietCut$Tape" "value" "I").before args s = true := hts _ (List.mem_of_getElem? (i := 2) rfl)
  have i_X10 : ∀ w ∈ u_ws RX10 TX10 6, w ∈ wsX8_isInBounds := fun _ h => List.mem_cons_of_mem _ (List.mem_append_right _ h)
  have w_2 : (Cond.fieldLink RX8 131 "QuietCut$Clause" "low" "I").before args s = true := hts _ (List.mem_of_getElem? (i := 3) rfl)
  have w_3 : (Cond.fieldLink RX8 134 "QuietCut$Clause" "high" "I").before args s = true := hts _ (List.mem_of_getElem? (i := 4) rfl)
  have w_4 : (Cond.fieldLink RX8 77 "QuietCut$ShopReader" "numbers" "I").before args s = true := hts _ (List.mem_of_getElem? (i := 5) rfl)
  have w_5 : (Cond.fieldLink RX8 128 "QuietCut$ShopReader" "latest" "I").before args s = true := hts _ (List.mem_of_getElem? (i := 6) rfl)
  have b1 : (0 : Int) ≤ (G 4 5).toInt ∧ (G 4 5).toInt ≤ 6 := hI 4 5
  have b2 : (0 : Int) ≤ (G 4 6).toInt ∧ (G 4 6).toInt ≤ 9999 := hI 4 6
  refine g_aload_n F 0 dX8_isInBounds_0 rfl rfl ?_
  refine xg_4_0 F i_X8 w_0 dX8_isInBounds_1 ?_
  refine xg_1_5 F i_X10 w_1 dX8_isInBounds_4 (G 1 5) (rfl) ?_
  refine g_aload_n F 1 dX8_isInBounds_7 rfl rfl ?_
  refine uz_getf F (show va_OF "QuietCut$Clause" "low" "I" (.int 1) (zf 17) A s s.heap from (hZ.2.2.2.2.2 7 (by decide)).2.2.2.2.1) w_2 dX8_isInBounds_8 ?_
  refine v_icmp_lt F 28 dX8_isInBounds_11 (by decide) (G 1 5).toInt 1 rfl rfl (fun c3 => ?_) (fun c3 => ?_)
  · refine g_iconst F 0 dX8_isInBounds_28 (by decide) ?_
    exact u_zret F hA hQ hr rfl () (⟨(by decide), (by show ((0 = 1 ∧ (1 ≤ (G 1 5).toInt ∧ (G 1 5).toInt ≤ 12 ∧ ((G 4 5).toInt ≠ 1 ∨ ((G 4 6).toInt ≤ (G 1 5).toInt ∧ (G 1 5).toInt ≤ (G 4 6).toInt + 3)))) ∨ (0 = 0 ∧ ¬ (1 ≤ (G 1 5).toInt ∧ (G 1 5).toInt ≤ 12 ∧ ((G 4 5).toInt ≠ 1 ∨ ((G 4 6).toInt ≤ (G 1 5).toInt ∧ (G 1 5).toInt ≤ (G 4 6).toInt + 3))))); (first | omega | (simp only [Int32.reduceToInt, true_and, and_true, ne_eq, not_true_eq_false, false_and, or_false, false_or, true_or, or_true, false_implies] <;> omega)))⟩) rfl rfl dX8_isInBounds_29
  · refine g_aload_n F 0 dX8_isInBounds_14 rfl rfl ?_
    refine xg_4_0 F i_X8 w_0 dX8_isInBounds_15 ?_
    refine xg_1_5 F i_X10 w_1 dX8_isInBounds_18 (G 1 5) (rfl) ?_
    refine g_aload_n F 1 dX8_isInBounds_21 rfl rfl ?_
    refine uz_getf F (show va_OF "QuietCut$Clause" "high" "I" (.int 12) (zf 17) A s s.heap from (hZ.2.2.2.2.2 7 (by decide)).2.2.2.2.2.1) w_3 dX8_isInBounds_22 ?_
    have b4 := ti_rng (G 1 5)
    refine v_icmp_le F 30 dX8_isInBounds_25 (by decide) (G 1 5).toInt 12 rfl rfl (fun c5 => ?_) (fun c5 => ?_)
    · refine g_aload_n F 1 dX8_isInBounds_30 rfl rfl ?_
      refine uz_call0Vi (k := 0) (n := 0) (b := (zf 17)) (As := []) (st := []) F xZ_st hZ (fun sz => S_X1_manySlot_c7 l D zf sz) (cwV 0 hts gX8_isInBounds_X1_manySlot rfl rfl rfl (by decide +kernel) ⟨Nat.le_of_ble_eq_true rfl, Nat.le_of_ble_eq_true rfl⟩) (hZ.2.2.2.2.2 7 (by decide)).1 rfl (Nat.le_of_ble_eq_true rfl) ⟨Nat.zero_le _, Nat.zero_le _⟩ dX8_isInBounds_31 (fun r6 _ hw7 => ?_)
      have hw7 : r6.toInt = -1 := hw7
      refine g_fold (-1) ((ti_eq rfl (show ((-1) : Int32).toInt = (-1) from rfl)).mpr hw7) ?_
      refine g_iconst F (-1) dX8_isInBounds_34 (by decide) ?_
      refine v_icmp_ne F 50 dX8_isInBounds_35 (by decide) (-1) (-1) rfl rfl (fun c8 => absurd c8 (by decide)) (fun c8 => ?_)
      refine g_aload_n F 0 dX8_isInBounds_38 rfl rfl ?_
      refine xg_4_5 F i_X8 w_4 dX8_isInBounds_39 (G 4 5) (rfl) ?_
      refine g_iconst F 1 dX8_isInBounds_42 (by decide) ?_
      refine v_icmp_ne F 50 dX8_isInBounds_43 (by decide) (G 4 5).toInt 1 rfl rfl (fun c9 => ?_) (fun c9 => ?_)
      · refine g_iconst F 0 dX8_isInBounds_50 (by decide) ?_
        refine g_istore_n F [(2, .int 0), (0, .ref (a 4)), (1, .ref (zf 17))] dX8_isInBounds_51 rfl (by decide) rfl ?_
        refine g_iload_n F 0 dX8_isInBounds_52 rfl rfl ?_
        refine v_if_eq F 86 dX8_isInBounds_53 (by decide) 0 rfl (fun c10 => ?_) (fun c10 => absurd c10 (by decide))
        refine g_iconst F 1 dX8_isInBounds_86 (by decide) ?_
        refine g_goto F 91 dX8_isInBounds_87 (by decide) ?_
        exact u_zret F hA hQ hr rfl () (⟨(by decide), (by show ((1 = 1 ∧ (1 ≤ (G 1 5).toInt ∧ (G 1 5).toInt ≤ 12 ∧ ((G 4 5).toInt ≠ 1 ∨ ((G 4 6).toInt ≤ (G 1 5).toInt ∧ (G 1 5).toInt ≤ (G 4 6).toInt + 3)))) ∨ (1 = 0 ∧ ¬ (1 ≤ (G 1 5).toInt ∧ (G 1 5).toInt ≤ 12 ∧ ((G 4 5).toInt ≠ 1 ∨ ((G 4 6).toInt ≤ (G 1 5).toInt ∧ (G 1 5).toInt ≤ (G 4 6).toInt + 3))))); (first | omega | (simp only [Int32.reduceToInt, true_and, and_true, ne_eq, not_true_eq_false, false_and, or_false, false_or, true_or, or_true, false_implies] <;> omega)))⟩) rfl rfl dX8_isInBounds_91
      · refine g_iconst F 1 dX8_isInBounds_46 (by decide) ?_
        refine g_goto F 51 dX8_isInBounds_47 (by decide) ?_
        refine g_istore_n F [(2, .int 1), (0, .ref (a 4)), (1, .ref (zf 17))] dX8_isInBounds_51 rfl (by decide) rfl ?_
        refine g_iload_n F 0 dX8_isInBounds_52 rfl rfl ?_
        refine v_if_eq F 86 dX8_isInBounds_53 (by decide) 1 rfl (fun c11 => absurd c11 (by decide)) (fun c11 => ?_)
        refine g_aload_n F 1 dX8_isInBounds_56 rfl rfl ?_
        refine xg_4_0 F i_X8 w_0 dX8_isInBounds_57 ?_
        refine xg_1_5 F i_X10 w_1 dX8_isInBounds_60 (G 1 5) (rfl) ?_
        refine g_aload_n F 1 dX8_isInBounds_63 rfl rfl ?_
        refine xg_4_6 F i_X8 w_5 dX8_isInBounds_64 (G 4 6) (rfl) ?_
        refine v_icmp_lt F 90 dX8_isInBounds_67 (by decide) (G 1 5).toInt (G 4 6).toInt rfl rfl (fun c12 => ?_) (fun c12 => ?_)
        · refine g_iconst F 0 dX8_isInBounds_90 (by decide) ?_
          exact u_zret F hA hQ hr rfl () (⟨(by decide), (by show ((0 = 1 ∧ (1 ≤ (G 1 5).toInt ∧ (G 1 5).toInt ≤ 12 ∧ ((G 4 5).toInt ≠ 1 ∨ ((G 4 6).toInt ≤ (G 1 5).toInt ∧ (G 1 5).toInt ≤ (G 4 6).toInt + 3)))) ∨ (0 = 0 ∧ ¬ (1 ≤ (G 1 5).toInt ∧ (G 1 5).toInt ≤ 12 ∧ ((G 4 5).toInt ≠ 1 ∨ ((G 4 6).toInt ≤ (G 1 5).toInt ∧ (G 1 5).toInt ≤ (G 4 6).toInt + 3))))); (first | omega | (simp only [Int32.reduceToInt, true_and, and_true, ne_eq, not_true_eq_false, false_and, or_false, false_or, true_or, or_true, false_implies] <;> omega)))⟩) rfl rfl dX8_isInBounds_91
        · refine g_aload_n F 1 dX8_isInBounds_70 rfl rfl ?_
          refine xg_4_0 F i_X8 w_0 dX8_isInBounds_71 ?_
          refine xg_1_5 F i_X10 w_1 dX8_isInBounds_74 (G 1 5) (rfl) ?_
          refine g_aload_n F 1 dX8_isInBounds_77 rfl rfl ?_
          refine xg_4_6 F i_X8 w_5 dX8_isInBounds_78 (G 4 6) (rfl) ?_
          refine g_iconst F 3 dX8_isInBounds_81 (by decide) ?_
          refine u_iadd F dX8_isInBounds_82 (G 4 6).toInt 3 rfl rfl (by omega) (by omega) (fun y13 ey13 => ?_)
          refine v_icmp_gt F 90 dX8_isInBounds_83 (by decide) (G 1 5).toInt y13.toInt rfl rfl (fun c14 => ?_) (fun c14 => ?_)
          · refine g_iconst F 0 dX8_isInBounds_90 (by decide) ?_
            exact u_zret F hA hQ hr rfl () (⟨(by decide), (by show ((0 = 1 ∧ (1 ≤ (G 1 5).toInt ∧ (G 1 5).toInt ≤ 12 ∧ ((G 4 5).toInt ≠ 1 ∨ ((G 4 6).toInt ≤ (G 1 5).toInt ∧ (G 1 5).toInt ≤ (G 4 6).toInt + 3)))) ∨ (0 = 0 ∧ ¬ (1 ≤ (G 1 5).toInt ∧ (G 1 5).toInt ≤ 12 ∧ ((G 4 5).toInt ≠ 1 ∨ ((G 4 6).toInt ≤ (G 1 5).toInt ∧ (G 1 5).toInt ≤ (G 4 6).toInt + 3))))); (first | omega | (simp only [Int32.reduceToInt, true_and, and_true, ne_eq, not_true_eq_false, false_and, or_false, false_or, true_or, or_true, false_implies] <;> omega)))⟩) rfl rfl dX8_isInBounds_91
          · refine g_iconst F 1 dX8_isInBounds_86 (by decide) ?_
            refine g_goto F 91 dX8_isInBounds_87 (by decide) ?_
            exact u_zret F hA hQ hr rfl () (⟨(by decide), (by show ((1 = 1 ∧ (1 ≤ (G 1 5).toInt ∧ (G 1 5).toInt ≤ 12 ∧ ((G 4 5).toInt ≠ 1 ∨ ((G 4 6).toInt ≤ (G 1 5).toInt ∧ (G 1 5).toInt ≤ (G 4 6).toInt + 3)))) ∨ (1 = 0 ∧ ¬ (1 ≤ (G 1 5).toInt ∧ (G 1 5).toInt ≤ 12 ∧ ((G 4 5).toInt ≠ 1 ∨ ((G 4 6).toInt ≤ (G 1 5).toInt ∧ (G 1 5).toInt ≤ (G 4 6).toInt + 3))))); (first | omega | (simp only [Int32.reduceToInt, true_and, and_true, ne_eq, not_true_eq_false, false_and, or_false, false_or, true_or, or_true, false_implies] <;> omega)))⟩) rfl rfl dX8_isInBounds_91
    · refine g_iconst F 0 dX8_isInBounds_28 (by decide) ?_
      exact u_zret F hA hQ hr rfl () (⟨(by decide), (by show ((0 = 1 ∧ (1 ≤ (G 1 5).toInt ∧ (G 1 5).toInt ≤ 12 ∧ ((G 4 5).toInt ≠ 1 ∨ ((G 4 6).toInt ≤ (G 1 5).toInt ∧ (G 1 5).toInt ≤ (G 4 6).toInt + 3)))) ∨ (0 = 0 ∧ ¬ (1 ≤ (G 1 5).toInt ∧ (G 1 5).toInt ≤ 12 ∧ ((G 4 5).toInt ≠ 1 ∨ ((G 4 6).toInt ≤ (G 1 5).toInt ∧ (G 1 5).toInt ≤ (G 4 6).toInt + 3))))); (first | omega | (simp only [Int32.reduceToInt, true_and, and_true, ne_eq, not_true_eq_false, false_and, or_false, false_or, true_or, or_true, false_implies] <;> omega)))⟩) rfl rfl dX8_isInBounds_29


set_option maxHeartbeats 4000000 in
set_option maxRecDepth 100000 in
theorem S_X8_takeOfNumbers_c7 (l : Launch) (D : va_G) (K : Nat → ClassId) (a : Nat → Nat) (G : gS) (zf : Nat → Nat) (nb : xNb (G 19)) (ck : ((G 4 2).toInt ≤ 1000)) (rn : ((G 4 5).toInt ≤ 1 ∧ (G 4 4).toInt = 7)) (hI : xI G) (sz : Nat) : KiZ (xZ zf) l yX8_takeOfNumbers wsX8_takeOfNumbers 3 82 D [.ref (a 4), .ref (zf 17)] (xW K a G) (tK K) sz (fun (r : Int32) (G' : gS) => (xI G') ∧ (gu_un xcd [403, 405, 406, 407, 1900] G G') ∧ (0 ≤ r.toInt ∧ r.toInt ≤ 4) ∧ (xNb (G' 19)) ∧ (((G' 4 4).toInt = -1 ∨ (G' 4 5).toInt ≤ 1 ∨ ((G' 4 5).toInt ≤ 2 ∧ ((G' 4 4).toInt = 3 ∨ (G' 4 4).toInt = 4)) ∨ ((G' 4 5).toInt ≤ 4 ∧ (G' 4 4).toInt = 8) ∨ (G' 4 4).toInt = 9)) ∧ (((G' 4 4).toInt = -1 ∨ (G' 4 4).toInt = (G 4 4).toInt)) ∧ (((G' 4 2).toInt ≤ (G 4 2).toInt + 1)) ∧ ((∀ (ts : List hTk) (pl ci : Int), xH (((G 1 3).toInt, pl, (G 1 5).toInt, ci) :: ts) G = if r.toInt = 0 then xH ts G' else hBad r.toInt pl)) ∧ ((r.toInt ≠ 0 ∨ (G 1 3).toInt ≠ 0))) (fun (G' : gS) => (xW K a G')) := by
  unfold KiZ
  refine gz_ofW (cc := cX8_takeOfNumbers) (lv := [(0, .ref (a 4)), (1, .ref (zf 17))]) (by decide) rfl (Nat.le_of_ble_eq_true rfl) rfl ?_
  intro p e s m args below meth c A Q hA hQ hZ F hr hnm
  have hts := F.2.2.2.2.1
  have w_0 : (Cond.fieldLink RX8 9 "QuietCut$ShopReader" "tape" "LQuietCut$Tape;").before args s = true := hts _ (List.mem_of_getElem? (i := 1) rfl)
  have i_X8 : ∀ w ∈ u_ws RX8 TX8 7, w ∈ wsX8_takeOfNumbers := fun _ h => List.mem_cons_of_mem _ (List.mem_append_left _ (List.mem_append_left _ (List.mem_append_right _ h)))
  have w_1 : (Cond.fieldLink RX8 77 "QuietCut$ShopReader" "numbers" "I").before args s = true := hts _ (List.mem_of_getElem? (i := 2) rfl)
  have w_2 : (Cond.fieldLink RX8 114 "QuietCut$Clause" "most" "I").before args s = true := hts _ (List.mem_of_getElem? (i := 3) rfl)
  have w_3 : (Cond.fieldLink RX8 42 "QuietCut$Tape" "kind" "I").before args s = true := hts _ (List.mem_of_getElem? (i := 5) rfl)
  have i_X10 : ∀ w ∈ u_ws RX10 TX10 6, w ∈ wsX8_takeOfNumbers := fun _ h => List.mem_cons_of_mem _ (List.mem_append_left _ (List.mem_append_right _ h))
  have w_4 : (Cond.fieldLink RX8 15 "QuietCut$ShopReader" "target" "LQuietCut$Shop;").before args s = true := hts _ (List.mem_of_getElem? (i := 4) rfl)
  have w_5 : (Cond.fieldLink RX8 80 "QuietCut$Clause" "slot" "I").before args s = true := hts _ (List.mem_of_getElem? (i := 6) rfl)
  have w_6 : (Cond.fieldLink RX8 125 "QuietCut$Tape" "value" "I").before args s = true := hts _ (List.mem_of_getElem? (i := 7) rfl)
  have w_7 : (Cond.fieldLink RX8 128 "QuietCut$ShopReader" "latest" "I").before args s = true := hts _ (List.mem_of_getElem? (i := 8) rfl)
  have b1 : (0 : Int) ≤ (G 4 5).toInt ∧ (G 4 5).toInt ≤ 6 := hI 4 5
  have b2 : ((-1) : Int) ≤ (G 4 4).toInt ∧ (G 4 4).toInt ≤ 12 := hI 4 4
  have b3 : (0 : Int) ≤ (G 4 2).toInt ∧ (G 4 2).toInt ≤ 1001 := hI 4 2
  have b4 : (0 : Int) ≤ (G 4 6).toInt ∧ (G 4 6).toInt ≤ 9999 := hI 4 6
  refine g_aload_n F 1 dX8_takeOfNumbers_0 rfl rfl ?_
  refine uz_call0Vi (k := 0) (n := 0) (b := (zf 17)) (As := []) (st := []) F xZ_st hZ (fun sz => S_X1_manySlot_c7 l D zf sz) (cwV 0 hts gX8_takeOfNumbers_X1_manySlot rfl rfl rfl (by decide +kernel) ⟨Nat.le_of_ble_eq_true rfl, Nat.le_of_ble_eq_true rfl⟩) (hZ.2.2.2.2.2 7 (by decide)).1 rfl (Nat.le_of_ble_eq_true rfl) ⟨Nat.zero_le _, Nat.zero_le _⟩ dX8_takeOfNumbers_1 (fun r5 _ hw6 => ?_)
  have hw6 : r5.toInt = -1 := hw6
  refine g_fold (-1) ((ti_eq rfl (show ((-1) : Int32).toInt = (-1) from rfl)).mpr hw6) ?_
  refine g_iconst F (-1) dX8_takeOfNumbers_4 (by decide) ?_
  refine v_icmp_eq F 12 dX8_takeOfNumbers_5 (by decide) (-1) (-1) rfl rfl (fun c7 => ?_) (fun c7 => absurd c7 (by decide))
  refine g_iconst F 0 dX8_takeOfNumbers_12 (by decide) ?_
  refine g_istore_n F [(2, .int 0), (0, .ref (a 4)), (1, .ref (zf 17))] dX8_takeOfNumbers_13 rfl (by decide) rfl ?_
  refine g_aload_n F 1 dX8_takeOfNumbers_14 rfl rfl ?_
  refine xg_4_0 F i_X8 w_0 dX8_takeOfNumbers_15 ?_
  refine g_bipush F 59 dX8_takeOfNumbers_18 (by decide) ?_
  refine u_callVi (k := 0) (n := 0) (b := a 1) (As := [.int 59]) (st := []) F (fun sz => S_X10_isSign l D K a G 59 59 rfl hI sz) (cwV 1 hts gX8_takeOfNumbers_X10_isSign rfl rfl rfl (by decide +kernel) ⟨Nat.le_of_ble_eq_true rfl, Nat.le_of_ble_eq_true rfl⟩) rfl 1 xc_1 rfl (Nat.le_of_ble_eq_true rfl) ⟨Nat.zero_le _, Nat.zero_le _⟩ dX8_takeOfNumbers_20 (fun r8 _ hw9 => ?_)
  rcases hw9 with ⟨rfl, q11⟩ | ⟨rfl, q12⟩
  · have b13 : (0 : Int) ≤ (G 1 3).toInt ∧ (G 1 3).toInt ≤ 4 := hI 1 3
    have q11 : ((G 1 3).toInt = 3 ∧ (G 1 5).toInt = (59 : Int)) := q11
    refine v_if_eq F 76 dX8_takeOfNumbers_23 (by decide) 1 rfl (fun c14 => absurd c14 (by decide)) (fun c14 => ?_)
    refine g_iload_n F 0 dX8_takeOfNumbers_26 rfl rfl ?_
    refine v_if_eq F 40 dX8_takeOfNumbers_27 (by decide) 0 rfl (fun c15 => ?_) (fun c15 => absurd c15 (by decide))
    refine g_aload_n F 1 dX8_takeOfNumbers_40 rfl rfl ?_
    refine xg_4_5 F i_X8 w_1 dX8_takeOfNumbers_41 (G 4 5) (rfl) ?_
    refine g_aload_n F 2 dX8_takeOfNumbers_44 rfl rfl ?_
    refine uz_getf F (show va_OF "QuietCut$Clause" "most" "I" (.int 1) (zf 17) A s s.heap from (hZ.2.2.2.2.2 7 (by decide)).2.2.2.1) w_2 dX8_takeOfNumbers_45 ?_
    refine v_icmp_ne F 76 dX8_takeOfNumbers_48 (by decide) (G 4 5).toInt 1 rfl rfl (fun c16 => ?_) (fun c16 => ?_)
    · refine g_aload_n F 1 dX8_takeOfNumbers_76 rfl rfl ?_
      refine xg_4_0 F i_X8 w_0 dX8_takeOfNumbers_77 ?_
      refine xg_1_3 F i_X10 w_3 dX8_takeOfNumbers_80 (G 1 3) (rfl) ?_
      refine g_iconst F 2 dX8_takeOfNumbers_83 (by decide) ?_
      refine v_icmp_ne F 102 dX8_takeOfNumbers_84 (by decide) (G 1 3).toInt 2 rfl rfl (fun c17 => ?_) (fun c17 => ?_)
      · refine g_iconst F 1 dX8_takeOfNumbers_102 (by decide) ?_
        exact u_iret F hA hQ hr G (⟨hI, gu_un.rf, (by decide), (nb), (by show ((G 4 4).toInt = -1 ∨ (G 4 5).toInt ≤ 1 ∨ ((G 4 5).toInt ≤ 2 ∧ ((G 4 4).toInt = 3 ∨ (G 4 4).toInt = 4)) ∨ ((G 4 5).toInt ≤ 4 ∧ (G 4 4).toInt = 8) ∨ (G 4 4).toInt = 9); (first | omega | (simp only [Int32.reduceToInt, true_and, and_true, ne_eq, not_true_eq_false, false_and, or_false, false_or, true_or, or_true, false_implies] <;> omega))), (by show ((G 4 4).toInt = -1 ∨ (G 4 4).toInt = (G 4 4).toInt); (first | omega | (simp only [Int32.reduceToInt, true_and, and_true, ne_eq, not_true_eq_false, false_and, or_false, false_or, true_or, or_true, false_implies] <;> omega))), (by show ((G 4 2).toInt ≤ (G 4 2).toInt + 1); (first | omega | (simp only [Int32.reduceToInt, true_and, and_true, ne_eq, not_true_eq_false, false_and, or_false, false_or, true_or, or_true, false_implies] <;> omega))), (by have m9 : hMo 7 = 1 := (by decide); have l9 : hLo 7 = 1 := (by decide); have h9 : hHi 7 = 12 := (by decide); have s9 : hSl 7 = 9 := (by decide); exact xH_bad (f := 1) (by decide) (by decide) (fun ts pl ci => by rw [show (G 4 4).toInt = 7 by omega]; exact hO_n1 (by decide) (by decide) (by show ¬ (_ ∧ _ ∧ _); omega) (by omega))), (by show (1 ≠ 0 ∨ (G 1 3).toInt ≠ 0); (first | omega | (simp only [Int32.reduceToInt, true_and, and_true, ne_eq, not_true_eq_false, false_and, or_false, false_or, true_or, or_true, false_implies] <;> omega)))⟩) rfl rfl dX8_takeOfNumbers_103
      · refine g_iload_n F 0 dX8_takeOfNumbers_87 rfl rfl ?_
        refine v_if_ne F 104 dX8_takeOfNumbers_88 (by decide) 0 rfl (fun c18 => absurd c18 (by decide)) (fun c18 => ?_)
        refine g_aload_n F 1 dX8_takeOfNumbers_91 rfl rfl ?_
        refine xg_4_5 F i_X8 w_1 dX8_takeOfNumbers_92 (G 4 5) (rfl) ?_
        refine g_aload_n F 2 dX8_takeOfNumbers_95 rfl rfl ?_
        refine uz_getf F (show va_OF "QuietCut$Clause" "most" "I" (.int 1) (zf 17) A s s.heap from (hZ.2.2.2.2.2 7 (by decide)).2.2.2.1) w_2 dX8_takeOfNumbers_96 ?_
        refine v_icmp_ne F 104 dX8_takeOfNumbers_99 (by decide) (G 4 5).toInt 1 rfl rfl (fun c19 => ?_) (fun c19 => ?_)
        · refine g_aload_n F 1 dX8_takeOfNumbers_104 rfl rfl ?_
          refine g_aload_n F 2 dX8_takeOfNumbers_105 rfl rfl ?_
          refine uz_callVi (k := 0) (n := 0) (b := a 4) (As := [.ref (zf 17)]) (st := []) F xZ_st hZ (fun sz => S_X8_isInBounds_c7 l D K a G zf  hI sz) (cwV 1 hts gX8_takeOfNumbers_X8_isInBounds rfl rfl rfl (by decide +kernel) ⟨Nat.le_of_ble_eq_true rfl, Nat.le_of_ble_eq_true rfl⟩) rfl 4 xc_4 rfl (Nat.le_of_ble_eq_true rfl) ⟨Nat.zero_le _, Nat.zero_le _⟩ dX8_takeOfNumbers_106 (fun r20 _ hw21 => ?_)
          have q23 : ((r20.toInt = 1 ∧ (1 ≤ (G 1 5).toInt ∧ (G 1 5).toInt ≤ 12 ∧ ((G 4 5).toInt ≠ 1 ∨ ((G 4 6).toInt ≤ (G 1 5).toInt ∧ (G 1 5).toInt ≤ (G 4 6).toInt + 3)))) ∨ (r20.toInt = 0 ∧ ¬ (1 ≤ (G 1 5).toInt ∧ (G 1 5).toInt ≤ 12 ∧ ((G 4 5).toInt ≠ 1 ∨ ((G 4 6).toInt ≤ (G 1 5).toInt ∧ (G 1 5).toInt ≤ (G 4 6).toInt + 3))))) := hw21.2
          have rg24 := hw21.1
          clear hw21
          refine v_if_ne F 114 dX8_takeOfNumbers_109 (by decide) r20.toInt rfl (fun c25 => ?_) (fun c25 => ?_)
          · refine g_aload_n F 1 dX8_takeOfNumbers_114 rfl rfl ?_
            refine xg_4_5 F i_X8 w_1 dX8_takeOfNumbers_115 (G 4 5) (rfl) ?_
            refine g_aload_n F 2 dX8_takeOfNumbers_118 rfl rfl ?_
            refine uz_getf F (show va_OF "QuietCut$Clause" "most" "I" (.int 1) (zf 17) A s s.heap from (hZ.2.2.2.2.2 7 (by decide)).2.2.2.1) w_2 dX8_takeOfNumbers_119 ?_
            refine v_icmp_ne F 127 dX8_takeOfNumbers_122 (by decide) (G 4 5).toInt 1 rfl rfl (fun c26 => ?_) (fun c26 => ?_)
            · refine g_aload_n F 1 dX8_takeOfNumbers_127 rfl rfl ?_
              refine xg_4_1 F i_X8 w_4 dX8_takeOfNumbers_128 ?_
              refine g_aload_n F 2 dX8_takeOfNumbers_131 rfl rfl ?_
              refine uz_getf F (show va_OF "QuietCut$Clause" "slot" "I" (.int 9) (zf 17) A s s.heap from (hZ.2.2.2.2.2 7 (by decide)).2.2.1) w_5 dX8_takeOfNumbers_132 ?_
              refine g_aload_n F 1 dX8_takeOfNumbers_135 rfl rfl ?_
              refine xg_4_5 F i_X8 w_1 dX8_takeOfNumbers_136 (G 4 5) (rfl) ?_
              refine u_iadd F dX8_takeOfNumbers_139 9 (G 4 5).toInt rfl rfl (by omega) (by omega) (fun y27 ey27 => ?_)
              refine g_aload_n F 1 dX8_takeOfNumbers_140 rfl rfl ?_
              refine xg_4_0 F i_X8 w_0 dX8_takeOfNumbers_141 ?_
              refine xg_1_5 F i_X10 w_6 dX8_takeOfNumbers_144 (G 1 5) (rfl) ?_
              refine u_callVv (k := 0) (n := 0) (b := a 3) (As := [.int y27, .int (G 1 5)]) (st := []) F (fun sz => S_X7_put_3 l D K a G y27 y27.toInt (G 1 5) (G 1 5).toInt rfl (by omega) rfl hI sz) (cwV 2 hts gX8_takeOfNumbers_X7_put rfl rfl rfl (by decide +kernel) ⟨Nat.le_of_ble_eq_true rfl, Nat.le_of_ble_eq_true rfl⟩) rfl 3 xc_3 rfl (Nat.le_of_ble_eq_true rfl) ⟨Nat.zero_le _, Nat.zero_le _⟩ dX8_takeOfNumbers_147 (fun G30 hw29 => ?_)
              have hI31 : xI G30 := hw29.1
              have hU32 : gu_un xcd [1900] G G30 := hw29.2.1
              have hp33 := hw29.2.2
              have q34 : (G30 19 = upd (G 19) (y27.toInt).toNat (G 1 5)) := hp33
              clear hp33 hw29
              refine g_aload_n F 1 dX8_takeOfNumbers_150 rfl rfl ?_
              refine g_dup F dX8_takeOfNumbers_151 rfl ?_
              refine xg_4_5 F i_X8 w_1 dX8_takeOfNumbers_152 (G 4 5) (hU32 4 5 (by decide)) ?_
              refine g_iconst F 1 dX8_takeOfNumbers_155 (by decide) ?_
              refine u_iadd F dX8_takeOfNumbers_156 (G 4 5).toInt 1 rfl rfl (by omega) (by omega) (fun y35 ey35 => ?_)
              refine xp_4_5 F i_X8 w_1 dX8_takeOfNumbers_157 ?_
              refine g_aload_n F 1 dX8_takeOfNumbers_160 rfl rfl ?_
              refine g_aload_n F 1 dX8_takeOfNumbers_161 rfl rfl ?_
              refine xg_4_0 F i_X8 w_0 dX8_takeOfNumbers_162 ?_
              refine xg_1_5 F i_X10 w_6 dX8_takeOfNumbers_165 (G 1 5) (hU32 1 5 (by decide)) ?_
              refine xp_4_6 F i_X8 w_7 dX8_takeOfNumbers_168 ?_
              refine g_iconst F 0 dX8_takeOfNumbers_171 (by decide) ?_
              exact u_iret F hA hQ hr (gu_up (gu_up G30 4 5 y35) 4 6 (G 1 5)) (⟨(gu_I.up (j := 4) (k := 6) (v := (G 1 5)) (gu_I.up (j := 4) (k := 5) (v := y35) hI31 (show (0 : Int) ≤ Int32.toInt y35 by omega) (show Int32.toInt y35 ≤ 6 by omega)) (show (0 : Int) ≤ Int32.toInt (G 1 5) by omega) (show Int32.toInt (G 1 5) ≤ 9999 by omega)), (gu_un.up (j := 4) (k := 6) (v := (G 1 5)) (gu_un.up (j := 4) (k := 5) (v := y35) (gu_un.tr gu_un.rf (gu_un.su hU32 rfl)) (show (406 : Nat) ∈ ([403, 405, 406, 407, 1900] : List Nat) by decide)) (show (407 : Nat) ∈ ([403, 405, 406, 407, 1900] : List Nat) by decide)), (by decide), ((xNb.un (G := G30) (by rw [q34]; rcases (show y27.toInt = 9 by omega) with h9 <;> (rw [h9]; first | exact xNb.put nb (show (1 : Int) ≤ Int32.toInt (G 1 5) by omega) (show Int32.toInt (G 1 5) ≤ 12 by omega))) (show gu_un xcd [406, 407] G30 (gu_up (gu_up G30 4 5 y35) 4 6 (G 1 5)) from (gu_un.up (j := 4) (k := 6) (v := (G 1 5)) (gu_un.up (j := 4) (k := 5) (v := y35) gu_un.rf (show (406 : Nat) ∈ ([406, 407] : List Nat) by decide)) (show (407 : Nat) ∈ ([406, 407] : List Nat) by decide))) rfl)), (by show (((gu_up (gu_up G30 4 5 y35) 4 6 (G 1 5)) 4 4).toInt = -1 ∨ ((gu_up (gu_up G30 4 5 y35) 4 6 (G 1 5)) 4 5).toInt ≤ 1 ∨ (((gu_up (gu_up G30 4 5 y35) 4 6 (G 1 5)) 4 5).toInt ≤ 2 ∧ (((gu_up (gu_up G30 4 5 y35) 4 6 (G 1 5)) 4 4).toInt = 3 ∨ ((gu_up (gu_up G30 4 5 y35) 4 6 (G 1 5)) 4 4).toInt = 4)) ∨ (((gu_up (gu_up G30 4 5 y35) 4 6 (G 1 5)) 4 5).toInt ≤ 4 ∧ ((gu_up (gu_up G30 4 5 y35) 4 6 (G 1 5)) 4 4).toInt = 8) ∨ ((gu_up (gu_up G30 4 5 y35) 4 6 (G 1 5)) 4 4).toInt = 9); have e9_4_4 : (gu_up (gu_up G30 4 5 y35) 4 6 (G 1 5)) 4 4 = (G 4 4) := hU32 4 4 (by decide); have e9_4_5 : (gu_up (gu_up G30 4 5 y35) 4 6 (G 1 5)) 4 5 = y35 := rfl; (try simp only [e9_4_4, e9_4_5, true_and, and_true]) <;> (first | omega | (simp only [Int32.reduceToInt, true_and, and_true, ne_eq, not_true_eq_false, false_and, or_false, false_or, true_or, or_true, false_implies] <;> omega))), (by show (((gu_up (gu_up G30 4 5 y35) 4 6 (G 1 5)) 4 4).toInt = -1 ∨ ((gu_up (gu_up G30 4 5 y35) 4 6 (G 1 5)) 4 4).toInt = (G 4 4).toInt); have e9_4_4 : (gu_up (gu_up G30 4 5 y35) 4 6 (G 1 5)) 4 4 = (G 4 4) := hU32 4 4 (by decide); (try simp only [e9_4_4, true_and, and_true]) <;> (first | omega | (simp only [Int32.reduceToInt, true_and, and_true, ne_eq, not_true_eq_false, false_and, or_false, false_or, true_or, or_true, false_implies] <;> omega))), (by show (((gu_up (gu_up G30 4 5 y35) 4 6 (G 1 5)) 4 2).toInt ≤ (G 4 2).toInt + 1); have e9_4_2 : (gu_up (gu_up G30 4 5 y35) 4 6 (G 1 5)) 4 2 = (G 4 2) := hU32 4 2 (by decide); (try simp only [e9_4_2, true_and, and_true]) <;> (first | omega | (simp only [Int32.reduceToInt, true_and, and_true, ne_eq, not_true_eq_false, false_and, or_false, false_or, true_or, or_true, false_implies] <;> omega))), (by have m9 : hMo 7 = 1 := (by decide); have l9 : hLo 7 = 1 := (by decide); have h9 : hHi 7 = 12 := (by decide); have s9 : hSl 7 = 9 := (by decide); exact xH_nP (c := 7) (by decide) (show (G 4 4).toInt = 7 by omega) (by decide) (by decide) (by omega) (by show ¬ (_ ∨ _ ∨ _); omega) (by omega) (show (gu_up (gu_up G30 4 5 y35) 4 6 (G 1 5)) 4 4 = (G 4 4) from hU32 4 4 (by decide)) (show ((gu_up (gu_up G30 4 5 y35) 4 6 (G 1 5)) 4 5).toInt = (G 4 5).toInt + 1 by rw [show (gu_up (gu_up G30 4 5 y35) 4 6 (G 1 5)) 4 5 = y35 from rfl] <;> first | rfl | omega) (show ((gu_up (gu_up G30 4 5 y35) 4 6 (G 1 5)) 4 6).toInt = (G 1 5).toInt by rw [show (gu_up (gu_up G30 4 5 y35) 4 6 (G 1 5)) 4 6 = (G 1 5) from rfl] <;> first | rfl | omega) (show (gu_up (gu_up G30 4 5 y35) 4 6 (G 1 5)) 4 2 = (G 4 2) from hU32 4 2 (by decide)) (show (gu_up (gu_up G30 4 5 y35) 4 6 (G 1 5)) 4 3 = (G 4 3) from hU32 4 3 (by decide)) (x := (G 1 5)) rfl (q := y27.toInt) (by omega) (show (gu_up (gu_up G30 4 5 y35) 4 6 (G 1 5)) 19 = upd (G 19) (y27.toInt).toNat (G 1 5) from (show (gu_up (gu_up G30 4 5 y35) 4 6 (G 1 5)) 19 = G30 19 from funext fun k_ => (show gu_un xcd [406, 407] G30 (gu_up (gu_up G30 4 5 y35) 4 6 (G 1 5)) from (gu_un.up (j := 4) (k := 6) (v := (G 1 5)) (gu_un.up (j := 4) (k := 5) (v := y35) gu_un.rf (show (406 : Nat) ∈ ([406, 407] : List Nat) by decide)) (show (407 : Nat) ∈ ([406, 407] : List Nat) by decide))) 19 k_ (by simp [xcd])).trans q34) (xSg_un (show gu_un xcd [406, 407, 1900] G (gu_up (gu_up G30 4 5 y35) 4 6 (G 1 5)) from (gu_un.up (j := 4) (k := 6) (v := (G 1 5)) (gu_un.up (j := 4) (k := 5) (v := y35) (gu_un.tr gu_un.rf (gu_un.su hU32 rfl)) (show (406 : Nat) ∈ ([406, 407, 1900] : List Nat) by decide)) (show (407 : Nat) ∈ ([406, 407, 1900] : List Nat) by decide))) rfl rfl rfl)), (by show (0 ≠ 0 ∨ (G 1 3).toInt ≠ 0); (first | omega | (simp only [Int32.reduceToInt, true_and, and_true, ne_eq, not_true_eq_false, false_and, or_false, false_or, true_or, or_true, false_implies] <;> omega)))⟩) rfl rfl dX8_takeOfNumbers_172
            · refine g_iconst F 4 dX8_takeOfNumbers_125 (by decide) ?_
              exact u_iret F hA hQ hr G (⟨hI, gu_un.rf, (by decide), (nb), (by show ((G 4 4).toInt = -1 ∨ (G 4 5).toInt ≤ 1 ∨ ((G 4 5).toInt ≤ 2 ∧ ((G 4 4).toInt = 3 ∨ (G 4 4).toInt = 4)) ∨ ((G 4 5).toInt ≤ 4 ∧ (G 4 4).toInt = 8) ∨ (G 4 4).toInt = 9); (first | omega | (simp only [Int32.reduceToInt, true_and, and_true, ne_eq, not_true_eq_false, false_and, or_false, false_or, true_or, or_true, false_implies] <;> omega))), (by show ((G 4 4).toInt = -1 ∨ (G 4 4).toInt = (G 4 4).toInt); (first | omega | (simp only [Int32.reduceToInt, true_and, and_true, ne_eq, not_true_eq_false, false_and, or_false, false_or, true_or, or_true, false_implies] <;> omega))), (by show ((G 4 2).toInt ≤ (G 4 2).toInt + 1); (first | omega | (simp only [Int32.reduceToInt, true_and, and_true, ne_eq, not_true_eq_false, false_and, or_false, false_or, true_or, or_true, false_implies] <;> omega))), (by have m9 : hMo 7 = 1 := (by decide); have l9 : hLo 7 = 1 := (by decide); have h9 : hHi 7 = 12 := (by decide); have s9 : hSl 7 = 9 := (by decide); exact xH_bad (f := 4) (by decide) (by decide) (fun ts pl ci => by rw [show (G 4 4).toInt = 7 by omega]; exact hO_n4 (by decide) (by decide) (by omega) (by omega) (by show ¬ (_ ∨ _ ∨ _); omega) (by omega))), (by show (4 ≠ 0 ∨ (G 1 3).toInt ≠ 0); (first | omega | (simp only [Int32.reduceToInt, true_and, and_true, ne_eq, not_true_eq_false, false_and, or_false, false_or, true_or, or_true, false_implies] <;> omega)))⟩) rfl rfl dX8_takeOfNumbers_126
          · refine g_iconst F 2 dX8_takeOfNumbers_112 (by decide) ?_
            exact u_iret F hA hQ hr G (⟨hI, gu_un.rf, (by decide), (nb), (by show ((G 4 4).toInt = -1 ∨ (G 4 5).toInt ≤ 1 ∨ ((G 4 5).toInt ≤ 2 ∧ ((G 4 4).toInt = 3 ∨ (G 4 4).toInt = 4)) ∨ ((G 4 5).toInt ≤ 4 ∧ (G 4 4).toInt = 8) ∨ (G 4 4).toInt = 9); (first | omega | (simp only [Int32.reduceToInt, true_and, and_true, ne_eq, not_true_eq_false, false_and, or_false, false_or, true_or, or_true, false_implies] <;> omega))), (by show ((G 4 4).toInt = -1 ∨ (G 4 4).toInt = (G 4 4).toInt); (first | omega | (simp only [Int32.reduceToInt, true_and, and_true, ne_eq, not_true_eq_false, false_and, or_false, false_or, true_or, or_true, false_implies] <;> omega))), (by show ((G 4 2).toInt ≤ (G 4 2).toInt + 1); (first | omega | (simp only [Int32.reduceToInt, true_and, and_true, ne_eq, not_true_eq_false, false_and, or_false, false_or, true_or, or_true, false_implies] <;> omega))), (by have m9 : hMo 7 = 1 := (by decide); have l9 : hLo 7 = 1 := (by decide); have h9 : hHi 7 = 12 := (by decide); have s9 : hSl 7 = 9 := (by decide); exact xH_bad (f := 2) (by decide) (by decide) (fun ts pl ci => by rw [show (G 4 4).toInt = 7 by omega]; exact hO_n2 (by decide) (by decide) (by omega) (by omega) (by show _ ∨ _ ∨ _; omega))), (by show (2 ≠ 0 ∨ (G 1 3).toInt ≠ 0); (first | omega | (simp only [Int32.reduceToInt, true_and, and_true, ne_eq, not_true_eq_false, false_and, or_false, false_or, true_or, or_true, false_implies] <;> omega)))⟩) rfl rfl dX8_takeOfNumbers_113
        · refine g_iconst F 1 dX8_takeOfNumbers_102 (by decide) ?_
          exact u_iret F hA hQ hr G (⟨hI, gu_un.rf, (by decide), (nb), (by show ((G 4 4).toInt = -1 ∨ (G 4 5).toInt ≤ 1 ∨ ((G 4 5).toInt ≤ 2 ∧ ((G 4 4).toInt = 3 ∨ (G 4 4).toInt = 4)) ∨ ((G 4 5).toInt ≤ 4 ∧ (G 4 4).toInt = 8) ∨ (G 4 4).toInt = 9); (first | omega | (simp only [Int32.reduceToInt, true_and, and_true, ne_eq, not_true_eq_false, false_and, or_false, false_or, true_or, or_true, false_implies] <;> omega))), (by show ((G 4 4).toInt = -1 ∨ (G 4 4).toInt = (G 4 4).toInt); (first | omega | (simp only [Int32.reduceToInt, true_and, and_true, ne_eq, not_true_eq_false, false_and, or_false, false_or, true_or, or_true, false_implies] <;> omega))), (by show ((G 4 2).toInt ≤ (G 4 2).toInt + 1); (first | omega | (simp only [Int32.reduceToInt, true_and, and_true, ne_eq, not_true_eq_false, false_and, or_false, false_or, true_or, or_true, false_implies] <;> omega))), (by have m9 : hMo 7 = 1 := (by decide); have l9 : hLo 7 = 1 := (by decide); have h9 : hHi 7 = 12 := (by decide); have s9 : hSl 7 = 9 := (by decide); exact xH_bad (f := 1) (by decide) (by decide) (fun ts pl ci => by rw [show (G 4 4).toInt = 7 by omega]; exact hO_n1 (by decide) (by decide) (by show ¬ (_ ∧ _ ∧ _); omega) (by omega))), (by show (1 ≠ 0 ∨ (G 1 3).toInt ≠ 0); (first | omega | (simp only [Int32.reduceToInt, true_and, and_true, ne_eq, not_true_eq_false, false_and, or_false, false_or, true_or, or_true, false_implies] <;> omega)))⟩) rfl rfl dX8_takeOfNumbers_103
    · refine g_iload_n F 0 dX8_takeOfNumbers_51 rfl rfl ?_
      refine v_if_eq F 70 dX8_takeOfNumbers_52 (by decide) 0 rfl (fun c36 => ?_) (fun c36 => absurd c36 (by decide))
      refine g_aload_n F 1 dX8_takeOfNumbers_70 rfl rfl ?_
      refine u_callVv (k := 0) (n := 0) (b := a 4) (As := []) (st := []) F (fun sz => S_X8_closeClause l D K a G  (by (first | omega | (simp only [Int32.reduceToInt, true_and, and_true, ne_eq, not_true_eq_false, false_and, or_false, false_or, true_or, or_true, false_implies] <;> omega))) hI sz) (cwV 0 hts gX8_takeOfNumbers_X8_closeClause rfl rfl rfl (by decide +kernel) ⟨Nat.le_of_ble_eq_true rfl, Nat.le_of_ble_eq_true rfl⟩) rfl 4 xc_4 rfl (Nat.le_of_ble_eq_true rfl) ⟨Nat.zero_le _, Nat.zero_le _⟩ dX8_takeOfNumbers_71 (fun G39 hw38 => ?_)
      have hI40 : xI G39 := hw38.1
      have hU41 : gu_un xcd [403, 405] G G39 := hw38.2.1
      have hp42 := hw38.2.2
      have b43 : ((-1) : Int) ≤ (G39 4 4).toInt ∧ (G39 4 4).toInt ≤ 12 := hI40 4 4
      have q44 : ((G39 4 4).toInt = -1) := hp42.1
      have b45 : (0 : Int) ≤ (G39 4 2).toInt ∧ (G39 4 2).toInt ≤ 1001 := hI40 4 2
      have q46 : ((G39 4 2).toInt = (G 4 2).toInt + 1) := hp42.2
      clear hp42 hw38
      refine g_iconst F 0 dX8_takeOfNumbers_74 (by decide) ?_
      exact u_iret F hA hQ hr G39 (⟨hI40, (gu_un.tr gu_un.rf (gu_un.su hU41 rfl)), (by decide), ((xNb.un nb (show gu_un xcd [403, 405] G G39 from (gu_un.tr gu_un.rf (gu_un.su hU41 rfl))) rfl)), (by show ((G39 4 4).toInt = -1 ∨ (G39 4 5).toInt ≤ 1 ∨ ((G39 4 5).toInt ≤ 2 ∧ ((G39 4 4).toInt = 3 ∨ (G39 4 4).toInt = 4)) ∨ ((G39 4 5).toInt ≤ 4 ∧ (G39 4 4).toInt = 8) ∨ (G39 4 4).toInt = 9); have e9_4_5 : G39 4 5 = (G 4 5) := hU41 4 5 (by decide); (try simp only [e9_4_5, true_and, and_true]) <;> (first | omega | (simp only [Int32.reduceToInt, true_and, and_true, ne_eq, not_true_eq_false, false_and, or_false, false_or, true_or, or_true, false_implies] <;> omega))), (by show ((G39 4 4).toInt = -1 ∨ (G39 4 4).toInt = (G 4 4).toInt); (first | omega | (simp only [Int32.reduceToInt, true_and, and_true, ne_eq, not_true_eq_false, false_and, or_false, false_or, true_or, or_true, false_implies] <;> omega))), (by show ((G39 4 2).toInt ≤ (G 4 2).toInt + 1); (first | omega | (simp only [Int32.reduceToInt, true_and, and_true, ne_eq, not_true_eq_false, false_and, or_false, false_or, true_or, or_true, false_implies] <;> omega))), (by have m9 : hMo 7 = 1 := (by decide); have l9 : hLo 7 = 1 := (by decide); have h9 : hHi 7 = 12 := (by decide); have s9 : hSl 7 = 9 := (by decide); exact xH_nE (c := 7) (by decide) (show (G 4 4).toInt = 7 by omega) (by decide) (by decide) ⟨by omega, by omega, by omega⟩ (show (G39 4 4).toInt = -1 by rw [show G39 4 4 = (G39 4 4) from rfl] <;> first | rfl | omega) (show G39 4 5 = (G 4 5) from hU41 4 5 (by decide)) (show G39 4 6 = (G 4 6) from hU41 4 6 (by decide)) (show (G39 4 2).toInt = (G 4 2).toInt + 1 by rw [show G39 4 2 = (G39 4 2) from rfl] <;> first | rfl | omega) (show G39 4 3 = (G 4 3) from hU41 4 3 (by decide)) (by rw [if_neg (by decide), if_neg (by decide)]; exact (show G39 19 = G 19 from funext fun k_ => hU41 19 k_ (show (1900 : Nat) ∉ ([403, 405] : List Nat) by decide))) (xSg_un (show gu_un xcd [403, 405] G G39 from (gu_un.tr gu_un.rf (gu_un.su hU41 rfl))) rfl rfl rfl)), (by show (0 ≠ 0 ∨ (G 1 3).toInt ≠ 0); (first | omega | (simp only [Int32.reduceToInt, true_and, and_true, ne_eq, not_true_eq_false, false_and, or_false, false_or, true_or, or_true, false_implies] <;> omega)))⟩) rfl rfl dX8_takeOfNumbers_75
  · have b47 : (0 : Int) ≤ (G 1 3).toInt ∧ (G 1 3).toInt ≤ 4 := hI 1 3
    have q12 : ((G 1 3).toInt ≠ 3 ∨ (G 1 5).toInt ≠ (59 : Int)) := q12
    refine v_if_eq F 76 dX8_takeOfNumbers_23 (by decide) 0 rfl (fun c48 => ?_) (fun c48 => absurd c48 (by decide))
    refine g_aload_n F 1 dX8_takeOfNumbers_76 rfl rfl ?_
    refine xg_4_0 F i_X8 w_0 dX8_takeOfNumbers_77 ?_
    refine xg_1_3 F i_X10 w_3 dX8_takeOfNumbers_80 (G 1 3) (rfl) ?_
    refine g_iconst F 2 dX8_takeOfNumbers_83 (by decide) ?_
    refine v_icmp_ne F 102 dX8_takeOfNumbers_84 (by decide) (G 1 3).toInt 2 rfl rfl (fun c49 => ?_) (fun c49 => ?_)
    · refine g_iconst F 1 dX8_takeOfNumbers_102 (by decide) ?_
      exact u_iret F hA hQ hr G (⟨hI, gu_un.rf, (by decide), (nb), (by show ((G 4 4).toInt = -1 ∨ (G 4 5).toInt ≤ 1 ∨ ((G 4 5).toInt ≤ 2 ∧ ((G 4 4).toInt = 3 ∨ (G 4 4).toInt = 4)) ∨ ((G 4 5).toInt ≤ 4 ∧ (G 4 4).toInt = 8) ∨ (G 4 4).toInt = 9); (first | omega | (simp only [Int32.reduceToInt, true_and, and_true, ne_eq, not_true_eq_false, false_and, or_false, false_or, true_or, or_true, false_implies] <;> omega))), (by show ((G 4 4).toInt = -1 ∨ (G 4 4).toInt = (G 4 4).toInt); (first | omega | (simp only [Int32.reduceToInt, true_and, and_true, ne_eq, not_true_eq_false, false_and, or_false, false_or, true_or, or_true, false_implies] <;> omega))), (by show ((G 4 2).toInt ≤ (G 4 2).toInt + 1); (first | omega | (simp only [Int32.reduceToInt, true_and, and_true, ne_eq, not_true_eq_false, false_and, or_false, false_or, true_or, or_true, false_implies] <;> omega))), (by have m9 : hMo 7 = 1 := (by decide); have l9 : hLo 7 = 1 := (by decide); have h9 : hHi 7 = 12 := (by decide); have s9 : hSl 7 = 9 := (by decide); exact xH_bad (f := 1) (by decide) (by decide) (fun ts pl ci => by rw [show (G 4 4).toInt = 7 by omega]; exact hO_n1 (by decide) (by decide) (by show ¬ (_ ∧ _ ∧ _); omega) (by omega))), (by show (1 ≠ 0 ∨ (G 1 3).toInt ≠ 0); (first | omega | (simp only [Int32.reduceToInt, true_and, and_true, ne_eq, not_true_eq_false, false_and, or_false, false_or, true_or, or_true, false_implies] <;> omega)))⟩) rfl rfl dX8_takeOfNumbers_103
    · refine g_iload_n F 0 dX8_takeOfNumbers_87 rfl rfl ?_
      refine v_if_ne F 104 dX8_takeOfNumbers_88 (by decide) 0 rfl (fun c50 => absurd c50 (by decide)) (fun c50 => ?_)
      refine g_aload_n F 1 dX8_takeOfNumbers_91 rfl rfl ?_
      refine xg_4_5 F i_X8 w_1 dX8_takeOfNumbers_92 (G 4 5) (rfl) ?_
      refine g_aload_n F 2 dX8_takeOfNumbers_95 rfl rfl ?_
      refine uz_getf F (show va_OF "QuietCut$Clause" "most" "I" (.int 1) (zf 17) A s s.heap from (hZ.2.2.2.2.2 7 (by decide)).2.2.2.1) w_2 dX8_takeOfNumbers_96 ?_
      refine v_icmp_ne F 104 dX8_takeOfNumbers_99 (by decide) (G 4 5).toInt 1 rfl rfl (fun c51 => ?_) (fun c51 => ?_)
      · refine g_aload_n F 1 dX8_takeOfNumbers_104 rfl rfl ?_
        refine g_aload_n F 2 dX8_takeOfNumbers_105 rfl rfl ?_
        refine uz_callVi (k := 0) (n := 0) (b := a 4) (As := [.ref (zf 17)]) (st := []) F xZ_st hZ (fun sz => S_X8_isInBounds_c7 l D K a G zf  hI sz) (cwV 1 hts gX8_takeOfNumbers_X8_isInBounds rfl rfl rfl (by decide +kernel) ⟨Nat.le_of_ble_eq_true rfl, Nat.le_of_ble_eq_true rfl⟩) rfl 4 xc_4 rfl (Nat.le_of_ble_eq_true rfl) ⟨Nat.zero_le _, Nat.zero_le _⟩ dX8_takeOfNumbers_106 (fun r52 _ hw53 => ?_)
        have q55 : ((r52.toInt = 1 ∧ (1 ≤ (G 1 5).toInt ∧ (G 1 5).toInt ≤ 12 ∧ ((G 4 5).toInt ≠ 1 ∨ ((G 4 6).toInt ≤ (G 1 5).toInt ∧ (G 1 5).toInt ≤ (G 4 6).toInt + 3)))) ∨ (r52.toInt = 0 ∧ ¬ (1 ≤ (G 1 5).toInt ∧ (G 1 5).toInt ≤ 12 ∧ ((G 4 5).toInt ≠ 1 ∨ ((G 4 6).toInt ≤ (G 1 5).toInt ∧ (G 1 5).toInt ≤ (G 4 6).toInt + 3))))) := hw53.2
        have rg56 := hw53.1
        clear hw53
        refine v_if_ne F 114 dX8_takeOfNumbers_109 (by decide) r52.toInt rfl (fun c57 => ?_) (fun c57 => ?_)
        · refine g_aload_n F 1 dX8_takeOfNumbers_114 rfl rfl ?_
          refine xg_4_5 F i_X8 w_1 dX8_takeOfNumbers_115 (G 4 5) (rfl) ?_
          refine g_aload_n F 2 dX8_takeOfNumbers_118 rfl rfl ?_
          refine uz_getf F (show va_OF "QuietCut$Clause" "most" "I" (.int 1) (zf 17) A s s.heap from (hZ.2.2.2.2.2 7 (by decide)).2.2.2.1) w_2 dX8_takeOfNumbers_119 ?_
          refine v_icmp_ne F 127 dX8_takeOfNumbers_122 (by decide) (G 4 5).toInt 1 rfl rfl (fun c58 => ?_) (fun c58 => ?_)
          · refine g_aload_n F 1 dX8_takeOfNumbers_127 rfl rfl ?_
            refine xg_4_1 F i_X8 w_4 dX8_takeOfNumbers_128 ?_
            refine g_aload_n F 2 dX8_takeOfNumbers_131 rfl rfl ?_
            refine uz_getf F (show va_OF "QuietCut$Clause" "slot" "I" (.int 9) (zf 17) A s s.heap from (hZ.2.2.2.2.2 7 (by decide)).2.2.1) w_5 dX8_takeOfNumbers_132 ?_
            refine g_aload_n F 1 dX8_takeOfNumbers_135 rfl rfl ?_
            refine xg_4_5 F i_X8 w_1 dX8_takeOfNumbers_136 (G 4 5) (rfl) ?_
            refine u_iadd F dX8_takeOfNumbers_139 9 (G 4 5).toInt rfl rfl (by omega) (by omega) (fun y59 ey59 => ?_)
            refine g_aload_n F 1 dX8_takeOfNumbers_140 rfl rfl ?_
            refine xg_4_0 F i_X8 w_0 dX8_takeOfNumbers_141 ?_
            refine xg_1_5 F i_X10 w_6 dX8_takeOfNumbers_144 (G 1 5) (rfl) ?_
            refine u_callVv (k := 0) (n := 0) (b := a 3) (As := [.int y59, .int (G 1 5)]) (st := []) F (fun sz => S_X7_put_3 l D K a G y59 y59.toInt (G 1 5) (G 1 5).toInt rfl (by omega) rfl hI sz) (cwV 2 hts gX8_takeOfNumbers_X7_put rfl rfl rfl (by decide +kernel) ⟨Nat.le_of_ble_eq_true rfl, Nat.le_of_ble_eq_true rfl⟩) rfl 3 xc_3 rfl (Nat.le_of_ble_eq_true rfl) ⟨Nat.zero_le _, Nat.zero_le _⟩ dX8_takeOfNumbers_147 (fun G62 hw61 => ?_)
            have hI63 : xI G62 := hw61.1
            have hU64 : gu_un xcd [1900] G G62 := hw61.2.1
            have hp65 := hw61.2.2
            have q66 : (G62 19 = upd (G 19) (y59.toInt).toNat (G 1 5)) := hp65
            clear hp65 hw61
            refine g_aload_n F 1 dX8_takeOfNumbers_150 rfl rfl ?_
            refine g_dup F dX8_takeOfNumbers_151 rfl ?_
            refine xg_4_5 F i_X8 w_1 dX8_takeOfNumbers_152 (G 4 5) (hU64 4 5 (by decide)) ?_
            refine g_iconst F 1 dX8_takeOfNumbers_155 (by decide) ?_
            refine u_iadd F dX8_takeOfNumbers_156 (G 4 5).toInt 1 rfl rfl (by omega) (by omega) (fun y67 ey67 => ?_)
            refine xp_4_5 F i_X8 w_1 dX8_takeOfNumbers_157 ?_
            refine g_aload_n F 1 dX8_takeOfNumbers_160 rfl rfl ?_
            refine g_aload_n F 1 dX8_takeOfNumbers_161 rfl rfl ?_
            refine xg_4_0 F i_X8 w_0 dX8_takeOfNumbers_162 ?_
            refine xg_1_5 F i_X10 w_6 dX8_takeOfNumbers_165 (G 1 5) (hU64 1 5 (by decide)) ?_
            refine xp_4_6 F i_X8 w_7 dX8_takeOfNumbers_168 ?_
            refine g_iconst F 0 dX8_takeOfNumbers_171 (by decide) ?_
            exact u_iret F hA hQ hr (gu_up (gu_up G62 4 5 y67) 4 6 (G 1 5)) (⟨(gu_I.up (j := 4) (k := 6) (v := (G 1 5)) (gu_I.up (j := 4) (k := 5) (v := y67) hI63 (show (0 : Int) ≤ Int32.toInt y67 by omega) (show Int32.toInt y67 ≤ 6 by omega)) (show (0 : Int) ≤ Int32.toInt (G 1 5) by omega) (show Int32.toInt (G 1 5) ≤ 9999 by omega)), (gu_un.up (j := 4) (k := 6) (v := (G 1 5)) (gu_un.up (j := 4) (k := 5) (v := y67) (gu_un.tr gu_un.rf (gu_un.su hU64 rfl)) (show (406 : Nat) ∈ ([403, 405, 406, 407, 1900] : List Nat) by decide)) (show (407 : Nat) ∈ ([403, 405, 406, 407, 1900] : List Nat) by decide)), (by decide), ((xNb.un (G := G62) (by rw [q66]; rcases (show y59.toInt = 9 by omega) with h9 <;> (rw [h9]; first | exact xNb.put nb (show (1 : Int) ≤ Int32.toInt (G 1 5) by omega) (show Int32.toInt (G 1 5) ≤ 12 by omega))) (show gu_un xcd [406, 407] G62 (gu_up (gu_up G62 4 5 y67) 4 6 (G 1 5)) from (gu_un.up (j := 4) (k := 6) (v := (G 1 5)) (gu_un.up (j := 4) (k := 5) (v := y67) gu_un.rf (show (406 : Nat) ∈ ([406, 407] : List Nat) by decide)) (show (407 : Nat) ∈ ([406, 407] : List Nat) by decide))) rfl)), (by show (((gu_up (gu_up G62 4 5 y67) 4 6 (G 1 5)) 4 4).toInt = -1 ∨ ((gu_up (gu_up G62 4 5 y67) 4 6 (G 1 5)) 4 5).toInt ≤ 1 ∨ (((gu_up (gu_up G62 4 5 y67) 4 6 (G 1 5)) 4 5).toInt ≤ 2 ∧ (((gu_up (gu_up G62 4 5 y67) 4 6 (G 1 5)) 4 4).toInt = 3 ∨ ((gu_up (gu_up G62 4 5 y67) 4 6 (G 1 5)) 4 4).toInt = 4)) ∨ (((gu_up (gu_up G62 4 5 y67) 4 6 (G 1 5)) 4 5).toInt ≤ 4 ∧ ((gu_up (gu_up G62 4 5 y67) 4 6 (G 1 5)) 4 4).toInt = 8) ∨ ((gu_up (gu_up G62 4 5 y67) 4 6 (G 1 5)) 4 4).toInt = 9); have e9_4_4 : (gu_up (gu_up G62 4 5 y67) 4 6 (G 1 5)) 4 4 = (G 4 4) := hU64 4 4 (by decide); have e9_4_5 : (gu_up (gu_up G62 4 5 y67) 4 6 (G 1 5)) 4 5 = y67 := rfl; (try simp only [e9_4_4, e9_4_5, true_and, and_true]) <;> (first | omega | (simp only [Int32.reduceToInt, true_and, and_true, ne_eq, not_true_eq_false, false_and, or_false, false_or, true_or, or_true, false_implies] <;> omega))), (by show (((gu_up (gu_up G62 4 5 y67) 4 6 (G 1 5)) 4 4).toInt = -1 ∨ ((gu_up (gu_up G62 4 5 y67) 4 6 (G 1 5)) 4 4).toInt = (G 4 4).toInt); have e9_4_4 : (gu_up (gu_up G62 4 5 y67) 4 6 (G 1 5)) 4 4 = (G 4 4) := hU64 4 4 (by decide); (try simp only [e9_4_4, true_and, and_true]) <;> (first | omega | (simp only [Int32.reduceToInt, true_and, and_true, ne_eq, not_true_eq_false, false_and, or_false, false_or, true_or, or_true, false_implies] <;> omega))), (by show (((gu_up (gu_up G62 4 5 y67) 4 6 (G 1 5)) 4 2).toInt ≤ (G 4 2).toInt + 1); have e9_4_2 : (gu_up (gu_up G62 4 5 y67) 4 6 (G 1 5)) 4 2 = (G 4 2) := hU64 4 2 (by decide); (try simp only [e9_4_2, true_and, and_true]) <;> (first | omega | (simp only [Int32.reduceToInt, true_and, and_true, ne_eq, not_true_eq_false, false_and, or_false, false_or, true_or, or_true, false_implies] <;> omega))), (by have m9 : hMo 7 = 1 := (by decide); have l9 : hLo 7 = 1 := (by decide); have h9 : hHi 7 = 12 := (by decide); have s9 : hSl 7 = 9 := (by decide); exact xH_nP (c := 7) (by decide) (show (G 4 4).toInt = 7 by omega) (by decide) (by decide) (by omega) (by show ¬ (_ ∨ _ ∨ _); omega) (by omega) (show (gu_up (gu_up G62 4 5 y67) 4 6 (G 1 5)) 4 4 = (G 4 4) from hU64 4 4 (by decide)) (show ((gu_up (gu_up G62 4 5 y67) 4 6 (G 1 5)) 4 5).toInt = (G 4 5).toInt + 1 by rw [show (gu_up (gu_up G62 4 5 y67) 4 6 (G 1 5)) 4 5 = y67 from rfl] <;> first | rfl | omega) (show ((gu_up (gu_up G62 4 5 y67) 4 6 (G 1 5)) 4 6).toInt = (G 1 5).toInt by rw [show (gu_up (gu_up G62 4 5 y67) 4 6 (G 1 5)) 4 6 = (G 1 5) from rfl] <;> first | rfl | omega) (show (gu_up (gu_up G62 4 5 y67) 4 6 (G 1 5)) 4 2 = (G 4 2) from hU64 4 2 (by decide)) (show (gu_up (gu_up G62 4 5 y67) 4 6 (G 1 5)) 4 3 = (G 4 3) from hU64 4 3 (by decide)) (x := (G 1 5)) rfl (q := y59.toInt) (by omega) (show (gu_up (gu_up G62 4 5 y67) 4 6 (G 1 5)) 19 = upd (G 19) (y59.toInt).toNat (G 1 5) from (show (gu_up (gu_up G62 4 5 y67) 4 6 (G 1 5)) 19 = G62 19 from funext fun k_ => (show gu_un xcd [406, 407] G62 (gu_up (gu_up G62 4 5 y67) 4 6 (G 1 5)) from (gu_un.up (j := 4) (k := 6) (v := (G 1 5)) (gu_un.up (j := 4) (k := 5) (v := y67) gu_un.rf (show (406 : Nat) ∈ ([406, 407] : List Nat) by decide)) (show (407 : Nat) ∈ ([406, 407] : List Nat) by decide))) 19 k_ (by simp [xcd])).trans q66) (xSg_un (show gu_un xcd [406, 407, 1900] G (gu_up (gu_up G62 4 5 y67) 4 6 (G 1 5)) from (gu_un.up (j := 4) (k := 6) (v := (G 1 5)) (gu_un.up (j := 4) (k := 5) (v := y67) (gu_un.tr gu_un.rf (gu_un.su hU64 rfl)) (show (406 : Nat) ∈ ([406, 407, 1900] : List Nat) by decide)) (show (407 : Nat) ∈ ([406, 407, 1900] : List Nat) by decide))) rfl rfl rfl)), (by show (0 ≠ 0 ∨ (G 1 3).toInt ≠ 0); (first | omega | (simp only [Int32.reduceToInt, true_and, and_true, ne_eq, not_true_eq_false, false_and, or_false, false_or, true_or, or_true, false_implies] <;> omega)))⟩) rfl rfl dX8_takeOfNumbers_172
          · refine g_iconst F 4 dX8_takeOfNumbers_125 (by decide) ?_
            exact u_iret F hA hQ hr G (⟨hI, gu_un.rf, (by decide), (nb), (by show ((G 4 4).toInt = -1 ∨ (G 4 5).toInt ≤ 1 ∨ ((G 4 5).toInt ≤ 2 ∧ ((G 4 4).toInt = 3 ∨ (G 4 4).toInt = 4)) ∨ ((G 4 5).toInt ≤ 4 ∧ (G 4 4).toInt = 8) ∨ (G 4 4).toInt = 9); (first | omega | (simp only [Int32.reduceToInt, true_and, and_true, ne_eq, not_true_eq_false, false_and, or_false, false_or, true_or, or_true, false_implies] <;> omega))), (by show ((G 4 4).toInt = -1 ∨ (G 4 4).toInt = (G 4 4).toInt); (first | omega | (simp only [Int32.reduceToInt, true_and, and_true, ne_eq, not_true_eq_false, false_and, or_false, false_or, true_or, or_true, false_implies] <;> omega))), (by show ((G 4 2).toInt ≤ (G 4 2).toInt + 1); (first | omega | (simp only [Int32.reduceToInt, true_and, and_true, ne_eq, not_true_eq_false, false_and, or_false, false_or, true_or, or_true, false_implies] <;> omega))), (by have m9 : hMo 7 = 1 := (by decide); have l9 : hLo 7 = 1 := (by decide); have h9 : hHi 7 = 12 := (by decide); have s9 : hSl 7 = 9 := (by decide); exact xH_bad (f := 4) (by decide) (by decide) (fun ts pl ci => by rw [show (G 4 4).toInt = 7 by omega]; exact hO_n4 (by decide) (by decide) (by omega) (by omega) (by show ¬ (_ ∨ _ ∨ _); omega) (by omega))), (by show (4 ≠ 0 ∨ (G 1 3).toInt ≠ 0); (first | omega | (simp only [Int32.reduceToInt, true_and, and_true, ne_eq, not_true_eq_false, false_and, or_false, false_or, true_or, or_true, false_implies] <;> omega)))⟩) rfl rfl dX8_takeOfNumbers_126
        · refine g_iconst F 2 dX8_takeOfNumbers_112 (by decide) ?_
          exact u_iret F hA hQ hr G (⟨hI, gu_un.rf, (by decide), (nb), (by show ((G 4 4).toInt = -1 ∨ (G 4 5).toInt ≤ 1 ∨ ((G 4 5).toInt ≤ 2 ∧ ((G 4 4).toInt = 3 ∨ (G 4 4).toInt = 4)) ∨ ((G 4 5).toInt ≤ 4 ∧ (G 4 4).toInt = 8) ∨ (G 4 4).toInt = 9); (first | omega | (simp only [Int32.reduceToInt, true_and, and_true, ne_eq, not_true_eq_false, false_and, or_false, false_or, true_or, or_true, false_implies] <;> omega))), (by show ((G 4 4).toInt = -1 ∨ (G 4 4).toInt = (G 4 4).toInt); (first | omega | (simp only [Int32.reduceToInt, true_and, and_true, ne_eq, not_true_eq_false, false_and, or_false, false_or, true_or, or_true, false_implies] <;> omega))), (by show ((G 4 2).toInt ≤ (G 4 2).toInt + 1); (first | omega | (simp only [Int32.reduceToInt, true_and, and_true, ne_eq, not_true_eq_false, false_and, or_false, false_or, true_or, or_true, false_implies] <;> omega))), (by have m9 : hMo 7 = 1 := (by decide); have l9 : hLo 7 = 1 := (by decide); have h9 : hHi 7 = 12 := (by decide); have s9 : hSl 7 = 9 := (by decide); exact xH_bad (f := 2) (by decide) (by decide) (fun ts pl ci => by rw [show (G 4 4).toInt = 7 by omega]; exact hO_n2 (by decide) (by decide) (by omega) (by omega) (by show _ ∨ _ ∨ _; omega))), (by show (2 ≠ 0 ∨ (G 1 3).toInt ≠ 0); (first | omega | (simp only [Int32.reduceToInt, true_and, and_true, ne_eq, not_true_eq_false, false_and, or_false, false_or, true_or, or_true, false_implies] <;> omega)))⟩) rfl rfl dX8_takeOfNumbers_113
      · refine g_iconst F 1 dX8_takeOfNumbers_102 (by decide) ?_
        exact u_iret F hA hQ hr G (⟨hI, gu_un.rf, (by decide), (nb), (by show ((G 4 4).toInt = -1 ∨ (G 4 5).toInt ≤ 1 ∨ ((G 4 5).toInt ≤ 2 ∧ ((G 4 4).toInt = 3 ∨ (G 4 4).toInt = 4)) ∨ ((G 4 5).toInt ≤ 4 ∧ (G 4 4).toInt = 8) ∨ (G 4 4).toInt = 9); (first | omega | (simp only [Int32.reduceToInt, true_and, and_true, ne_eq, not_true_eq_false, false_and, or_false, false_or, true_or, or_true, false_implies] <;> omega))), (by show ((G 4 4).toInt = -1 ∨ (G 4 4).toInt = (G 4 4).toInt); (first | omega | (simp only [Int32.reduceToInt, true_and, and_true, ne_eq, not_true_eq_false, false_and, or_false, false_or, true_or, or_true, false_implies] <;> omega))), (by show ((G 4 2).toInt ≤ (G 4 2).toInt + 1); (first | omega | (simp only [Int32.reduceToInt, true_and, and_true, ne_eq, not_true_eq_false, false_and, or_false, false_or, true_or, or_true, false_implies] <;> omega))), (by have m9 : hMo 7 = 1 := (by decide); have l9 : hLo 7 = 1 := (by decide); have h9 : hHi 7 = 12 := (by decide); have s9 : hSl 7 = 9 := (by decide); exact xH_bad (f := 1) (by decide) (by decide) (fun ts pl ci => by rw [show (G 4 4).toInt = 7 by omega]; exact hO_n1 (by decide) (by decide) (by show ¬ (_ ∧ _ ∧ _); omega) (by omega))), (by show (1 ≠ 0 ∨ (G 1 3).toInt ≠ 0); (first | omega | (simp only [Int32.reduceToInt, true_and, and_true, ne_eq, not_true_eq_false, false_and, or_false, false_or, true_or, or_true, false_implies] <;> omega)))⟩) rfl rfl dX8_takeOfNumbers_103


set_option maxHeartbeats 4000000 in
set_option maxRecDepth 100000 in
theorem S_X8_isInBounds_c8 (l : Launch) (D : va_G) (K : Nat → ClassId) (a : Nat → Nat) (G : gS) (zf : Nat → Nat) (hI : xI G) (sz : Nat) : KiZ (xZ zf) l yX8_isInBounds wsX8_isInBounds 2 60 D [.ref (a 4), .ref (zf 18)] (xW K a G) (tK K) sz (fun (r : Int32) (_ : Unit) => (0 ≤ r.toInt ∧ r.toInt ≤ 1) ∧ (((r.toInt = 1 ∧ (0 ≤ (G 1 5).toInt ∧ (G 1 5).toInt ≤ 15)) ∨ (r.toInt = 0 ∧ ¬ (0 ≤ (G 1 5).toInt ∧ (G 1 5).toInt ≤ 15))))) (fun (_ : Unit) => (xW K a G)) := by
  unfold KiZ
  refine gz_ofW (cc := cX8_isInBounds) (lv := [(0, .ref (a 4)), (1, .ref (zf 18))]) (by decide) rfl (Nat.le_of_ble_eq_true rfl) rfl ?_
  intro p e s m args below meth c A Q hA hQ hZ F hr hnm
  have hts := F.2.2.2.2.1
  have w_0 : (Cond.fieldLink RX8 9 "QuietCut$ShopReader" "tape" "LQuietCut$Tape;").before args s = true := hts _ (List.mem_of_getElem? (i := 1) rfl)
  have i_X8 : ∀ w ∈ u_ws RX8 TX8 7, w ∈ wsX8_isInBounds := fun _ h => List.mem_cons_of_mem _ (List.mem_append_left _ (List.mem_append_right _ h))
  have w_1 : (Cond.fieldLink RX8 125 "QuietCut$Tape" "value" "I").before args s = true := hts _ (List.mem_of_getElem? (i := 2) rfl)
  have i_X10 : ∀ w ∈ u_ws RX10 TX10 6, w ∈ wsX8_isInBounds := fun _ h => List.mem_cons_of_mem _ (List.mem_append_right _ h)
  have w_2 : (Cond.fieldLink RX8 131 "QuietCut$Clause" "low" "I").before args s = true := hts _ (List.mem_of_getElem? (i := 3) rfl)
  have w_3 : (Cond.fieldLink RX8 134 "QuietCut$Clause" "high" "I").before args s = true := hts _ (List.mem_of_getElem? (i := 4) rfl)
  have b1 : (0 : Int) ≤ (G 4 5).toInt ∧ (G 4 5).toInt ≤ 6 := hI 4 5
  have b2 : (0 : Int) ≤ (G 4 6).toInt ∧ (G 4 6).toInt ≤ 9999 := hI 4 6
  refine g_aload_n F 0 dX8_isInBounds_0 rfl rfl ?_
  refine xg_4_0 F i_X8 w_0 dX8_isInBounds_1 ?_
  refine xg_1_5 F i_X10 w_1 dX8_isInBounds_4 (G 1 5) (rfl) ?_
  refine g_aload_n F 1 dX8_isInBounds_7 rfl rfl ?_
  refine uz_getf F (show va_OF "QuietCut$Clause" "low" "I" (.int 0) (zf 18) A s s.heap from (hZ.2.2.2.2.2 8 (by decide)).2.2.2.2.1) w_2 dX8_isInBounds_8 ?_
  refine v_icmp_lt F 28 dX8_isInBounds_11 (by decide) (G 1 5).toInt 0 rfl rfl (fun c3 => ?_) (fun c3 => ?_)
  · refine g_iconst F 0 dX8_isInBounds_28 (by decide) ?_
    exact u_zret F hA hQ hr rfl () (⟨(by decide), (by show ((0 = 1 ∧ (0 ≤ (G 1 5).toInt ∧ (G 1 5).toInt ≤ 15)) ∨ (0 = 0 ∧ ¬ (0 ≤ (G 1 5).toInt ∧ (G 1 5).toInt ≤ 15))); (first | omega | (simp only [Int32.reduceToInt, true_and, and_true, ne_eq, not_true_eq_false, false_and, or_false, false_or, true_or, or_true, false_implies] <;> omega)))⟩) rfl rfl dX8_isInBounds_29
  · refine g_aload_n F 0 dX8_isInBounds_14 rfl rfl ?_
    refine xg_4_0 F i_X8 w_0 dX8_isInBounds_15 ?_
    refine xg_1_5 F i_X10 w_1 dX8_isInBounds_18 (G 1 5) (rfl) ?_
    refine g_aload_n F 1 dX8_isInBounds_21 rfl rfl ?_
    refine uz_getf F (show va_OF "QuietCut$Clause" "high" "I" (.int 15) (zf 18) A s s.heap from (hZ.2.2.2.2.2 8 (by decide)).2.2.2.2.2.1) w_3 dX8_isInBounds_22 ?_
    have b4 := ti_rng (G 1 5)
    refine v_icmp_le F 30 dX8_isInBounds_25 (by decide) (G 1 5).toInt 15 rfl rfl (fun c5 => ?_) (fun c5 => ?_)
    · refine g_aload_n F 1 dX8_isInBounds_30 rfl rfl ?_
      refine uz_call0Vi (k := 0) (n := 0) (b := (zf 18)) (As := []) (st := []) F xZ_st hZ (fun sz => S_X1_manySlot_c8 l D zf sz) (cwV 0 hts gX8_isInBounds_X1_manySlot rfl rfl rfl (by decide +kernel) ⟨Nat.le_of_ble_eq_true rfl, Nat.le_of_ble_eq_true rfl⟩) (hZ.2.2.2.2.2 8 (by decide)).1 rfl (Nat.le_of_ble_eq_true rfl) ⟨Nat.zero_le _, Nat.zero_le _⟩ dX8_isInBounds_31 (fun r6 _ hw7 => ?_)
      have hw7 : r6.toInt = 10 := hw7
      refine g_fold 10 ((ti_eq rfl (show (10 : Int32).toInt = 10 from rfl)).mpr hw7) ?_
      refine g_iconst F (-1) dX8_isInBounds_34 (by decide) ?_
      refine v_icmp_ne F 50 dX8_isInBounds_35 (by decide) 10 (-1) rfl rfl (fun c8 => ?_) (fun c8 => absurd c8 (by decide))
      refine g_iconst F 0 dX8_isInBounds_50 (by decide) ?_
      refine g_istore_n F [(2, .int 0), (0, .ref (a 4)), (1, .ref (zf 18))] dX8_isInBounds_51 rfl (by decide) rfl ?_
      refine g_iload_n F 0 dX8_isInBounds_52 rfl rfl ?_
      refine v_if_eq F 86 dX8_isInBounds_53 (by decide) 0 rfl (fun c9 => ?_) (fun c9 => absurd c9 (by decide))
      refine g_iconst F 1 dX8_isInBounds_86 (by decide) ?_
      refine g_goto F 91 dX8_isInBounds_87 (by decide) ?_
      exact u_zret F hA hQ hr rfl () (⟨(by decide), (by show ((1 = 1 ∧ (0 ≤ (G 1 5).toInt ∧ (G 1 5).toInt ≤ 15)) ∨ (1 = 0 ∧ ¬ (0 ≤ (G 1 5).toInt ∧ (G 1 5).toInt ≤ 15))); (first | omega | (simp only [Int32.reduceToInt, true_and, and_true, ne_eq, not_true_eq_false, false_and, or_false, false_or, true_or, or_true, false_implies] <;> omega)))⟩) rfl rfl dX8_isInBounds_91
    · refine g_iconst F 0 dX8_isInBounds_28 (by decide) ?_
      exact u_zret F hA hQ hr rfl () (⟨(by decide), (by show ((0 = 1 ∧ (0 ≤ (G 1 5).toInt ∧ (G 1 5).toInt ≤ 15)) ∨ (0 = 0 ∧ ¬ (0 ≤ (G 1 5).toInt ∧ (G 1 5).toInt ≤ 15))); (first | omega | (simp only [Int32.reduceToInt, true_and, and_true, ne_eq, not_true_eq_false, false_and, or_false, false_or, true_or, or_true, false_implies] <;> omega)))⟩) rfl rfl dX8_isInBounds_29


set_option maxHeartbeats 4000000 in
set_option maxRecDepth 100000 in
theorem S_X8_takeOfNumbers_c8 (l : Launch) (D : va_G) (K : Nat → ClassId) (a : Nat → Nat) (G : gS) (zf : Nat → Nat) (nb : xNb (G 19)) (ck : ((G 4 2).toInt ≤ 1000)) (rn : ((G 4 5).toInt ≤ 4 ∧ (G 4 4).toInt = 8)) (hI : xI G) (sz : Nat) : KiZ (xZ zf) l yX8_takeOfNumbers wsX8_takeOfNumbers 3 82 D [.ref (a 4), .ref (zf 18)] (xW K a G) (tK K) sz (fun (r : Int32) (G' : gS) => (xI G') ∧ (gu_un xcd [403, 405, 406, 407, 1900] G G') ∧ (0 ≤ r.toInt ∧ r.toInt ≤ 4) ∧ (xNb (G' 19)) ∧ (((G' 4 4).toInt = -1 ∨ (G' 4 5).toInt ≤ 1 ∨ ((G' 4 5).toInt ≤ 2 ∧ ((G' 4 4).toInt = 3 ∨ (G' 4 4).toInt = 4)) ∨ ((G' 4 5).toInt ≤ 4 ∧ (G' 4 4).toInt = 8) ∨ (G' 4 4).toInt = 9)) ∧ (((G' 4 4).toInt = -1 ∨ (G' 4 4).toInt = (G 4 4).toInt)) ∧ (((G' 4 2).toInt ≤ (G 4 2).toInt + 1)) ∧ ((∀ (ts : List hTk) (pl ci : Int), xH (((G 1 3).toInt, pl, (G 1 5).toInt, ci) :: ts) G = if r.toInt = 0 then xH ts G' else hBad r.toInt pl)) ∧ ((r.toInt ≠ 0 ∨ (G 1 3).toInt ≠ 0))) (fun (G' : gS) => (xW K a G')) := by
  unfold KiZ
  refine gz_ofW (cc := cX8_takeOfNumbers) (lv := [(0, .ref (a 4)), (1, .ref (zf 18))]) (by decide) rfl (Nat.le_of_ble_eq_true rfl) rfl ?_
  intro p e s m args below meth c A Q hA hQ hZ F hr hnm
  have hts := F.2.2.2.2.1
  have w_0 : (Cond.fieldLink RX8 9 "QuietCut$ShopReader" "tape" "LQuietCut$Tape;").before args s = true := hts _ (List.mem_of_getElem? (i := 1) rfl)
  have i_X8 : ∀ w ∈ u_ws RX8 TX8 7, w ∈ wsX8_takeOfNumbers := fun _ h => List.mem_cons_of_mem _ (List.mem_append_left _ (List.mem_append_left _ (List.mem_append_right _ h)))
  have w_1 : (Cond.fieldLink RX8 77 "QuietCut$ShopReader" "numbers" "I").before args s = true := hts _ (List.mem_of_getElem? (i := 2) rfl)
  have w_2 : (Cond.fieldLink RX8 42 "QuietCut$Tape" "kind" "I").before args s = true := hts _ (List.mem_of_getElem? (i := 5) rfl)
  have i_X10 : ∀ w ∈ u_ws RX10 TX10 6, w ∈ wsX8_takeOfNumbers := fun _ h => List.mem_cons_of_mem _ (List.mem_append_left _ (List.mem_append_right _ h))
  have w_3 : (Cond.fieldLink RX8 114 "QuietCut$Clause" "most" "I").before args s = true := hts _ (List.mem_of_getElem? (i := 3) rfl)
  have w_4 : (Cond.fieldLink RX8 15 "QuietCut$ShopReader" "target" "LQuietCut$Shop;").before args s = true := hts _ (List.mem_of_getElem? (i := 4) rfl)
  have w_5 : (Cond.fieldLink RX8 80 "QuietCut$Clause" "slot" "I").before args s = true := hts _ (List.mem_of_getElem? (i := 6) rfl)
  have w_6 : (Cond.fieldLink RX8 125 "QuietCut$Tape" "value" "I").before args s = true := hts _ (List.mem_of_getElem? (i := 7) rfl)
  have w_7 : (Cond.fieldLink RX8 128 "QuietCut$ShopReader" "latest" "I").before args s = true := hts _ (List.mem_of_getElem? (i := 8) rfl)
  have b1 : (0 : Int) ≤ (G 4 5).toInt ∧ (G 4 5).toInt ≤ 6 := hI 4 5
  have b2 : ((-1) : Int) ≤ (G 4 4).toInt ∧ (G 4 4).toInt ≤ 12 := hI 4 4
  have b3 : (0 : Int) ≤ (G 4 2).toInt ∧ (G 4 2).toInt ≤ 1001 := hI 4 2
  have b4 : (0 : Int) ≤ (G 4 6).toInt ∧ (G 4 6).toInt ≤ 9999 := hI 4 6
  refine g_aload_n F 1 dX8_takeOfNumbers_0 rfl rfl ?_
  refine uz_call0Vi (k := 0) (n := 0) (b := (zf 18)) (As := []) (st := []) F xZ_st hZ (fun sz => S_X1_manySlot_c8 l D zf sz) (cwV 0 hts gX8_takeOfNumbers_X1_manySlot rfl rfl rfl (by decide +kernel) ⟨Nat.le_of_ble_eq_true rfl, Nat.le_of_ble_eq_true rfl⟩) (hZ.2.2.2.2.2 8 (by decide)).1 rfl (Nat.le_of_ble_eq_true rfl) ⟨Nat.zero_le _, Nat.zero_le _⟩ dX8_takeOfNumbers_1 (fun r5 _ hw6 => ?_)
  have hw6 : r5.toInt = 10 := hw6
  refine g_fold 10 ((ti_eq rfl (show (10 : Int32).toInt = 10 from rfl)).mpr hw6) ?_
  refine g_iconst F (-1) dX8_takeOfNumbers_4 (by decide) ?_
  refine v_icmp_eq F 12 dX8_takeOfNumbers_5 (by decide) 10 (-1) rfl rfl (fun c7 => absurd c7 (by decide)) (fun c7 => ?_)
  refine g_iconst F 1 dX8_takeOfNumbers_8 (by decide) ?_
  refine g_goto F 13 dX8_takeOfNumbers_9 (by decide) ?_
  refine g_istore_n F [(2, .int 1), (0, .ref (a 4)), (1, .ref (zf 18))] dX8_takeOfNumbers_13 rfl (by decide) rfl ?_
  refine g_aload_n F 1 dX8_takeOfNumbers_14 rfl rfl ?_
  refine xg_4_0 F i_X8 w_0 dX8_takeOfNumbers_15 ?_
  refine g_bipush F 59 dX8_takeOfNumbers_18 (by decide) ?_
  refine u_callVi (k := 0) (n := 0) (b := a 1) (As := [.int 59]) (st := []) F (fun sz => S_X10_isSign l D K a G 59 59 rfl hI sz) (cwV 1 hts gX8_takeOfNumbers_X10_isSign rfl rfl rfl (by decide +kernel) ⟨Nat.le_of_ble_eq_true rfl, Nat.le_of_ble_eq_true rfl⟩) rfl 1 xc_1 rfl (Nat.le_of_ble_eq_true rfl) ⟨Nat.zero_le _, Nat.zero_le _⟩ dX8_takeOfNumbers_20 (fun r8 _ hw9 => ?_)
  rcases hw9 with ⟨rfl, q11⟩ | ⟨rfl, q12⟩
  · have b13 : (0 : Int) ≤ (G 1 3).toInt ∧ (G 1 3).toInt ≤ 4 := hI 1 3
    have q11 : ((G 1 3).toInt = 3 ∧ (G 1 5).toInt = (59 : Int)) := q11
    refine v_if_eq F 76 dX8_takeOfNumbers_23 (by decide) 1 rfl (fun c14 => absurd c14 (by decide)) (fun c14 => ?_)
    refine g_iload_n F 0 dX8_takeOfNumbers_26 rfl rfl ?_
    refine v_if_eq F 40 dX8_takeOfNumbers_27 (by decide) 1 rfl (fun c15 => absurd c15 (by decide)) (fun c15 => ?_)
    refine g_aload_n F 1 dX8_takeOfNumbers_30 rfl rfl ?_
    refine xg_4_5 F i_X8 w_1 dX8_takeOfNumbers_31 (G 4 5) (rfl) ?_
    refine v_if_le F 76 dX8_takeOfNumbers_34 (by decide) (G 4 5).toInt rfl (fun c16 => ?_) (fun c16 => ?_)
    · refine g_aload_n F 1 dX8_takeOfNumbers_76 rfl rfl ?_
      refine xg_4_0 F i_X8 w_0 dX8_takeOfNumbers_77 ?_
      refine xg_1_3 F i_X10 w_2 dX8_takeOfNumbers_80 (G 1 3) (rfl) ?_
      refine g_iconst F 2 dX8_takeOfNumbers_83 (by decide) ?_
      refine v_icmp_ne F 102 dX8_takeOfNumbers_84 (by decide) (G 1 3).toInt 2 rfl rfl (fun c17 => ?_) (fun c17 => ?_)
      · refine g_iconst F 1 dX8_takeOfNumbers_102 (by decide) ?_
        exact u_iret F hA hQ hr G (⟨hI, gu_un.rf, (by decide), (nb), (by show ((G 4 4).toInt = -1 ∨ (G 4 5).toInt ≤ 1 ∨ ((G 4 5).toInt ≤ 2 ∧ ((G 4 4).toInt = 3 ∨ (G 4 4).toInt = 4)) ∨ ((G 4 5).toInt ≤ 4 ∧ (G 4 4).toInt = 8) ∨ (G 4 4).toInt = 9); (first | omega | (simp only [Int32.reduceToInt, true_and, and_true, ne_eq, not_true_eq_false, false_and, or_false, false_or, true_or, or_true, false_implies] <;> omega))), (by show ((G 4 4).toInt = -1 ∨ (G 4 4).toInt = (G 4 4).toInt); (first | omega | (simp only [Int32.reduceToInt, true_and, and_true, ne_eq, not_true_eq_false, false_and, or_false, false_or, true_or, or_true, false_implies] <;> omega))), (by show ((G 4 2).toInt ≤ (G 4 2).toInt + 1); (first | omega | (simp only [Int32.reduceToInt, true_and, and_true, ne_eq, not_true_eq_false, false_and, or_false, false_or, true_or, or_true, false_implies] <;> omega))), (by have m9 : hMo 8 = 4 := (by decide); have l9 : hLo 8 = 0 := (by decide); have h9 : hHi 8 = 15 := (by decide); have s9 : hSl 8 = 20 := (by decide); exact xH_bad (f := 1) (by decide) (by decide) (fun ts pl ci => by rw [show (G 4 4).toInt = 8 by omega]; exact hO_n1 (by decide) (by decide) (by show ¬ (_ ∧ _ ∧ _); omega) (by omega))), (by show (1 ≠ 0 ∨ (G 1 3).toInt ≠ 0); (first | omega | (simp only [Int32.reduceToInt, true_and, and_true, ne_eq, not_true_eq_false, false_and, or_false, false_or, true_or, or_true, false_implies] <;> omega)))⟩) rfl rfl dX8_takeOfNumbers_103
      · refine g_iload_n F 0 dX8_takeOfNumbers_87 rfl rfl ?_
        refine v_if_ne F 104 dX8_takeOfNumbers_88 (by decide) 1 rfl (fun c18 => ?_) (fun c18 => absurd c18 (by decide))
        refine g_aload_n F 1 dX8_takeOfNumbers_104 rfl rfl ?_
        refine g_aload_n F 2 dX8_takeOfNumbers_105 rfl rfl ?_
        refine uz_callVi (k := 0) (n := 0) (b := a 4) (As := [.ref (zf 18)]) (st := []) F xZ_st hZ (fun sz => S_X8_isInBounds_c8 l D K a G zf  hI sz) (cwV 1 hts gX8_takeOfNumbers_X8_isInBounds rfl rfl rfl (by decide +kernel) ⟨Nat.le_of_ble_eq_true rfl, Nat.le_of_ble_eq_true rfl⟩) rfl 4 xc_4 rfl (Nat.le_of_ble_eq_true rfl) ⟨Nat.zero_le _, Nat.zero_le _⟩ dX8_takeOfNumbers_106 (fun r19 _ hw20 => ?_)
        have q22 : ((r19.toInt = 1 ∧ (0 ≤ (G 1 5).toInt ∧ (G 1 5).toInt ≤ 15)) ∨ (r19.toInt = 0 ∧ ¬ (0 ≤ (G 1 5).toInt ∧ (G 1 5).toInt ≤ 15))) := hw20.2
        have rg23 := hw20.1
        clear hw20
        refine v_if_ne F 114 dX8_takeOfNumbers_109 (by decide) r19.toInt rfl (fun c24 => ?_) (fun c24 => ?_)
        · refine g_aload_n F 1 dX8_takeOfNumbers_114 rfl rfl ?_
          refine xg_4_5 F i_X8 w_1 dX8_takeOfNumbers_115 (G 4 5) (rfl) ?_
          refine g_aload_n F 2 dX8_takeOfNumbers_118 rfl rfl ?_
          refine uz_getf F (show va_OF "QuietCut$Clause" "most" "I" (.int 4) (zf 18) A s s.heap from (hZ.2.2.2.2.2 8 (by decide)).2.2.2.1) w_3 dX8_takeOfNumbers_119 ?_
          refine v_icmp_ne F 127 dX8_takeOfNumbers_122 (by decide) (G 4 5).toInt 4 rfl rfl (fun c25 => ?_) (fun c25 => absurd c25 (by omega))
          refine g_aload_n F 1 dX8_takeOfNumbers_127 rfl rfl ?_
          refine xg_4_1 F i_X8 w_4 dX8_takeOfNumbers_128 ?_
          refine g_aload_n F 2 dX8_takeOfNumbers_131 rfl rfl ?_
          refine uz_getf F (show va_OF "QuietCut$Clause" "slot" "I" (.int 20) (zf 18) A s s.heap from (hZ.2.2.2.2.2 8 (by decide)).2.2.1) w_5 dX8_takeOfNumbers_132 ?_
          refine g_aload_n F 1 dX8_takeOfNumbers_135 rfl rfl ?_
          refine xg_4_5 F i_X8 w_1 dX8_takeOfNumbers_136 (G 4 5) (rfl) ?_
          refine u_iadd F dX8_takeOfNumbers_139 20 (G 4 5).toInt rfl rfl (by omega) (by omega) (fun y26 ey26 => ?_)
          refine g_aload_n F 1 dX8_takeOfNumbers_140 rfl rfl ?_
          refine xg_4_0 F i_X8 w_0 dX8_takeOfNumbers_141 ?_
          refine xg_1_5 F i_X10 w_6 dX8_takeOfNumbers_144 (G 1 5) (rfl) ?_
          refine u_callVv (k := 0) (n := 0) (b := a 3) (As := [.int y26, .int (G 1 5)]) (st := []) F (fun sz => S_X7_put_3 l D K a G y26 y26.toInt (G 1 5) (G 1 5).toInt rfl (by omega) rfl hI sz) (cwV 2 hts gX8_takeOfNumbers_X7_put rfl rfl rfl (by decide +kernel) ⟨Nat.le_of_ble_eq_true rfl, Nat.le_of_ble_eq_true rfl⟩) rfl 3 xc_3 rfl (Nat.le_of_ble_eq_true rfl) ⟨Nat.zero_le _, Nat.zero_le _⟩ dX8_takeOfNumbers_147 (fun G29 hw28 => ?_)
          have hI30 : xI G29 := hw28.1
          have hU31 : gu_un xcd [1900] G G29 := hw28.2.1
          have hp32 := hw28.2.2
          have q33 : (G29 19 = upd (G 19) (y26.toInt).toNat (G 1 5)) := hp32
          clear hp32 hw28
          refine g_aload_n F 1 dX8_takeOfNumbers_150 rfl rfl ?_
          refine g_dup F dX8_takeOfNumbers_151 rfl ?_
          refine xg_4_5 F i_X8 w_1 dX8_takeOfNumbers_152 (G 4 5) (hU31 4 5 (by decide)) ?_
          refine g_iconst F 1 dX8_takeOfNumbers_155 (by decide) ?_
          refine u_iadd F dX8_takeOfNumbers_156 (G 4 5).toInt 1 rfl rfl (by omega) (by omega) (fun y34 ey34 => ?_)
          refine xp_4_5 F i_X8 w_1 dX8_takeOfNumbers_157 ?_
          refine g_aload_n F 1 dX8_takeOfNumbers_160 rfl rfl ?_
          refine g_aload_n F 1 dX8_takeOfNumbers_161 rfl rfl ?_
          refine xg_4_0 F i_X8 w_0 dX8_takeOfNumbers_162 ?_
          refine xg_1_5 F i_X10 w_6 dX8_takeOfNumbers_165 (G 1 5) (hU31 1 5 (by decide)) ?_
          refine xp_4_6 F i_X8 w_7 dX8_takeOfNumbers_168 ?_
          refine g_iconst F 0 dX8_takeOfNumbers_171 (by decide) ?_
          exact u_iret F hA hQ hr (gu_up (gu_up G29 4 5 y34) 4 6 (G 1 5)) (⟨(gu_I.up (j := 4) (k := 6) (v := (G 1 5)) (gu_I.up (j := 4) (k := 5) (v := y34) hI30 (show (0 : Int) ≤ Int32.toInt y34 by omega) (show Int32.toInt y34 ≤ 6 by omega)) (show (0 : Int) ≤ Int32.toInt (G 1 5) by omega) (show Int32.toInt (G 1 5) ≤ 9999 by omega)), (gu_un.up (j := 4) (k := 6) (v := (G 1 5)) (gu_un.up (j := 4) (k := 5) (v := y34) (gu_un.tr gu_un.rf (gu_un.su hU31 rfl)) (show (406 : Nat) ∈ ([403, 405, 406, 407, 1900] : List Nat) by decide)) (show (407 : Nat) ∈ ([403, 405, 406, 407, 1900] : List Nat) by decide)), (by decide), ((xNb.un (G := G29) (by rw [q33]; rcases (show y26.toInt = 20 ∨ y26.toInt = 21 ∨ y26.toInt = 22 ∨ y26.toInt = 23 by omega) with h9 | h9 | h9 | h9 <;> (rw [h9]; first | exact xNb.put nb (show (0 : Int) ≤ Int32.toInt (G 1 5) by omega) (show Int32.toInt (G 1 5) ≤ 15 by omega) | exact xNb.put nb (show (0 : Int) ≤ Int32.toInt (G 1 5) by omega) (show Int32.toInt (G 1 5) ≤ 15 by omega) | exact xNb.put nb (show (0 : Int) ≤ Int32.toInt (G 1 5) by omega) (show Int32.toInt (G 1 5) ≤ 15 by omega) | exact xNb.put nb (show (0 : Int) ≤ Int32.toInt (G 1 5) by omega) (show Int32.toInt (G 1 5) ≤ 15 by omega))) (show gu_un xcd [406, 407] G29 (gu_up (gu_up G29 4 5 y34) 4 6 (G 1 5)) from (gu_un.up (j := 4) (k := 6) (v := (G 1 5)) (gu_un.up (j := 4) (k := 5) (v := y34) gu_un.rf (show (406 : Nat) ∈ ([406, 407] : List Nat) by decide)) (show (407 : Nat) ∈ ([406, 407] : List Nat) by decide))) rfl)), (by show (((gu_up (gu_up G29 4 5 y34) 4 6 (G 1 5)) 4 4).toInt = -1 ∨ ((gu_up (gu_up G29 4 5 y34) 4 6 (G 1 5)) 4 5).toInt ≤ 1 ∨ (((gu_up (gu_up G29 4 5 y34) 4 6 (G 1 5)) 4 5).toInt ≤ 2 ∧ (((gu_up (gu_up G29 4 5 y34) 4 6 (G 1 5)) 4 4).toInt = 3 ∨ ((gu_up (gu_up G29 4 5 y34) 4 6 (G 1 5)) 4 4).toInt = 4)) ∨ (((gu_up (gu_up G29 4 5 y34) 4 6 (G 1 5)) 4 5).toInt ≤ 4 ∧ ((gu_up (gu_up G29 4 5 y34) 4 6 (G 1 5)) 4 4).toInt = 8) ∨ ((gu_up (gu_up G29 4 5 y34) 4 6 (G 1 5)) 4 4).toInt = 9); have e9_4_4 : (gu_up (gu_up G29 4 5 y34) 4 6 (G 1 5)) 4 4 = (G 4 4) := hU31 4 4 (by decide); have e9_4_5 : (gu_up (gu_up G29 4 5 y34) 4 6 (G 1 5)) 4 5 = y34 := rfl; (try simp only [e9_4_4, e9_4_5, true_and, and_true]) <;> (first | omega | (simp only [Int32.reduceToInt, true_and, and_true, ne_eq, not_true_eq_false, false_and, or_false, false_or, true_or, or_true, false_implies] <;> omega))), (by show (((gu_up (gu_up G29 4 5 y34) 4 6 (G 1 5)) 4 4).toInt = -1 ∨ ((gu_up (gu_up G29 4 5 y34) 4 6 (G 1 5)) 4 4).toInt = (G 4 4).toInt); have e9_4_4 : (gu_up (gu_up G29 4 5 y34) 4 6 (G 1 5)) 4 4 = (G 4 4) := hU31 4 4 (by decide); (try simp only [e9_4_4, true_and, and_true]) <;> (first | omega | (simp only [Int32.reduceToInt, true_and, and_true, ne_eq, not_true_eq_false, false_and, or_false, false_or, true_or, or_true, false_implies] <;> omega))), (by show (((gu_up (gu_up G29 4 5 y34) 4 6 (G 1 5)) 4 2).toInt ≤ (G 4 2).toInt + 1); have e9_4_2 : (gu_up (gu_up G29 4 5 y34) 4 6 (G 1 5)) 4 2 = (G 4 2) := hU31 4 2 (by decide); (try simp only [e9_4_2, true_and, and_true]) <;> (first | omega | (simp only [Int32.reduceToInt, true_and, and_true, ne_eq, not_true_eq_false, false_and, or_false, false_or, true_or, or_true, false_implies] <;> omega))), (by have m9 : hMo 8 = 4 := (by decide); have l9 : hLo 8 = 0 := (by decide); have h9 : hHi 8 = 15 := (by decide); have s9 : hSl 8 = 20 := (by decide); exact xH_nP (c := 8) (by decide) (show (G 4 4).toInt = 8 by omega) (by decide) (by decide) (by omega) (by show ¬ (_ ∨ _ ∨ _); omega) (by omega) (show (gu_up (gu_up G29 4 5 y34) 4 6 (G 1 5)) 4 4 = (G 4 4) from hU31 4 4 (by decide)) (show ((gu_up (gu_up G29 4 5 y34) 4 6 (G 1 5)) 4 5).toInt = (G 4 5).toInt + 1 by rw [show (gu_up (gu_up G29 4 5 y34) 4 6 (G 1 5)) 4 5 = y34 from rfl] <;> first | rfl | omega) (show ((gu_up (gu_up G29 4 5 y34) 4 6 (G 1 5)) 4 6).toInt = (G 1 5).toInt by rw [show (gu_up (gu_up G29 4 5 y34) 4 6 (G 1 5)) 4 6 = (G 1 5) from rfl] <;> first | rfl | omega) (show (gu_up (gu_up G29 4 5 y34) 4 6 (G 1 5)) 4 2 = (G 4 2) from hU31 4 2 (by decide)) (show (gu_up (gu_up G29 4 5 y34) 4 6 (G 1 5)) 4 3 = (G 4 3) from hU31 4 3 (by decide)) (x := (G 1 5)) rfl (q := y26.toInt) (by omega) (show (gu_up (gu_up G29 4 5 y34) 4 6 (G 1 5)) 19 = upd (G 19) (y26.toInt).toNat (G 1 5) from (show (gu_up (gu_up G29 4 5 y34) 4 6 (G 1 5)) 19 = G29 19 from funext fun k_ => (show gu_un xcd [406, 407] G29 (gu_up (gu_up G29 4 5 y34) 4 6 (G 1 5)) from (gu_un.up (j := 4) (k := 6) (v := (G 1 5)) (gu_un.up (j := 4) (k := 5) (v := y34) gu_un.rf (show (406 : Nat) ∈ ([406, 407] : List Nat) by decide)) (show (407 : Nat) ∈ ([406, 407] : List Nat) by decide))) 19 k_ (by simp [xcd])).trans q33) (xSg_un (show gu_un xcd [406, 407, 1900] G (gu_up (gu_up G29 4 5 y34) 4 6 (G 1 5)) from (gu_un.up (j := 4) (k := 6) (v := (G 1 5)) (gu_un.up (j := 4) (k := 5) (v := y34) (gu_un.tr gu_un.rf (gu_un.su hU31 rfl)) (show (406 : Nat) ∈ ([406, 407, 1900] : List Nat) by decide)) (show (407 : Nat) ∈ ([406, 407, 1900] : List Nat) by decide))) rfl rfl rfl)), (by show (0 ≠ 0 ∨ (G 1 3).toInt ≠ 0); (first | omega | (simp only [Int32.reduceToInt, true_and, and_true, ne_eq, not_true_eq_false, false_and, or_false, false_or, true_or, or_true, false_implies] <;> omega)))⟩) rfl rfl dX8_takeOfNumbers_172
        · refine g_iconst F 2 dX8_takeOfNumbers_112 (by decide) ?_
          exact u_iret F hA hQ hr G (⟨hI, gu_un.rf, (by decide), (nb), (by show ((G 4 4).toInt = -1 ∨ (G 4 5).toInt ≤ 1 ∨ ((G 4 5).toInt ≤ 2 ∧ ((G 4 4).toInt = 3 ∨ (G 4 4).toInt = 4)) ∨ ((G 4 5).toInt ≤ 4 ∧ (G 4 4).toInt = 8) ∨ (G 4 4).toInt = 9); (first | omega | (simp only [Int32.reduceToInt, true_and, and_true, ne_eq, not_true_eq_false, false_and, or_false, false_or, true_or, or_true, false_implies] <;> omega))), (by show ((G 4 4).toInt = -1 ∨ (G 4 4).toInt = (G 4 4).toInt); (first | omega | (simp only [Int32.reduceToInt, true_and, and_true, ne_eq, not_true_eq_false, false_and, or_false, false_or, true_or, or_true, false_implies] <;> omega))), (by show ((G 4 2).toInt ≤ (G 4 2).toInt + 1); (first | omega | (simp only [Int32.reduceToInt, true_and, and_true, ne_eq, not_true_eq_false, false_and, or_false, false_or, true_or, or_true, false_implies] <;> omega))), (by have m9 : hMo 8 = 4 := (by decide); have l9 : hLo 8 = 0 := (by decide); have h9 : hHi 8 = 15 := (by decide); have s9 : hSl 8 = 20 := (by decide); exact xH_bad (f := 2) (by decide) (by decide) (fun ts pl ci => by rw [show (G 4 4).toInt = 8 by omega]; exact hO_n2 (by decide) (by decide) (by omega) (by omega) (by show _ ∨ _ ∨ _; omega))), (by show (2 ≠ 0 ∨ (G 1 3).toInt ≠ 0); (first | omega | (simp only [Int32.reduceToInt, true_and, and_true, ne_eq, not_true_eq_false, false_and, or_false, false_or, true_or, or_true, false_implies] <;> omega)))⟩) rfl rfl dX8_takeOfNumbers_113
    · refine g_goto F 51 dX8_takeOfNumbers_37 (by decide) ?_
      refine g_iload_n F 0 dX8_takeOfNumbers_51 rfl rfl ?_
      refine v_if_eq F 70 dX8_takeOfNumbers_52 (by decide) 1 rfl (fun c35 => absurd c35 (by decide)) (fun c35 => ?_)
      refine g_aload_n F 1 dX8_takeOfNumbers_55 rfl rfl ?_
      refine xg_4_1 F i_X8 w_4 dX8_takeOfNumbers_56 ?_
      refine g_aload_n F 2 dX8_takeOfNumbers_59 rfl rfl ?_
      refine uz_call0Vi (k := 0) (n := 0) (b := (zf 18)) (As := []) (st := [.ref (a 3)]) F xZ_st hZ (fun sz => S_X1_manySlot_c8 l D zf sz) (cwV 0 hts gX8_takeOfNumbers_X1_manySlot rfl rfl rfl (by decide +kernel) ⟨Nat.le_of_ble_eq_true rfl, Nat.le_of_ble_eq_true rfl⟩) (hZ.2.2.2.2.2 8 (by decide)).1 rfl (Nat.le_of_ble_eq_true rfl) ⟨Nat.zero_le _, Nat.zero_le _⟩ dX8_takeOfNumbers_60 (fun r36 _ hw37 => ?_)
      have hw37 : r36.toInt = 10 := hw37
      refine g_fold 10 ((ti_eq rfl (show (10 : Int32).toInt = 10 from rfl)).mpr hw37) ?_
      refine g_aload_n F 1 dX8_takeOfNumbers_63 rfl rfl ?_
      refine xg_4_5 F i_X8 w_1 dX8_takeOfNumbers_64 (G 4 5) (rfl) ?_
      refine u_callVv (k := 0) (n := 0) (b := a 3) (As := [.int 10, .int (G 4 5)]) (st := []) F (fun sz => S_X7_put_3 l D K a G 10 10 (G 4 5) (G 4 5).toInt rfl (by decide) rfl hI sz) (cwV 2 hts gX8_takeOfNumbers_X7_put rfl rfl rfl (by decide +kernel) ⟨Nat.le_of_ble_eq_true rfl, Nat.le_of_ble_eq_true rfl⟩) rfl 3 xc_3 rfl (Nat.le_of_ble_eq_true rfl) ⟨Nat.zero_le _, Nat.zero_le _⟩ dX8_takeOfNumbers_67 (fun G40 hw39 => ?_)
      have hI41 : xI G40 := hw39.1
      have hU42 : gu_un xcd [1900] G G40 := hw39.2.1
      have hp43 := hw39.2.2
      have q44 : (G40 19 = upd (G 19) ((10 : Int)).toNat (G 4 5)) := hp43
      clear hp43 hw39
      refine g_aload_n F 1 dX8_takeOfNumbers_70 rfl rfl ?_
      refine u_callVv (k := 0) (n := 0) (b := a 4) (As := []) (st := []) F (fun sz => S_X8_closeClause l D K a G40  (by have e9_4_2 : G40 4 2 = (G 4 2) := hU42 4 2 (by decide); (try simp only [e9_4_2, true_and, and_true]) <;> (first | omega | (simp only [Int32.reduceToInt, true_and, and_true, ne_eq, not_true_eq_false, false_and, or_false, false_or, true_or, or_true, false_implies] <;> omega))) hI41 sz) (cwV 0 hts gX8_takeOfNumbers_X8_closeClause rfl rfl rfl (by decide +kernel) ⟨Nat.le_of_ble_eq_true rfl, Nat.le_of_ble_eq_true rfl⟩) rfl 4 xc_4 rfl (Nat.le_of_ble_eq_true rfl) ⟨Nat.zero_le _, Nat.zero_le _⟩ dX8_takeOfNumbers_71 (fun G47 hw46 => ?_)
      have hI48 : xI G47 := hw46.1
      have hU49 : gu_un xcd [403, 405] G40 G47 := hw46.2.1
      have hp50 := hw46.2.2
      have b51 : ((-1) : Int) ≤ (G47 4 4).toInt ∧ (G47 4 4).toInt ≤ 12 := hI48 4 4
      have q52 : ((G47 4 4).toInt = -1) := hp50.1
      have b53 : (0 : Int) ≤ (G47 4 2).toInt ∧ (G47 4 2).toInt ≤ 1001 := hI48 4 2
      have q54 : ((G47 4 2).toInt = (G 4 2).toInt + 1) := by have h9 := hp50.2; (try simp only [(show G40 4 2 = (G 4 2) from hU42 4 2 (by decide))] at h9); first | exact h9 | omega
      clear hp50 hw46
      refine g_iconst F 0 dX8_takeOfNumbers_74 (by decide) ?_
      exact u_iret F hA hQ hr G47 (⟨hI48, (gu_un.tr (gu_un.tr gu_un.rf (gu_un.su hU42 rfl)) (gu_un.su hU49 rfl)), (by decide), ((xNb.un (G := G40) (by rw [q44]; exact xNb.put nb (show (1 : Int) ≤ Int32.toInt (G 4 5) by omega) (show Int32.toInt (G 4 5) ≤ 4 by omega)) (show gu_un xcd [403, 405] G40 G47 from (gu_un.tr gu_un.rf (gu_un.su hU49 rfl))) rfl)), (by show ((G47 4 4).toInt = -1 ∨ (G47 4 5).toInt ≤ 1 ∨ ((G47 4 5).toInt ≤ 2 ∧ ((G47 4 4).toInt = 3 ∨ (G47 4 4).toInt = 4)) ∨ ((G47 4 5).toInt ≤ 4 ∧ (G47 4 4).toInt = 8) ∨ (G47 4 4).toInt = 9); have e9_4_5 : G47 4 5 = (G 4 5) := (hU49 4 5 (by decide)).trans (hU42 4 5 (by decide)); (try simp only [e9_4_5, true_and, and_true]) <;> (first | omega | (simp only [Int32.reduceToInt, true_and, and_true, ne_eq, not_true_eq_false, false_and, or_false, false_or, true_or, or_true, false_implies] <;> omega))), (by show ((G47 4 4).toInt = -1 ∨ (G47 4 4).toInt = (G 4 4).toInt); (first | omega | (simp only [Int32.reduceToInt, true_and, and_true, ne_eq, not_true_eq_false, false_and, or_false, false_or, true_or, or_true, false_implies] <;> omega))), (by show ((G47 4 2).toInt ≤ (G 4 2).toInt + 1); (first | omega | (simp only [Int32.reduceToInt, true_and, and_true, ne_eq, not_true_eq_false, false_and, or_false, false_or, true_or, or_true, false_implies] <;> omega))), (by have m9 : hMo 8 = 4 := (by decide); have l9 : hLo 8 = 0 := (by decide); have h9 : hHi 8 = 15 := (by decide); have s9 : hSl 8 = 20 := (by decide); exact xH_nE (c := 8) (by decide) (show (G 4 4).toInt = 8 by omega) (by decide) (by decide) ⟨by omega, by omega, by omega⟩ (show (G47 4 4).toInt = -1 by rw [show G47 4 4 = (G47 4 4) from rfl] <;> first | rfl | omega) (show G47 4 5 = (G 4 5) from (hU49 4 5 (by decide)).trans (hU42 4 5 (by decide))) (show G47 4 6 = (G 4 6) from (hU49 4 6 (by decide)).trans (hU42 4 6 (by decide))) (show (G47 4 2).toInt = (G 4 2).toInt + 1 by rw [show G47 4 2 = (G47 4 2) from rfl] <;> first | rfl | omega) (show G47 4 3 = (G 4 3) from (hU49 4 3 (by decide)).trans (hU42 4 3 (by decide))) (by rw [if_pos rfl]; rw [show G47 19 = G40 19 from funext fun k_ => (show gu_un xcd [403, 405] G40 G47 from (gu_un.tr gu_un.rf (gu_un.su hU49 rfl))) 19 k_ (by simp [xcd])]; exact q44) (xSg_un (show gu_un xcd [403, 405, 1900] G G47 from (gu_un.tr (gu_un.tr gu_un.rf (gu_un.su hU42 rfl)) (gu_un.su hU49 rfl))) rfl rfl rfl)), (by show (0 ≠ 0 ∨ (G 1 3).toInt ≠ 0); (first | omega | (simp only [Int32.reduceToInt, true_and, and_true, ne_eq, not_true_eq_false, false_and, or_false, false_or, true_or, or_true, false_implies] <;> omega)))⟩) rfl rfl dX8_takeOfNumbers_75
  · have b55 : (0 : Int) ≤ (G 1 3).toInt ∧ (G 1 3).toInt ≤ 4 := hI 1 3
    have q12 : ((G 1 3).toInt ≠ 3 ∨ (G 1 5).toInt ≠ (59 : Int)) := q12
    refine v_if_eq F 76 dX8_takeOfNumbers_23 (by decide) 0 rfl (fun c56 => ?_) (fun c56 => absurd c56 (by decide))
    refine g_aload_n F 1 dX8_takeOfNumbers_76 rfl rfl ?_
    refine xg_4_0 F i_X8 w_0 dX8_takeOfNumbers_77 ?_
    refine xg_1_3 F i_X10 w_2 dX8_takeOfNumbers_80 (G 1 3) (rfl) ?_
    refine g_iconst F 2 dX8_takeOfNumbers_83 (by decide) ?_
    refine v_icmp_ne F 102 dX8_takeOfNumbers_84 (by decide) (G 1 3).toInt 2 rfl rfl (fun c57 => ?_) (fun c57 => ?_)
    · refine g_iconst F 1 dX8_takeOfNumbers_102 (by decide) ?_
      exact u_iret F hA hQ hr G (⟨hI, gu_un.rf, (by decide), (nb), (by show ((G 4 4).toInt = -1 ∨ (G 4 5).toInt ≤ 1 ∨ ((G 4 5).toInt ≤ 2 ∧ ((G 4 4).toInt = 3 ∨ (G 4 4).toInt = 4)) ∨ ((G 4 5).toInt ≤ 4 ∧ (G 4 4).toInt = 8) ∨ (G 4 4).toInt = 9); (first | omega | (simp only [Int32.reduceToInt, true_and, and_true, ne_eq, not_true_eq_false, false_and, or_false, false_or, true_or, or_true, false_implies] <;> omega))), (by show ((G 4 4).toInt = -1 ∨ (G 4 4).toInt = (G 4 4).toInt); (first | omega | (simp only [Int32.reduceToInt, true_and, and_true, ne_eq, not_true_eq_false, false_and, or_false, false_or, true_or, or_true, false_implies] <;> omega))), (by show ((G 4 2).toInt ≤ (G 4 2).toInt + 1); (first | omega | (simp only [Int32.reduceToInt, true_and, and_true, ne_eq, not_true_eq_false, false_and, or_false, false_or, true_or, or_true, false_implies] <;> omega))), (by have m9 : hMo 8 = 4 := (by decide); have l9 : hLo 8 = 0 := (by decide); have h9 : hHi 8 = 15 := (by decide); have s9 : hSl 8 = 20 := (by decide); exact xH_bad (f := 1) (by decide) (by decide) (fun ts pl ci => by rw [show (G 4 4).toInt = 8 by omega]; exact hO_n1 (by decide) (by decide) (by show ¬ (_ ∧ _ ∧ _); omega) (by omega))), (by show (1 ≠ 0 ∨ (G 1 3).toInt ≠ 0); (first | omega | (simp only [Int32.reduceToInt, true_and, and_true, ne_eq, not_true_eq_false, false_and, or_false, false_or, true_or, or_true, false_implies] <;> omega)))⟩) rfl rfl dX8_takeOfNumbers_103
    · refine g_iload_n F 0 dX8_takeOfNumbers_87 rfl rfl ?_
      refine v_if_ne F 104 dX8_takeOfNumbers_88 (by decide) 1 rfl (fun c58 => ?_) (fun c58 => absurd c58 (by decide))
      refine g_aload_n F 1 dX8_takeOfNumbers_104 rfl rfl ?_
      refine g_aload_n F 2 dX8_takeOfNumbers_105 rfl rfl ?_
      refine uz_callVi (k := 0) (n := 0) (b := a 4) (As := [.ref (zf 18)]) (st := []) F xZ_st hZ (fun sz => S_X8_isInBounds_c8 l D K a G zf  hI sz) (cwV 1 hts gX8_takeOfNumbers_X8_isInBounds rfl rfl rfl (by decide +kernel) ⟨Nat.le_of_ble_eq_true rfl, Nat.le_of_ble_eq_true rfl⟩) rfl 4 xc_4 rfl (Nat.le_of_ble_eq_true rfl) ⟨Nat.zero_le _, Nat.zero_le _⟩ dX8_takeOfNumbers_106 (fun r59 _ hw60 => ?_)
      have q62 : ((r59.toInt = 1 ∧ (0 ≤ (G 1 5).toInt ∧ (G 1 5).toInt ≤ 15)) ∨ (r59.toInt = 0 ∧ ¬ (0 ≤ (G 1 5).toInt ∧ (G 1 5).toInt ≤ 15))) := hw60.2
      have rg63 := hw60.1
      clear hw60
      refine v_if_ne F 114 dX8_takeOfNumbers_109 (by decide) r59.toInt rfl (fun c64 => ?_) (fun c64 => ?_)
      · refine g_aload_n F 1 dX8_takeOfNumbers_114 rfl rfl ?_
        refine xg_4_5 F i_X8 w_1 dX8_takeOfNumbers_115 (G 4 5) (rfl) ?_
        refine g_aload_n F 2 dX8_takeOfNumbers_118 rfl rfl ?_
        refine uz_getf F (show va_OF "QuietCut$Clause" "most" "I" (.int 4) (zf 18) A s s.heap from (hZ.2.2.2.2.2 8 (by decide)).2.2.2.1) w_3 dX8_takeOfNumbers_119 ?_
        refine v_icmp_ne F 127 dX8_takeOfNumbers_122 (by decide) (G 4 5).toInt 4 rfl rfl (fun c65 => ?_) (fun c65 => ?_)
        · refine g_aload_n F 1 dX8_takeOfNumbers_127 rfl rfl ?_
          refine xg_4_1 F i_X8 w_4 dX8_takeOfNumbers_128 ?_
          refine g_aload_n F 2 dX8_takeOfNumbers_131 rfl rfl ?_
          refine uz_getf F (show va_OF "QuietCut$Clause" "slot" "I" (.int 20) (zf 18) A s s.heap from (hZ.2.2.2.2.2 8 (by decide)).2.2.1) w_5 dX8_takeOfNumbers_132 ?_
          refine g_aload_n F 1 dX8_takeOfNumbers_135 rfl rfl ?_
          refine xg_4_5 F i_X8 w_1 dX8_takeOfNumbers_136 (G 4 5) (rfl) ?_
          refine u_iadd F dX8_takeOfNumbers_139 20 (G 4 5).toInt rfl rfl (by omega) (by omega) (fun y66 ey66 => ?_)
          refine g_aload_n F 1 dX8_takeOfNumbers_140 rfl rfl ?_
          refine xg_4_0 F i_X8 w_0 dX8_takeOfNumbers_141 ?_
          refine xg_1_5 F i_X10 w_6 dX8_takeOfNumbers_144 (G 1 5) (rfl) ?_
          refine u_callVv (k := 0) (n := 0) (b := a 3) (As := [.int y66, .int (G 1 5)]) (st := []) F (fun sz => S_X7_put_3 l D K a G y66 y66.toInt (G 1 5) (G 1 5).toInt rfl (by omega) rfl hI sz) (cwV 2 hts gX8_takeOfNumbers_X7_put rfl rfl rfl (by decide +kernel) ⟨Nat.le_of_ble_eq_true rfl, Nat.le_of_ble_eq_true rfl⟩) rfl 3 xc_3 rfl (Nat.le_of_ble_eq_true rfl) ⟨Nat.zero_le _, Nat.zero_le _⟩ dX8_takeOfNumbers_147 (fun G69 hw68 => ?_)
          have hI70 : xI G69 := hw68.1
          have hU71 : gu_un xcd [1900] G G69 := hw68.2.1
          have hp72 := hw68.2.2
          have q73 : (G69 19 = upd (G 19) (y66.toInt).toNat (G 1 5)) := hp72
          clear hp72 hw68
          refine g_aload_n F 1 dX8_takeOfNumbers_150 rfl rfl ?_
          refine g_dup F dX8_takeOfNumbers_151 rfl ?_
          refine xg_4_5 F i_X8 w_1 dX8_takeOfNumbers_152 (G 4 5) (hU71 4 5 (by decide)) ?_
          refine g_iconst F 1 dX8_takeOfNumbers_155 (by decide) ?_
          refine u_iadd F dX8_takeOfNumbers_156 (G 4 5).toInt 1 rfl rfl (by omega) (by omega) (fun y74 ey74 => ?_)
          refine xp_4_5 F i_X8 w_1 dX8_takeOfNumbers_157 ?_
          refine g_aload_n F 1 dX8_takeOfNumbers_160 rfl rfl ?_
          refine g_aload_n F 1 dX8_takeOfNumbers_161 rfl rfl ?_
          refine xg_4_0 F i_X8 w_0 dX8_takeOfNumbers_162 ?_
          refine xg_1_5 F i_X10 w_6 dX8_takeOfNumbers_165 (G 1 5) (hU71 1 5 (by decide)) ?_
          refine xp_4_6 F i_X8 w_7 dX8_takeOfNumbers_168 ?_
          refine g_iconst F 0 dX8_takeOfNumbers_171 (by decide) ?_
          exact u_iret F hA hQ hr (gu_up (gu_up G69 4 5 y74) 4 6 (G 1 5)) (⟨(gu_I.up (j := 4) (k := 6) (v := (G 1 5)) (gu_I.up (j := 4) (k := 5) (v := y74) hI70 (show (0 : Int) ≤ Int32.toInt y74 by omega) (show Int32.toInt y74 ≤ 6 by omega)) (show (0 : Int) ≤ Int32.toInt (G 1 5) by omega) (show Int32.toInt (G 1 5) ≤ 9999 by omega)), (gu_un.up (j := 4) (k := 6) (v := (G 1 5)) (gu_un.up (j := 4) (k := 5) (v := y74) (gu_un.tr gu_un.rf (gu_un.su hU71 rfl)) (show (406 : Nat) ∈ ([403, 405, 406, 407, 1900] : List Nat) by decide)) (show (407 : Nat) ∈ ([403, 405, 406, 407, 1900] : List Nat) by decide)), (by decide), ((xNb.un (G := G69) (by rw [q73]; rcases (show y66.toInt = 20 ∨ y66.toInt = 21 ∨ y66.toInt = 22 ∨ y66.toInt = 23 by omega) with h9 | h9 | h9 | h9 <;> (rw [h9]; first | exact xNb.put nb (show (0 : Int) ≤ Int32.toInt (G 1 5) by omega) (show Int32.toInt (G 1 5) ≤ 15 by omega) | exact xNb.put nb (show (0 : Int) ≤ Int32.toInt (G 1 5) by omega) (show Int32.toInt (G 1 5) ≤ 15 by omega) | exact xNb.put nb (show (0 : Int) ≤ Int32.toInt (G 1 5) by omega) (show Int32.toInt (G 1 5) ≤ 15 by omega) | exact xNb.put nb (show (0 : Int) ≤ Int32.toInt (G 1 5) by omega) (show Int32.toInt (G 1 5) ≤ 15 by omega))) (show gu_un xcd [406, 407] G69 (gu_up (gu_up G69 4 5 y74) 4 6 (G 1 5)) from (gu_un.up (j := 4) (k := 6) (v := (G 1 5)) (gu_un.up (j := 4) (k := 5) (v := y74) gu_un.rf (show (406 : Nat) ∈ ([406, 407] : List Nat) by decide)) (show (407 : Nat) ∈ ([406, 407] : List Nat) by decide))) rfl)), (by show (((gu_up (gu_up G69 4 5 y74) 4 6 (G 1 5)) 4 4).toInt = -1 ∨ ((gu_up (gu_up G69 4 5 y74) 4 6 (G 1 5)) 4 5).toInt ≤ 1 ∨ (((gu_up (gu_up G69 4 5 y74) 4 6 (G 1 5)) 4 5).toInt ≤ 2 ∧ (((gu_up (gu_up G69 4 5 y74) 4 6 (G 1 5)) 4 4).toInt = 3 ∨ ((gu_up (gu_up G69 4 5 y74) 4 6 (G 1 5)) 4 4).toInt = 4)) ∨ (((gu_up (gu_up G69 4 5 y74) 4 6 (G 1 5)) 4 5).toInt ≤ 4 ∧ ((gu_up (gu_up G69 4 5 y74) 4 6 (G 1 5)) 4 4).toInt = 8) ∨ ((gu_up (gu_up G69 4 5 y74) 4 6 (G 1 5)) 4 4).toInt = 9); have e9_4_4 : (gu_up (gu_up G69 4 5 y74) 4 6 (G 1 5)) 4 4 = (G 4 4) := hU71 4 4 (by decide); have e9_4_5 : (gu_up (gu_up G69 4 5 y74) 4 6 (G 1 5)) 4 5 = y74 := rfl; (try simp only [e9_4_4, e9_4_5, true_and, and_true]) <;> (first | omega | (simp only [Int32.reduceToInt, true_and, and_true, ne_eq, not_true_eq_false, false_and, or_false, false_or, true_or, or_true, false_implies] <;> omega))), (by show (((gu_up (gu_up G69 4 5 y74) 4 6 (G 1 5)) 4 4).toInt = -1 ∨ ((gu_up (gu_up G69 4 5 y74) 4 6 (G 1 5)) 4 4).toInt = (G 4 4).toInt); have e9_4_4 : (gu_up (gu_up G69 4 5 y74) 4 6 (G 1 5)) 4 4 = (G 4 4) := hU71 4 4 (by decide); (try simp only [e9_4_4, true_and, and_true]) <;> (first | omega | (simp only [Int32.reduceToInt, true_and, and_true, ne_eq, not_true_eq_false, false_and, or_false, false_or, true_or, or_true, false_implies] <;> omega))), (by show (((gu_up (gu_up G69 4 5 y74) 4 6 (G 1 5)) 4 2).toInt ≤ (G 4 2).toInt + 1); have e9_4_2 : (gu_up (gu_up G69 4 5 y74) 4 6 (G 1 5)) 4 2 = (G 4 2) := hU71 4 2 (by decide); (try simp only [e9_4_2, true_and, and_true]) <;> (first | omega | (simp only [Int32.reduceToInt, true_and, and_true, ne_eq, not_true_eq_false, false_and, or_false, false_or, true_or, or_true, false_implies] <;> omega))), (by have m9 : hMo 8 = 4 := (by decide); have l9 : hLo 8 = 0 := (by decide); have h9 : hHi 8 = 15 := (by decide); have s9 : hSl 8 = 20 := (by decide); exact xH_nP (c := 8) (by decide) (show (G 4 4).toInt = 8 by omega) (by decide) (by decide) (by omega) (by show ¬ (_ ∨ _ ∨ _); omega) (by omega) (show (gu_up (gu_up G69 4 5 y74) 4 6 (G 1 5)) 4 4 = (G 4 4) from hU71 4 4 (by decide)) (show ((gu_up (gu_up G69 4 5 y74) 4 6 (G 1 5)) 4 5).toInt = (G 4 5).toInt + 1 by rw [show (gu_up (gu_up G69 4 5 y74) 4 6 (G 1 5)) 4 5 = y74 from rfl] <;> first | rfl | omega) (show ((gu_up (gu_up G69 4 5 y74) 4 6 (G 1 5)) 4 6).toInt = (G 1 5).toInt by rw [show (gu_up (gu_up G69 4 5 y74) 4 6 (G 1 5)) 4 6 = (G 1 5) from rfl] <;> first | rfl | omega) (show (gu_up (gu_up G69 4 5 y74) 4 6 (G 1 5)) 4 2 = (G 4 2) from hU71 4 2 (by decide)) (show (gu_up (gu_up G69 4 5 y74) 4 6 (G 1 5)) 4 3 = (G 4 3) from hU71 4 3 (by decide)) (x := (G 1 5)) rfl (q := y66.toInt) (by omega) (show (gu_up (gu_up G69 4 5 y74) 4 6 (G 1 5)) 19 = upd (G 19) (y66.toInt).toNat (G 1 5) from (show (gu_up (gu_up G69 4 5 y74) 4 6 (G 1 5)) 19 = G69 19 from funext fun k_ => (show gu_un xcd [406, 407] G69 (gu_up (gu_up G69 4 5 y74) 4 6 (G 1 5)) from (gu_un.up (j := 4) (k := 6) (v := (G 1 5)) (gu_un.up (j := 4) (k := 5) (v := y74) gu_un.rf (show (406 : Nat) ∈ ([406, 407] : List Nat) by decide)) (show (407 : Nat) ∈ ([406, 407] : List Nat) by decide))) 19 k_ (by simp [xcd])).trans q73) (xSg_un (show gu_un xcd [406, 407, 1900] G (gu_up (gu_up G69 4 5 y74) 4 6 (G 1 5)) from (gu_un.up (j := 4) (k := 6) (v := (G 1 5)) (gu_un.up (j := 4) (k := 5) (v := y74) (gu_un.tr gu_un.rf (gu_un.su hU71 rfl)) (show (406 : Nat) ∈ ([406, 407, 1900] : List Nat) by decide)) (show (407 : Nat) ∈ ([406, 407, 1900] : List Nat) by decide))) rfl rfl rfl)), (by show (0 ≠ 0 ∨ (G 1 3).toInt ≠ 0); (first | omega | (simp only [Int32.reduceToInt, true_and, and_true, ne_eq, not_true_eq_false, false_and, or_false, false_or, true_or, or_true, false_implies] <;> omega)))⟩) rfl rfl dX8_takeOfNumbers_172
        · refine g_iconst F 4 dX8_takeOfNumbers_125 (by decide) ?_
          exact u_iret F hA hQ hr G (⟨hI, gu_un.rf, (by decide), (nb), (by show ((G 4 4).toInt = -1 ∨ (G 4 5).toInt ≤ 1 ∨ ((G 4 5).toInt ≤ 2 ∧ ((G 4 4).toInt = 3 ∨ (G 4 4).toInt = 4)) ∨ ((G 4 5).toInt ≤ 4 ∧ (G 4 4).toInt = 8) ∨ (G 4 4).toInt = 9); (first | omega | (simp only [Int32.reduceToInt, true_and, and_true, ne_eq, not_true_eq_false, false_and, or_false, false_or, true_or, or_true, false_implies] <;> omega))), (by show ((G 4 4).toInt = -1 ∨ (G 4 4).toInt = (G 4 4).toInt); (first | omega | (simp only [Int32.reduceToInt, true_and, and_true, ne_eq, not_true_eq_false, false_and, or_false, false_or, true_or, or_true, false_implies] <;> omega))), (by show ((G 4 2).toInt ≤ (G 4 2).toInt + 1); (first | omega | (simp only [Int32.reduceToInt, true_and, and_true, ne_eq, not_true_eq_false, false_and, or_false, false_or, true_or, or_true, false_implies] <;> omega))), (by have m9 : hMo 8 = 4 := (by decide); have l9 : hLo 8 = 0 := (by decide); have h9 : hHi 8 = 15 := (by decide); have s9 : hSl 8 = 20 := (by decide); exact xH_bad (f := 4) (by decide) (by decide) (fun ts pl ci => by rw [show (G 4 4).toInt = 8 by omega]; exact hO_n4 (by decide) (by decide) (by omega) (by omega) (by show ¬ (_ ∨ _ ∨ _); omega) (by omega))), (by show (4 ≠ 0 ∨ (G 1 3).toInt ≠ 0); (first | omega | (simp only [Int32.reduceToInt, true_and, and_true, ne_eq, not_true_eq_false, false_and, or_false, false_or, true_or, or_true, false_implies] <;> omega)))⟩) rfl rfl dX8_takeOfNumbers_126
      · refine g_iconst F 2 dX8_takeOfNumbers_112 (by decide) ?_
        exact u_iret F hA hQ hr G (⟨hI, gu_un.rf, (by decide), (nb), (by show ((G 4 4).toInt = -1 ∨ (G 4 5).toInt ≤ 1 ∨ ((G 4 5).toInt ≤ 2 ∧ ((G 4 4).toInt = 3 ∨ (G 4 4).toInt = 4)) ∨ ((G 4 5).toInt ≤ 4 ∧ (G 4 4).toInt = 8) ∨ (G 4 4).toInt = 9); (first | omega | (simp only [Int32.reduceToInt, true_and, and_true, ne_eq, not_true_eq_false, false_and, or_false, false_or, true_or, or_true, false_implies] <;> omega))), (by show ((G 4 4).toInt = -1 ∨ (G 4 4).toInt = (G 4 4).toInt); (first | omega | (simp only [Int32.reduceToInt, true_and, and_true, ne_eq, not_true_eq_false, false_and, or_false, false_or, true_or, or_true, false_implies] <;> omega))), (by show ((G 4 2).toInt ≤ (G 4 2).toInt + 1); (first | omega | (simp only [Int32.reduceToInt, true_and, and_true, ne_eq, not_true_eq_false, false_and, or_false, false_or, true_or, or_true, false_implies] <;> omega))), (by have m9 : hMo 8 = 4 := (by decide); have l9 : hLo 8 = 0 := (by decide); have h9 : hHi 8 = 15 := (by decide); have s9 : hSl 8 = 20 := (by decide); exact xH_bad (f := 2) (by decide) (by decide) (fun ts pl ci => by rw [show (G 4 4).toInt = 8 by omega]; exact hO_n2 (by decide) (by decide) (by omega) (by omega) (by show _ ∨ _ ∨ _; omega))), (by show (2 ≠ 0 ∨ (G 1 3).toInt ≠ 0); (first | omega | (simp only [Int32.reduceToInt, true_and, and_true, ne_eq, not_true_eq_false, false_and, or_false, false_or, true_or, or_true, false_implies] <;> omega)))⟩) rfl rfl dX8_takeOfNumbers_113


set_option maxHeartbeats 4000000 in
set_option maxRecDepth 100000 in
theorem S_X8_isInBounds_c9 (l : Launch) (D : va_G) (K : Nat → ClassId) (a : Nat → Nat) (G : gS) (zf : Nat → Nat) (hI : xI G) (sz : Nat) : KiZ (xZ zf) l yX8_isInBounds wsX8_isInBounds 2 60 D [.ref (a 4), .ref (zf 19)] (xW K a G) (tK K) sz (fun (r : Int32) (_ : Unit) => (0 ≤ r.toInt ∧ r.toInt ≤ 1) ∧ (((r.toInt = 1 ∧ (0 ≤ (G 1 5).toInt ∧ (G 1 5).toInt ≤ 9)) ∨ (r.toInt = 0 ∧ ¬ (0 ≤ (G 1 5).toInt ∧ (G 1 5).toInt ≤ 9))))) (fun (_ : Unit) => (xW K a G)) := by
  unfold KiZ
  refine gz_ofW (cc := cX8_isInBounds) (lv := [(0, .ref (a 4)), (1, .ref (zf 19))]) (by decide) rfl (Nat.le_of_ble_eq_true rfl) rfl ?_
  intro p e s m args below meth c A Q hA hQ hZ F hr hnm
  have hts := F.2.2.2.2.1
  have w_0 : (Cond.fieldLink RX8 9 "QuietCut$ShopReader" "tape" "LQuietCut$Tape;").before args s = true := hts _ (List.mem_of_getElem? (i := 1) rfl)
  have i_X8 : ∀ w ∈ u_ws RX8 TX8 7, w ∈ wsX8_isInBounds := fun _ h => List.mem_cons_of_mem _ (List.mem_append_left _ (List.mem_append_right _ h))
  have w_1 : (Cond.fieldLink RX8 125 "QuietCut$Tape" "value" "I").before args s = true := hts _ (List.mem_of_getElem? (i := 2) rfl)
  have i_X10 : ∀ w ∈ u_ws RX10 TX10 6, w ∈ wsX8_isInBounds := fun _ h => List.mem_cons_of_mem _ (List.mem_append_right _ h)
  have w_2 : (Cond.fieldLink RX8 131 "QuietCut$Clause" "low" "I").before args s = true := hts _ (List.mem_of_getElem? (i := 3) rfl)
  have w_3 : (Cond.fieldLink RX8 134 "QuietCut$Clause" "high" "I").before args s = true := hts _ (List.mem_of_getElem? (i := 4) rfl)
  have b1 : (0 : Int) ≤ (G 4 5).toInt ∧ (G 4 5).toInt ≤ 6 := hI 4 5
  have b2 : (0 : Int) ≤ (G 4 6).toInt ∧ (G 4 6).toInt ≤ 9999 := hI 4 6
  refine g_aload_n F 0 dX8_isInBounds_0 rfl rfl ?_
  refine xg_4_0 F i_X8 w_0 dX8_isInBounds_1 ?_
  refine xg_1_5 F i_X10 w_1 dX8_isInBounds_4 (G 1 5) (rfl) ?_
  refine g_aload_n F 1 dX8_isInBounds_7 rfl rfl ?_
  refine uz_getf F (show va_OF "QuietCut$Clause" "low" "I" (.int 0) (zf 19) A s s.heap from (hZ.2.2.2.2.2 9 (by decide)).2.2.2.2.1) w_2 dX8_isInBounds_8 ?_
  refine v_icmp_lt F 28 dX8_isInBounds_11 (by decide) (G 1 5).toInt 0 rfl rfl (fun c3 => ?_) (fun c3 => ?_)
  · refine g_iconst F 0 dX8_isInBounds_28 (by decide) ?_
    exact u_zret F hA hQ hr rfl () (⟨(by decide), (by show ((0 = 1 ∧ (0 ≤ (G 1 5).toInt ∧ (G 1 5).toInt ≤ 9)) ∨ (0 = 0 ∧ ¬ (0 ≤ (G 1 5).toInt ∧ (G 1 5).toInt ≤ 9))); (first | omega | (simp only [Int32.reduceToInt, true_and, and_true, ne_eq, not_true_eq_false, false_and, or_false, false_or, true_or, or_true, false_implies] <;> omega)))⟩) rfl rfl dX8_isInBounds_29
  · refine g_aload_n F 0 dX8_isInBounds_14 rfl rfl ?_
    refine xg_4_0 F i_X8 w_0 dX8_isInBounds_15 ?_
    refine xg_1_5 F i_X10 w_1 dX8_isInBounds_18 (G 1 5) (rfl) ?_
    refine g_aload_n F 1 dX8_isInBounds_21 rfl rfl ?_
    refine uz_getf F (show va_OF "QuietCut$Clause" "high" "I" (.int 9) (zf 19) A s s.heap from (hZ.2.2.2.2.2 9 (by decide)).2.2.2.2.2.1) w_3 dX8_isInBounds_22 ?_
    have b4 := ti_rng (G 1 5)
    refine v_icmp_le F 30 dX8_isInBounds_25 (by decide) (G 1 5).toInt 9 rfl rfl (fun c5 => ?_) (fun c5 => ?_)
    · refine g_aload_n F 1 dX8_isInBounds_30 rfl rfl ?_
      refine uz_call0Vi (k := 0) (n := 0) (b := (zf 19)) (As := []) (st := []) F xZ_st hZ (fun sz => S_X1_manySlot_c9 l D zf sz) (cwV 0 hts gX8_isInBounds_X1_manySlot rfl rfl rfl (by decide +kernel) ⟨Nat.le_of_ble_eq_true rfl, Nat.le_of_ble_eq_true rfl⟩) (hZ.2.2.2.2.2 9 (by decide)).1 rfl (Nat.le_of_ble_eq_true rfl) ⟨Nat.zero_le _, Nat.zero_le _⟩ dX8_isInBounds_31 (fun r6 _ hw7 => ?_)
      have hw7 : r6.toInt = 11 := hw7
      refine g_fold 11 ((ti_eq rfl (show (11 : Int32).toInt = 11 from rfl)).mpr hw7) ?_
      refine g_iconst F (-1) dX8_isInBounds_34 (by decide) ?_
      refine v_icmp_ne F 50 dX8_isInBounds_35 (by decide) 11 (-1) rfl rfl (fun c8 => ?_) (fun c8 => absurd c8 (by decide))
      refine g_iconst F 0 dX8_isInBounds_50 (by decide) ?_
      refine g_istore_n F [(2, .int 0), (0, .ref (a 4)), (1, .ref (zf 19))] dX8_isInBounds_51 rfl (by decide) rfl ?_
      refine g_iload_n F 0 dX8_isInBounds_52 rfl rfl ?_
      refine v_if_eq F 86 dX8_isInBounds_53 (by decide) 0 rfl (fun c9 => ?_) (fun c9 => absurd c9 (by decide))
      refine g_iconst F 1 dX8_isInBounds_86 (by decide) ?_
      refine g_goto F 91 dX8_isInBounds_87 (by decide) ?_
      exact u_zret F hA hQ hr rfl () (⟨(by decide), (by show ((1 = 1 ∧ (0 ≤ (G 1 5).toInt ∧ (G 1 5).toInt ≤ 9)) ∨ (1 = 0 ∧ ¬ (0 ≤ (G 1 5).toInt ∧ (G 1 5).toInt ≤ 9))); (first | omega | (simp only [Int32.reduceToInt, true_and, and_true, ne_eq, not_true_eq_false, false_and, or_false, false_or, true_or, or_true, false_implies] <;> omega)))⟩) rfl rfl dX8_isInBounds_91
    · refine g_iconst F 0 dX8_isInBounds_28 (by decide) ?_
      exact u_zret F hA hQ hr rfl () (⟨(by decide), (by show ((0 = 1 ∧ (0 ≤ (G 1 5).toInt ∧ (G 1 5).toInt ≤ 9)) ∨ (0 = 0 ∧ ¬ (0 ≤ (G 1 5).toInt ∧ (G 1 5).toInt ≤ 9))); (first | omega | (simp only [Int32.reduceToInt, true_and, and_true, ne_eq, not_true_eq_false, false_and, or_false, false_or, true_or, or_true, false_implies] <;> omega)))⟩) rfl rfl dX8_isInBounds_29


set_option maxHeartbeats 4000000 in
set_option maxRecDepth 100000 in
theorem S_X8_takeOfNumbers_c9 (l : Launch) (D : va_G) (K : Nat → ClassId) (a : Nat → Nat) (G : gS) (zf : Nat → Nat) (nb : xNb (G 19)) (ck : ((G 4 2).toInt ≤ 1000)) (rn : ((G 4 5).toInt ≤ 6 ∧ (G 4 4).toInt = 9)) (hI : xI G) (sz : Nat) : KiZ (xZ zf) l yX8_takeOfNumbers wsX8_takeOfNumbers 3 82 D [.ref (a 4), .ref (zf 19)] (xW K a G) (tK K) sz (fun (r : Int32) (G' : gS) => (xI G') ∧ (gu_un xcd [403, 405, 406, 407, 1900] G G') ∧ (0 ≤ r.toInt ∧ r.toInt ≤ 4) ∧ (xNb (G' 19)) ∧ (((G' 4 4).toInt = -1 ∨ (G' 4 5).toInt ≤ 1 ∨ ((G' 4 5).toInt ≤ 2 ∧ ((G' 4 4).toInt = 3 ∨ (G' 4 4).toInt = 4)) ∨ ((G' 4 5).toInt ≤ 4 ∧ (G' 4 4).toInt = 8) ∨ (G' 4 4).toInt = 9)) ∧ (((G' 4 4).toInt = -1 ∨ (G' 4 4).toInt = (G 4 4).toInt)) ∧ (((G' 4 2).toInt ≤ (G 4 2).toInt + 1)) ∧ ((∀ (ts : List hTk) (pl ci : Int), xH (((G 1 3).toInt, pl, (G 1 5).toInt, ci) :: ts) G = if r.toInt = 0 then xH ts G' else hBad r.toInt pl)) ∧ ((r.toInt ≠ 0 ∨ (G 1 3).toInt ≠ 0))) (fun (G' : gS) => (xW K a G')) := by
  unfold KiZ
  refine gz_ofW (cc := cX8_takeOfNumbers) (lv := [(0, .ref (a 4)), (1, .ref (zf 19))]) (by decide) rfl (Nat.le_of_ble_eq_true rfl) rfl ?_
  intro p e s m args below meth c A Q hA hQ hZ F hr hnm
  have hts := F.2.2.2.2.1
  have w_0 : (Cond.fieldLink RX8 9 "QuietCut$ShopReader" "tape" "LQuietCut$Tape;").before args s = true := hts _ (List.mem_of_getElem? (i := 1) rfl)
  have i_X8 : ∀ w ∈ u_ws RX8 TX8 7, w ∈ wsX8_takeOfNumbers := fun _ h => List.mem_cons_of_mem _ (List.mem_append_left _ (List.mem_append_left _ (List.mem_append_right _ h)))
  have w_1 : (Cond.fieldLink RX8 77 "QuietCut$ShopReader" "numbers" "I").before args s = true := hts _ (List.mem_of_getElem? (i := 2) rfl)
  have w_2 : (Cond.fieldLink RX8 42 "QuietCut$Tape" "kind" "I").before args s = true := hts _ (List.mem_of_getElem? (i := 5) rfl)
  have i_X10 : ∀ w ∈ u_ws RX10 TX10 6, w ∈ wsX8_takeOfNumbers := fun _ h => List.mem_cons_of_mem _ (List.mem_append_left _ (List.mem_append_right _ h))
  have w_3 : (Cond.fieldLink RX8 114 "QuietCut$Clause" "most" "I").before args s = true := hts _ (List.mem_of_getElem? (i := 3) rfl)
  have w_4 : (Cond.fieldLink RX8 15 "QuietCut$ShopReader" "target" "LQuietCut$Shop;").before args s = true := hts _ (List.mem_of_getElem? (i := 4) rfl)
  have w_5 : (Cond.fieldLink RX8 80 "QuietCut$Clause" "slot" "I").before args s = true := hts _ (List.mem_of_getElem? (i := 6) rfl)
  have w_6 : (Cond.fieldLink RX8 125 "QuietCut$Tape" "value" "I").before args s = true := hts _ (List.mem_of_getElem? (i := 7) rfl)
  have w_7 : (Cond.fieldLink RX8 128 "QuietCut$ShopReader" "latest" "I").before args s = true := hts _ (List.mem_of_getElem? (i := 8) rfl)
  have b1 : (0 : Int) ≤ (G 4 5).toInt ∧ (G 4 5).toInt ≤ 6 := hI 4 5
  have b2 : ((-1) : Int) ≤ (G 4 4).toInt ∧ (G 4 4).toInt ≤ 12 := hI 4 4
  have b3 : (0 : Int) ≤ (G 4 2).toInt ∧ (G 4 2).toInt ≤ 1001 := hI 4 2
  have b4 : (0 : Int) ≤ (G 4 6).toInt ∧ (G 4 6).toInt ≤ 9999 := hI 4 6
  refine g_aload_n F 1 dX8_takeOfNumbers_0 rfl rfl ?_
  refine uz_call0Vi (k := 0) (n := 0) (b := (zf 19)) (As := []) (st := []) F xZ_st hZ (fun sz => S_X1_manySlot_c9 l D zf sz) (cwV 0 hts gX8_takeOfNumbers_X1_manySlot rfl rfl rfl (by decide +kernel) ⟨Nat.le_of_ble_eq_true rfl, Nat.le_of_ble_eq_true rfl⟩) (hZ.2.2.2.2.2 9 (by decide)).1 rfl (Nat.le_of_ble_eq_true rfl) ⟨Nat.zero_le _, Nat.zero_le _⟩ dX8_takeOfNumbers_1 (fun r5 _ hw6 => ?_)
  have hw6 : r5.toInt = 11 := hw6
  refine g_fold 11 ((ti_eq rfl (show (11 : Int32).toInt = 11 from rfl)).mpr hw6) ?_
  refine g_iconst F (-1) dX8_takeOfNumbers_4 (by decide) ?_
  refine v_icmp_eq F 12 dX8_takeOfNumbers_5 (by decide) 11 (-1) rfl rfl (fun c7 => absurd c7 (by decide)) (fun c7 => ?_)
  refine g_iconst F 1 dX8_takeOfNumbers_8 (by decide) ?_
  refine g_goto F 13 dX8_takeOfNumbers_9 (by decide) ?_
  refine g_istore_n F [(2, .int 1), (0, .ref (a 4)), (1, .ref (zf 19))] dX8_takeOfNumbers_13 rfl (by decide) rfl ?_
  refine g_aload_n F 1 dX8_takeOfNumbers_14 rfl rfl ?_
  refine xg_4_0 F i_X8 w_0 dX8_takeOfNumbers_15 ?_
  refine g_bipush F 59 dX8_takeOfNumbers_18 (by decide) ?_
  refine u_callVi (k := 0) (n := 0) (b := a 1) (As := [.int 59]) (st := []) F (fun sz => S_X10_isSign l D K a G 59 59 rfl hI sz) (cwV 1 hts gX8_takeOfNumbers_X10_isSign rfl rfl rfl (by decide +kernel) ⟨Nat.le_of_ble_eq_true rfl, Nat.le_of_ble_eq_true rfl⟩) rfl 1 xc_1 rfl (Nat.le_of_ble_eq_true rfl) ⟨Nat.zero_le _, Nat.zero_le _⟩ dX8_takeOfNumbers_20 (fun r8 _ hw9 => ?_)
  rcases hw9 with ⟨rfl, q11⟩ | ⟨rfl, q12⟩
  · have b13 : (0 : Int) ≤ (G 1 3).toInt ∧ (G 1 3).toInt ≤ 4 := hI 1 3
    have q11 : ((G 1 3).toInt = 3 ∧ (G 1 5).toInt = (59 : Int)) := q11
    refine v_if_eq F 76 dX8_takeOfNumbers_23 (by decide) 1 rfl (fun c14 => absurd c14 (by decide)) (fun c14 => ?_)
    refine g_iload_n F 0 dX8_takeOfNumbers_26 rfl rfl ?_
    refine v_if_eq F 40 dX8_takeOfNumbers_27 (by decide) 1 rfl (fun c15 => absurd c15 (by decide)) (fun c15 => ?_)
    refine g_aload_n F 1 dX8_takeOfNumbers_30 rfl rfl ?_
    refine xg_4_5 F i_X8 w_1 dX8_takeOfNumbers_31 (G 4 5) (rfl) ?_
    refine v_if_le F 76 dX8_takeOfNumbers_34 (by decide) (G 4 5).toInt rfl (fun c16 => ?_) (fun c16 => ?_)
    · refine g_aload_n F 1 dX8_takeOfNumbers_76 rfl rfl ?_
      refine xg_4_0 F i_X8 w_0 dX8_takeOfNumbers_77 ?_
      refine xg_1_3 F i_X10 w_2 dX8_takeOfNumbers_80 (G 1 3) (rfl) ?_
      refine g_iconst F 2 dX8_takeOfNumbers_83 (by decide) ?_
      refine v_icmp_ne F 102 dX8_takeOfNumbers_84 (by decide) (G 1 3).toInt 2 rfl rfl (fun c17 => ?_) (fun c17 => ?_)
      · refine g_iconst F 1 dX8_takeOfNumbers_102 (by decide) ?_
        exact u_iret F hA hQ hr G (⟨hI, gu_un.rf, (by decide), (nb), (by show ((G 4 4).toInt = -1 ∨ (G 4 5).toInt ≤ 1 ∨ ((G 4 5).toInt ≤ 2 ∧ ((G 4 4).toInt = 3 ∨ (G 4 4).toInt = 4)) ∨ ((G 4 5).toInt ≤ 4 ∧ (G 4 4).toInt = 8) ∨ (G 4 4).toInt = 9); (first | omega | (simp only [Int32.reduceToInt, true_and, and_true, ne_eq, not_true_eq_false, false_and, or_false, false_or, true_or, or_true, false_implies] <;> omega))), (by show ((G 4 4).toInt = -1 ∨ (G 4 4).toInt = (G 4 4).toInt); (first | omega | (simp only [Int32.reduceToInt, true_and, and_true, ne_eq, not_true_eq_false, false_and, or_false, false_or, true_or, or_true, false_implies] <;> omega))), (by show ((G 4 2).toInt ≤ (G 4 2).toInt + 1); (first | omega | (simp only [Int32.reduceToInt, true_and, and_true, ne_eq, not_true_eq_false, false_and, or_false, false_or, true_or, or_true, false_implies] <;> omega))), (by have m9 : hMo 9 = 6 := (by decide); have l9 : hLo 9 = 0 := (by decide); have h9 : hHi 9 = 9 := (by decide); have s9 : hSl 9 = 30 := (by decide); exact xH_bad (f := 1) (by decide) (by decide) (fun ts pl ci => by rw [show (G 4 4).toInt = 9 by omega]; exact hO_n1 (by decide) (by decide) (by show ¬ (_ ∧ _ ∧ _); omega) (by omega))), (by show (1 ≠ 0 ∨ (G 1 3).toInt ≠ 0); (first | omega | (simp only [Int32.reduceToInt, true_and, and_true, ne_eq, not_true_eq_false, false_and, or_false, false_or, true_or, or_true, false_implies] <;> omega)))⟩) rfl rfl dX8_takeOfNumbers_103
      · refine g_iload_n F 0 dX8_takeOfNumbers_87 rfl rfl ?_
        refine v_if_ne F 104 dX8_takeOfNumbers_88 (by decide) 1 rfl (fun c18 => ?_) (fun c18 => absurd c18 (by decide))
        refine g_aload_n F 1 dX8_takeOfNumbers_104 rfl rfl ?_
        refine g_aload_n F 2 dX8_takeOfNumbers_105 rfl rfl ?_
        refine uz_callVi (k := 0) (n := 0) (b := a 4) (As := [.ref (zf 19)]) (st := []) F xZ_st hZ (fun sz => S_X8_isInBounds_c9 l D K a G zf  hI sz) (cwV 1 hts gX8_takeOfNumbers_X8_isInBounds rfl rfl rfl (by decide +kernel) ⟨Nat.le_of_ble_eq_true rfl, Nat.le_of_ble_eq_true rfl⟩) rfl 4 xc_4 rfl (Nat.le_of_ble_eq_true rfl) ⟨Nat.zero_le _, Nat.zero_le _⟩ dX8_takeOfNumbers_106 (fun r19 _ hw20 => ?_)
        have q22 : ((r19.toInt = 1 ∧ (0 ≤ (G 1 5).toInt ∧ (G 1 5).toInt ≤ 9)) ∨ (r19.toInt = 0 ∧ ¬ (0 ≤ (G 1 5).toInt ∧ (G 1 5).toInt ≤ 9))) := hw20.2
        have rg23 := hw20.1
        clear hw20
        refine v_if_ne F 114 dX8_takeOfNumbers_109 (by decide) r19.toInt rfl (fun c24 => ?_) (fun c24 => ?_)
        · refine g_aload_n F 1 dX8_takeOfNumbers_114 rfl rfl ?_
          refine xg_4_5 F i_X8 w_1 dX8_takeOfNumbers_115 (G 4 5) (rfl) ?_
          refine g_aload_n F 2 dX8_takeOfNumbers_118 rfl rfl ?_
          refine uz_getf F (show va_OF "QuietCut$Clause" "most" "I" (.int 6) (zf 19) A s s.heap from (hZ.2.2.2.2.2 9 (by decide)).2.2.2.1) w_3 dX8_takeOfNumbers_119 ?_
          refine v_icmp_ne F 127 dX8_takeOfNumbers_122 (by decide) (G 4 5).toInt 6 rfl rfl (fun c25 => ?_) (fun c25 => absurd c25 (by omega))
          refine g_aload_n F 1 dX8_takeOfNumbers_127 rfl rfl ?_
          refine xg_4_1 F i_X8 w_4 dX8_takeOfNumbers_128 ?_
          refine g_aload_n F 2 dX8_takeOfNumbers_131 rfl rfl ?_
          refine uz_getf F (show va_OF "QuietCut$Clause" "slot" "I" (.int 30) (zf 19) A s s.heap from (hZ.2.2.2.2.2 9 (by decide)).2.2.1) w_5 dX8_takeOfNumbers_132 ?_
          refine g_aload_n F 1 dX8_takeOfNumbers_135 rfl rfl ?_
          refine xg_4_5 F i_X8 w_1 dX8_takeOfNumbers_136 (G 4 5) (rfl) ?_
          refine u_iadd F dX8_takeOfNumbers_139 30 (G 4 5).toInt rfl rfl (by omega) (by omega) (fun y26 ey26 => ?_)
          refine g_aload_n F 1 dX8_takeOfNumbers_140 rfl rfl ?_
          refine xg_4_0 F i_X8 w_0 dX8_takeOfNumbers_141 ?_
          refine xg_1_5 F i_X10 w_6 dX8_takeOfNumbers_144 (G 1 5) (rfl) ?_
          refine u_callVv (k := 0) (n := 0) (b := a 3) (As := [.int y26, .int (G 1 5)]) (st := []) F (fun sz => S_X7_put_3 l D K a G y26 y26.toInt (G 1 5) (G 1 5).toInt rfl (by omega) rfl hI sz) (cwV 2 hts gX8_takeOfNumbers_X7_put rfl rfl rfl (by decide +kernel) ⟨Nat.le_of_ble_eq_true rfl, Nat.le_of_ble_eq_true rfl⟩) rfl 3 xc_3 rfl (Nat.le_of_ble_eq_true rfl) ⟨Nat.zero_le _, Nat.zero_le _⟩ dX8_takeOfNumbers_147 (fun G29 hw28 => ?_)
          have hI30 : xI G29 := hw28.1
          have hU31 : gu_un xcd [1900] G G29 := hw28.2.1
          have hp32 := hw28.2.2
          have q33 : (G29 19 = upd (G 19) (y26.toInt).toNat (G 1 5)) := hp32
          clear hp32 hw28
          refine g_aload_n F 1 dX8_takeOfNumbers_150 rfl rfl ?_
          refine g_dup F dX8_takeOfNumbers_151 rfl ?_
          refine xg_4_5 F i_X8 w_1 dX8_takeOfNumbers_152 (G 4 5) (hU31 4 5 (by decide)) ?_
          refine g_iconst F 1 dX8_takeOfNumbers_155 (by decide) ?_
          refine u_iadd F dX8_takeOfNumbers_156 (G 4 5).toInt 1 rfl rfl (by omega) (by omega) (fun y34 ey34 => ?_)
          refine xp_4_5 F i_X8 w_1 dX8_takeOfNumbers_157 ?_
          refine g_aload_n F 1 dX8_takeOfNumbers_160 rfl rfl ?_
          refine g_aload_n F 1 dX8_takeOfNumbers_161 rfl rfl ?_
          refine xg_4_0 F i_X8 w_0 dX8_takeOfNumbers_162 ?_
          refine xg_1_5 F i_X10 w_6 dX8_takeOfNumbers_165 (G 1 5) (hU31 1 5 (by decide)) ?_
          refine xp_4_6 F i_X8 w_7 dX8_takeOfNumbers_168 ?_
          refine g_iconst F 0 dX8_takeOfNumbers_171 (by decide) ?_
          exact u_iret F hA hQ hr (gu_up (gu_up G29 4 5 y34) 4 6 (G 1 5)) (⟨(gu_I.up (j := 4) (k := 6) (v := (G 1 5)) (gu_I.up (j := 4) (k := 5) (v := y34) hI30 (show (0 : Int) ≤ Int32.toInt y34 by omega) (show Int32.toInt y34 ≤ 6 by omega)) (show (0 : Int) ≤ Int32.toInt (G 1 5) by omega) (show Int32.toInt (G 1 5) ≤ 9999 by omega)), (gu_un.up (j := 4) (k := 6) (v := (G 1 5)) (gu_un.up (j := 4) (k := 5) (v := y34) (gu_un.tr gu_un.rf (gu_un.su hU31 rfl)) (show (406 : Nat) ∈ ([403, 405, 406, 407, 1900] : List Nat) by decide)) (show (407 : Nat) ∈ ([403, 405, 406, 407, 1900] : List Nat) by decide)), (by decide), ((xNb.un (G := G29) (by rw [q33]; rcases (show y26.toInt = 30 ∨ y26.toInt = 31 ∨ y26.toInt = 32 ∨ y26.toInt = 33 ∨ y26.toInt = 34 ∨ y26.toInt = 35 by omega) with h9 | h9 | h9 | h9 | h9 | h9 <;> (rw [h9]; first | exact xNb.put nb (show (0 : Int) ≤ Int32.toInt (G 1 5) by omega) (show Int32.toInt (G 1 5) ≤ 9 by omega) | exact xNb.put nb (show (0 : Int) ≤ Int32.toInt (G 1 5) by omega) (show Int32.toInt (G 1 5) ≤ 9 by omega) | exact xNb.put nb (show (0 : Int) ≤ Int32.toInt (G 1 5) by omega) (show Int32.toInt (G 1 5) ≤ 9 by omega) | exact xNb.put nb (show (0 : Int) ≤ Int32.toInt (G 1 5) by omega) (show Int32.toInt (G 1 5) ≤ 9 by omega) | exact xNb.put nb (show (0 : Int) ≤ Int32.toInt (G 1 5) by omega) (show Int32.toInt (G 1 5) ≤ 9 by omega) | exact xNb.put nb (show (0 : Int) ≤ Int32.toInt (G 1 5) by omega) (show Int32.toInt (G 1 5) ≤ 9 by omega))) (show gu_un xcd [406, 407] G29 (gu_up (gu_up G29 4 5 y34) 4 6 (G 1 5)) from (gu_un.up (j := 4) (k := 6) (v := (G 1 5)) (gu_un.up (j := 4) (k := 5) (v := y34) gu_un.rf (show (406 : Nat) ∈ ([406, 407] : List Nat) by decide)) (show (407 : Nat) ∈ ([406, 407] : List Nat) by decide))) rfl)), (by show (((gu_up (gu_up G29 4 5 y34) 4 6 (G 1 5)) 4 4).toInt = -1 ∨ ((gu_up (gu_up G29 4 5 y34) 4 6 (G 1 5)) 4 5).toInt ≤ 1 ∨ (((gu_up (gu_up G29 4 5 y34) 4 6 (G 1 5)) 4 5).toInt ≤ 2 ∧ (((gu_up (gu_up G29 4 5 y34) 4 6 (G 1 5)) 4 4).toInt = 3 ∨ ((gu_up (gu_up G29 4 5 y34) 4 6 (G 1 5)) 4 4).toInt = 4)) ∨ (((gu_up (gu_up G29 4 5 y34) 4 6 (G 1 5)) 4 5).toInt ≤ 4 ∧ ((gu_up (gu_up G29 4 5 y34) 4 6 (G 1 5)) 4 4).toInt = 8) ∨ ((gu_up (gu_up G29 4 5 y34) 4 6 (G 1 5)) 4 4).toInt = 9); have e9_4_4 : (gu_up (gu_up G29 4 5 y34) 4 6 (G 1 5)) 4 4 = (G 4 4) := hU31 4 4 (by decide); have e9_4_5 : (gu_up (gu_up G29 4 5 y34) 4 6 (G 1 5)) 4 5 = y34 := rfl; (try simp only [e9_4_4, e9_4_5, true_and, and_true]) <;> (first | omega | (simp only [Int32.reduceToInt, true_and, and_true, ne_eq, not_true_eq_false, false_and, or_false, false_or, true_or, or_true, false_implies] <;> omega))), (by show (((gu_up (gu_up G29 4 5 y34) 4 6 (G 1 5)) 4 4).toInt = -1 ∨ ((gu_up (gu_up G29 4 5 y34) 4 6 (G 1 5)) 4 4).toInt = (G 4 4).toInt); have e9_4_4 : (gu_up (gu_up G29 4 5 y34) 4 6 (G 1 5)) 4 4 = (G 4 4) := hU31 4 4 (by decide); (try simp only [e9_4_4, true_and, and_true]) <;> (first | omega | (simp only [Int32.reduceToInt, true_and, and_true, ne_eq, not_true_eq_false, false_and, or_false, false_or, true_or, or_true, false_implies] <;> omega))), (by show (((gu_up (gu_up G29 4 5 y34) 4 6 (G 1 5)) 4 2).toInt ≤ (G 4 2).toInt + 1); have e9_4_2 : (gu_up (gu_up G29 4 5 y34) 4 6 (G 1 5)) 4 2 = (G 4 2) := hU31 4 2 (by decide); (try simp only [e9_4_2, true_and, and_true]) <;> (first | omega | (simp only [Int32.reduceToInt, true_and, and_true, ne_eq, not_true_eq_false, false_and, or_false, false_or, true_or, or_true, false_implies] <;> omega))), (by have m9 : hMo 9 = 6 := (by decide); have l9 : hLo 9 = 0 := (by decide); have h9 : hHi 9 = 9 := (by decide); have s9 : hSl 9 = 30 := (by decide); exact xH_nP (c := 9) (by decide) (show (G 4 4).toInt = 9 by omega) (by decide) (by decide) (by omega) (by show ¬ (_ ∨ _ ∨ _); omega) (by omega) (show (gu_up (gu_up G29 4 5 y34) 4 6 (G 1 5)) 4 4 = (G 4 4) from hU31 4 4 (by decide)) (show ((gu_up (gu_up G29 4 5 y34) 4 6 (G 1 5)) 4 5).toInt = (G 4 5).toInt + 1 by rw [show (gu_up (gu_up G29 4 5 y34) 4 6 (G 1 5)) 4 5 = y34 from rfl] <;> first | rfl | omega) (show ((gu_up (gu_up G29 4 5 y34) 4 6 (G 1 5)) 4 6).toInt = (G 1 5).toInt by rw [show (gu_up (gu_up G29 4 5 y34) 4 6 (G 1 5)) 4 6 = (G 1 5) from rfl] <;> first | rfl | omega) (show (gu_up (gu_up G29 4 5 y34) 4 6 (G 1 5)) 4 2 = (G 4 2) from hU31 4 2 (by decide)) (show (gu_up (gu_up G29 4 5 y34) 4 6 (G 1 5)) 4 3 = (G 4 3) from hU31 4 3 (by decide)) (x := (G 1 5)) rfl (q := y26.toInt) (by omega) (show (gu_up (gu_up G29 4 5 y34) 4 6 (G 1 5)) 19 = upd (G 19) (y26.toInt).toNat (G 1 5) from (show (gu_up (gu_up G29 4 5 y34) 4 6 (G 1 5)) 19 = G29 19 from funext fun k_ => (show gu_un xcd [406, 407] G29 (gu_up (gu_up G29 4 5 y34) 4 6 (G 1 5)) from (gu_un.up (j := 4) (k := 6) (v := (G 1 5)) (gu_un.up (j := 4) (k := 5) (v := y34) gu_un.rf (show (406 : Nat) ∈ ([406, 407] : List Nat) by decide)) (show (407 : Nat) ∈ ([406, 407] : List Nat) by decide))) 19 k_ (by simp [xcd])).trans q33) (xSg_un (show gu_un xcd [406, 407, 1900] G (gu_up (gu_up G29 4 5 y34) 4 6 (G 1 5)) from (gu_un.up (j := 4) (k := 6) (v := (G 1 5)) (gu_un.up (j := 4) (k := 5) (v := y34) (gu_un.tr gu_un.rf (gu_un.su hU31 rfl)) (show (406 : Nat) ∈ ([406, 407, 1900] : List Nat) by decide)) (show (407 : Nat) ∈ ([406, 407, 1900] : List Nat) by decide))) rfl rfl rfl)), (by show (0 ≠ 0 ∨ (G 1 3).toInt ≠ 0); (first | omega | (simp only [Int32.reduceToInt, true_and, and_true, ne_eq, not_true_eq_false, false_and, or_false, false_or, true_or, or_true, false_implies] <;> omega)))⟩) rfl rfl dX8_takeOfNumbers_172
        · refine g_iconst F 2 dX8_takeOfNumbers_112 (by decide) ?_
          exact u_iret F hA hQ hr G (⟨hI, gu_un.rf, (by decide), (nb), (by show ((G 4 4).toInt = -1 ∨ (G 4 5).toInt ≤ 1 ∨ ((G 4 5).toInt ≤ 2 ∧ ((G 4 4).toInt = 3 ∨ (G 4 4).toInt = 4)) ∨ ((G 4 5).toInt ≤ 4 ∧ (G 4 4).toInt = 8) ∨ (G 4 4).toInt = 9); (first | omega | (simp only [Int32.reduceToInt, true_and, and_true, ne_eq, not_true_eq_false, false_and, or_false, false_or, true_or, or_true, false_implies] <;> omega))), (by show ((G 4 4).toInt = -1 ∨ (G 4 4).toInt = (G 4 4).toInt); (first | omega | (simp only [Int32.reduceToInt, true_and, and_true, ne_eq, not_true_eq_false, false_and, or_false, false_or, true_or, or_true, false_implies] <;> omega))), (by show ((G 4 2).toInt ≤ (G 4 2).toInt + 1); (first | omega | (simp only [Int32.reduceToInt, true_and, and_true, ne_eq, not_true_eq_false, false_and, or_false, false_or, true_or, or_true, false_implies] <;> omega))), (by have m9 : hMo 9 = 6 := (by decide); have l9 : hLo 9 = 0 := (by decide); have h9 : hHi 9 = 9 := (by decide); have s9 : hSl 9 = 30 := (by decide); exact xH_bad (f := 2) (by decide) (by decide) (fun ts pl ci => by rw [show (G 4 4).toInt = 9 by omega]; exact hO_n2 (by decide) (by decide) (by omega) (by omega) (by show _ ∨ _ ∨ _; omega))), (by show (2 ≠ 0 ∨ (G 1 3).toInt ≠ 0); (first | omega | (simp only [Int32.reduceToInt, true_and, and_true, ne_eq, not_true_eq_false, false_and, or_false, false_or, true_or, or_true, false_implies] <;> omega)))⟩) rfl rfl dX8_takeOfNumbers_113
    · refine g_goto F 51 dX8_takeOfNumbers_37 (by decide) ?_
      refine g_iload_n F 0 dX8_takeOfNumbers_51 rfl rfl ?_
      refine v_if_eq F 70 dX8_takeOfNumbers_52 (by decide) 1 rfl (fun c35 => absurd c35 (by decide)) (fun c35 => ?_)
      refine g_aload_n F 1 dX8_takeOfNumbers_55 rfl rfl ?_
      refine xg_4_1 F i_X8 w_4 dX8_takeOfNumbers_56 ?_
      refine g_aload_n F 2 dX8_takeOfNumbers_59 rfl rfl ?_
      refine uz_call0Vi (k := 0) (n := 0) (b := (zf 19)) (As := []) (st := [.ref (a 3)]) F xZ_st hZ (fun sz => S_X1_manySlot_c9 l D zf sz) (cwV 0 hts gX8_takeOfNumbers_X1_manySlot rfl rfl rfl (by decide +kernel) ⟨Nat.le_of_ble_eq_true rfl, Nat.le_of_ble_eq_true rfl⟩) (hZ.2.2.2.2.2 9 (by decide)).1 rfl (Nat.le_of_ble_eq_true rfl) ⟨Nat.zero_le _, Nat.zero_le _⟩ dX8_takeOfNumbers_60 (fun r36 _ hw37 => ?_)
      have hw37 : r36.toInt = 11 := hw37
      refine g_fold 11 ((ti_eq rfl (show (11 : Int32).toInt = 11 from rfl)).mpr hw37) ?_
      refine g_aload_n F 1 dX8_takeOfNumbers_63 rfl rfl ?_
      refine xg_4_5 F i_X8 w_1 dX8_takeOfNumbers_64 (G 4 5) (rfl) ?_
      refine u_callVv (k := 0) (n := 0) (b := a 3) (As := [.int 11, .int (G 4 5)]) (st := []) F (fun sz => S_X7_put_3 l D K a G 11 11 (G 4 5) (G 4 5).toInt rfl (by decide) rfl hI sz) (cwV 2 hts gX8_takeOfNumbers_X7_put rfl rfl rfl (by decide +kernel) ⟨Nat.le_of_ble_eq_true rfl, Nat.le_of_ble_eq_true rfl⟩) rfl 3 xc_3 rfl (Nat.le_of_ble_eq_true rfl) ⟨Nat.zero_le _, Nat.zero_le _⟩ dX8_takeOfNumbers_67 (fun G40 hw39 => ?_)
      have hI41 : xI G40 := hw39.1
      have hU42 : gu_un xcd [1900] G G40 := hw39.2.1
      have hp43 := hw39.2.2
      have q44 : (G40 19 = upd (G 19) ((11 : Int)).toNat (G 4 5)) := hp43
      clear hp43 hw39
      refine g_aload_n F 1 dX8_takeOfNumbers_70 rfl rfl ?_
      refine u_callVv (k := 0) (n := 0) (b := a 4) (As := []) (st := []) F (fun sz => S_X8_closeClause l D K a G40  (by have e9_4_2 : G40 4 2 = (G 4 2) := hU42 4 2 (by decide); (try simp only [e9_4_2, true_and, and_true]) <;> (first | omega | (simp only [Int32.reduceToInt, true_and, and_true, ne_eq, not_true_eq_false, false_and, or_false, false_or, true_or, or_true, false_implies] <;> omega))) hI41 sz) (cwV 0 hts gX8_takeOfNumbers_X8_closeClause rfl rfl rfl (by decide +kernel) ⟨Nat.le_of_ble_eq_true rfl, Nat.le_of_ble_eq_true rfl⟩) rfl 4 xc_4 rfl (Nat.le_of_ble_eq_true rfl) ⟨Nat.zero_le _, Nat.zero_le _⟩ dX8_takeOfNumbers_71 (fun G47 hw46 => ?_)
      have hI48 : xI G47 := hw46.1
      have hU49 : gu_un xcd [403, 405] G40 G47 := hw46.2.1
      have hp50 := hw46.2.2
      have b51 : ((-1) : Int) ≤ (G47 4 4).toInt ∧ (G47 4 4).toInt ≤ 12 := hI48 4 4
      have q52 : ((G47 4 4).toInt = -1) := hp50.1
      have b53 : (0 : Int) ≤ (G47 4 2).toInt ∧ (G47 4 2).toInt ≤ 1001 := hI48 4 2
      have q54 : ((G47 4 2).toInt = (G 4 2).toInt + 1) := by have h9 := hp50.2; (try simp only [(show G40 4 2 = (G 4 2) from hU42 4 2 (by decide))] at h9); first | exact h9 | omega
      clear hp50 hw46
      refine g_iconst F 0 dX8_takeOfNumbers_74 (by decide) ?_
      exact u_iret F hA hQ hr G47 (⟨hI48, (gu_un.tr (gu_un.tr gu_un.rf (gu_un.su hU42 rfl)) (gu_un.su hU49 rfl)), (by decide), ((xNb.un (G := G40) (by rw [q44]; exact xNb.put nb (show (1 : Int) ≤ Int32.toInt (G 4 5) by omega) (show Int32.toInt (G 4 5) ≤ 6 by omega)) (show gu_un xcd [403, 405] G40 G47 from (gu_un.tr gu_un.rf (gu_un.su hU49 rfl))) rfl)), (by show ((G47 4 4).toInt = -1 ∨ (G47 4 5).toInt ≤ 1 ∨ ((G47 4 5).toInt ≤ 2 ∧ ((G47 4 4).toInt = 3 ∨ (G47 4 4).toInt = 4)) ∨ ((G47 4 5).toInt ≤ 4 ∧ (G47 4 4).toInt = 8) ∨ (G47 4 4).toInt = 9); have e9_4_5 : G47 4 5 = (G 4 5) := (hU49 4 5 (by decide)).trans (hU42 4 5 (by decide)); (try simp only [e9_4_5, true_and, and_true]) <;> (first | omega | (simp only [Int32.reduceToInt, true_and, and_true, ne_eq, not_true_eq_false, false_and, or_false, false_or, true_or, or_true, false_implies] <;> omega))), (by show ((G47 4 4).toInt = -1 ∨ (G47 4 4).toInt = (G 4 4).toInt); (first | omega | (simp only [Int32.reduceToInt, true_and, and_true, ne_eq, not_true_eq_false, false_and, or_false, false_or, true_or, or_true, false_implies] <;> omega))), (by show ((G47 4 2).toInt ≤ (G 4 2).toInt + 1); (first | omega | (simp only [Int32.reduceToInt, true_and, and_true, ne_eq, not_true_eq_false, false_and, or_false, false_or, true_or, or_true, false_implies] <;> omega))), (by have m9 : hMo 9 = 6 := (by decide); have l9 : hLo 9 = 0 := (by decide); have h9 : hHi 9 = 9 := (by decide); have s9 : hSl 9 = 30 := (by decide); exact xH_nE (c := 9) (by decide) (show (G 4 4).toInt = 9 by omega) (by decide) (by decide) ⟨by omega, by omega, by omega⟩ (show (G47 4 4).toInt = -1 by rw [show G47 4 4 = (G47 4 4) from rfl] <;> first | rfl | omega) (show G47 4 5 = (G 4 5) from (hU49 4 5 (by decide)).trans (hU42 4 5 (by decide))) (show G47 4 6 = (G 4 6) from (hU49 4 6 (by decide)).trans (hU42 4 6 (by decide))) (show (G47 4 2).toInt = (G 4 2).toInt + 1 by rw [show G47 4 2 = (G47 4 2) from rfl] <;> first | rfl | omega) (show G47 4 3 = (G 4 3) from (hU49 4 3 (by decide)).trans (hU42 4 3 (by decide))) (by rw [if_neg (by decide), if_pos rfl]; rw [show G47 19 = G40 19 from funext fun k_ => (show gu_un xcd [403, 405] G40 G47 from (gu_un.tr gu_un.rf (gu_un.su hU49 rfl))) 19 k_ (by simp [xcd])]; exact q44) (xSg_un (show gu_un xcd [403, 405, 1900] G G47 from (gu_un.tr (gu_un.tr gu_un.rf (gu_un.su hU42 rfl)) (gu_un.su hU49 rfl))) rfl rfl rfl)), (by show (0 ≠ 0 ∨ (G 1 3).toInt ≠ 0); (first | omega | (simp only [Int32.reduceToInt, true_and, and_true, ne_eq, not_true_eq_false, false_and, or_false, false_or, true_or, or_true, false_implies] <;> omega)))⟩) rfl rfl dX8_takeOfNumbers_75
  · have b55 : (0 : Int) ≤ (G 1 3).toInt ∧ (G 1 3).toInt ≤ 4 := hI 1 3
    have q12 : ((G 1 3).toInt ≠ 3 ∨ (G 1 5).toInt ≠ (59 : Int)) := q12
    refine v_if_eq F 76 dX8_takeOfNumbers_23 (by decide) 0 rfl (fun c56 => ?_) (fun c56 => absurd c56 (by decide))
    refine g_aload_n F 1 dX8_takeOfNumbers_76 rfl rfl ?_
    refine xg_4_0 F i_X8 w_0 dX8_takeOfNumbers_77 ?_
    refine xg_1_3 F i_X10 w_2 dX8_takeOfNumbers_80 (G 1 3) (rfl) ?_
    refine g_iconst F 2 dX8_takeOfNumbers_83 (by decide) ?_
    refine v_icmp_ne F 102 dX8_takeOfNumbers_84 (by decide) (G 1 3).toInt 2 rfl rfl (fun c57 => ?_) (fun c57 => ?_)
    · refine g_iconst F 1 dX8_takeOfNumbers_102 (by decide) ?_
      exact u_iret F hA hQ hr G (⟨hI, gu_un.rf, (by decide), (nb), (by show ((G 4 4).toInt = -1 ∨ (G 4 5).toInt ≤ 1 ∨ ((G 4 5).toInt ≤ 2 ∧ ((G 4 4).toInt = 3 ∨ (G 4 4).toInt = 4)) ∨ ((G 4 5).toInt ≤ 4 ∧ (G 4 4).toInt = 8) ∨ (G 4 4).toInt = 9); (first | omega | (simp only [Int32.reduceToInt, true_and, and_true, ne_eq, not_true_eq_false, false_and, or_false, false_or, true_or, or_true, false_implies] <;> omega))), (by show ((G 4 4).toInt = -1 ∨ (G 4 4).toInt = (G 4 4).toInt); (first | omega | (simp only [Int32.reduceToInt, true_and, and_true, ne_eq, not_true_eq_false, false_and, or_false, false_or, true_or, or_true, false_implies] <;> omega))), (by show ((G 4 2).toInt ≤ (G 4 2).toInt + 1); (first | omega | (simp only [Int32.reduceToInt, true_and, and_true, ne_eq, not_true_eq_false, false_and, or_false, false_or, true_or, or_true, false_implies] <;> omega))), (by have m9 : hMo 9 = 6 := (by decide); have l9 : hLo 9 = 0 := (by decide); have h9 : hHi 9 = 9 := (by decide); have s9 : hSl 9 = 30 := (by decide); exact xH_bad (f := 1) (by decide) (by decide) (fun ts pl ci => by rw [show (G 4 4).toInt = 9 by omega]; exact hO_n1 (by decide) (by decide) (by show ¬ (_ ∧ _ ∧ _); omega) (by omega))), (by show (1 ≠ 0 ∨ (G 1 3).toInt ≠ 0); (first | omega | (simp only [Int32.reduceToInt, true_and, and_true, ne_eq, not_true_eq_false, false_and, or_false, false_or, true_or, or_true, false_implies] <;> omega)))⟩) rfl rfl dX8_takeOfNumbers_103
    · refine g_iload_n F 0 dX8_takeOfNumbers_87 rfl rfl ?_
      refine v_if_ne F 104 dX8_takeOfNumbers_88 (by decide) 1 rfl (fun c58 => ?_) (fun c58 => absurd c58 (by decide))
      refine g_aload_n F 1 dX8_takeOfNumbers_104 rfl rfl ?_
      refine g_aload_n F 2 dX8_takeOfNumbers_105 rfl rfl ?_
      refine uz_callVi (k := 0) (n := 0) (b := a 4) (As := [.ref (zf 19)]) (st := []) F xZ_st hZ (fun sz => S_X8_isInBounds_c9 l D K a G zf  hI sz) (cwV 1 hts gX8_takeOfNumbers_X8_isInBounds rfl rfl rfl (by decide +kernel) ⟨Nat.le_of_ble_eq_true rfl, Nat.le_of_ble_eq_true rfl⟩) rfl 4 xc_4 rfl (Nat.le_of_ble_eq_true rfl) ⟨Nat.zero_le _, Nat.zero_le _⟩ dX8_takeOfNumbers_106 (fun r59 _ hw60 => ?_)
      have q62 : ((r59.toInt = 1 ∧ (0 ≤ (G 1 5).toInt ∧ (G 1 5).toInt ≤ 9)) ∨ (r59.toInt = 0 ∧ ¬ (0 ≤ (G 1 5).toInt ∧ (G 1 5).toInt ≤ 9))) := hw60.2
      have rg63 := hw60.1
      clear hw60
      refine v_if_ne F 114 dX8_takeOfNumbers_109 (by decide) r59.toInt rfl (fun c64 => ?_) (fun c64 => ?_)
      · refine g_aload_n F 1 dX8_takeOfNumbers_114 rfl rfl ?_
        refine xg_4_5 F i_X8 w_1 dX8_takeOfNumbers_115 (G 4 5) (rfl) ?_
        refine g_aload_n F 2 dX8_takeOfNumbers_118 rfl rfl ?_
        refine uz_getf F (show va_OF "QuietCut$Clause" "most" "I" (.int 6) (zf 19) A s s.heap from (hZ.2.2.2.2.2 9 (by decide)).2.2.2.1) w_3 dX8_takeOfNumbers_119 ?_
        refine v_icmp_ne F 127 dX8_takeOfNumbers_122 (by decide) (G 4 5).toInt 6 rfl rfl (fun c65 => ?_) (fun c65 => ?_)
        · refine g_aload_n F 1 dX8_takeOfNumbers_127 rfl rfl ?_
          refine xg_4_1 F i_X8 w_4 dX8_takeOfNumbers_128 ?_
          refine g_aload_n F 2 dX8_takeOfNumbers_131 rfl rfl ?_
          refine uz_getf F (show va_OF "QuietCut$Clause" "slot" "I" (.int 30) (zf 19) A s s.heap from (hZ.2.2.2.2.2 9 (by decide)).2.2.1) w_5 dX8_takeOfNumbers_132 ?_
          refine g_aload_n F 1 dX8_takeOfNumbers_135 rfl rfl ?_
          refine xg_4_5 F i_X8 w_1 dX8_takeOfNumbers_136 (G 4 5) (rfl) ?_
          refine u_iadd F dX8_takeOfNumbers_139 30 (G 4 5).toInt rfl rfl (by omega) (by omega) (fun y66 ey66 => ?_)
          refine g_aload_n F 1 dX8_takeOfNumbers_140 rfl rfl ?_
          refine xg_4_0 F i_X8 w_0 dX8_takeOfNumbers_141 ?_
          refine xg_1_5 F i_X10 w_6 dX8_takeOfNumbers_144 (G 1 5) (rfl) ?_
          refine u_callVv (k := 0) (n := 0) (b := a 3) (As := [.int y66, .int (G 1 5)]) (st := []) F (fun sz => S_X7_put_3 l D K a G y66 y66.toInt (G 1 5) (G 1 5).toInt rfl (by omega) rfl hI sz) (cwV 2 hts gX8_takeOfNumbers_X7_put rfl rfl rfl (by decide +kernel) ⟨Nat.le_of_ble_eq_true rfl, Nat.le_of_ble_eq_true rfl⟩) rfl 3 xc_3 rfl (Nat.le_of_ble_eq_true rfl) ⟨Nat.zero_le _, Nat.zero_le _⟩ dX8_takeOfNumbers_147 (fun G69 hw68 => ?_)
          have hI70 : xI G69 := hw68.1
          have hU71 : gu_un xcd [1900] G G69 := hw68.2.1
          have hp72 := hw68.2.2
          have q73 : (G69 19 = upd (G 19) (y66.toInt).toNat (G 1 5)) := hp72
          clear hp72 hw68
          refine g_aload_n F 1 dX8_takeOfNumbers_150 rfl rfl ?_
          refine g_dup F dX8_takeOfNumbers_151 rfl ?_
          refine xg_4_5 F i_X8 w_1 dX8_takeOfNumbers_152 (G 4 5) (hU71 4 5 (by decide)) ?_
          refine g_iconst F 1 dX8_takeOfNumbers_155 (by decide) ?_
          refine u_iadd F dX8_takeOfNumbers_156 (G 4 5).toInt 1 rfl rfl (by omega) (by omega) (fun y74 ey74 => ?_)
          refine xp_4_5 F i_X8 w_1 dX8_takeOfNumbers_157 ?_
          refine g_aload_n F 1 dX8_takeOfNumbers_160 rfl rfl ?_
          refine g_aload_n F 1 dX8_takeOfNumbers_161 rfl rfl ?_
          refine xg_4_0 F i_X8 w_0 dX8_takeOfNumbers_162 ?_
          refine xg_1_5 F i_X10 w_6 dX8_takeOfNumbers_165 (G 1 5) (hU71 1 5 (by decide)) ?_
          refine xp_4_6 F i_X8 w_7 dX8_takeOfNumbers_168 ?_
          refine g_iconst F 0 dX8_takeOfNumbers_171 (by decide) ?_
          exact u_iret F hA hQ hr (gu_up (gu_up G69 4 5 y74) 4 6 (G 1 5)) (⟨(gu_I.up (j := 4) (k := 6) (v := (G 1 5)) (gu_I.up (j := 4) (k := 5) (v := y74) hI70 (show (0 : Int) ≤ Int32.toInt y74 by omega) (show Int32.toInt y74 ≤ 6 by omega)) (show (0 : Int) ≤ Int32.toInt (G 1 5) by omega) (show Int32.toInt (G 1 5) ≤ 9999 by omega)), (gu_un.up (j := 4) (k := 6) (v := (G 1 5)) (gu_un.up (j := 4) (k := 5) (v := y74) (gu_un.tr gu_un.rf (gu_un.su hU71 rfl)) (show (406 : Nat) ∈ ([403, 405, 406, 407, 1900] : List Nat) by decide)) (show (407 : Nat) ∈ ([403, 405, 406, 407, 1900] : List Nat) by decide)), (by decide), ((xNb.un (G := G69) (by rw [q73]; rcases (show y66.toInt = 30 ∨ y66.toInt = 31 ∨ y66.toInt = 32 ∨ y66.toInt = 33 ∨ y66.toInt = 34 ∨ y66.toInt = 35 by omega) with h9 | h9 | h9 | h9 | h9 | h9 <;> (rw [h9]; first | exact xNb.put nb (show (0 : Int) ≤ Int32.toInt (G 1 5) by omega) (show Int32.toInt (G 1 5) ≤ 9 by omega) | exact xNb.put nb (show (0 : Int) ≤ Int32.toInt (G 1 5) by omega) (show Int32.toInt (G 1 5) ≤ 9 by omega) | exact xNb.put nb (show (0 : Int) ≤ Int32.toInt (G 1 5) by omega) (show Int32.toInt (G 1 5) ≤ 9 by omega) | exact xNb.put nb (show (0 : Int) ≤ Int32.toInt (G 1 5) by omega) (show Int32.toInt (G 1 5) ≤ 9 by omega) | exact xNb.put nb (show (0 : Int) ≤ Int32.toInt (G 1 5) by omega) (show Int32.toInt (G 1 5) ≤ 9 by omega) | exact xNb.put nb (show (0 : Int) ≤ Int32.toInt (G 1 5) by omega) (show Int32.toInt (G 1 5) ≤ 9 by omega))) (show gu_un xcd [406, 407] G69 (gu_up (gu_up G69 4 5 y74) 4 6 (G 1 5)) from (gu_un.up (j := 4) (k := 6) (v := (G 1 5)) (gu_un.up (j := 4) (k := 5) (v := y74) gu_un.rf (show (406 : Nat) ∈ ([406, 407] : List Nat) by decide)) (show (407 : Nat) ∈ ([406, 407] : List Nat) by decide))) rfl)), (by show (((gu_up (gu_up G69 4 5 y74) 4 6 (G 1 5)) 4 4).toInt = -1 ∨ ((gu_up (gu_up G69 4 5 y74) 4 6 (G 1 5)) 4 5).toInt ≤ 1 ∨ (((gu_up (gu_up G69 4 5 y74) 4 6 (G 1 5)) 4 5).toInt ≤ 2 ∧ (((gu_up (gu_up G69 4 5 y74) 4 6 (G 1 5)) 4 4).toInt = 3 ∨ ((gu_up (gu_up G69 4 5 y74) 4 6 (G 1 5)) 4 4).toInt = 4)) ∨ (((gu_up (gu_up G69 4 5 y74) 4 6 (G 1 5)) 4 5).toInt ≤ 4 ∧ ((gu_up (gu_up G69 4 5 y74) 4 6 (G 1 5)) 4 4).toInt = 8) ∨ ((gu_up (gu_up G69 4 5 y74) 4 6 (G 1 5)) 4 4).toInt = 9); have e9_4_4 : (gu_up (gu_up G69 4 5 y74) 4 6 (G 1 5)) 4 4 = (G 4 4) := hU71 4 4 (by decide); have e9_4_5 : (gu_up (gu_up G69 4 5 y74) 4 6 (G 1 5)) 4 5 = y74 := rfl; (try simp only [e9_4_4, e9_4_5, true_and, and_true]) <;> (first | omega | (simp only [Int32.reduceToInt, true_and, and_true, ne_eq, not_true_eq_false, false_and, or_false, false_or, true_or, or_true, false_implies] <;> omega))), (by show (((gu_up (gu_up G69 4 5 y74) 4 6 (G 1 5)) 4 4).toInt = -1 ∨ ((gu_up (gu_up G69 4 5 y74) 4 6 (G 1 5)) 4 4).toInt = (G 4 4).toInt); have e9_4_4 : (gu_up (gu_up G69 4 5 y74) 4 6 (G 1 5)) 4 4 = (G 4 4) := hU71 4 4 (by decide); (try simp only [e9_4_4, true_and, and_true]) <;> (first | omega | (simp only [Int32.reduceToInt, true_and, and_true, ne_eq, not_true_eq_false, false_and, or_false, false_or, true_or, or_true, false_implies] <;> omega))), (by show (((gu_up (gu_up G69 4 5 y74) 4 6 (G 1 5)) 4 2).toInt ≤ (G 4 2).toInt + 1); have e9_4_2 : (gu_up (gu_up G69 4 5 y74) 4 6 (G 1 5)) 4 2 = (G 4 2) := hU71 4 2 (by decide); (try simp only [e9_4_2, true_and, and_true]) <;> (first | omega | (simp only [Int32.reduceToInt, true_and, and_true, ne_eq, not_true_eq_false, false_and, or_false, false_or, true_or, or_true, false_implies] <;> omega))), (by have m9 : hMo 9 = 6 := (by decide); have l9 : hLo 9 = 0 := (by decide); have h9 : hHi 9 = 9 := (by decide); have s9 : hSl 9 = 30 := (by decide); exact xH_nP (c := 9) (by decide) (show (G 4 4).toInt = 9 by omega) (by decide) (by decide) (by omega) (by show ¬ (_ ∨ _ ∨ _); omega) (by omega) (show (gu_up (gu_up G69 4 5 y74) 4 6 (G 1 5)) 4 4 = (G 4 4) from hU71 4 4 (by decide)) (show ((gu_up (gu_up G69 4 5 y74) 4 6 (G 1 5)) 4 5).toInt = (G 4 5).toInt + 1 by rw [show (gu_up (gu_up G69 4 5 y74) 4 6 (G 1 5)) 4 5 = y74 from rfl] <;> first | rfl | omega) (show ((gu_up (gu_up G69 4 5 y74) 4 6 (G 1 5)) 4 6).toInt = (G 1 5).toInt by rw [show (gu_up (gu_up G69 4 5 y74) 4 6 (G 1 5)) 4 6 = (G 1 5) from rfl] <;> first | rfl | omega) (show (gu_up (gu_up G69 4 5 y74) 4 6 (G 1 5)) 4 2 = (G 4 2) from hU71 4 2 (by decide)) (show (gu_up (gu_up G69 4 5 y74) 4 6 (G 1 5)) 4 3 = (G 4 3) from hU71 4 3 (by decide)) (x := (G 1 5)) rfl (q := y66.toInt) (by omega) (show (gu_up (gu_up G69 4 5 y74) 4 6 (G 1 5)) 19 = upd (G 19) (y66.toInt).toNat (G 1 5) from (show (gu_up (gu_up G69 4 5 y74) 4 6 (G 1 5)) 19 = G69 19 from funext fun k_ => (show gu_un xcd [406, 407] G69 (gu_up (gu_up G69 4 5 y74) 4 6 (G 1 5)) from (gu_un.up (j := 4) (k := 6) (v := (G 1 5)) (gu_un.up (j := 4) (k := 5) (v := y74) gu_un.rf (show (406 : Nat) ∈ ([406, 407] : List Nat) by decide)) (show (407 : Nat) ∈ ([406, 407] : List Nat) by decide))) 19 k_ (by simp [xcd])).trans q73) (xSg_un (show gu_un xcd [406, 407, 1900] G (gu_up (gu_up G69 4 5 y74) 4 6 (G 1 5)) from (gu_un.up (j := 4) (k := 6) (v := (G 1 5)) (gu_un.up (j := 4) (k := 5) (v := y74) (gu_un.tr gu_un.rf (gu_un.su hU71 rfl)) (show (406 : Nat) ∈ ([406, 407, 1900] : List Nat) by decide)) (show (407 : Nat) ∈ ([406, 407, 1900] : List Nat) by decide))) rfl rfl rfl)), (by show (0 ≠ 0 ∨ (G 1 3).toInt ≠ 0); (first | omega | (simp only [Int32.reduceToInt, true_and, and_true, ne_eq, not_true_eq_false, false_and, or_false, false_or, true_or, or_true, false_implies] <;> omega)))⟩) rfl rfl dX8_takeOfNumbers_172
        · refine g_iconst F 4 dX8_takeOfNumbers_125 (by decide) ?_
          exact u_iret F hA hQ hr G (⟨hI, gu_un.rf, (by decide), (nb), (by show ((G 4 4).toInt = -1 ∨ (G 4 5).toInt ≤ 1 ∨ ((G 4 5).toInt ≤ 2 ∧ ((G 4 4).toInt = 3 ∨ (G 4 4).toInt = 4)) ∨ ((G 4 5).toInt ≤ 4 ∧ (G 4 4).toInt = 8) ∨ (G 4 4).toInt = 9); (first | omega | (simp only [Int32.reduceToInt, true_and, and_true, ne_eq, not_true_eq_false, false_and, or_false, false_or, true_or, or_true, false_implies] <;> omega))), (by show ((G 4 4).toInt = -1 ∨ (G 4 4).toInt = (G 4 4).toInt); (first | omega | (simp only [Int32.reduceToInt, true_and, and_true, ne_eq, not_true_eq_false, false_and, or_false, false_or, true_or, or_true, false_implies] <;> omega))), (by show ((G 4 2).toInt ≤ (G 4 2).toInt + 1); (first | omega | (simp only [Int32.reduceToInt, true_and, and_true, ne_eq, not_true_eq_false, false_and, or_false, false_or, true_or, or_true, false_implies] <;> omega))), (by have m9 : hMo 9 = 6 := (by decide); have l9 : hLo 9 = 0 := (by decide); have h9 : hHi 9 = 9 := (by decide); have s9 : hSl 9 = 30 := (by decide); exact xH_bad (f := 4) (by decide) (by decide) (fun ts pl ci => by rw [show (G 4 4).toInt = 9 by omega]; exact hO_n4 (by decide) (by decide) (by omega) (by omega) (by show ¬ (_ ∨ _ ∨ _); omega) (by omega))), (by show (4 ≠ 0 ∨ (G 1 3).toInt ≠ 0); (first | omega | (simp only [Int32.reduceToInt, true_and, and_true, ne_eq, not_true_eq_false, false_and, or_false, false_or, true_or, or_true, false_implies] <;> omega)))⟩) rfl rfl dX8_takeOfNumbers_126
      · refine g_iconst F 2 dX8_takeOfNumbers_112 (by decide) ?_
        exact u_iret F hA hQ hr G (⟨hI, gu_un.rf, (by decide), (nb), (by show ((G 4 4).toInt = -1 ∨ (G 4 5).toInt ≤ 1 ∨ ((G 4 5).toInt ≤ 2 ∧ ((G 4 4).toInt = 3 ∨ (G 4 4).toInt = 4)) ∨ ((G 4 5).toInt ≤ 4 ∧ (G 4 4).toInt = 8) ∨ (G 4 4).toInt = 9); (first | omega | (simp only [Int32.reduceToInt, true_and, and_true, ne_eq, not_true_eq_false, false_and, or_false, false_or, true_or, or_true, false_implies] <;> omega))), (by show ((G 4 4).toInt = -1 ∨ (G 4 4).toInt = (G 4 4).toInt); (first | omega | (simp only [Int32.reduceToInt, true_and, and_true, ne_eq, not_true_eq_false, false_and, or_false, false_or, true_or, or_true, false_implies] <;> omega))), (by show ((G 4 2).toInt ≤ (G 4 2).toInt + 1); (first | omega | (simp only [Int32.reduceToInt, true_and, and_true, ne_eq, not_true_eq_false, false_and, or_false, false_or, true_or, or_true, false_implies] <;> omega))), (by have m9 : hMo 9 = 6 := (by decide); have l9 : hLo 9 = 0 := (by decide); have h9 : hHi 9 = 9 := (by decide); have s9 : hSl 9 = 30 := (by decide); exact xH_bad (f := 2) (by decide) (by decide) (fun ts pl ci => by rw [show (G 4 4).toInt = 9 by omega]; exact hO_n2 (by decide) (by decide) (by omega) (by omega) (by show _ ∨ _ ∨ _; omega))), (by show (2 ≠ 0 ∨ (G 1 3).toInt ≠ 0); (first | omega | (simp only [Int32.reduceToInt, true_and, and_true, ne_eq, not_true_eq_false, false_and, or_false, false_or, true_or, or_true, false_implies] <;> omega)))⟩) rfl rfl dX8_takeOfNumbers_113
