theorem dX13_letterAtHand_0 : decode cX13_letterAtHand 0 = .ok (.aload_n 0, 1) := by decide +kernel
theorem dX13_letterAtHand_1 : decode cX13_letterAtHand 1 = .ok (.getfield 89, 3) := by decide +kernel
theorem dX13_letterAtHand_4 : decode cX13_letterAtHand 4 = .ok (.iconst 3, 1) := by decide +kernel
theorem dX13_letterAtHand_5 : decode cX13_letterAtHand 5 = .ok (.isub, 1) := by decide +kernel
theorem dX13_letterAtHand_6 : decode cX13_letterAtHand 6 = .ok (.istore_n 1, 1) := by decide +kernel
theorem dX13_letterAtHand_7 : decode cX13_letterAtHand 7 = .ok (.iload_n 1, 1) := by decide +kernel
theorem dX13_letterAtHand_8 : decode cX13_letterAtHand 8 = .ok (.iconst 1, 1) := by decide +kernel
theorem dX13_letterAtHand_9 : decode cX13_letterAtHand 9 = .ok (.if_icmp .ne 31, 3) := by decide +kernel
theorem dX13_letterAtHand_12 : decode cX13_letterAtHand 12 = .ok (.aload_n 0, 1) := by decide +kernel
theorem dX13_letterAtHand_13 : decode cX13_letterAtHand 13 = .ok (.ldc 116, 2) := by decide +kernel
theorem dX13_letterAtHand_15 : decode cX13_letterAtHand 15 = .ok (.invokevirtual 118, 3) := by decide +kernel
theorem dX13_letterAtHand_18 : decode cX13_letterAtHand 18 = .ok (.ifCond .eq 7, 3) := by decide +kernel
theorem dX13_letterAtHand_21 : decode cX13_letterAtHand 21 = .ok (.iconst 0, 1) := by decide +kernel
theorem dX13_letterAtHand_22 : decode cX13_letterAtHand 22 = .ok (.goto 17, 3) := by decide +kernel
theorem dX13_letterAtHand_25 : decode cX13_letterAtHand 25 = .ok (.aload_n 0, 1) := by decide +kernel
theorem dX13_letterAtHand_26 : decode cX13_letterAtHand 26 = .ok (.ldc 122, 2) := by decide +kernel
theorem dX13_letterAtHand_28 : decode cX13_letterAtHand 28 = .ok (.invokevirtual 118, 3) := by decide +kernel
theorem dX13_letterAtHand_31 : decode cX13_letterAtHand 31 = .ok (.ifCond .eq 7, 3) := by decide +kernel
theorem dX13_letterAtHand_34 : decode cX13_letterAtHand 34 = .ok (.iconst 1, 1) := by decide +kernel
theorem dX13_letterAtHand_35 : decode cX13_letterAtHand 35 = .ok (.goto 4, 3) := by decide +kernel
theorem dX13_letterAtHand_38 : decode cX13_letterAtHand 38 = .ok (.iconst (-1), 1) := by decide +kernel
theorem dX13_letterAtHand_39 : decode cX13_letterAtHand 39 = .ok (.ireturn, 1) := by decide +kernel
theorem dX13_letterAtHand_40 : decode cX13_letterAtHand 40 = .ok (.aload_n 0, 1) := by decide +kernel
theorem dX13_letterAtHand_41 : decode cX13_letterAtHand 41 = .ok (.ldc 124, 2) := by decide +kernel
theorem dX13_letterAtHand_43 : decode cX13_letterAtHand 43 = .ok (.invokevirtual 118, 3) := by decide +kernel
theorem dX13_letterAtHand_46 : decode cX13_letterAtHand 46 = .ok (.ifCond .eq 7, 3) := by decide +kernel
theorem dX13_letterAtHand_49 : decode cX13_letterAtHand 49 = .ok (.iconst 0, 1) := by decide +kernel
theorem dX13_letterAtHand_50 : decode cX13_letterAtHand 50 = .ok (.goto 21, 3) := by decide +kernel
theorem dX13_letterAtHand_53 : decode cX13_letterAtHand 53 = .ok (.iload_n 1, 1) := by decide +kernel
theorem dX13_letterAtHand_54 : decode cX13_letterAtHand 54 = .ok (.ifCond .ne 16, 3) := by decide +kernel
theorem dX13_letterAtHand_57 : decode cX13_letterAtHand 57 = .ok (.aload_n 0, 1) := by decide +kernel
theorem dX13_letterAtHand_58 : decode cX13_letterAtHand 58 = .ok (.ldc 126, 2) := by decide +kernel
theorem dX13_letterAtHand_60 : decode cX13_letterAtHand 60 = .ok (.invokevirtual 118, 3) := by decide +kernel
theorem dX13_letterAtHand_63 : decode cX13_letterAtHand 63 = .ok (.ifCond .eq 7, 3) := by decide +kernel
theorem dX13_letterAtHand_66 : decode cX13_letterAtHand 66 = .ok (.iconst 1, 1) := by decide +kernel
theorem dX13_letterAtHand_67 : decode cX13_letterAtHand 67 = .ok (.goto 4, 3) := by decide +kernel
theorem dX13_letterAtHand_70 : decode cX13_letterAtHand 70 = .ok (.iconst (-1), 1) := by decide +kernel
theorem dX13_letterAtHand_71 : decode cX13_letterAtHand 71 = .ok (.ireturn, 1) := by decide +kernel
set_option maxRecDepth 20000 in
theorem ggX13_letterAtHand_X13_is : GoodIn wsX13_letterAtHand wsX13_is := goodIn_r _ [6, 7, 8, 9, 10, 11, 12, 13, 14, 15, 16, 17, 18, 19, 20, 21, 22, 23, 24, 25, 26, 27, 28, 29, 30, 31, 32, 33, 34, 35, 36, 37, 38, 39, 40, 41, 42, 43, 44, 45, 46, 47, 48, 49, 50, 51, 52, 53, 54, 55, 56, 57, 58, 59, 60, 61, 62, 63, 64, 65, 66, 67, 68, 69, 70, 71, 72, 73, 74, 75, 76, 77, 78, 79, 80, 81, 82, 83, 84, 85, 86, 87, 88, 89, 90, 91, 92, 93, 94, 95, 96, 97, 98, 99, 100, 101, 102, 103, 104, 105, 106, 107, 108, 109, 110, 111, 112, 113, 114, 115, 116, 117, 118, 119, 120, 121, 122, 123, 124, 125, 126, 127, 128, 129, 130, 131, 132] rfl (by decide +kernel)
set_option maxRecDepth 20000 in
theorem gX13_letterAtHand_X13_is : GoodIn wsX13_letterAtHand (wsV RX13 118 RX13 yX13_is wsX13_is) := goodIn_app (goodIn_of _ (by decide +kernel)) ggX13_letterAtHand_X13_is
set_option maxHeartbeats 4000000 in
set_option maxRecDepth 100000 in
theorem S_X13_letterAtHand (l : Launch) (D : va_G) (K : Nat → ClassId) (a : Nat → Nat) (G : gS) (qs vs : Nat → Nat) (pb : ((G 0 5).toInt ≤ (G 0 3).toInt)) (hI : yI G) (sz : Nat) : KiZ (yZ qs vs) l yX13_letterAtHand wsX13_letterAtHand 6 148 D [.ref (a 0)] (yW K a G) (tK K) sz (fun (r : Int32) (_ : Unit) => ((-1) ≤ r.toInt ∧ r.toInt ≤ 1) ∧ ((r.toInt = yLt ((G 0 20).toInt - 3) G))) (fun (_ : Unit) => (yW K a G)) := by
  unfold KiZ
  refine gz_ofW (cc := cX13_letterAtHand) (lv := [(0, .ref (a 0))]) (by decide) rfl (Nat.le_of_ble_eq_true rfl) rfl ?_
  intro p e s m args below meth c A Q hA hQ hZ F hr hnm
  have hts := F.2.2.2.2.1
  have w_0 : (Cond.fieldLink RX13 89 "QuietCutModel" "sum" "I").before args s = true := hts _ (List.mem_of_getElem? (i := 1) rfl)
  have i_X13 : ∀ w ∈ u_ws RX13 TX13 73, w ∈ wsX13_letterAtHand := fun _ h => List.mem_cons_of_mem _ (List.mem_append_right _ h)
  have b1 : (0 : Int) ≤ (G 0 20).toInt ∧ (G 0 20).toInt ≤ 5 := hI 0 20
  refine g_aload_n F 0 dX13_letterAtHand_0 rfl rfl ?_
  refine yg_0_20 F i_X13 w_0 dX13_letterAtHand_1 (G 0 20) (rfl) ?_
  refine g_iconst F 3 dX13_letterAtHand_4 (by decide) ?_
  refine u_isub F dX13_letterAtHand_5 (G 0 20).toInt 3 rfl rfl (by omega) (by omega) (fun y2 ey2 => ?_)
  refine g_istore_n F [(1, .int y2), (0, .ref (a 0))] dX13_letterAtHand_6 rfl (by decide) rfl ?_
  refine g_iload_n F 0 dX13_letterAtHand_7 rfl rfl ?_
  refine g_iconst F 1 dX13_letterAtHand_8 (by decide) ?_
  refine v_icmp_ne F 40 dX13_letterAtHand_9 (by decide) y2.toInt 1 rfl rfl (fun c3 => ?_) (fun c3 => ?_)
  · refine g_aload_n F 1 dX13_letterAtHand_40 rfl rfl ?_
    refine uz_ldcS F (hZ 2 (by decide)).2 dX13_letterAtHand_41 ?_
    have b6 : (0 : Int) ≤ (G 0 3).toInt ∧ (G 0 3).toInt ≤ 1000 := hI 0 3
    have b7 : (0 : Int) ≤ (G 0 5).toInt ∧ (G 0 5).toInt ≤ 1000 := hI 0 5
    refine uz_callVi (k := 0) (n := 0) (b := a 0) (As := [.ref (qs 2)]) (st := []) F zS_st (hZ 2 (by decide)).1 (fun sz => S_X13_is l D K a G (qs 2) (vs 2) _ _ (by decide) (by (first | omega | (simp only [Int32.reduceToInt, true_and, and_true, ne_eq, not_true_eq_false, false_and, or_false, false_or, true_or, or_true, false_implies] <;> omega))) (by decide) hI sz) (cwV 1 hts gX13_letterAtHand_X13_is rfl rfl rfl (by decide +kernel) ⟨Nat.le_of_ble_eq_true rfl, Nat.le_of_ble_eq_true rfl⟩) rfl 0 yc_0 rfl (Nat.le_of_ble_eq_true rfl) ⟨Nat.zero_le _, Nat.zero_le _⟩ dX13_letterAtHand_43 (fun r4 _ hw5 => ?_)
    have iy_hw5 := hw5.2
    have hw5 := hw5.1
    refine v_if_eq F 53 dX13_letterAtHand_46 (by decide) r4.toInt rfl (fun c8 => ?_) (fun c8 => ?_)
    · refine g_iload_n F 0 dX13_letterAtHand_53 rfl rfl ?_
      refine v_if_ne F 70 dX13_letterAtHand_54 (by decide) y2.toInt rfl (fun c9 => ?_) (fun c9 => ?_)
      · refine g_iconst F (-1) dX13_letterAtHand_70 (by decide) ?_
        exact u_iret F hA hQ hr () (⟨(by decide), (by have a0 := is1_y (c := 104) iy_hw5 rfl; show (-1 : Int) = yLt ((G 0 20).toInt - 3) G; unfold yLt sLi; (repeat' split) <;> omega)⟩) rfl rfl dX13_letterAtHand_71
      · refine g_aload_n F 1 dX13_letterAtHand_57 rfl rfl ?_
        refine uz_ldcS F (hZ 3 (by decide)).2 dX13_letterAtHand_58 ?_
        refine uz_callVi (k := 0) (n := 0) (b := a 0) (As := [.ref (qs 3)]) (st := []) F zS_st (hZ 3 (by decide)).1 (fun sz => S_X13_is l D K a G (qs 3) (vs 3) _ _ (by decide) (by (first | omega | (simp only [Int32.reduceToInt, true_and, and_true, ne_eq, not_true_eq_false, false_and, or_false, false_or, true_or, or_true, false_implies] <;> omega))) (by decide) hI sz) (cwV 1 hts gX13_letterAtHand_X13_is rfl rfl rfl (by decide +kernel) ⟨Nat.le_of_ble_eq_true rfl, Nat.le_of_ble_eq_true rfl⟩) rfl 0 yc_0 rfl (Nat.le_of_ble_eq_true rfl) ⟨Nat.zero_le _, Nat.zero_le _⟩ dX13_letterAtHand_60 (fun r10 _ hw11 => ?_)
        have iy_hw11 := hw11.2
        have hw11 := hw11.1
        refine v_if_eq F 70 dX13_letterAtHand_63 (by decide) r10.toInt rfl (fun c12 => ?_) (fun c12 => ?_)
        · refine g_iconst F (-1) dX13_letterAtHand_70 (by decide) ?_
          exact u_iret F hA hQ hr () (⟨(by decide), (by have a0 := is1_y (c := 104) iy_hw5 rfl; have a1 := is1_y (c := 119) iy_hw11 rfl; show (-1 : Int) = yLt ((G 0 20).toInt - 3) G; unfold yLt sLi; (repeat' split) <;> omega)⟩) rfl rfl dX13_letterAtHand_71
        · refine g_iconst F 1 dX13_letterAtHand_66 (by decide) ?_
          refine g_goto F 71 dX13_letterAtHand_67 (by decide) ?_
          exact u_iret F hA hQ hr () (⟨(by decide), (by have a0 := is1_y (c := 104) iy_hw5 rfl; have a1 := is1_y (c := 119) iy_hw11 rfl; show (1 : Int) = yLt ((G 0 20).toInt - 3) G; unfold yLt sLi; (repeat' split) <;> omega)⟩) rfl rfl dX13_letterAtHand_71
    · refine g_iconst F 0 dX13_letterAtHand_49 (by decide) ?_
      refine g_goto F 71 dX13_letterAtHand_50 (by decide) ?_
      exact u_iret F hA hQ hr () (⟨(by decide), (by have a0 := is1_y (c := 104) iy_hw5 rfl; show (0 : Int) = yLt ((G 0 20).toInt - 3) G; unfold yLt sLi; (repeat' split) <;> omega)⟩) rfl rfl dX13_letterAtHand_71
  · refine g_aload_n F 1 dX13_letterAtHand_12 rfl rfl ?_
    refine uz_ldcS F (hZ 0 (by decide)).2 dX13_letterAtHand_13 ?_
    have b15 : (0 : Int) ≤ (G 0 3).toInt ∧ (G 0 3).toInt ≤ 1000 := hI 0 3
    have b16 : (0 : Int) ≤ (G 0 5).toInt ∧ (G 0 5).toInt ≤ 1000 := hI 0 5
    refine uz_callVi (k := 0) (n := 0) (b := a 0) (As := [.ref (qs 0)]) (st := []) F zS_st (hZ 0 (by decide)).1 (fun sz => S_X13_is l D K a G (qs 0) (vs 0) _ _ (by decide) (by (first | omega | (simp only [Int32.reduceToInt, true_and, and_true, ne_eq, not_true_eq_false, false_and, or_false, false_or, true_or, or_true, false_implies] <;> omega))) (by decide) hI sz) (cwV 1 hts gX13_letterAtHand_X13_is rfl rfl rfl (by decide +kernel) ⟨Nat.le_of_ble_eq_true rfl, Nat.le_of_ble_eq_true rfl⟩) rfl 0 yc_0 rfl (Nat.le_of_ble_eq_true rfl) ⟨Nat.zero_le _, Nat.zero_le _⟩ dX13_letterAtHand_15 (fun r13 _ hw14 => ?_)
    have iy_hw14 := hw14.2
    have hw14 := hw14.1
    refine v_if_eq F 25 dX13_letterAtHand_18 (by decide) r13.toInt rfl (fun c17 => ?_) (fun c17 => ?_)
    · refine g_aload_n F 1 dX13_letterAtHand_25 rfl rfl ?_
      refine uz_ldcS F (hZ 1 (by decide)).2 dX13_letterAtHand_26 ?_
      refine uz_callVi (k := 0) (n := 0) (b := a 0) (As := [.ref (qs 1)]) (st := []) F zS_st (hZ 1 (by decide)).1 (fun sz => S_X13_is l D K a G (qs 1) (vs 1) _ _ (by decide) (by (first | omega | (simp only [Int32.reduceToInt, true_and, and_true, ne_eq, not_true_eq_false, false_and, or_false, false_or, true_or, or_true, false_implies] <;> omega))) (by decide) hI sz) (cwV 1 hts gX13_letterAtHand_X13_is rfl rfl rfl (by decide +kernel) ⟨Nat.le_of_ble_eq_true rfl, Nat.le_of_ble_eq_true rfl⟩) rfl 0 yc_0 rfl (Nat.le_of_ble_eq_true rfl) ⟨Nat.zero_le _, Nat.zero_le _⟩ dX13_letterAtHand_28 (fun r18 _ hw19 => ?_)
      have iy_hw19 := hw19.2
      have hw19 := hw19.1
      refine v_if_eq F 38 dX13_letterAtHand_31 (by decide) r18.toInt rfl (fun c20 => ?_) (fun c20 => ?_)
      · refine g_iconst F (-1) dX13_letterAtHand_38 (by decide) ?_
        exact u_iret F hA hQ hr () (⟨(by decide), (by have a0 := is1_y (c := 108) iy_hw14 rfl; have a1 := is1_y (c := 103) iy_hw19 rfl; show (-1 : Int) = yLt ((G 0 20).toInt - 3) G; unfold yLt sLi; (repeat' split) <;> omega)⟩) rfl rfl dX13_letterAtHand_39
      · refine g_iconst F 1 dX13_letterAtHand_34 (by decide) ?_
        refine g_goto F 39 dX13_letterAtHand_35 (by decide) ?_
        exact u_iret F hA hQ hr () (⟨(by decide), (by have a0 := is1_y (c := 108) iy_hw14 rfl; have a1 := is1_y (c := 103) iy_hw19 rfl; show (1 : Int) = yLt ((G 0 20).toInt - 3) G; unfold yLt sLi; (repeat' split) <;> omega)⟩) rfl rfl dX13_letterAtHand_39
    · refine g_iconst F 0 dX13_letterAtHand_21 (by decide) ?_
      refine g_goto F 39 dX13_letterAtHand_22 (by decide) ?_
      exact u_iret F hA hQ hr () (⟨(by decide), (by have a0 := is1_y (c := 108) iy_hw14 rfl; show (0 : Int) = yLt ((G 0 20).toInt - 3) G; unfold yLt sLi; (repeat' split) <;> omega)⟩) rfl rfl dX13_letterAtHand_39

theorem dX13_clauseAtHand_0 : decode cX13_clauseAtHand 0 = .ok (.aload_n 0, 1) := by decide +kernel
theorem dX13_clauseAtHand_1 : decode cX13_clauseAtHand 1 = .ok (.ldc 155, 2) := by decide +kernel
theorem dX13_clauseAtHand_3 : decode cX13_clauseAtHand 3 = .ok (.invokevirtual 118, 3) := by decide +kernel
theorem dX13_clauseAtHand_6 : decode cX13_clauseAtHand 6 = .ok (.ifCond .eq 5, 3) := by decide +kernel
theorem dX13_clauseAtHand_9 : decode cX13_clauseAtHand 9 = .ok (.iconst 0, 1) := by decide +kernel
theorem dX13_clauseAtHand_10 : decode cX13_clauseAtHand 10 = .ok (.ireturn, 1) := by decide +kernel
theorem dX13_clauseAtHand_11 : decode cX13_clauseAtHand 11 = .ok (.aload_n 0, 1) := by decide +kernel
theorem dX13_clauseAtHand_12 : decode cX13_clauseAtHand 12 = .ok (.ldc 157, 2) := by decide +kernel
theorem dX13_clauseAtHand_14 : decode cX13_clauseAtHand 14 = .ok (.invokevirtual 118, 3) := by decide +kernel
theorem dX13_clauseAtHand_17 : decode cX13_clauseAtHand 17 = .ok (.ifCond .eq 5, 3) := by decide +kernel
theorem dX13_clauseAtHand_20 : decode cX13_clauseAtHand 20 = .ok (.iconst 1, 1) := by decide +kernel
theorem dX13_clauseAtHand_21 : decode cX13_clauseAtHand 21 = .ok (.ireturn, 1) := by decide +kernel
theorem dX13_clauseAtHand_22 : decode cX13_clauseAtHand 22 = .ok (.aload_n 0, 1) := by decide +kernel
theorem dX13_clauseAtHand_23 : decode cX13_clauseAtHand 23 = .ok (.ldc 159, 2) := by decide +kernel
theorem dX13_clauseAtHand_25 : decode cX13_clauseAtHand 25 = .ok (.invokevirtual 118, 3) := by decide +kernel
theorem dX13_clauseAtHand_28 : decode cX13_clauseAtHand 28 = .ok (.ifCond .eq 5, 3) := by decide +kernel
theorem dX13_clauseAtHand_31 : decode cX13_clauseAtHand 31 = .ok (.iconst 2, 1) := by decide +kernel
theorem dX13_clauseAtHand_32 : decode cX13_clauseAtHand 32 = .ok (.ireturn, 1) := by decide +kernel
theorem dX13_clauseAtHand_33 : decode cX13_clauseAtHand 33 = .ok (.aload_n 0, 1) := by decide +kernel
theorem dX13_clauseAtHand_34 : decode cX13_clauseAtHand 34 = .ok (.ldc 161, 2) := by decide +kernel
theorem dX13_clauseAtHand_36 : decode cX13_clauseAtHand 36 = .ok (.invokevirtual 118, 3) := by decide +kernel
theorem dX13_clauseAtHand_39 : decode cX13_clauseAtHand 39 = .ok (.ifCond .eq 5, 3) := by decide +kernel
theorem dX13_clauseAtHand_42 : decode cX13_clauseAtHand 42 = .ok (.iconst 3, 1) := by decide +kernel
theorem dX13_clauseAtHand_43 : decode cX13_clauseAtHand 43 = .ok (.ireturn, 1) := by decide +kernel
theorem dX13_clauseAtHand_44 : decode cX13_clauseAtHand 44 = .ok (.aload_n 0, 1) := by decide +kernel
theorem dX13_clauseAtHand_45 : decode cX13_clauseAtHand 45 = .ok (.ldc 163, 2) := by decide +kernel
theorem dX13_clauseAtHand_47 : decode cX13_clauseAtHand 47 = .ok (.invokevirtual 118, 3) := by decide +kernel
theorem dX13_clauseAtHand_50 : decode cX13_clauseAtHand 50 = .ok (.ifCond .eq 5, 3) := by decide +kernel
theorem dX13_clauseAtHand_53 : decode cX13_clauseAtHand 53 = .ok (.iconst 4, 1) := by decide +kernel
theorem dX13_clauseAtHand_54 : decode cX13_clauseAtHand 54 = .ok (.ireturn, 1) := by decide +kernel
theorem dX13_clauseAtHand_55 : decode cX13_clauseAtHand 55 = .ok (.aload_n 0, 1) := by decide +kernel
theorem dX13_clauseAtHand_56 : decode cX13_clauseAtHand 56 = .ok (.ldc 165, 2) := by decide +kernel
theorem dX13_clauseAtHand_58 : decode cX13_clauseAtHand 58 = .ok (.invokevirtual 118, 3) := by decide +kernel
theorem dX13_clauseAtHand_61 : decode cX13_clauseAtHand 61 = .ok (.ifCond .eq 5, 3) := by decide +kernel
theorem dX13_clauseAtHand_64 : decode cX13_clauseAtHand 64 = .ok (.iconst 5, 1) := by decide +kernel
theorem dX13_clauseAtHand_65 : decode cX13_clauseAtHand 65 = .ok (.ireturn, 1) := by decide +kernel
theorem dX13_clauseAtHand_66 : decode cX13_clauseAtHand 66 = .ok (.aload_n 0, 1) := by decide +kernel
theorem dX13_clauseAtHand_67 : decode cX13_clauseAtHand 67 = .ok (.ldc 167, 2) := by decide +kernel
theorem dX13_clauseAtHand_69 : decode cX13_clauseAtHand 69 = .ok (.invokevirtual 118, 3) := by decide +kernel
theorem dX13_clauseAtHand_72 : decode cX13_clauseAtHand 72 = .ok (.ifCond .eq 6, 3) := by decide +kernel
theorem dX13_clauseAtHand_75 : decode cX13_clauseAtHand 75 = .ok (.bipush 6, 2) := by decide +kernel
theorem dX13_clauseAtHand_77 : decode cX13_clauseAtHand 77 = .ok (.ireturn, 1) := by decide +kernel
theorem dX13_clauseAtHand_78 : decode cX13_clauseAtHand 78 = .ok (.aload_n 0, 1) := by decide +kernel
theorem dX13_clauseAtHand_79 : decode cX13_clauseAtHand 79 = .ok (.ldc 168, 2) := by decide +kernel
theorem dX13_clauseAtHand_81 : decode cX13_clauseAtHand 81 = .ok (.invokevirtual 118, 3) := by decide +kernel
theorem dX13_clauseAtHand_84 : decode cX13_clauseAtHand 84 = .ok (.ifCond .eq 6, 3) := by decide +kernel
theorem dX13_clauseAtHand_87 : decode cX13_clauseAtHand 87 = .ok (.bipush 7, 2) := by decide +kernel
theorem dX13_clauseAtHand_89 : decode cX13_clauseAtHand 89 = .ok (.ireturn, 1) := by decide +kernel
theorem dX13_clauseAtHand_90 : decode cX13_clauseAtHand 90 = .ok (.aload_n 0, 1) := by decide +kernel
theorem dX13_clauseAtHand_91 : decode cX13_clauseAtHand 91 = .ok (.ldc 170, 2) := by decide +kernel
theorem dX13_clauseAtHand_93 : decode cX13_clauseAtHand 93 = .ok (.invokevirtual 118, 3) := by decide +kernel
theorem dX13_clauseAtHand_96 : decode cX13_clauseAtHand 96 = .ok (.ifCond .eq 6, 3) := by decide +kernel
theorem dX13_clauseAtHand_99 : decode cX13_clauseAtHand 99 = .ok (.bipush 8, 2) := by decide +kernel
theorem dX13_clauseAtHand_101 : decode cX13_clauseAtHand 101 = .ok (.ireturn, 1) := by decide +kernel
theorem dX13_clauseAtHand_102 : decode cX13_clauseAtHand 102 = .ok (.aload_n 0, 1) := by decide +kernel
theorem dX13_clauseAtHand_103 : decode cX13_clauseAtHand 103 = .ok (.ldc 172, 2) := by decide +kernel
theorem dX13_clauseAtHand_105 : decode cX13_clauseAtHand 105 = .ok (.invokevirtual 118, 3) := by decide +kernel
theorem dX13_clauseAtHand_108 : decode cX13_clauseAtHand 108 = .ok (.ifCond .eq 6, 3) := by decide +kernel
theorem dX13_clauseAtHand_111 : decode cX13_clauseAtHand 111 = .ok (.bipush 9, 2) := by decide +kernel
theorem dX13_clauseAtHand_113 : decode cX13_clauseAtHand 113 = .ok (.ireturn, 1) := by decide +kernel
theorem dX13_clauseAtHand_114 : decode cX13_clauseAtHand 114 = .ok (.aload_n 0, 1) := by decide +kernel
theorem dX13_clauseAtHand_115 : decode cX13_clauseAtHand 115 = .ok (.ldc 174, 2) := by decide +kernel
theorem dX13_clauseAtHand_117 : decode cX13_clauseAtHand 117 = .ok (.invokevirtual 118, 3) := by decide +kernel
theorem dX13_clauseAtHand_120 : decode cX13_clauseAtHand 120 = .ok (.ifCond .eq 6, 3) := by decide +kernel
theorem dX13_clauseAtHand_123 : decode cX13_clauseAtHand 123 = .ok (.bipush 10, 2) := by decide +kernel
theorem dX13_clauseAtHand_125 : decode cX13_clauseAtHand 125 = .ok (.ireturn, 1) := by decide +kernel
theorem dX13_clauseAtHand_126 : decode cX13_clauseAtHand 126 = .ok (.aload_n 0, 1) := by decide +kernel
theorem dX13_clauseAtHand_127 : decode cX13_clauseAtHand 127 = .ok (.ldc 176, 2) := by decide +kernel
theorem dX13_clauseAtHand_129 : decode cX13_clauseAtHand 129 = .ok (.invokevirtual 118, 3) := by decide +kernel
theorem dX13_clauseAtHand_132 : decode cX13_clauseAtHand 132 = .ok (.ifCond .eq 6, 3) := by decide +kernel
theorem dX13_clauseAtHand_135 : decode cX13_clauseAtHand 135 = .ok (.bipush 11, 2) := by decide +kernel
theorem dX13_clauseAtHand_137 : decode cX13_clauseAtHand 137 = .ok (.ireturn, 1) := by decide +kernel
theorem dX13_clauseAtHand_138 : decode cX13_clauseAtHand 138 = .ok (.aload_n 0, 1) := by decide +kernel
theorem dX13_clauseAtHand_139 : decode cX13_clauseAtHand 139 = .ok (.ldc 178, 2) := by decide +kernel
theorem dX13_clauseAtHand_141 : decode cX13_clauseAtHand 141 = .ok (.invokevirtual 118, 3) := by decide +kernel
theorem dX13_clauseAtHand_144 : decode cX13_clauseAtHand 144 = .ok (.ifCond .eq 8, 3) := by decide +kernel
theorem dX13_clauseAtHand_147 : decode cX13_clauseAtHand 147 = .ok (.bipush 12, 2) := by decide +kernel
theorem dX13_clauseAtHand_149 : decode cX13_clauseAtHand 149 = .ok (.goto 4, 3) := by decide +kernel
theorem dX13_clauseAtHand_152 : decode cX13_clauseAtHand 152 = .ok (.iconst (-1), 1) := by decide +kernel
theorem dX13_clauseAtHand_153 : decode cX13_clauseAtHand 153 = .ok (.ireturn, 1) := by decide +kernel
set_option maxRecDepth 20000 in
theorem ggX13_clauseAtHand_X13_is : GoodIn wsX13_clauseAtHand wsX13_is := goodIn_r _ [5, 6, 7, 8, 9, 10, 11, 12, 13, 14, 15, 16, 17, 18, 19, 20, 21, 22, 23, 24, 25, 26, 27, 28, 29, 30, 31, 32, 33, 34, 35, 36, 37, 38, 39, 40, 41, 42, 43, 44, 45, 46, 47, 48, 49, 50, 51, 52, 53, 54, 55, 56, 57, 58, 59, 60, 61, 62, 63, 64, 65, 66, 67, 68, 69, 70, 71, 72, 73, 74, 75, 76, 77, 78, 79, 80, 81, 82, 83, 84, 85, 86, 87, 88, 89, 90, 91, 92, 93, 94, 95, 96, 97, 98, 99, 100, 101, 102, 103, 104, 105, 106, 107, 108, 109, 110, 111, 112, 113, 114, 115, 116, 117, 118, 119, 120, 121, 122, 123, 124, 125, 126, 127, 128, 129, 130, 131] rfl (by decide +kernel)
set_option maxRecDepth 20000 in
theorem gX13_clauseAtHand_X13_is : GoodIn wsX13_clauseAtHand (wsV RX13 118 RX13 yX13_is wsX13_is) := goodIn_app (goodIn_of _ (by decide +kernel)) ggX13_clauseAtHand_X13_is
set_option maxHeartbeats 4000000 in
set_option maxRecDepth 100000 in
theorem S_X13_clauseAtHand (l : Launch) (D : va_G) (K : Nat → ClassId) (a : Nat → Nat) (G : gS) (qs vs : Nat → Nat) (pb : ((G 0 5).toInt ≤ (G 0 3).toInt)) (pq : ((G 0 4).toInt ≤ (G 0 5).toInt)) (hI : yI G) (sz : Nat) : KiZ (yZ qs vs) l yX13_clauseAtHand wsX13_clauseAtHand 6 148 D [.ref (a 0)] (yW K a G) (tK K) sz (fun (r : Int32) (_ : Unit) => ((-1) ≤ r.toInt ∧ r.toInt ≤ 12) ∧ ((r.toInt = yCi G))) (fun (_ : Unit) => (yW K a G)) := by
  unfold KiZ
  refine gz_ofW (cc := cX13_clauseAtHand) (lv := [(0, .ref (a 0))]) (by decide) rfl (Nat.le_of_ble_eq_true rfl) rfl ?_
  intro p e s m args below meth c A Q hA hQ hZ F hr hnm
  have hts := F.2.2.2.2.1
  refine g_aload_n F 0 dX13_clauseAtHand_0 rfl rfl ?_
  refine uz_ldcS F (hZ 4 (by decide)).2 dX13_clauseAtHand_1 ?_
  have b3 : (0 : Int) ≤ (G 0 3).toInt ∧ (G 0 3).toInt ≤ 1000 := hI 0 3
  have b4 : (0 : Int) ≤ (G 0 5).toInt ∧ (G 0 5).toInt ≤ 1000 := hI 0 5
  refine uz_callVi (k := 0) (n := 0) (b := a 0) (As := [.ref (qs 4)]) (st := []) F zS_st (hZ 4 (by decide)).1 (fun sz => S_X13_is l D K a G (qs 4) (vs 4) _ _ (by decide) (by (first | omega | (simp only [Int32.reduceToInt, true_and, and_true, ne_eq, not_true_eq_false, false_and, or_false, false_or, true_or, or_true, false_implies] <;> omega))) (by decide) hI sz) (cwV 1 hts gX13_clauseAtHand_X13_is rfl rfl rfl (by decide +kernel) ⟨Nat.le_of_ble_eq_true rfl, Nat.le_of_ble_eq_true rfl⟩) rfl 0 yc_0 rfl (Nat.le_of_ble_eq_true rfl) ⟨Nat.zero_le _, Nat.zero_le _⟩ dX13_clauseAtHand_3 (fun r1 _ hw2 => ?_)
  have iy_hw2 := hw2.2
  have hw2 := hw2.1
  refine v_if_eq F 11 dX13_clauseAtHand_6 (by decide) r1.toInt rfl (fun c5 => ?_) (fun c5 => ?_)
  · refine g_aload_n F 0 dX13_clauseAtHand_11 rfl rfl ?_
    refine uz_ldcS F (hZ 5 (by decide)).2 dX13_clauseAtHand_12 ?_
    refine uz_callVi (k := 0) (n := 0) (b := a 0) (As := [.ref (qs 5)]) (st := []) F zS_st (hZ 5 (by decide)).1 (fun sz => S_X13_is l D K a G (qs 5) (vs 5) _ _ (by decide) (by (first | omega | (simp only [Int32.reduceToInt, true_and, and_true, ne_eq, not_true_eq_false, false_and, or_false, false_or, true_or, or_true, false_implies] <;> omega))) (by decide) hI sz) (cwV 1 hts gX13_clauseAtHand_X13_is rfl rfl rfl (by decide +kernel) ⟨Nat.le_of_ble_eq_true rfl, Nat.le_of_ble_eq_true rfl⟩) rfl 0 yc_0 rfl (Nat.le_of_ble_eq_true rfl) ⟨Nat.zero_le _, Nat.zero_le _⟩ dX13_clauseAtHand_14 (fun r6 _ hw7 => ?_)
    have iy_hw7 := hw7.2
    have hw7 := hw7.1
    refine v_if_eq F 22 dX13_clauseAtHand_17 (by decide) r6.toInt rfl (fun c8 => ?_) (fun c8 => ?_)
    · refine g_aload_n F 0 dX13_clauseAtHand_22 rfl rfl ?_
      refine uz_ldcS F (hZ 6 (by decide)).2 dX13_clauseAtHand_23 ?_
      refine uz_callVi (k := 0) (n := 0) (b := a 0) (As := [.ref (qs 6)]) (st := []) F zS_st (hZ 6 (by decide)).1 (fun sz => S_X13_is l D K a G (qs 6) (vs 6) _ _ (by decide) (by (first | omega | (simp only [Int32.reduceToInt, true_and, and_true, ne_eq, not_true_eq_false, false_and, or_false, false_or, true_or, or_true, false_implies] <;> omega))) (by decide) hI sz) (cwV 1 hts gX13_clauseAtHand_X13_is rfl rfl rfl (by decide +kernel) ⟨Nat.le_of_ble_eq_true rfl, Nat.le_of_ble_eq_true rfl⟩) rfl 0 yc_0 rfl (Nat.le_of_ble_eq_true rfl) ⟨Nat.zero_le _, Nat.zero_le _⟩ dX13_clauseAtHand_25 (fun r9 _ hw10 => ?_)
      have iy_hw10 := hw10.2
      have hw10 := hw10.1
      refine v_if_eq F 33 dX13_clauseAtHand_28 (by decide) r9.toInt rfl (fun c11 => ?_) (fun c11 => ?_)
      · refine g_aload_n F 0 dX13_clauseAtHand_33 rfl rfl ?_
        refine uz_ldcS F (hZ 7 (by decide)).2 dX13_clauseAtHand_34 ?_
        refine uz_callVi (k := 0) (n := 0) (b := a 0) (As := [.ref (qs 7)]) (st := []) F zS_st (hZ 7 (by decide)).1 (fun sz => S_X13_is l D K a G (qs 7) (vs 7) _ _ (by decide) (by (first | omega | (simp only [Int32.reduceToInt, true_and, and_true, ne_eq, not_true_eq_false, false_and, or_false, false_or, true_or, or_true, false_implies] <;> omega))) (by decide) hI sz) (cwV 1 hts gX13_clauseAtHand_X13_is rfl rfl rfl (by decide +kernel) ⟨Nat.le_of_ble_eq_true rfl, Nat.le_of_ble_eq_true rfl⟩) rfl 0 yc_0 rfl (Nat.le_of_ble_eq_true rfl) ⟨Nat.zero_le _, Nat.zero_le _⟩ dX13_clauseAtHand_36 (fun r12 _ hw13 => ?_)
        have iy_hw13 := hw13.2
        have hw13 := hw13.1
        refine v_if_eq F 44 dX13_clauseAtHand_39 (by decide) r12.toInt rfl (fun c14 => ?_) (fun c14 => ?_)
        · refine g_aload_n F 0 dX13_clauseAtHand_44 rfl rfl ?_
          refine uz_ldcS F (hZ 8 (by decide)).2 dX13_clauseAtHand_45 ?_
          refine uz_callVi (k := 0) (n := 0) (b := a 0) (As := [.ref (qs 8)]) (st := []) F zS_st (hZ 8 (by decide)).1 (fun sz => S_X13_is l D K a G (qs 8) (vs 8) _ _ (by decide) (by (first | omega | (simp only [Int32.reduceToInt, true_and, and_true, ne_eq, not_true_eq_false, false_and, or_false, false_or, true_or, or_true, false_implies] <;> omega))) (by decide) hI sz) (cwV 1 hts gX13_clauseAtHand_X13_is rfl rfl rfl (by decide +kernel) ⟨Nat.le_of_ble_eq_true rfl, Nat.le_of_ble_eq_true rfl⟩) rfl 0 yc_0 rfl (Nat.le_of_ble_eq_true rfl) ⟨Nat.zero_le _, Nat.zero_le _⟩ dX13_clauseAtHand_47 (fun r15 _ hw16 => ?_)
          have iy_hw16 := hw16.2
          have hw16 := hw16.1
          refine v_if_eq F 55 dX13_clauseAtHand_50 (by decide) r15.toInt rfl (fun c17 => ?_) (fun c17 => ?_)
          · refine g_aload_n F 0 dX13_clauseAtHand_55 rfl rfl ?_
            refine uz_ldcS F (hZ 9 (by decide)).2 dX13_clauseAtHand_56 ?_
            refine uz_callVi (k := 0) (n := 0) (b := a 0) (As := [.ref (qs 9)]) (st := []) F zS_st (hZ 9 (by decide)).1 (fun sz => S_X13_is l D K a G (qs 9) (vs 9) _ _ (by decide) (by (first | omega | (simp only [Int32.reduceToInt, true_and, and_true, ne_eq, not_true_eq_false, false_and, or_false, false_or, true_or, or_true, false_implies] <;> omega))) (by decide) hI sz) (cwV 1 hts gX13_clauseAtHand_X13_is rfl rfl rfl (by decide +kernel) ⟨Nat.le_of_ble_eq_true rfl, Nat.le_of_ble_eq_true rfl⟩) rfl 0 yc_0 rfl (Nat.le_of_ble_eq_true rfl) ⟨Nat.zero_le _, Nat.zero_le _⟩ dX13_clauseAtHand_58 (fun r18 _ hw19 => ?_)
            have iy_hw19 := hw19.2
            have hw19 := hw19.1
            refine v_if_eq F 66 dX13_clauseAtHand_61 (by decide) r18.toInt rfl (fun c20 => ?_) (fun c20 => ?_)
            · refine g_aload_n F 0 dX13_clauseAtHand_66 rfl rfl ?_
              refine uz_ldcS F (hZ 10 (by decide)).2 dX13_clauseAtHand_67 ?_
              refine uz_callVi (k := 0) (n := 0) (b := a 0) (As := [.ref (qs 10)]) (st := []) F zS_st (hZ 10 (by decide)).1 (fun sz => S_X13_is l D K a G (qs 10) (vs 10) _ _ (by decide) (by (first | omega | (simp only [Int32.reduceToInt, true_and, and_true, ne_eq, not_true_eq_false, false_and, or_false, false_or, true_or, or_true, false_implies] <;> omega))) (by decide) hI sz) (cwV 1 hts gX13_clauseAtHand_X13_is rfl rfl rfl (by decide +kernel) ⟨Nat.le_of_ble_eq_true rfl, Nat.le_of_ble_eq_true rfl⟩) rfl 0 yc_0 rfl (Nat.le_of_ble_eq_true rfl) ⟨Nat.zero_le _, Nat.zero_le _⟩ dX13_clauseAtHand_69 (fun r21 _ hw22 => ?_)
              have iy_hw22 := hw22.2
              have hw22 := hw22.1
              refine v_if_eq F 78 dX13_clauseAtHand_72 (by decide) r21.toInt rfl (fun c23 => ?_) (fun c23 => ?_)
              · refine g_aload_n F 0 dX13_clauseAtHand_78 rfl rfl ?_
                refine uz_ldcS F (hZ 11 (by decide)).2 dX13_clauseAtHand_79 ?_
                refine uz_callVi (k := 0) (n := 0) (b := a 0) (As := [.ref (qs 11)]) (st := []) F zS_st (hZ 11 (by decide)).1 (fun sz => S_X13_is l D K a G (qs 11) (vs 11) _ _ (by decide) (by (first | omega | (simp only [Int32.reduceToInt, true_and, and_true, ne_eq, not_true_eq_false, false_and, or_false, false_or, true_or, or_true, false_implies] <;> omega))) (by decide) hI sz) (cwV 1 hts gX13_clauseAtHand_X13_is rfl rfl rfl (by decide +kernel) ⟨Nat.le_of_ble_eq_true rfl, Nat.le_of_ble_eq_true rfl⟩) rfl 0 yc_0 rfl (Nat.le_of_ble_eq_true rfl) ⟨Nat.zero_le _, Nat.zero_le _⟩ dX13_clauseAtHand_81 (fun r24 _ hw25 => ?_)
                have iy_hw25 := hw25.2
                have hw25 := hw25.1
                refine v_if_eq F 90 dX13_clauseAtHand_84 (by decide) r24.toInt rfl (fun c26 => ?_) (fun c26 => ?_)
                · refine g_aload_n F 0 dX13_clauseAtHand_90 rfl rfl ?_
                  refine uz_ldcS F (hZ 12 (by decide)).2 dX13_clauseAtHand_91 ?_
                  refine uz_callVi (k := 0) (n := 0) (b := a 0) (As := [.ref (qs 12)]) (st := []) F zS_st (hZ 12 (by decide)).1 (fun sz => S_X13_is l D K a G (qs 12) (vs 12) _ _ (by decide) (by (first | omega | (simp only [Int32.reduceToInt, true_and, and_true, ne_eq, not_true_eq_false, false_and, or_false, false_or, true_or, or_true, false_implies] <;> omega))) (by decide) hI sz) (cwV 1 hts gX13_clauseAtHand_X13_is rfl rfl rfl (by decide +kernel) ⟨Nat.le_of_ble_eq_true rfl, Nat.le_of_ble_eq_true rfl⟩) rfl 0 yc_0 rfl (Nat.le_of_ble_eq_true rfl) ⟨Nat.zero_le _, Nat.zero_le _⟩ dX13_clauseAtHand_93 (fun r27 _ hw28 => ?_)
                  have iy_hw28 := hw28.2
                  have hw28 := hw28.1
                  refine v_if_eq F 102 dX13_clauseAtHand_96 (by decide) r27.toInt rfl (fun c29 => ?_) (fun c29 => ?_)
                  · refine g_aload_n F 0 dX13_clauseAtHand_102 rfl rfl ?_
                    refine uz_ldcS F (hZ 13 (by decide)).2 dX13_clauseAtHand_103 ?_
                    refine uz_callVi (k := 0) (n := 0) (b := a 0) (As := [.ref (qs 13)]) (st := []) F zS_st (hZ 13 (by decide)).1 (fun sz => S_X13_is l D K a G (qs 13) (vs 13) _ _ (by decide) (by (first | omega | (simp only [Int32.reduceToInt, true_and, and_true, ne_eq, not_true_eq_false, false_and, or_false, false_or, true_or, or_true, false_implies] <;> omega))) (by decide) hI sz) (cwV 1 hts gX13_clauseAtHand_X13_is rfl rfl rfl (by decide +kernel) ⟨Nat.le_of_ble_eq_true rfl, Nat.le_of_ble_eq_true rfl⟩) rfl 0 yc_0 rfl (Nat.le_of_ble_eq_true rfl) ⟨Nat.zero_le _, Nat.zero_le _⟩ dX13_clauseAtHand_105 (fun r30 _ hw31 => ?_)
                    have iy_hw31 := hw31.2
                    have hw31 := hw31.1
                    refine v_if_eq F 114 dX13_clauseAtHand_108 (by decide) r30.toInt rfl (fun c32 => ?_) (fun c32 => ?_)
                    · refine g_aload_n F 0 dX13_clauseAtHand_114 rfl rfl ?_
                      refine uz_ldcS F (hZ 14 (by decide)).2 dX13_clauseAtHand_115 ?_
                      refine uz_callVi (k := 0) (n := 0) (b := a 0) (As := [.ref (qs 14)]) (st := []) F zS_st (hZ 14 (by decide)).1 (fun sz => S_X13_is l D K a G (qs 14) (vs 14) _ _ (by decide) (by (first | omega | (simp only [Int32.reduceToInt, true_and, and_true, ne_eq, not_true_eq_false, false_and, or_false, false_or, true_or, or_true, false_implies] <;> omega))) (by decide) hI sz) (cwV 1 hts gX13_clauseAtHand_X13_is rfl rfl rfl (by decide +kernel) ⟨Nat.le_of_ble_eq_true rfl, Nat.le_of_ble_eq_true rfl⟩) rfl 0 yc_0 rfl (Nat.le_of_ble_eq_true rfl) ⟨Nat.zero_le _, Nat.zero_le _⟩ dX13_clauseAtHand_117 (fun r33 _ hw34 => ?_)
                      have iy_hw34 := hw34.2
                      have hw34 := hw34.1
                      refine v_if_eq F 126 dX13_clauseAtHand_120 (by decide) r33.toInt rfl (fun c35 => ?_) (fun c35 => ?_)
                      · refine g_aload_n F 0 dX13_clauseAtHand_126 rfl rfl ?_
                        refine uz_ldcS F (hZ 15 (by decide)).2 dX13_clauseAtHand_127 ?_
                        refine uz_callVi (k := 0) (n := 0) (b := a 0) (As := [.ref (qs 15)]) (st := []) F zS_st (hZ 15 (by decide)).1 (fun sz => S_X13_is l D K a G (qs 15) (vs 15) _ _ (by decide) (by (first | omega | (simp only [Int32.reduceToInt, true_and, and_true, ne_eq, not_true_eq_false, false_and, or_false, false_or, true_or, or_true, false_implies] <;> omega))) (by decide) hI sz) (cwV 1 hts gX13_clauseAtHand_X13_is rfl rfl rfl (by decide +kernel) ⟨Nat.le_of_ble_eq_true rfl, Nat.le_of_ble_eq_true rfl⟩) rfl 0 yc_0 rfl (Nat.le_of_ble_eq_true rfl) ⟨Nat.zero_le _, Nat.zero_le _⟩ dX13_clauseAtHand_129 (fun r36 _ hw37 => ?_)
                        have iy_hw37 := hw37.2
                        have hw37 := hw37.1
                        refine v_if_eq F 138 dX13_clauseAtHand_132 (by decide) r36.toInt rfl (fun c38 => ?_) (fun c38 => ?_)
                        · refine g_aload_n F 0 dX13_clauseAtHand_138 rfl rfl ?_
                          refine uz_ldcS F (hZ 16 (by decide)).2 dX13_clauseAtHand_139 ?_
                          refine uz_callVi (k := 0) (n := 0) (b := a 0) (As := [.ref (qs 16)]) (st := []) F zS_st (hZ 16 (by decide)).1 (fun sz => S_X13_is l D K a G (qs 16) (vs 16) _ _ (by decide) (by (first | omega | (simp only [Int32.reduceToInt, true_and, and_true, ne_eq, not_true_eq_false, false_and, or_false, false_or, true_or, or_true, false_implies] <;> omega))) (by decide) hI sz) (cwV 1 hts gX13_clauseAtHand_X13_is rfl rfl rfl (by decide +kernel) ⟨Nat.le_of_ble_eq_true rfl, Nat.le_of_ble_eq_true rfl⟩) rfl 0 yc_0 rfl (Nat.le_of_ble_eq_true rfl) ⟨Nat.zero_le _, Nat.zero_le _⟩ dX13_clauseAtHand_141 (fun r39 _ hw40 => ?_)
                          have iy_hw40 := hw40.2
                          have hw40 := hw40.1
                          refine v_if_eq F 152 dX13_clauseAtHand_144 (by decide) r39.toInt rfl (fun c41 => ?_) (fun c41 => ?_)
                          · refine g_iconst F (-1) dX13_clauseAtHand_152 (by decide) ?_
                            exact u_iret F hA hQ hr () (⟨(by decide), (by have f0 : cFd (G 0 6).toInt (tW (G 2) (G 0 3).toInt (G 0 4).toInt (G 0 5).toInt) 0 (-1) := cFd.at0; have f1 := f0.no (y := 1) (by decide) (by decide) (fun h9 => by rcases iy_hw2 with h8 | h8 <;> first | (have h7 := h8.1; omega) | exact h8.2 ⟨h9.1, (wMt_iff (l := cWd.getD 0 []) (by omega) rfl (by decide)).mpr h9.2⟩); have f2 := f1.no (y := 2) (by decide) (by decide) (fun h9 => by rcases iy_hw7 with h8 | h8 <;> first | (have h7 := h8.1; omega) | exact h8.2 ⟨h9.1, (wMt_iff (l := cWd.getD 1 []) (by omega) rfl (by decide)).mpr h9.2⟩); have f3 := f2.no (y := 3) (by decide) (by decide) (fun h9 => by rcases iy_hw10 with h8 | h8 <;> first | (have h7 := h8.1; omega) | exact h8.2 ⟨h9.1, (wMt_iff (l := cWd.getD 2 []) (by omega) rfl (by decide)).mpr h9.2⟩); have f4 := f3.no (y := 4) (by decide) (by decide) (fun h9 => by rcases iy_hw13 with h8 | h8 <;> first | (have h7 := h8.1; omega) | exact h8.2 ⟨h9.1, (wMt_iff (l := cWd.getD 3 []) (by omega) rfl (by decide)).mpr h9.2⟩); have f5 := f4.no (y := 5) (by decide) (by decide) (fun h9 => by rcases iy_hw16 with h8 | h8 <;> first | (have h7 := h8.1; omega) | exact h8.2 ⟨h9.1, (wMt_iff (l := cWd.getD 4 []) (by omega) rfl (by decide)).mpr h9.2⟩); have f6 := f5.no (y := 6) (by decide) (by decide) (fun h9 => by rcases iy_hw19 with h8 | h8 <;> first | (have h7 := h8.1; omega) | exact h8.2 ⟨h9.1, (wMt_iff (l := cWd.getD 5 []) (by omega) rfl (by decide)).mpr h9.2⟩); have f7 := f6.no (y := 7) (by decide) (by decide) (fun h9 => by rcases iy_hw22 with h8 | h8 <;> first | (have h7 := h8.1; omega) | exact h8.2 ⟨h9.1, (wMt_iff (l := cWd.getD 6 []) (by omega) rfl (by decide)).mpr h9.2⟩); have f8 := f7.no (y := 8) (by decide) (by decide) (fun h9 => by rcases iy_hw25 with h8 | h8 <;> first | (have h7 := h8.1; omega) | exact h8.2 ⟨h9.1, (wMt_iff (l := cWd.getD 7 []) (by omega) rfl (by decide)).mpr h9.2⟩); have f9 := f8.no (y := 9) (by decide) (by decide) (fun h9 => by rcases iy_hw28 with h8 | h8 <;> first | (have h7 := h8.1; omega) | exact h8.2 ⟨h9.1, (wMt_iff (l := cWd.getD 8 []) (by omega) rfl (by decide)).mpr h9.2⟩); have f10 := f9.no (y := 10) (by decide) (by decide) (fun h9 => by rcases iy_hw31 with h8 | h8 <;> first | (have h7 := h8.1; omega) | exact h8.2 ⟨h9.1, (wMt_iff (l := cWd.getD 9 []) (by omega) rfl (by decide)).mpr h9.2⟩); have f11 := f10.no (y := 11) (by decide) (by decide) (fun h9 => by rcases iy_hw34 with h8 | h8 <;> first | (have h7 := h8.1; omega) | exact h8.2 ⟨h9.1, (wMt_iff (l := cWd.getD 10 []) (by omega) rfl (by decide)).mpr h9.2⟩); have f12 := f11.no (y := 12) (by decide) (by decide) (fun h9 => by rcases iy_hw37 with h8 | h8 <;> first | (have h7 := h8.1; omega) | exact h8.2 ⟨h9.1, (wMt_iff (l := cWd.getD 11 []) (by omega) rfl (by decide)).mpr h9.2⟩); have f13 := f12.no (y := 13) (by decide) (by decide) (fun h9 => by rcases iy_hw40 with h8 | h8 <;> first | (have h7 := h8.1; omega) | exact h8.2 ⟨h9.1, (wMt_iff (l := cWd.getD 12 []) (by omega) rfl (by decide)).mpr h9.2⟩); exact (f13.fin rfl).symm)⟩) rfl rfl dX13_clauseAtHand_153
                          · refine g_bipush F 12 dX13_clauseAtHand_147 (by decide) ?_
                            refine g_goto F 153 dX13_clauseAtHand_149 (by decide) ?_
                            exact u_iret F hA hQ hr () (⟨(by decide), (by rcases iy_hw40 with h9 | h9 <;> first | (exfalso; have h8 := h9.1; omega) | exact (ci_yes (j := 12) h9.2.1 ((wMt_iff (l := cWd.getD 12 []) (by omega) rfl (by decide)).mp h9.2.2) (by decide)).symm)⟩) rfl rfl dX13_clauseAtHand_153
                        · refine g_bipush F 11 dX13_clauseAtHand_135 (by decide) ?_
                          exact u_iret F hA hQ hr () (⟨(by decide), (by rcases iy_hw37 with h9 | h9 <;> first | (exfalso; have h8 := h9.1; omega) | exact (ci_yes (j := 11) h9.2.1 ((wMt_iff (l := cWd.getD 11 []) (by omega) rfl (by decide)).mp h9.2.2) (by decide)).symm)⟩) rfl rfl dX13_clauseAtHand_137
                      · refine g_bipush F 10 dX13_clauseAtHand_123 (by decide) ?_
                        exact u_iret F hA hQ hr () (⟨(by decide), (by rcases iy_hw34 with h9 | h9 <;> first | (exfalso; have h8 := h9.1; omega) | exact (ci_yes (j := 10) h9.2.1 ((wMt_iff (l := cWd.getD 10 []) (by omega) rfl (by decide)).mp h9.2.2) (by decide)).symm)⟩) rfl rfl dX13_clauseAtHand_125
                    · refine g_bipush F 9 dX13_clauseAtHand_111 (by decide) ?_
                      exact u_iret F hA hQ hr () (⟨(by decide), (by rcases iy_hw31 with h9 | h9 <;> first | (exfalso; have h8 := h9.1; omega) | exact (ci_yes (j := 9) h9.2.1 ((wMt_iff (l := cWd.getD 9 []) (by omega) rfl (by decide)).mp h9.2.2) (by decide)).symm)⟩) rfl rfl dX13_clauseAtHand_113
                  · refine g_bipush F 8 dX13_clauseAtHand_99 (by decide) ?_
                    exact u_iret F hA hQ hr () (⟨(by decide), (by rcases iy_hw28 with h9 | h9 <;> first | (exfalso; have h8 := h9.1; omega) | exact (ci_yes (j := 8) h9.2.1 ((wMt_iff (l := cWd.getD 8 []) (by omega) rfl (by decide)).mp h9.2.2) (by decide)).symm)⟩) rfl rfl dX13_clauseAtHand_101
                · refine g_bipush F 7 dX13_clauseAtHand_87 (by decide) ?_
                  exact u_iret F hA hQ hr () (⟨(by decide), (by rcases iy_hw25 with h9 | h9 <;> first | (exfalso; have h8 := h9.1; omega) | exact (ci_yes (j := 7) h9.2.1 ((wMt_iff (l := cWd.getD 7 []) (by omega) rfl (by decide)).mp h9.2.2) (by decide)).symm)⟩) rfl rfl dX13_clauseAtHand_89
              · refine g_bipush F 6 dX13_clauseAtHand_75 (by decide) ?_
                exact u_iret F hA hQ hr () (⟨(by decide), (by rcases iy_hw22 with h9 | h9 <;> first | (exfalso; have h8 := h9.1; omega) | exact (ci_yes (j := 6) h9.2.1 ((wMt_iff (l := cWd.getD 6 []) (by omega) rfl (by decide)).mp h9.2.2) (by decide)).symm)⟩) rfl rfl dX13_clauseAtHand_77
            · refine g_iconst F 5 dX13_clauseAtHand_64 (by decide) ?_
              exact u_iret F hA hQ hr () (⟨(by decide), (by rcases iy_hw19 with h9 | h9 <;> first | (exfalso; have h8 := h9.1; omega) | exact (ci_yes (j := 5) h9.2.1 ((wMt_iff (l := cWd.getD 5 []) (by omega) rfl (by decide)).mp h9.2.2) (by decide)).symm)⟩) rfl rfl dX13_clauseAtHand_65
          · refine g_iconst F 4 dX13_clauseAtHand_53 (by decide) ?_
            exact u_iret F hA hQ hr () (⟨(by decide), (by rcases iy_hw16 with h9 | h9 <;> first | (exfalso; have h8 := h9.1; omega) | exact (ci_yes (j := 4) h9.2.1 ((wMt_iff (l := cWd.getD 4 []) (by omega) rfl (by decide)).mp h9.2.2) (by decide)).symm)⟩) rfl rfl dX13_clauseAtHand_54
        · refine g_iconst F 3 dX13_clauseAtHand_42 (by decide) ?_
          exact u_iret F hA hQ hr () (⟨(by decide), (by rcases iy_hw13 with h9 | h9 <;> first | (exfalso; have h8 := h9.1; omega) | exact (ci_yes (j := 3) h9.2.1 ((wMt_iff (l := cWd.getD 3 []) (by omega) rfl (by decide)).mp h9.2.2) (by decide)).symm)⟩) rfl rfl dX13_clauseAtHand_43
      · refine g_iconst F 2 dX13_clauseAtHand_31 (by decide) ?_
        exact u_iret F hA hQ hr () (⟨(by decide), (by rcases iy_hw10 with h9 | h9 <;> first | (exfalso; have h8 := h9.1; omega) | exact (ci_yes (j := 2) h9.2.1 ((wMt_iff (l := cWd.getD 2 []) (by omega) rfl (by decide)).mp h9.2.2) (by decide)).symm)⟩) rfl rfl dX13_clauseAtHand_32
    · refine g_iconst F 1 dX13_clauseAtHand_20 (by decide) ?_
      exact u_iret F hA hQ hr () (⟨(by decide), (by rcases iy_hw7 with h9 | h9 <;> first | (exfalso; have h8 := h9.1; omega) | exact (ci_yes (j := 1) h9.2.1 ((wMt_iff (l := cWd.getD 1 []) (by omega) rfl (by decide)).mp h9.2.2) (by decide)).symm)⟩) rfl rfl dX13_clauseAtHand_21
  · refine g_iconst F 0 dX13_clauseAtHand_9 (by decide) ?_
    exact u_iret F hA hQ hr () (⟨(by decide), (by rcases iy_hw2 with h9 | h9 <;> first | (exfalso; have h8 := h9.1; omega) | exact (ci_yes (j := 0) h9.2.1 ((wMt_iff (l := cWd.getD 0 []) (by omega) rfl (by decide)).mp h9.2.2) (by decide)).symm)⟩) rfl rfl dX13_clauseAtHand_10
