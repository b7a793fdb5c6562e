theorem dX0_sureness_0 : decode cX0_sureness 0 = .ok (.iconst 0, 1) := by decide +kernel
theorem dX0_sureness_1 : decode cX0_sureness 1 = .ok (.istore_n 1, 1) := by decide +kernel
theorem dX0_sureness_2 : decode cX0_sureness 2 = .ok (.iconst 0, 1) := by decide +kernel
theorem dX0_sureness_3 : decode cX0_sureness 3 = .ok (.istore_n 2, 1) := by decide +kernel
theorem dX0_sureness_4 : decode cX0_sureness 4 = .ok (.aload_n 0, 1) := by decide +kernel
theorem dX0_sureness_5 : decode cX0_sureness 5 = .ok (.getfield 24, 3) := by decide +kernel
theorem dX0_sureness_8 : decode cX0_sureness 8 = .ok (.getfield 36, 3) := by decide +kernel
theorem dX0_sureness_11 : decode cX0_sureness 11 = .ok (.iconst 3, 1) := by decide +kernel
theorem dX0_sureness_12 : decode cX0_sureness 12 = .ok (.iaload, 1) := by decide +kernel
theorem dX0_sureness_13 : decode cX0_sureness 13 = .ok (.istore_n 3, 1) := by decide +kernel
theorem dX0_sureness_14 : decode cX0_sureness 14 = .ok (.iload_n 3, 1) := by decide +kernel
theorem dX0_sureness_15 : decode cX0_sureness 15 = .ok (.aload_n 0, 1) := by decide +kernel
theorem dX0_sureness_16 : decode cX0_sureness 16 = .ok (.getfield 24, 3) := by decide +kernel
theorem dX0_sureness_19 : decode cX0_sureness 19 = .ok (.getfield 36, 3) := by decide +kernel
theorem dX0_sureness_22 : decode cX0_sureness 22 = .ok (.iconst 4, 1) := by decide +kernel
theorem dX0_sureness_23 : decode cX0_sureness 23 = .ok (.iaload, 1) := by decide +kernel
theorem dX0_sureness_24 : decode cX0_sureness 24 = .ok (.if_icmp .gt 113, 3) := by decide +kernel
theorem dX0_sureness_27 : decode cX0_sureness 27 = .ok (.aload_n 0, 1) := by decide +kernel
theorem dX0_sureness_28 : decode cX0_sureness 28 = .ok (.getfield 24, 3) := by decide +kernel
theorem dX0_sureness_31 : decode cX0_sureness 31 = .ok (.getfield 36, 3) := by decide +kernel
theorem dX0_sureness_34 : decode cX0_sureness 34 = .ok (.iconst 5, 1) := by decide +kernel
theorem dX0_sureness_35 : decode cX0_sureness 35 = .ok (.iaload, 1) := by decide +kernel
theorem dX0_sureness_36 : decode cX0_sureness 36 = .ok (.istore 4, 2) := by decide +kernel
theorem dX0_sureness_38 : decode cX0_sureness 38 = .ok (.iload 4, 2) := by decide +kernel
theorem dX0_sureness_40 : decode cX0_sureness 40 = .ok (.aload_n 0, 1) := by decide +kernel
theorem dX0_sureness_41 : decode cX0_sureness 41 = .ok (.getfield 24, 3) := by decide +kernel
theorem dX0_sureness_44 : decode cX0_sureness 44 = .ok (.getfield 36, 3) := by decide +kernel
theorem dX0_sureness_47 : decode cX0_sureness 47 = .ok (.bipush 6, 2) := by decide +kernel
theorem dX0_sureness_49 : decode cX0_sureness 49 = .ok (.iaload, 1) := by decide +kernel
theorem dX0_sureness_50 : decode cX0_sureness 50 = .ok (.if_icmp .gt 81, 3) := by decide +kernel
theorem dX0_sureness_53 : decode cX0_sureness 53 = .ok (.aload_n 0, 1) := by decide +kernel
theorem dX0_sureness_54 : decode cX0_sureness 54 = .ok (.getfield 32, 3) := by decide +kernel
theorem dX0_sureness_57 : decode cX0_sureness 57 = .ok (.aload_n 0, 1) := by decide +kernel
theorem dX0_sureness_58 : decode cX0_sureness 58 = .ok (.getfield 28, 3) := by decide +kernel
theorem dX0_sureness_61 : decode cX0_sureness 61 = .ok (.getfield 41, 3) := by decide +kernel
theorem dX0_sureness_64 : decode cX0_sureness 64 = .ok (.aload_n 0, 1) := by decide +kernel
theorem dX0_sureness_65 : decode cX0_sureness 65 = .ok (.getfield 28, 3) := by decide +kernel
theorem dX0_sureness_68 : decode cX0_sureness 68 = .ok (.getfield 46, 3) := by decide +kernel
theorem dX0_sureness_71 : decode cX0_sureness 71 = .ok (.iload_n 3, 1) := by decide +kernel
theorem dX0_sureness_72 : decode cX0_sureness 72 = .ok (.iload 4, 2) := by decide +kernel
theorem dX0_sureness_74 : decode cX0_sureness 74 = .ok (.invokevirtual 50, 3) := by decide +kernel
theorem dX0_sureness_77 : decode cX0_sureness 77 = .ok (.istore 5, 2) := by decide +kernel
theorem dX0_sureness_79 : decode cX0_sureness 79 = .ok (.iload 5, 2) := by decide +kernel
theorem dX0_sureness_81 : decode cX0_sureness 81 = .ok (.bipush (-4), 2) := by decide +kernel
theorem dX0_sureness_83 : decode cX0_sureness 83 = .ok (.if_icmp .ne 6, 3) := by decide +kernel
theorem dX0_sureness_86 : decode cX0_sureness 86 = .ok (.bipush (-4), 2) := by decide +kernel
theorem dX0_sureness_88 : decode cX0_sureness 88 = .ok (.ireturn, 1) := by decide +kernel
theorem dX0_sureness_89 : decode cX0_sureness 89 = .ok (.iload_n 1, 1) := by decide +kernel
theorem dX0_sureness_90 : decode cX0_sureness 90 = .ok (.iload 5, 2) := by decide +kernel
theorem dX0_sureness_92 : decode cX0_sureness 92 = .ok (.ifCond .ne 7, 3) := by decide +kernel
theorem dX0_sureness_95 : decode cX0_sureness 95 = .ok (.iconst 1, 1) := by decide +kernel
theorem dX0_sureness_96 : decode cX0_sureness 96 = .ok (.goto 4, 3) := by decide +kernel
theorem dX0_sureness_99 : decode cX0_sureness 99 = .ok (.iconst 0, 1) := by decide +kernel
theorem dX0_sureness_100 : decode cX0_sureness 100 = .ok (.ior, 1) := by decide +kernel
theorem dX0_sureness_101 : decode cX0_sureness 101 = .ok (.istore_n 1, 1) := by decide +kernel
theorem dX0_sureness_102 : decode cX0_sureness 102 = .ok (.iload_n 2, 1) := by decide +kernel
theorem dX0_sureness_103 : decode cX0_sureness 103 = .ok (.iload 5, 2) := by decide +kernel
theorem dX0_sureness_105 : decode cX0_sureness 105 = .ok (.ifCond .eq 7, 3) := by decide +kernel
theorem dX0_sureness_108 : decode cX0_sureness 108 = .ok (.iconst 1, 1) := by decide +kernel
theorem dX0_sureness_109 : decode cX0_sureness 109 = .ok (.goto 4, 3) := by decide +kernel
theorem dX0_sureness_112 : decode cX0_sureness 112 = .ok (.iconst 0, 1) := by decide +kernel
theorem dX0_sureness_113 : decode cX0_sureness 113 = .ok (.ior, 1) := by decide +kernel
theorem dX0_sureness_114 : decode cX0_sureness 114 = .ok (.istore_n 2, 1) := by decide +kernel
theorem dX0_sureness_115 : decode cX0_sureness 115 = .ok (.iload_n 1, 1) := by decide +kernel
theorem dX0_sureness_116 : decode cX0_sureness 116 = .ok (.ifCond .eq 9, 3) := by decide +kernel
theorem dX0_sureness_119 : decode cX0_sureness 119 = .ok (.iload_n 2, 1) := by decide +kernel
theorem dX0_sureness_120 : decode cX0_sureness 120 = .ok (.ifCond .eq 5, 3) := by decide +kernel
theorem dX0_sureness_123 : decode cX0_sureness 123 = .ok (.iconst 2, 1) := by decide +kernel
theorem dX0_sureness_124 : decode cX0_sureness 124 = .ok (.ireturn, 1) := by decide +kernel
theorem dX0_sureness_125 : decode cX0_sureness 125 = .ok (.iinc 4 1, 3) := by decide +kernel
theorem dX0_sureness_128 : decode cX0_sureness 128 = .ok (.goto (-90), 3) := by decide +kernel
theorem dX0_sureness_131 : decode cX0_sureness 131 = .ok (.iinc 3 1, 3) := by decide +kernel
theorem dX0_sureness_134 : decode cX0_sureness 134 = .ok (.goto (-120), 3) := by decide +kernel
theorem dX0_sureness_137 : decode cX0_sureness 137 = .ok (.iload_n 1, 1) := by decide +kernel
theorem dX0_sureness_138 : decode cX0_sureness 138 = .ok (.ifCond .eq 7, 3) := by decide +kernel
theorem dX0_sureness_141 : decode cX0_sureness 141 = .ok (.iconst 1, 1) := by decide +kernel
theorem dX0_sureness_142 : decode cX0_sureness 142 = .ok (.goto 4, 3) := by decide +kernel
theorem dX0_sureness_145 : decode cX0_sureness 145 = .ok (.iconst 0, 1) := by decide +kernel
theorem dX0_sureness_146 : decode cX0_sureness 146 = .ok (.ireturn, 1) := by decide +kernel
set_option maxRecDepth 20000 in
theorem ggX0_sureness_X5_run : GoodIn wsX0_sureness wsX5_run := goodIn_r _ [11, 12, 13, 14, 15, 16, 17, 18, 19, 20, 21, 22, 23, 24, 25, 26, 27, 28, 29, 30, 31, 32, 33, 34, 35, 36, 37, 10, 38, 39, 40, 41, 42, 43, 44, 45, 46, 47, 48, 49, 50, 51, 52, 53, 54, 55, 56, 57, 58, 59, 60, 61, 62, 63, 64, 65, 66, 67, 68, 69, 70, 71, 72, 73, 74, 75, 76, 77, 78, 79, 80, 81, 82, 83, 84, 85, 86, 87, 88, 89, 90, 91, 92, 93, 94, 95, 96, 97, 98, 99, 100, 101, 102, 103, 104, 105, 106, 107, 108, 109, 110, 111, 112, 113, 114, 132, 133, 134, 135, 136, 137, 138, 139, 140, 141, 142, 143, 144, 145, 146, 147, 148, 149, 150, 151, 123, 124, 125, 126, 152, 153, 154, 155, 156, 157, 158, 159, 160] rfl (by decide +kernel)
set_option maxRecDepth 20000 in
theorem gX0_sureness_X5_run : GoodIn wsX0_sureness (wsV RX0 50 RX5 yX5_run wsX5_run) := goodIn_app (goodIn_of _ (by decide +kernel)) ggX0_sureness_X5_run
set_option maxHeartbeats 4000000 in
set_option maxRecDepth 100000 in
theorem S_X0_sureness (l : Launch) (D : va_G) (K : Nat → ClassId) (a : Nat → Nat) (G : gS) (fr : (0 ≤ (G 6 1).toInt ∧ (G 6 1).toInt < (G 18 1).toInt ∧ 1 ≤ (G 6 2).toInt ∧ (G 6 2).toInt ≤ 9 ∧ 1 ≤ (G 6 3).toInt ∧ (G 6 3).toInt ≤ 20 ∧ 1 ≤ (G 6 4).toInt ∧ (G 6 4).toInt ≤ 12)) (hI : xI G) (sz : Nat) : Ki l yX0_sureness wsX0_sureness 5 148 0 0 D [.ref (a 7)] (xW K a G) (tK K) sz (fun (r : Int32) (G' : gS) => (xI G') ∧ (gu_un xcd [608, 613, 614, 615, 616, 617, 618, 619, 620, 2100, 2400, 2700, 4400, 4500, 4600, 4700, 4800] G G') ∧ ((-4) ≤ r.toInt ∧ r.toInt ≤ 2)) (fun (G' : gS) => (xW K a G')) (fun _ => (tK K)) := by
  unfold Ki
  refine g_ofW (cc := cX0_sureness) (lv := [(0, .ref (a 7))]) (by decide) rfl (Nat.le_of_ble_eq_true rfl) rfl ?_
  intro p e s m args below meth c A Q hA hQ F hr hnm
  have hts := F.2.2.2.2.1
  have w_0 : (Cond.fieldLink RX0 24 "QuietCut$Chooser" "shop" "LQuietCut$Shop;").before args s = true := hts _ (List.mem_of_getElem? (i := 1) rfl)
  have i_X0 : ∀ w ∈ u_ws RX0 TX0 8, w ∈ wsX0_sureness := fun _ h => List.mem_cons_of_mem _ (List.mem_append_left _ (List.mem_append_left _ (List.mem_append_left _ (List.mem_append_left _ (List.mem_append_right _ h)))))
  have w_1 : (Cond.fieldLink RX0 36 "QuietCut$Shop" "numbers" "[I").before args s = true := hts _ (List.mem_of_getElem? (i := 2) rfl)
  have i_X7 : ∀ w ∈ u_ws RX7 TX7 4, w ∈ wsX0_sureness := fun _ h => List.mem_cons_of_mem _ (List.mem_append_left _ (List.mem_append_left _ (List.mem_append_left _ (List.mem_append_right _ h))))
  have w_2 : (Cond.fieldLink RX0 32 "QuietCut$Chooser" "lathe" "LQuietCut$Lathe;").before args s = true := hts _ (List.mem_of_getElem? (i := 3) rfl)
  have w_3 : (Cond.fieldLink RX0 28 "QuietCut$Chooser" "piece" "LQuietCut$Piece;").before args s = true := hts _ (List.mem_of_getElem? (i := 4) rfl)
  have w_4 : (Cond.fieldLink RX0 41 "QuietCut$Piece" "heights" "[I").before args s = true := hts _ (List.mem_of_getElem? (i := 5) rfl)
  have i_X6 : ∀ w ∈ u_ws RX6 TX6 5, w ∈ wsX0_sureness := fun _ h => List.mem_cons_of_mem _ (List.mem_append_left _ (List.mem_append_left _ (List.mem_append_right _ h)))
  have w_5 : (Cond.fieldLink RX0 46 "QuietCut$Piece" "wear" "I").before args s = true := hts _ (List.mem_of_getElem? (i := 6) rfl)
  have J_14 : ∀ (fuel : Nat) (x14_1 : Int32) (x14_2 : Int32) (x14_3 : Int32) (Gj14 : gS), (2147483647 - x14_3.toInt).toNat < fuel → (0 ≤ x14_3.toInt ∧ x14_3.toInt ≤ 201) → (xI Gj14) → (gu_un xcd [608, 613, 614, 615, 616, 617, 618, 619, 620, 2100, 2400, 2700, 4400, 4500, 4600, 4700, 4800] G Gj14) → gG p l e (gR 5 0 0 148) s m args below meth c D A 6 Q 0 0 (xW K a Gj14) (tK K) [(0, .ref (a 7)), (1, .int x14_1), (2, .int x14_2), (3, .int x14_3)] 14 [] := by
    intro fuel
    induction fuel with
    | zero => intro x14_1 x14_2 x14_3 Gj14 hm; exact absurd hm (Nat.not_lt_zero _)
    | succ fuel_14 ih_14 =>
      intro x14_1 x14_2 x14_3 Gj14 hm_14 h14_3 jI14 jU14
      have J_38 : ∀ (fuel : Nat) (x38_1 : Int32) (x38_2 : Int32) (x38_4 : Int32) (Gj38 : gS), (2147483647 - x38_4.toInt).toNat < fuel → (0 ≤ x14_3.toInt ∧ x14_3.toInt ≤ 200) → (0 ≤ x38_4.toInt ∧ x38_4.toInt ≤ 201) → (xI Gj38) → (gu_un xcd [608, 613, 614, 615, 616, 617, 618, 619, 620, 2100, 2400, 2700, 4400, 4500, 4600, 4700, 4800] Gj14 Gj38) → gG p l e (gR 5 0 0 148) s m args below meth c D A 6 Q 0 0 (xW K a Gj38) (tK K) [(0, .ref (a 7)), (1, .int x38_1), (2, .int x38_2), (3, .int x14_3), (4, .int x38_4)] 38 [] := by
        intro fuel
        induction fuel with
        | zero => intro x38_1 x38_2 x38_4 Gj38 hm; exact absurd hm (Nat.not_lt_zero _)
        | succ fuel_38 ih_38 =>
          intro x38_1 x38_2 x38_4 Gj38 hm_38 k38_3 h38_4 jI38 jU38
          have J_125 : ∀  (x125_1 : Int32) (x125_2 : Int32) (Gj125 : gS), (0 ≤ x38_4.toInt ∧ x38_4.toInt ≤ 200) → (xI Gj125) → (gu_un xcd [608, 613, 614, 615, 616, 617, 618, 619, 620, 2100, 2400, 2700, 4400, 4500, 4600, 4700, 4800] Gj38 Gj125) → gG p l e (gR 5 0 0 148) s m args below meth c D A 6 Q 0 0 (xW K a Gj125) (tK K) [(0, .ref (a 7)), (1, .int x125_1), (2, .int x125_2), (3, .int x14_3), (4, .int x38_4)] 125 [] := by
            intro x125_1 x125_2 Gj125 k125_4 jI125 jU125
            refine u_iinc F (fun v_ => [(4, .int v_), (0, .ref (a 7)), (1, .int x125_1), (2, .int x125_2), (3, .int x14_3)]) dX0_sureness_125 (j := 4) rfl x38_4.toInt 1 rfl rfl (by omega) (by omega) (by decide) (fun _ => rfl) (fun y1 ey1 => ?_)
            refine g_goto F 38 dX0_sureness_128 (by decide) ?_
            refine g_locals [(0, .ref (a 7)), (1, .int x125_1), (2, .int x125_2), (3, .int x14_3), (4, .int y1)] [1, 2, 3, 4, 0] rfl ?_
            exact ih_38 x125_1 x125_2 y1 Gj125 (by omega) (by have h9 := ti_rng x14_3; omega) (by have h9 := ti_rng y1; omega) jI125 (gu_un.tr (gu_un.tr gu_un.rf (gu_un.su jU38 rfl)) (gu_un.su jU125 rfl))
          have J_113 : ∀  (x113_1 : Int32) (z113_0 : Int32) (Gj113 : gS), (0 ≤ x38_4.toInt ∧ x38_4.toInt ≤ 200) → (0 ≤ z113_0.toInt ∧ z113_0.toInt ≤ 1) → (xI Gj113) → (gu_un xcd [608, 613, 614, 615, 616, 617, 618, 619, 620, 2100, 2400, 2700, 4400, 4500, 4600, 4700, 4800] Gj38 Gj113) → gG p l e (gR 5 0 0 148) s m args below meth c D A 6 Q 0 0 (xW K a Gj113) (tK K) [(0, .ref (a 7)), (1, .int x113_1), (3, .int x14_3), (4, .int x38_4)] 113 [.int z113_0, .int x38_2] := by
            intro x113_1 z113_0 Gj113 k113_4 g113_0 jI113 jU113
            refine u0_ior F dX0_sureness_113 (fun y2 => ?_)
            refine g_istore_n F [(2, .int y2), (0, .ref (a 7)), (1, .int x113_1), (3, .int x14_3), (4, .int x38_4)] dX0_sureness_114 rfl (by decide) rfl ?_
            refine g_iload_n F 2 dX0_sureness_115 rfl rfl ?_
            refine v_if_eq F 125 dX0_sureness_116 (by decide) x113_1.toInt rfl (fun c3 => ?_) (fun c3 => ?_)
            · refine g_locals [(0, .ref (a 7)), (1, .int x113_1), (2, .int y2), (3, .int x14_3), (4, .int x38_4)] [1, 2, 0, 3, 4] rfl ?_
              exact J_125 x113_1 y2 Gj113 (by have h9 := ti_rng x38_4; omega) jI113 (gu_un.tr gu_un.rf (gu_un.su jU113 rfl))
            · refine g_iload_n F 0 dX0_sureness_119 rfl rfl ?_
              refine v_if_eq F 125 dX0_sureness_120 (by decide) y2.toInt rfl (fun c4 => ?_) (fun c4 => ?_)
              · refine g_locals [(0, .ref (a 7)), (1, .int x113_1), (2, .int y2), (3, .int x14_3), (4, .int x38_4)] [1, 2, 0, 3, 4] rfl ?_
                exact J_125 x113_1 y2 Gj113 (by have h9 := ti_rng x38_4; omega) jI113 (gu_un.tr gu_un.rf (gu_un.su jU113 rfl))
              · refine g_iconst F 2 dX0_sureness_123 (by decide) ?_
                exact u_iret F hA hQ hr Gj113 (⟨jI113, (gu_un.tr (gu_un.tr (gu_un.tr gu_un.rf (gu_un.su jU14 rfl)) (gu_un.su jU38 rfl)) (gu_un.su jU113 rfl)), (by decide)⟩) rfl rfl dX0_sureness_124
          have J_100 : ∀  (x100_5 : Int32) (z100_0 : Int32) (Gj100 : gS), (0 ≤ x38_4.toInt ∧ x38_4.toInt ≤ 200) → ((-3) ≤ x100_5.toInt ∧ x100_5.toInt ≤ 2) → (0 ≤ z100_0.toInt ∧ z100_0.toInt ≤ 1) → (xI Gj100) → (gu_un xcd [608, 613, 614, 615, 616, 617, 618, 619, 620, 2100, 2400, 2700, 4400, 4500, 4600, 4700, 4800] Gj38 Gj100) → gG p l e (gR 5 0 0 148) s m args below meth c D A 6 Q 0 0 (xW K a Gj100) (tK K) [(0, .ref (a 7)), (2, .int x38_2), (3, .int x14_3), (4, .int x38_4), (5, .int x100_5)] 100 [.int z100_0, .int x38_1] := by
            intro x100_5 z100_0 Gj100 k100_4 h100_5 g100_0 jI100 jU100
            refine u0_ior F dX0_sureness_100 (fun y5 => ?_)
            refine g_istore_n F [(1, .int y5), (0, .ref (a 7)), (2, .int x38_2), (3, .int x14_3), (4, .int x38_4), (5, .int x100_5)] dX0_sureness_101 rfl (by decide) rfl ?_
            refine g_iload_n F 2 dX0_sureness_102 rfl rfl ?_
            refine g_iload F 5 dX0_sureness_103 rfl ?_
            refine v_if_eq F 112 dX0_sureness_105 (by decide) x100_5.toInt rfl (fun c6 => ?_) (fun c6 => ?_)
            · refine g_iconst F 0 dX0_sureness_112 (by decide) ?_
              refine g_locals [(0, .ref (a 7)), (1, .int y5), (3, .int x14_3), (4, .int x38_4)] [1, 0, 3, 4] rfl ?_
              exact J_113 y5 0 Gj100 (by have h9 := ti_rng x38_4; omega) (by decide) jI100 (gu_un.tr gu_un.rf (gu_un.su jU100 rfl))
            · refine g_iconst F 1 dX0_sureness_108 (by decide) ?_
              refine g_goto F 113 dX0_sureness_109 (by decide) ?_
              refine g_locals [(0, .ref (a 7)), (1, .int y5), (3, .int x14_3), (4, .int x38_4)] [1, 0, 3, 4] rfl ?_
              exact J_113 y5 1 Gj100 (by have h9 := ti_rng x38_4; omega) (by decide) jI100 (gu_un.tr gu_un.rf (gu_un.su jU100 rfl))
          refine g_iload F 4 dX0_sureness_38 rfl ?_
          refine g_aload_n F 0 dX0_sureness_40 rfl rfl ?_
          refine xg_7_0 F i_X0 w_0 dX0_sureness_41 ?_
          refine xg_2_0 F i_X7 w_1 dX0_sureness_44 ?_
          refine g_bipush F 6 dX0_sureness_47 (by decide) ?_
          refine u1_iald F 18 0 xc_18 rfl 6 rfl (by decide) (by decide) dX0_sureness_49 (G 18 6) ((jU38 18 6 (by decide)).trans (jU14 18 6 (by decide))) ?_
          have b7 : (0 : Int) ≤ (G 18 6).toInt ∧ (G 18 6).toInt ≤ 200 := hI 18 6
          refine v_icmp_gt F 131 dX0_sureness_50 (by decide) x38_4.toInt (G 18 6).toInt rfl rfl (fun c8 => ?_) (fun c8 => ?_)
          · refine u_iinc F (fun v_ => [(3, .int v_), (0, .ref (a 7)), (1, .int x38_1), (2, .int x38_2), (4, .int x38_4)]) dX0_sureness_131 (j := 3) rfl x14_3.toInt 1 rfl rfl (by omega) (by omega) (by decide) (fun _ => rfl) (fun y9 ey9 => ?_)
            refine g_goto F 14 dX0_sureness_134 (by decide) ?_
            refine g_locals [(0, .ref (a 7)), (1, .int x38_1), (2, .int x38_2), (3, .int y9)] [1, 2, 3, 0] rfl ?_
            exact ih_14 x38_1 x38_2 y9 Gj38 (by omega) (by have h9 := ti_rng y9; omega) jI38 (gu_un.tr (gu_un.tr gu_un.rf (gu_un.su jU14 rfl)) (gu_un.su jU38 rfl))
          · refine g_aload_n F 0 dX0_sureness_53 rfl rfl ?_
            refine xg_7_2 F i_X0 w_2 dX0_sureness_54 ?_
            refine g_aload_n F 0 dX0_sureness_57 rfl rfl ?_
            refine xg_7_1 F i_X0 w_3 dX0_sureness_58 ?_
            refine xg_5_1 F i_X6 w_4 dX0_sureness_61 ?_
            refine g_aload_n F 0 dX0_sureness_64 rfl rfl ?_
            refine xg_7_1 F i_X0 w_3 dX0_sureness_65 ?_
            refine xg_5_2 F i_X6 w_5 dX0_sureness_68 (G 5 2) ((jU38 5 2 (by decide)).trans (jU14 5 2 (by decide))) ?_
            refine g_iload_n F 3 dX0_sureness_71 rfl rfl ?_
            refine g_iload F 4 dX0_sureness_72 rfl ?_
            have b10 : (0 : Int) ≤ (G 5 2).toInt ∧ (G 5 2).toInt ≤ 30000 := hI 5 2
            have b11 : (1 : Int) ≤ (G 18 1).toInt ∧ (G 18 1).toInt ≤ 6 := hI 18 1
            refine u_callVi (k := 0) (n := 0) (b := a 6) (As := [.ref (a 38), .int (G 5 2), .int x14_3, .int x38_4]) (st := []) F (fun sz => S_X5_run_38 l D K a Gj38 (G 5 2) (G 5 2).toInt x14_3 x14_3.toInt x38_4 x38_4.toInt rfl (by omega) rfl (by omega) rfl (by omega) (by have e9_6_1 : Gj38 6 1 = (G 6 1) := (jU38 6 1 (by decide)).trans (jU14 6 1 (by decide)); have e9_6_2 : Gj38 6 2 = (G 6 2) := (jU38 6 2 (by decide)).trans (jU14 6 2 (by decide)); have e9_6_3 : Gj38 6 3 = (G 6 3) := (jU38 6 3 (by decide)).trans (jU14 6 3 (by decide)); have e9_6_4 : Gj38 6 4 = (G 6 4) := (jU38 6 4 (by decide)).trans (jU14 6 4 (by decide)); have e9_18_1 : Gj38 18 1 = (G 18 1) := (jU38 18 1 (by decide)).trans (jU14 18 1 (by decide)); (try simp only [e9_6_1, e9_6_2, e9_6_3, e9_6_4, e9_18_1, true_and, and_true]) <;> (first | omega | (simp only [Int32.reduceToInt, true_and, and_true, ne_eq, not_true_eq_false, false_and, or_false, false_or, true_or, or_true, false_implies] <;> omega))) jI38 sz) (cwV 4 hts gX0_sureness_X5_run rfl rfl rfl (by decide +kernel) ⟨Nat.le_of_ble_eq_true rfl, Nat.le_of_ble_eq_true rfl⟩) rfl 6 xc_6 rfl (Nat.le_of_ble_eq_true rfl) ⟨Nat.zero_le _, Nat.zero_le _⟩ dX0_sureness_74 (fun r12 G14 hw13 => ?_)
            have hI15 : xI G14 := hw13.1
            have hU16 : gu_un xcd [608, 613, 614, 615, 616, 617, 618, 619, 620, 2100, 2400, 2700, 4400, 4500, 4600, 4700, 4800] Gj38 G14 := hw13.2.1
            have hp17 := hw13.2.2
            have q18 : (r12.toInt = -4 ∨ (0 ≤ r12.toInt ∧ r12.toInt ≤ 2)) := hp17.2.1
            have q19 : ((xTok Gj38 ∧ r12.toInt ≠ -4) → xOut Gj38 (Gj38 38) (G 5 2) x14_3 x38_4 G14 r12.toInt) := hp17.2.2.1
            have b20 : (4 : Int) ≤ (G 18 0).toInt ∧ (G 18 0).toInt ≤ 16 := hI 18 0
            have q21 : ((r12.toInt = -4 ∧ psMx (psHr (G 38) (G 6 1).toInt (G 18 0).toInt) ((G 18 0).toInt - 1).toNat - (G 6 3).toInt * (G 6 4).toInt < 1) ∨ (r12.toInt ≠ -4 ∧ 1 ≤ psMx (psHr (G 38) (G 6 1).toInt (G 18 0).toInt) ((G 18 0).toInt - 1).toNat - (G 6 3).toInt * (G 6 4).toInt)) := by have h9 := hp17.2.2.2; (try simp only [(show Gj38 6 1 = (G 6 1) from (jU38 6 1 (by decide)).trans (jU14 6 1 (by decide))), (show Gj38 18 0 = (G 18 0) from (jU38 18 0 (by decide)).trans (jU14 18 0 (by decide))), (show Gj38 18 0 = (G 18 0) from (jU38 18 0 (by decide)).trans (jU14 18 0 (by decide))), (show Gj38 6 3 = (G 6 3) from (jU38 6 3 (by decide)).trans (jU14 6 3 (by decide))), (show Gj38 6 4 = (G 6 4) from (jU38 6 4 (by decide)).trans (jU14 6 4 (by decide))), (show Gj38 6 1 = (G 6 1) from (jU38 6 1 (by decide)).trans (jU14 6 1 (by decide))), (show Gj38 18 0 = (G 18 0) from (jU38 18 0 (by decide)).trans (jU14 18 0 (by decide))), (show Gj38 18 0 = (G 18 0) from (jU38 18 0 (by decide)).trans (jU14 18 0 (by decide))), (show Gj38 6 3 = (G 6 3) from (jU38 6 3 (by decide)).trans (jU14 6 3 (by decide))), (show Gj38 6 4 = (G 6 4) from (jU38 6 4 (by decide)).trans (jU14 6 4 (by decide))), (show Gj38 38 = (G 38) from (show Gj38 38 = Gj14 38 from funext fun k_ => jU38 38 k_ (show (3800 : Nat) ∉ ([608, 613, 614, 615, 616, 617, 618, 619, 620, 2100, 2400, 2700, 4400, 4500, 4600, 4700, 4800] : List Nat) by decide)).trans ((show Gj14 38 = G 38 from funext fun k_ => jU14 38 k_ (show (3800 : Nat) ∉ ([608, 613, 614, 615, 616, 617, 618, 619, 620, 2100, 2400, 2700, 4400, 4500, 4600, 4700, 4800] : List Nat) by decide)))), (show Gj38 38 = (G 38) from (show Gj38 38 = Gj14 38 from funext fun k_ => jU38 38 k_ (show (3800 : Nat) ∉ ([608, 613, 614, 615, 616, 617, 618, 619, 620, 2100, 2400, 2700, 4400, 4500, 4600, 4700, 4800] : List Nat) by decide)).trans ((show Gj14 38 = G 38 from funext fun k_ => jU14 38 k_ (show (3800 : Nat) ∉ ([608, 613, 614, 615, 616, 617, 618, 619, 620, 2100, 2400, 2700, 4400, 4500, 4600, 4700, 4800] : List Nat) by decide))))] at h9); first | exact h9 | omega
            have rg22 := hp17.1
            clear hp17 hw13
            refine g_istore F [(5, .int r12), (0, .ref (a 7)), (1, .int x38_1), (2, .int x38_2), (3, .int x14_3), (4, .int x38_4)] dX0_sureness_77 (by decide) rfl ?_
            refine g_iload F 0 dX0_sureness_79 rfl ?_
            refine g_bipush F (-4) dX0_sureness_81 (by decide) ?_
            refine v_icmp_ne F 89 dX0_sureness_83 (by decide) r12.toInt (-4) rfl rfl (fun c23 => ?_) (fun c23 => ?_)
            · refine g_iload_n F 2 dX0_sureness_89 rfl rfl ?_
              refine g_iload F 0 dX0_sureness_90 rfl ?_
              refine v_if_ne F 99 dX0_sureness_92 (by decide) r12.toInt rfl (fun c24 => ?_) (fun c24 => ?_)
              · refine g_iconst F 0 dX0_sureness_99 (by decide) ?_
                refine g_locals [(0, .ref (a 7)), (2, .int x38_2), (3, .int x14_3), (4, .int x38_4), (5, .int r12)] [1, 3, 4, 5, 0] rfl ?_
                exact J_100 r12 0 G14 (by have h9 := ti_rng x38_4; omega) (by have h9 := ti_rng r12; omega) (by decide) hI15 (gu_un.tr gu_un.rf (gu_un.su hU16 rfl))
              · refine g_iconst F 1 dX0_sureness_95 (by decide) ?_
                refine g_goto F 100 dX0_sureness_96 (by decide) ?_
                refine g_locals [(0, .ref (a 7)), (2, .int x38_2), (3, .int x14_3), (4, .int x38_4), (5, .int r12)] [1, 3, 4, 5, 0] rfl ?_
                exact J_100 r12 1 G14 (by have h9 := ti_rng x38_4; omega) (by have h9 := ti_rng r12; omega) (by decide) hI15 (gu_un.tr gu_un.rf (gu_un.su hU16 rfl))
            · refine g_bipush F (-4) dX0_sureness_86 (by decide) ?_
              exact u_iret F hA hQ hr G14 (⟨hI15, (gu_un.tr (gu_un.tr (gu_un.tr gu_un.rf (gu_un.su jU14 rfl)) (gu_un.su jU38 rfl)) (gu_un.su hU16 rfl)), (by decide)⟩) rfl rfl dX0_sureness_88
      refine g_iload_n F 3 dX0_sureness_14 rfl rfl ?_
      refine g_aload_n F 0 dX0_sureness_15 rfl rfl ?_
      refine xg_7_0 F i_X0 w_0 dX0_sureness_16 ?_
      refine xg_2_0 F i_X7 w_1 dX0_sureness_19 ?_
      refine g_iconst F 4 dX0_sureness_22 (by decide) ?_
      refine u1_iald F 18 0 xc_18 rfl 4 rfl (by decide) (by decide) dX0_sureness_23 (G 18 4) (jU14 18 4 (by decide)) ?_
      have b25 : (0 : Int) ≤ (G 18 4).toInt ∧ (G 18 4).toInt ≤ 200 := hI 18 4
      refine v_icmp_gt F 137 dX0_sureness_24 (by decide) x14_3.toInt (G 18 4).toInt rfl rfl (fun c26 => ?_) (fun c26 => ?_)
      · refine g_iload_n F 1 dX0_sureness_137 rfl rfl ?_
        refine v_if_eq F 145 dX0_sureness_138 (by decide) x14_1.toInt rfl (fun c27 => ?_) (fun c27 => ?_)
        · refine g_iconst F 0 dX0_sureness_145 (by decide) ?_
          exact u_iret F hA hQ hr Gj14 (⟨jI14, (gu_un.tr gu_un.rf (gu_un.su jU14 rfl)), (by decide)⟩) rfl rfl dX0_sureness_146
        · refine g_iconst F 1 dX0_sureness_141 (by decide) ?_
          refine g_goto F 146 dX0_sureness_142 (by decide) ?_
          exact u_iret F hA hQ hr Gj14 (⟨jI14, (gu_un.tr gu_un.rf (gu_un.su jU14 rfl)), (by decide)⟩) rfl rfl dX0_sureness_146
      · refine g_aload_n F 0 dX0_sureness_27 rfl rfl ?_
        refine xg_7_0 F i_X0 w_0 dX0_sureness_28 ?_
        refine xg_2_0 F i_X7 w_1 dX0_sureness_31 ?_
        refine g_iconst F 5 dX0_sureness_34 (by decide) ?_
        refine u1_iald F 18 0 xc_18 rfl 5 rfl (by decide) (by decide) dX0_sureness_35 (G 18 5) (jU14 18 5 (by decide)) ?_
        refine g_istore F [(4, .int (G 18 5)), (0, .ref (a 7)), (1, .int x14_1), (2, .int x14_2), (3, .int x14_3)] dX0_sureness_36 (by decide) rfl ?_
        refine g_locals [(0, .ref (a 7)), (1, .int x14_1), (2, .int x14_2), (3, .int x14_3), (4, .int (G 18 5))] [1, 2, 3, 4, 0] rfl ?_
        have b28 : (0 : Int) ≤ (G 18 5).toInt ∧ (G 18 5).toInt ≤ 200 := hI 18 5
        exact J_38 _ x14_1 x14_2 (G 18 5) Gj14 (Nat.lt_succ_self _) (by have h9 := ti_rng x14_3; omega) (by have h9 := ti_rng (G 18 5); omega) jI14 gu_un.rf
  refine g_iconst F 0 dX0_sureness_0 (by decide) ?_
  refine g_istore_n F [(1, .int 0), (0, .ref (a 7))] dX0_sureness_1 rfl (by decide) rfl ?_
  refine g_iconst F 0 dX0_sureness_2 (by decide) ?_
  refine g_istore_n F [(2, .int 0), (1, .int 0), (0, .ref (a 7))] dX0_sureness_3 rfl (by decide) rfl ?_
  refine g_aload_n F 2 dX0_sureness_4 rfl rfl ?_
  refine xg_7_0 F i_X0 w_0 dX0_sureness_5 ?_
  refine xg_2_0 F i_X7 w_1 dX0_sureness_8 ?_
  refine g_iconst F 3 dX0_sureness_11 (by decide) ?_
  refine u1_iald F 18 0 xc_18 rfl 3 rfl (by decide) (by decide) dX0_sureness_12 (G 18 3) (rfl) ?_
  refine g_istore_n F [(3, .int (G 18 3)), (2, .int 0), (1, .int 0), (0, .ref (a 7))] dX0_sureness_13 rfl (by decide) rfl ?_
  refine g_locals [(0, .ref (a 7)), (1, .int 0), (2, .int 0), (3, .int (G 18 3))] [3, 2, 1, 0] rfl ?_
  have b29 : (0 : Int) ≤ (G 18 3).toInt ∧ (G 18 3).toInt ≤ 200 := hI 18 3
  exact J_14 _ 0 0 (G 18 3) G (Nat.lt_succ_self _) (by have h9 := ti_rng (G 18 3); omega) hI gu_un.rf

theorem dX0_isQuietForAll_0 : decode cX0_isQuietForAll 0 = .ok (.aload_n 0, 1) := by decide +kernel
theorem dX0_isQuietForAll_1 : decode cX0_isQuietForAll 1 = .ok (.getfield 32, 3) := by decide +kernel
theorem dX0_isQuietForAll_4 : decode cX0_isQuietForAll 4 = .ok (.iload_n 1, 1) := by decide +kernel
theorem dX0_isQuietForAll_5 : decode cX0_isQuietForAll 5 = .ok (.iload_n 2, 1) := by decide +kernel
theorem dX0_isQuietForAll_6 : decode cX0_isQuietForAll 6 = .ok (.iload_n 3, 1) := by decide +kernel
theorem dX0_isQuietForAll_7 : decode cX0_isQuietForAll 7 = .ok (.aload_n 0, 1) := by decide +kernel
theorem dX0_isQuietForAll_8 : decode cX0_isQuietForAll 8 = .ok (.getfield 24, 3) := by decide +kernel
theorem dX0_isQuietForAll_11 : decode cX0_isQuietForAll 11 = .ok (.getfield 36, 3) := by decide +kernel
theorem dX0_isQuietForAll_14 : decode cX0_isQuietForAll 14 = .ok (.bipush 9, 2) := by decide +kernel
theorem dX0_isQuietForAll_16 : decode cX0_isQuietForAll 16 = .ok (.iaload, 1) := by decide +kernel
theorem dX0_isQuietForAll_17 : decode cX0_isQuietForAll 17 = .ok (.invokevirtual 56, 3) := by decide +kernel
theorem dX0_isQuietForAll_20 : decode cX0_isQuietForAll 20 = .ok (.ifCond .ne 5, 3) := by decide +kernel
theorem dX0_isQuietForAll_23 : decode cX0_isQuietForAll 23 = .ok (.iconst 0, 1) := by decide +kernel
theorem dX0_isQuietForAll_24 : decode cX0_isQuietForAll 24 = .ok (.ireturn, 1) := by decide +kernel
theorem dX0_isQuietForAll_25 : decode cX0_isQuietForAll 25 = .ok (.aload_n 0, 1) := by decide +kernel
theorem dX0_isQuietForAll_26 : decode cX0_isQuietForAll 26 = .ok (.getfield 24, 3) := by decide +kernel
theorem dX0_isQuietForAll_29 : decode cX0_isQuietForAll 29 = .ok (.getfield 36, 3) := by decide +kernel
theorem dX0_isQuietForAll_32 : decode cX0_isQuietForAll 32 = .ok (.iconst 3, 1) := by decide +kernel
theorem dX0_isQuietForAll_33 : decode cX0_isQuietForAll 33 = .ok (.iaload, 1) := by decide +kernel
theorem dX0_isQuietForAll_34 : decode cX0_isQuietForAll 34 = .ok (.istore 4, 2) := by decide +kernel
theorem dX0_isQuietForAll_36 : decode cX0_isQuietForAll 36 = .ok (.iload 4, 2) := by decide +kernel
theorem dX0_isQuietForAll_38 : decode cX0_isQuietForAll 38 = .ok (.aload_n 0, 1) := by decide +kernel
theorem dX0_isQuietForAll_39 : decode cX0_isQuietForAll 39 = .ok (.getfield 24, 3) := by decide +kernel
theorem dX0_isQuietForAll_42 : decode cX0_isQuietForAll 42 = .ok (.getfield 36, 3) := by decide +kernel
theorem dX0_isQuietForAll_45 : decode cX0_isQuietForAll 45 = .ok (.iconst 4, 1) := by decide +kernel
theorem dX0_isQuietForAll_46 : decode cX0_isQuietForAll 46 = .ok (.iaload, 1) := by decide +kernel
theorem dX0_isQuietForAll_47 : decode cX0_isQuietForAll 47 = .ok (.if_icmp .gt 71, 3) := by decide +kernel
theorem dX0_isQuietForAll_50 : decode cX0_isQuietForAll 50 = .ok (.aload_n 0, 1) := by decide +kernel
theorem dX0_isQuietForAll_51 : decode cX0_isQuietForAll 51 = .ok (.getfield 24, 3) := by decide +kernel
theorem dX0_isQuietForAll_54 : decode cX0_isQuietForAll 54 = .ok (.getfield 36, 3) := by decide +kernel
theorem dX0_isQuietForAll_57 : decode cX0_isQuietForAll 57 = .ok (.iconst 5, 1) := by decide +kernel
theorem dX0_isQuietForAll_58 : decode cX0_isQuietForAll 58 = .ok (.iaload, 1) := by decide +kernel
theorem dX0_isQuietForAll_59 : decode cX0_isQuietForAll 59 = .ok (.istore 5, 2) := by decide +kernel
theorem dX0_isQuietForAll_61 : decode cX0_isQuietForAll 61 = .ok (.iload 5, 2) := by decide +kernel
theorem dX0_isQuietForAll_63 : decode cX0_isQuietForAll 63 = .ok (.aload_n 0, 1) := by decide +kernel
theorem dX0_isQuietForAll_64 : decode cX0_isQuietForAll 64 = .ok (.getfield 24, 3) := by decide +kernel
theorem dX0_isQuietForAll_67 : decode cX0_isQuietForAll 67 = .ok (.getfield 36, 3) := by decide +kernel
theorem dX0_isQuietForAll_70 : decode cX0_isQuietForAll 70 = .ok (.bipush 6, 2) := by decide +kernel
theorem dX0_isQuietForAll_72 : decode cX0_isQuietForAll 72 = .ok (.iaload, 1) := by decide +kernel
theorem dX0_isQuietForAll_73 : decode cX0_isQuietForAll 73 = .ok (.if_icmp .gt 39, 3) := by decide +kernel
theorem dX0_isQuietForAll_76 : decode cX0_isQuietForAll 76 = .ok (.aload_n 0, 1) := by decide +kernel
theorem dX0_isQuietForAll_77 : decode cX0_isQuietForAll 77 = .ok (.getfield 32, 3) := by decide +kernel
theorem dX0_isQuietForAll_80 : decode cX0_isQuietForAll 80 = .ok (.aload_n 0, 1) := by decide +kernel
theorem dX0_isQuietForAll_81 : decode cX0_isQuietForAll 81 = .ok (.getfield 28, 3) := by decide +kernel
theorem dX0_isQuietForAll_84 : decode cX0_isQuietForAll 84 = .ok (.getfield 41, 3) := by decide +kernel
theorem dX0_isQuietForAll_87 : decode cX0_isQuietForAll 87 = .ok (.aload_n 0, 1) := by decide +kernel
theorem dX0_isQuietForAll_88 : decode cX0_isQuietForAll 88 = .ok (.getfield 28, 3) := by decide +kernel
theorem dX0_isQuietForAll_91 : decode cX0_isQuietForAll 91 = .ok (.getfield 46, 3) := by decide +kernel
theorem dX0_isQuietForAll_94 : decode cX0_isQuietForAll 94 = .ok (.iload 4, 2) := by decide +kernel
theorem dX0_isQuietForAll_96 : decode cX0_isQuietForAll 96 = .ok (.iload 5, 2) := by decide +kernel
theorem dX0_isQuietForAll_98 : decode cX0_isQuietForAll 98 = .ok (.invokevirtual 50, 3) := by decide +kernel
theorem dX0_isQuietForAll_101 : decode cX0_isQuietForAll 101 = .ok (.ifCond .eq 5, 3) := by decide +kernel
theorem dX0_isQuietForAll_104 : decode cX0_isQuietForAll 104 = .ok (.iconst 0, 1) := by decide +kernel
theorem dX0_isQuietForAll_105 : decode cX0_isQuietForAll 105 = .ok (.ireturn, 1) := by decide +kernel
theorem dX0_isQuietForAll_106 : decode cX0_isQuietForAll 106 = .ok (.iinc 5 1, 3) := by decide +kernel
theorem dX0_isQuietForAll_109 : decode cX0_isQuietForAll 109 = .ok (.goto (-48), 3) := by decide +kernel
theorem dX0_isQuietForAll_112 : decode cX0_isQuietForAll 112 = .ok (.iinc 4 1, 3) := by decide +kernel
theorem dX0_isQuietForAll_115 : decode cX0_isQuietForAll 115 = .ok (.goto (-79), 3) := by decide +kernel
theorem dX0_isQuietForAll_118 : decode cX0_isQuietForAll 118 = .ok (.iconst 1, 1) := by decide +kernel
theorem dX0_isQuietForAll_119 : decode cX0_isQuietForAll 119 = .ok (.ireturn, 1) := by decide +kernel
set_option maxRecDepth 20000 in
theorem ggX0_isQuietForAll_X5_run : GoodIn wsX0_isQuietForAll wsX5_run := goodIn_r _ [26, 16, 27, 12, 28, 29, 30, 31, 32, 14, 15, 33, 34, 13, 35, 17, 18, 19, 20, 21, 22, 36, 37, 38, 39, 40, 41, 10, 42, 43, 44, 45, 46, 47, 48, 49, 50, 51, 52, 53, 54, 55, 56, 57, 58, 59, 60, 61, 62, 63, 64, 65, 66, 67, 68, 69, 70, 71, 72, 73, 74, 75, 76, 77, 78, 79, 80, 81, 82, 83, 84, 85, 86, 87, 88, 89, 90, 91, 92, 93, 94, 95, 96, 97, 98, 99, 100, 101, 102, 103, 104, 105, 106, 107, 108, 109, 110, 111, 112, 113, 114, 115, 116, 117, 118, 136, 137, 138, 139, 140, 141, 142, 143, 144, 145, 146, 147, 148, 149, 150, 151, 152, 153, 154, 155, 127, 128, 129, 130, 156, 157, 158, 159, 160, 161, 162, 163, 164] rfl (by decide +kernel)
set_option maxRecDepth 20000 in
theorem gX0_isQuietForAll_X5_run : GoodIn wsX0_isQuietForAll (wsV RX0 50 RX5 yX5_run wsX5_run) := goodIn_app (goodIn_of _ (by decide +kernel)) ggX0_isQuietForAll_X5_run
set_option maxRecDepth 20000 in
theorem ggX0_isQuietForAll_X5_takes : GoodIn wsX0_isQuietForAll wsX5_takes := goodIn_r _ [11, 12, 13, 14, 15, 16, 17, 18, 19, 20, 21, 22, 136, 137, 138, 139, 140, 141, 142, 143, 144, 145, 146, 147, 148, 149, 150, 151, 152, 153, 154, 155, 127, 128, 129, 130] rfl (by decide +kernel)
set_option maxRecDepth 20000 in
theorem gX0_isQuietForAll_X5_takes : GoodIn wsX0_isQuietForAll (wsV RX0 56 RX5 yX5_takes wsX5_takes) := goodIn_app (goodIn_of _ (by decide +kernel)) ggX0_isQuietForAll_X5_takes
set_option maxHeartbeats 4000000 in
set_option maxRecDepth 100000 in
theorem S_X0_isQuietForAll (l : Launch) (D : va_G) (K : Nat → ClassId) (a : Nat → Nat) (G : gS) (p0 : Int32) (s0 : Int) (p1 : Int32) (s1 : Int) (p2 : Int32) (s2 : Int) (e0 : p0.toInt = s0) (e1 : p1.toInt = s1) (e2 : p2.toInt = s2) (hI : xI G) (sz : Nat) : Ki l yX0_isQuietForAll wsX0_isQuietForAll 5 148 0 0 D [.ref (a 7), .int p0, .int p1, .int p2] (xW K a G) (tK K) sz (fun (r : Int32) (G' : gS) => (xI G') ∧ (gu_un xcd [602, 603, 604, 605, 608, 613, 614, 615, 616, 617, 618, 619, 620, 2100, 2400, 2700, 4400, 4500, 4600, 4700, 4800] G G') ∧ (0 ≤ r.toInt ∧ r.toInt ≤ 1)) (fun (G' : gS) => (xW K a G')) (fun _ => (tK K)) := by
  unfold Ki
  refine g_ofW (cc := cX0_isQuietForAll) (lv := [(0, .ref (a 7)), (1, .int p0), (2, .int p1), (3, .int p2)]) (by decide) rfl (Nat.le_of_ble_eq_true rfl) rfl ?_
  intro p e s m args below meth c A Q hA hQ F hr hnm
  have hts := F.2.2.2.2.1
  have w_0 : (Cond.fieldLink RX0 24 "QuietCut$Chooser" "shop" "LQuietCut$Shop;").before args s = true := hts _ (List.mem_of_getElem? (i := 2) rfl)
  have i_X0 : ∀ w ∈ u_ws RX0 TX0 8, w ∈ wsX0_isQuietForAll := fun _ h => List.mem_cons_of_mem _ (List.mem_append_left _ (List.mem_append_left _ (List.mem_append_left _ (List.mem_append_left _ (List.mem_append_right _ h)))))
  have w_1 : (Cond.fieldLink RX0 36 "QuietCut$Shop" "numbers" "[I").before args s = true := hts _ (List.mem_of_getElem? (i := 3) rfl)
  have i_X7 : ∀ w ∈ u_ws RX7 TX7 4, w ∈ wsX0_isQuietForAll := fun _ h => List.mem_cons_of_mem _ (List.mem_append_left _ (List.mem_append_left _ (List.mem_append_left _ (List.mem_append_right _ h))))
  have w_2 : (Cond.fieldLink RX0 32 "QuietCut$Chooser" "lathe" "LQuietCut$Lathe;").before args s = true := hts _ (List.mem_of_getElem? (i := 1) rfl)
  have w_3 : (Cond.fieldLink RX0 28 "QuietCut$Chooser" "piece" "LQuietCut$Piece;").before args s = true := hts _ (List.mem_of_getElem? (i := 4) rfl)
  have w_4 : (Cond.fieldLink RX0 41 "QuietCut$Piece" "heights" "[I").before args s = true := hts _ (List.mem_of_getElem? (i := 5) rfl)
  have i_X6 : ∀ w ∈ u_ws RX6 TX6 5, w ∈ wsX0_isQuietForAll := fun _ h => List.mem_cons_of_mem _ (List.mem_append_left _ (List.mem_append_left _ (List.mem_append_right _ h)))
  have w_5 : (Cond.fieldLink RX0 46 "QuietCut$Piece" "wear" "I").before args s = true := hts _ (List.mem_of_getElem? (i := 6) rfl)
  have rg0 : -2147483648 ≤ s0 ∧ s0 ≤ 2147483647 := e0 ▸ ti_rng p0
  have rg1 : -2147483648 ≤ s1 ∧ s1 ≤ 2147483647 := e1 ▸ ti_rng p1
  have rg2 : -2147483648 ≤ s2 ∧ s2 ≤ 2147483647 := e2 ▸ ti_rng p2
  have J_36 : ∀ (fuel : Nat) (x36_4 : Int32) (Gj36 : gS), (2147483647 - x36_4.toInt).toNat < fuel → (0 ≤ x36_4.toInt ∧ x36_4.toInt ≤ 201) → (xI Gj36) → (gu_un xcd [602, 603, 604, 605, 608, 613, 614, 615, 616, 617, 618, 619, 620, 2100, 2400, 2700, 4400, 4500, 4600, 4700, 4800] G Gj36) → ((0 ≤ (Gj36 6 1).toInt ∧ (Gj36 6 1).toInt < (G 18 1).toInt ∧ 1 ≤ (Gj36 6 2).toInt ∧ (Gj36 6 2).toInt ≤ 9 ∧ 1 ≤ (Gj36 6 3).toInt ∧ (Gj36 6 3).toInt ≤ 20 ∧ 1 ≤ (Gj36 6 4).toInt ∧ (Gj36 6 4).toInt ≤ 12)) → gG p l e (gR 5 0 0 148) s m args below meth c D A 6 Q 0 0 (xW K a Gj36) (tK K) [(0, .ref (a 7)), (4, .int x36_4)] 36 [] := by
    intro fuel
    induction fuel with
    | zero => intro x36_4 Gj36 hm; exact absurd hm (Nat.not_lt_zero _)
    | succ fuel_36 ih_36 =>
      intro x36_4 Gj36 hm_36 h36_4 jI36 jU36 frc_36
      have J_61 : ∀ (fuel : Nat) (x61_5 : Int32) (Gj61 : gS), (2147483647 - x61_5.toInt).toNat < fuel → (0 ≤ x36_4.toInt ∧ x36_4.toInt ≤ 200) → (0 ≤ x61_5.toInt ∧ x61_5.toInt ≤ 201) → (xI Gj61) → (gu_un xcd [608, 613, 614, 615, 616, 617, 618, 619, 620, 2100, 2400, 2700, 4400, 4500, 4600, 4700, 4800] Gj36 Gj61) → ((0 ≤ (Gj36 6 1).toInt ∧ (Gj36 6 1).toInt < (G 18 1).toInt ∧ 1 ≤ (Gj36 6 2).toInt ∧ (Gj36 6 2).toInt ≤ 9 ∧ 1 ≤ (Gj36 6 3).toInt ∧ (Gj36 6 3).toInt ≤ 20 ∧ 1 ≤ (Gj36 6 4).toInt ∧ (Gj36 6 4).toInt ≤ 12)) → gG p l e (gR 5 0 0 148) s m args below meth c D A 6 Q 0 0 (xW K a Gj61) (tK K) [(0, .ref (a 7)), (4, .int x36_4), (5, .int x61_5)] 61 [] := by
        intro fuel
        induction fuel with
        | zero => intro x61_5 Gj61 hm; exact absurd hm (Nat.not_lt_zero _)
        | succ fuel_61 ih_61 =>
          intro x61_5 Gj61 hm_61 k61_4 h61_5 jI61 jU61 frc_61
          refine g_iload F 2 dX0_isQuietForAll_61 rfl ?_
          refine g_aload_n F 0 dX0_isQuietForAll_63 rfl rfl ?_
          refine xg_7_0 F i_X0 w_0 dX0_isQuietForAll_64 ?_
          refine xg_2_0 F i_X7 w_1 dX0_isQuietForAll_67 ?_
          refine g_bipush F 6 dX0_isQuietForAll_70 (by decide) ?_
          refine u1_iald F 18 0 xc_18 rfl 6 rfl (by decide) (by decide) dX0_isQuietForAll_72 (G 18 6) ((jU61 18 6 (by decide)).trans (jU36 18 6 (by decide))) ?_
          have b1 : (0 : Int) ≤ (G 18 6).toInt ∧ (G 18 6).toInt ≤ 200 := hI 18 6
          refine v_icmp_gt F 112 dX0_isQuietForAll_73 (by decide) x61_5.toInt (G 18 6).toInt rfl rfl (fun c2 => ?_) (fun c2 => ?_)
          · refine u_iinc F (fun v_ => [(4, .int v_), (0, .ref (a 7)), (5, .int x61_5)]) dX0_isQuietForAll_112 (j := 1) rfl x36_4.toInt 1 rfl rfl (by omega) (by omega) (by decide) (fun _ => rfl) (fun y3 ey3 => ?_)
            refine g_goto F 36 dX0_isQuietForAll_115 (by decide) ?_
            refine g_locals [(0, .ref (a 7)), (4, .int y3)] [1, 0] rfl ?_
            have b4 : (1 : Int) ≤ (G 18 1).toInt ∧ (G 18 1).toInt ≤ 6 := hI 18 1
            exact ih_36 y3 Gj61 (by omega) (by have h9 := ti_rng y3; omega) jI61 (gu_un.tr (gu_un.tr gu_un.rf (gu_un.su jU36 rfl)) (gu_un.su jU61 rfl)) (by have e9_6_1 : Gj61 6 1 = (Gj36 6 1) := jU61 6 1 (by decide); have e9_6_2 : Gj61 6 2 = (Gj36 6 2) := jU61 6 2 (by decide); have e9_6_3 : Gj61 6 3 = (Gj36 6 3) := jU61 6 3 (by decide); have e9_6_4 : Gj61 6 4 = (Gj36 6 4) := jU61 6 4 (by decide); have e9_18_1 : Gj61 18 1 = (G 18 1) := (jU61 18 1 (by decide)).trans (jU36 18 1 (by decide)); (try simp only [e9_6_1, e9_6_2, e9_6_3, e9_6_4, e9_18_1, true_and, and_true]) <;> (first | omega | (simp only [Int32.reduceToInt, true_and, and_true, ne_eq, not_true_eq_false, false_and, or_false, false_or, true_or, or_true, false_implies] <;> omega)))
          · refine g_aload_n F 0 dX0_isQuietForAll_76 rfl rfl ?_
            refine xg_7_2 F i_X0 w_2 dX0_isQuietForAll_77 ?_
            refine g_aload_n F 0 dX0_isQuietForAll_80 rfl rfl ?_
            refine xg_7_1 F i_X0 w_3 dX0_isQuietForAll_81 ?_
            refine xg_5_1 F i_X6 w_4 dX0_isQuietForAll_84 ?_
            refine g_aload_n F 0 dX0_isQuietForAll_87 rfl rfl ?_
            refine xg_7_1 F i_X0 w_3 dX0_isQuietForAll_88 ?_
            refine xg_5_2 F i_X6 w_5 dX0_isQuietForAll_91 (G 5 2) ((jU61 5 2 (by decide)).trans (jU36 5 2 (by decide))) ?_
            refine g_iload F 1 dX0_isQuietForAll_94 rfl ?_
            refine g_iload F 2 dX0_isQuietForAll_96 rfl ?_
            have b5 : (0 : Int) ≤ (G 5 2).toInt ∧ (G 5 2).toInt ≤ 30000 := hI 5 2
            have b6 : (1 : Int) ≤ (G 18 1).toInt ∧ (G 18 1).toInt ≤ 6 := hI 18 1
            refine u_callVi (k := 0) (n := 0) (b := a 6) (As := [.ref (a 38), .int (G 5 2), .int x36_4, .int x61_5]) (st := []) F (fun sz => S_X5_run_38 l D K a Gj61 (G 5 2) (G 5 2).toInt x36_4 x36_4.toInt x61_5 x61_5.toInt rfl (by omega) rfl (by omega) rfl (by omega) (by have e9_6_1 : Gj61 6 1 = (Gj36 6 1) := jU61 6 1 (by decide); have e9_6_2 : Gj61 6 2 = (Gj36 6 2) := jU61 6 2 (by decide); have e9_6_3 : Gj61 6 3 = (Gj36 6 3) := jU61 6 3 (by decide); have e9_6_4 : Gj61 6 4 = (Gj36 6 4) := jU61 6 4 (by decide); have e9_18_1 : Gj61 18 1 = (G 18 1) := (jU61 18 1 (by decide)).trans (jU36 18 1 (by decide)); (try simp only [e9_6_1, e9_6_2, e9_6_3, e9_6_4, e9_18_1, true_and, and_true]) <;> (first | omega | (simp only [Int32.reduceToInt, true_and, and_true, ne_eq, not_true_eq_false, false_and, or_false, false_or, true_or, or_true, false_implies] <;> omega))) jI61 sz) (cwV 4 hts gX0_isQuietForAll_X5_run rfl rfl rfl (by decide +kernel) ⟨Nat.le_of_ble_eq_true rfl, Nat.le_of_ble_eq_true rfl⟩) rfl 6 xc_6 rfl (Nat.le_of_ble_eq_true rfl) ⟨Nat.zero_le _, Nat.zero_le _⟩ dX0_isQuietForAll_98 (fun r7 G9 hw8 => ?_)
            have hI10 : xI G9 := hw8.1
            have hU11 : gu_un xcd [608, 613, 614, 615, 616, 617, 618, 619, 620, 2100, 2400, 2700, 4400, 4500, 4600, 4700, 4800] Gj61 G9 := hw8.2.1
            have hp12 := hw8.2.2
            have q13 : (r7.toInt = -4 ∨ (0 ≤ r7.toInt ∧ r7.toInt ≤ 2)) := hp12.2.1
            have q14 : ((xTok Gj61 ∧ r7.toInt ≠ -4) → xOut Gj61 (Gj61 38) (G 5 2) x36_4 x61_5 G9 r7.toInt) := hp12.2.2.1
            have b15 : (4 : Int) ≤ (G 18 0).toInt ∧ (G 18 0).toInt ≤ 16 := hI 18 0
            have q16 : ((r7.toInt = -4 ∧ psMx (psHr (G 38) (Gj36 6 1).toInt (G 18 0).toInt) ((G 18 0).toInt - 1).toNat - (Gj36 6 3).toInt * (Gj36 6 4).toInt < 1) ∨ (r7.toInt ≠ -4 ∧ 1 ≤ psMx (psHr (G 38) (Gj36 6 1).toInt (G 18 0).toInt) ((G 18 0).toInt - 1).toNat - (Gj36 6 3).toInt * (Gj36 6 4).toInt)) := by have h9 := hp12.2.2.2; (try simp only [(show Gj61 6 1 = (Gj36 6 1) from jU61 6 1 (by decide)), (show Gj61 18 0 = (G 18 0) from (jU61 18 0 (by decide)).trans (jU36 18 0 (by decide))), (show Gj61 18 0 = (G 18 0) from (jU61 18 0 (by decide)).trans (jU36 18 0 (by decide))), (show Gj61 6 3 = (Gj36 6 3) from jU61 6 3 (by decide)), (show Gj61 6 4 = (Gj36 6 4) from jU61 6 4 (by decide)), (show Gj61 6 1 = (Gj36 6 1) from jU61 6 1 (by decide)), (show Gj61 18 0 = (G 18 0) from (jU61 18 0 (by decide)).trans (jU36 18 0 (by decide))), (show Gj61 18 0 = (G 18 0) from (jU61 18 0 (by decide)).trans (jU36 18 0 (by decide))), (show Gj61 6 3 = (Gj36 6 3) from jU61 6 3 (by decide)), (show Gj61 6 4 = (Gj36 6 4) from jU61 6 4 (by decide)), (show Gj61 38 = (G 38) from (show Gj61 38 = Gj36 38 from funext fun k_ => jU61 38 k_ (show (3800 : Nat) ∉ ([608, 613, 614, 615, 616, 617, 618, 619, 620, 2100, 2400, 2700, 4400, 4500, 4600, 4700, 4800] : List Nat) by decide)).trans ((show Gj36 38 = G 38 from funext fun k_ => jU36 38 k_ (show (3800 : Nat) ∉ ([602, 603, 604, 605, 608, 613, 614, 615, 616, 617, 618, 619, 620, 2100, 2400, 2700, 4400, 4500, 4600, 4700, 4800] : List Nat) by decide)))), (show Gj61 38 = (G 38) from (show Gj61 38 = Gj36 38 from funext fun k_ => jU61 38 k_ (show (3800 : Nat) ∉ ([608, 613, 614, 615, 616, 617, 618, 619, 620, 2100, 2400, 2700, 4400, 4500, 4600, 4700, 4800] : List Nat) by decide)).trans ((show Gj36 38 = G 38 from funext fun k_ => jU36 38 k_ (show (3800 : Nat) ∉ ([602, 603, 604, 605, 608, 613, 614, 615, 616, 617, 618, 619, 620, 2100, 2400, 2700, 4400, 4500, 4600, 4700, 4800] : List Nat) by decide))))] at h9); first | exact h9 | omega
            have rg17 := hp12.1
            clear hp12 hw8
            refine v_if_eq F 106 dX0_isQuietForAll_101 (by decide) r7.toInt rfl (fun c18 => ?_) (fun c18 => ?_)
            · refine u_iinc F (fun v_ => [(5, .int v_), (0, .ref (a 7)), (4, .int x36_4)]) dX0_isQuietForAll_106 (j := 2) rfl x61_5.toInt 1 rfl rfl (by omega) (by omega) (by decide) (fun _ => rfl) (fun y19 ey19 => ?_)
              refine g_goto F 61 dX0_isQuietForAll_109 (by decide) ?_
              refine g_locals [(0, .ref (a 7)), (4, .int x36_4), (5, .int y19)] [1, 2, 0] rfl ?_
              exact ih_61 y19 G9 (by omega) (by have h9 := ti_rng x36_4; omega) (by have h9 := ti_rng y19; omega) hI10 (gu_un.tr (gu_un.tr gu_un.rf (gu_un.su jU61 rfl)) (gu_un.su hU11 rfl)) (by have e9_6_1 : G9 6 1 = (Gj36 6 1) := (hU11 6 1 (by decide)).trans (jU61 6 1 (by decide)); have e9_6_2 : G9 6 2 = (Gj36 6 2) := (hU11 6 2 (by decide)).trans (jU61 6 2 (by decide)); have e9_6_3 : G9 6 3 = (Gj36 6 3) := (hU11 6 3 (by decide)).trans (jU61 6 3 (by decide)); have e9_6_4 : G9 6 4 = (Gj36 6 4) := (hU11 6 4 (by decide)).trans (jU61 6 4 (by decide)); have e9_18_1 : G9 18 1 = (G 18 1) := (hU11 18 1 (by decide)).trans ((jU61 18 1 (by decide)).trans (jU36 18 1 (by decide))); (try simp only [e9_6_1, e9_6_2, e9_6_3, e9_6_4, e9_18_1, true_and, and_true]) <;> (first | omega | (simp only [Int32.reduceToInt, true_and, and_true, ne_eq, not_true_eq_false, false_and, or_false, false_or, true_or, or_true, false_implies] <;> omega)))
            · refine g_iconst F 0 dX0_isQuietForAll_104 (by decide) ?_
              exact u_zret F hA hQ hr rfl G9 (⟨hI10, (gu_un.tr (gu_un.tr (gu_un.tr gu_un.rf (gu_un.su jU36 rfl)) (gu_un.su jU61 rfl)) (gu_un.su hU11 rfl)), (by decide)⟩) rfl rfl dX0_isQuietForAll_105
      refine g_iload F 1 dX0_isQuietForAll_36 rfl ?_
      refine g_aload_n F 0 dX0_isQuietForAll_38 rfl rfl ?_
      refine xg_7_0 F i_X0 w_0 dX0_isQuietForAll_39 ?_
      refine xg_2_0 F i_X7 w_1 dX0_isQuietForAll_42 ?_
      refine g_iconst F 4 dX0_isQuietForAll_45 (by decide) ?_
      refine u1_iald F 18 0 xc_18 rfl 4 rfl (by decide) (by decide) dX0_isQuietForAll_46 (G 18 4) (jU36 18 4 (by decide)) ?_
      have b20 : (0 : Int) ≤ (G 18 4).toInt ∧ (G 18 4).toInt ≤ 200 := hI 18 4
      refine v_icmp_gt F 118 dX0_isQuietForAll_47 (by decide) x36_4.toInt (G 18 4).toInt rfl rfl (fun c21 => ?_) (fun c21 => ?_)
      · refine g_iconst F 1 dX0_isQuietForAll_118 (by decide) ?_
        exact u_zret F hA hQ hr rfl Gj36 (⟨jI36, (gu_un.tr gu_un.rf (gu_un.su jU36 rfl)), (by decide)⟩) rfl rfl dX0_isQuietForAll_119
      · refine g_aload_n F 0 dX0_isQuietForAll_50 rfl rfl ?_
        refine xg_7_0 F i_X0 w_0 dX0_isQuietForAll_51 ?_
        refine xg_2_0 F i_X7 w_1 dX0_isQuietForAll_54 ?_
        refine g_iconst F 5 dX0_isQuietForAll_57 (by decide) ?_
        refine u1_iald F 18 0 xc_18 rfl 5 rfl (by decide) (by decide) dX0_isQuietForAll_58 (G 18 5) (jU36 18 5 (by decide)) ?_
        refine g_istore F [(5, .int (G 18 5)), (0, .ref (a 7)), (4, .int x36_4)] dX0_isQuietForAll_59 (by decide) rfl ?_
        refine g_locals [(0, .ref (a 7)), (4, .int x36_4), (5, .int (G 18 5))] [1, 2, 0] rfl ?_
        have b22 : (1 : Int) ≤ (G 18 1).toInt ∧ (G 18 1).toInt ≤ 6 := hI 18 1
        have b23 : (0 : Int) ≤ (G 18 5).toInt ∧ (G 18 5).toInt ≤ 200 := hI 18 5
        exact J_61 _ (G 18 5) Gj36 (Nat.lt_succ_self _) (by have h9 := ti_rng x36_4; omega) (by have h9 := ti_rng (G 18 5); omega) jI36 gu_un.rf (by have e9_18_1 : Gj36 18 1 = (G 18 1) := jU36 18 1 (by decide); (try simp only [e9_18_1, true_and, and_true]) <;> (first | omega | (simp only [Int32.reduceToInt, true_and, and_true, ne_eq, not_true_eq_false, false_and, or_false, false_or, true_or, or_true, false_implies] <;> omega)))
  refine g_aload_n F 0 dX0_isQuietForAll_0 rfl rfl ?_
  refine xg_7_2 F i_X0 w_2 dX0_isQuietForAll_1 ?_
  refine g_iload_n F 1 dX0_isQuietForAll_4 rfl rfl ?_
  refine g_iload_n F 2 dX0_isQuietForAll_5 rfl rfl ?_
  refine g_iload_n F 3 dX0_isQuietForAll_6 rfl rfl ?_
  refine g_aload_n F 0 dX0_isQuietForAll_7 rfl rfl ?_
  refine xg_7_0 F i_X0 w_0 dX0_isQuietForAll_8 ?_
  refine xg_2_0 F i_X7 w_1 dX0_isQuietForAll_11 ?_
  refine g_bipush F 9 dX0_isQuietForAll_14 (by decide) ?_
  refine u1_iald F 18 0 xc_18 rfl 9 rfl (by decide) (by decide) dX0_isQuietForAll_16 (G 18 9) (rfl) ?_
  have b24 : (1 : Int) ≤ (G 18 9).toInt ∧ (G 18 9).toInt ≤ 12 := hI 18 9
  refine u_callVi (k := 0) (n := 0) (b := a 6) (As := [.int p0, .int p1, .int p2, .int (G 18 9)]) (st := []) F (fun sz => S_X5_takes l D K a G p0 s0 p1 s1 p2 s2 (G 18 9) (G 18 9).toInt e0 e1 e2 rfl hI sz) (cwV 4 hts gX0_isQuietForAll_X5_takes rfl rfl rfl (by decide +kernel) ⟨Nat.le_of_ble_eq_true rfl, Nat.le_of_ble_eq_true rfl⟩) rfl 6 xc_6 rfl (Nat.le_of_ble_eq_true rfl) ⟨Nat.zero_le _, Nat.zero_le _⟩ dX0_isQuietForAll_17 (fun r25 G27 hw26 => ?_)
  have hI28 : xI G27 := hw26.1
  have hU29 : gu_un xcd [602, 603, 604, 605] G G27 := hw26.2.1
  have hp30 := hw26.2.2
  have q31 : ((G27 6 1).toInt = s0 ∧ (G27 6 2).toInt = s1 ∧ (G27 6 3).toInt = s2 ∧ (G27 6 4).toInt = (G 18 9).toInt) := hp30.2
  rcases hp30.1 with ⟨rfl, q32⟩ | ⟨rfl, q33⟩
  · have b34 : (1 : Int) ≤ (G 18 1).toInt ∧ (G 18 1).toInt ≤ 6 := hI 18 1
    have q32 : (0 ≤ s0 ∧ s0 < (G 18 1).toInt ∧ 1 ≤ s1 ∧ s1 ≤ 9 ∧ 1 ≤ s2 ∧ s2 ≤ 20 ∧ 1 ≤ (G 18 9).toInt ∧ (G 18 9).toInt ≤ 12) := by have h9 := q32; (try simp only [(show G27 18 1 = (G 18 1) from hU29 18 1 (by decide))] at h9); exact h9
    refine v_if_ne F 25 dX0_isQuietForAll_20 (by decide) 1 rfl (fun c35 => ?_) (fun c35 => absurd c35 (by decide))
    refine g_aload_n F 0 dX0_isQuietForAll_25 rfl rfl ?_
    refine xg_7_0 F i_X0 w_0 dX0_isQuietForAll_26 ?_
    refine xg_2_0 F i_X7 w_1 dX0_isQuietForAll_29 ?_
    refine g_iconst F 3 dX0_isQuietForAll_32 (by decide) ?_
    refine u1_iald F 18 0 xc_18 rfl 3 rfl (by decide) (by decide) dX0_isQuietForAll_33 (G 18 3) (hU29 18 3 (by decide)) ?_
    refine g_istore F [(4, .int (G 18 3)), (0, .ref (a 7)), (1, .int p0), (2, .int p1), (3, .int p2)] dX0_isQuietForAll_34 (by decide) rfl ?_
    refine g_locals [(0, .ref (a 7)), (4, .int (G 18 3))] [1, 0] rfl ?_
    have b36 : (0 : Int) ≤ (G 18 3).toInt ∧ (G 18 3).toInt ≤ 200 := hI 18 3
    exact J_36 _ (G 18 3) G27 (Nat.lt_succ_self _) (by have h9 := ti_rng (G 18 3); omega) hI28 (gu_un.tr gu_un.rf (gu_un.su hU29 rfl)) (by have e9_18_1 : G27 18 1 = (G 18 1) := hU29 18 1 (by decide); (try simp only [e9_18_1, true_and, and_true]) <;> (first | omega | (simp only [Int32.reduceToInt, true_and, and_true, ne_eq, not_true_eq_false, false_and, or_false, false_or, true_or, or_true, false_implies] <;> omega)))
  · have b37 : (1 : Int) ≤ (G 18 1).toInt ∧ (G 18 1).toInt ≤ 6 := hI 18 1
    have q33 : ¬ (0 ≤ s0 ∧ s0 < (G 18 1).toInt ∧ 1 ≤ s1 ∧ s1 ≤ 9 ∧ 1 ≤ s2 ∧ s2 ≤ 20 ∧ 1 ≤ (G 18 9).toInt ∧ (G 18 9).toInt ≤ 12) := by have h9 := q33; (try simp only [(show G27 18 1 = (G 18 1) from hU29 18 1 (by decide))] at h9); exact h9
    refine v_if_ne F 25 dX0_isQuietForAll_20 (by decide) 0 rfl (fun c38 => absurd c38 (by decide)) (fun c38 => ?_)
    refine g_iconst F 0 dX0_isQuietForAll_23 (by decide) ?_
    exact u_zret F hA hQ hr rfl G27 (⟨hI28, (gu_un.tr gu_un.rf (gu_un.su hU29 rfl)), (by decide)⟩) rfl rfl dX0_isQuietForAll_24

theorem dX0_deepestFeed_0 : decode cX0_deepestFeed 0 = .ok (.bipush 20, 2) := by decide +kernel
theorem dX0_deepestFeed_2 : decode cX0_deepestFeed 2 = .ok (.istore 4, 2) := by decide +kernel
theorem dX0_deepestFeed_4 : decode cX0_deepestFeed 4 = .ok (.iload 4, 2) := by decide +kernel
theorem dX0_deepestFeed_6 : decode cX0_deepestFeed 6 = .ok (.iload_n 3, 1) := by decide +kernel
theorem dX0_deepestFeed_7 : decode cX0_deepestFeed 7 = .ok (.if_icmp .le 28, 3) := by decide +kernel
theorem dX0_deepestFeed_10 : decode cX0_deepestFeed 10 = .ok (.iload 4, 2) := by decide +kernel
theorem dX0_deepestFeed_12 : decode cX0_deepestFeed 12 = .ok (.ifCond .le 23, 3) := by decide +kernel
theorem dX0_deepestFeed_15 : decode cX0_deepestFeed 15 = .ok (.aload_n 0, 1) := by decide +kernel
theorem dX0_deepestFeed_16 : decode cX0_deepestFeed 16 = .ok (.iload_n 1, 1) := by decide +kernel
theorem dX0_deepestFeed_17 : decode cX0_deepestFeed 17 = .ok (.iload_n 2, 1) := by decide +kernel
theorem dX0_deepestFeed_18 : decode cX0_deepestFeed 18 = .ok (.iload 4, 2) := by decide +kernel
theorem dX0_deepestFeed_20 : decode cX0_deepestFeed 20 = .ok (.invokevirtual 60, 3) := by decide +kernel
theorem dX0_deepestFeed_23 : decode cX0_deepestFeed 23 = .ok (.ifCond .eq 6, 3) := by decide +kernel
theorem dX0_deepestFeed_26 : decode cX0_deepestFeed 26 = .ok (.iload 4, 2) := by decide +kernel
theorem dX0_deepestFeed_28 : decode cX0_deepestFeed 28 = .ok (.ireturn, 1) := by decide +kernel
theorem dX0_deepestFeed_29 : decode cX0_deepestFeed 29 = .ok (.iinc 4 (-1), 3) := by decide +kernel
theorem dX0_deepestFeed_32 : decode cX0_deepestFeed 32 = .ok (.goto (-28), 3) := by decide +kernel
theorem dX0_deepestFeed_35 : decode cX0_deepestFeed 35 = .ok (.iconst (-1), 1) := by decide +kernel
theorem dX0_deepestFeed_36 : decode cX0_deepestFeed 36 = .ok (.ireturn, 1) := by decide +kernel
set_option maxRecDepth 20000 in
theorem ggX0_deepestFeed_X0_isQuietForAll : GoodIn wsX0_deepestFeed wsX0_isQuietForAll := goodIn_r _ [5, 6, 7, 8, 9, 10, 11, 12, 13, 14, 15, 16, 17, 18, 19, 20, 21, 22, 23, 24, 25, 26, 27, 28, 29, 30, 31, 32, 33, 34, 35, 36, 37, 38, 39, 40, 41, 42, 43, 44, 45, 46, 47, 48, 49, 50, 51, 52, 53, 54, 55, 56, 57, 58, 59, 60, 61, 62, 63, 64, 65, 66, 67, 68, 69, 70, 71, 72, 73, 74, 75, 76, 77, 78, 79, 80, 81, 82, 83, 84, 85, 86, 87, 88, 89, 90, 91, 92, 93, 94, 95, 96, 97, 98, 99, 100, 101, 102, 103, 104, 105, 106, 107, 108, 109, 110, 111, 112, 113, 114, 115, 116, 117, 118, 119, 120, 121, 122, 123, 124, 125, 126, 127, 128, 129, 130, 131, 132, 133, 134, 135, 136, 137, 138, 139, 140, 141, 142, 143, 144, 145, 146, 147, 148, 149, 150, 151, 152, 153, 154, 155, 156, 157, 158, 159, 160, 161, 162, 163, 164, 165, 166, 167, 168, 169] rfl (by decide +kernel)
set_option maxRecDepth 20000 in
theorem gX0_deepestFeed_X0_isQuietForAll : GoodIn wsX0_deepestFeed (wsV RX0 60 RX0 yX0_isQuietForAll wsX0_isQuietForAll) := goodIn_app (goodIn_of _ (by decide +kernel)) ggX0_deepestFeed_X0_isQuietForAll
set_option maxHeartbeats 4000000 in
set_option maxRecDepth 100000 in
theorem S_X0_deepestFeed (l : Launch) (D : va_G) (K : Nat → ClassId) (a : Nat → Nat) (G : gS) (p0 : Int32) (s0 : Int) (p1 : Int32) (s1 : Int) (p2 : Int32) (s2 : Int) (e0 : p0.toInt = s0) (e1 : p1.toInt = s1) (e2 : p2.toInt = s2) (hI : xI G) (sz : Nat) : Ki l yX0_deepestFeed wsX0_deepestFeed 6 173 0 0 D [.ref (a 7), .int p0, .int p1, .int p2] (xW K a G) (tK K) sz (fun (r : Int32) (G' : gS) => (xI G') ∧ (gu_un xcd [602, 603, 604, 605, 608, 613, 614, 615, 616, 617, 618, 619, 620, 2100, 2400, 2700, 4400, 4500, 4600, 4700, 4800] G G') ∧ ((-1) ≤ r.toInt ∧ r.toInt ≤ 20)) (fun (G' : gS) => (xW K a G')) (fun _ => (tK K)) := by
  unfold Ki
  refine g_ofW (cc := cX0_deepestFeed) (lv := [(0, .ref (a 7)), (1, .int p0), (2, .int p1), (3, .int p2)]) (by decide) rfl (Nat.le_of_ble_eq_true rfl) rfl ?_
  intro p e s m args below meth c A Q hA hQ F hr hnm
  have hts := F.2.2.2.2.1
  have rg0 : -2147483648 ≤ s0 ∧ s0 ≤ 2147483647 := e0 ▸ ti_rng p0
  have rg1 : -2147483648 ≤ s1 ∧ s1 ≤ 2147483647 := e1 ▸ ti_rng p1
  have rg2 : -2147483648 ≤ s2 ∧ s2 ≤ 2147483647 := e2 ▸ ti_rng p2
  have J_4 : ∀ (fuel : Nat) (x4_4 : Int32) (Gj4 : gS), (x4_4.toInt + 2147483648).toNat < fuel → (0 ≤ x4_4.toInt ∧ x4_4.toInt ≤ 20) → (xI Gj4) → (gu_un xcd [602, 603, 604, 605, 608, 613, 614, 615, 616, 617, 618, 619, 620, 2100, 2400, 2700, 4400, 4500, 4600, 4700, 4800] G Gj4) → gG p l e (gR 6 0 0 173) s m args below meth c D A 5 Q 0 0 (xW K a Gj4) (tK K) [(0, .ref (a 7)), (1, .int p0), (2, .int p1), (3, .int p2), (4, .int x4_4)] 4 [] := by
    intro fuel
    induction fuel with
    | zero => intro x4_4 Gj4 hm; exact absurd hm (Nat.not_lt_zero _)
    | succ fuel_4 ih_4 =>
      intro x4_4 Gj4 hm_4 h4_4 jI4 jU4
      refine g_iload F 4 dX0_deepestFeed_4 rfl ?_
      refine g_iload_n F 3 dX0_deepestFeed_6 rfl rfl ?_
      refine v_icmp_le F 35 dX0_deepestFeed_7 (by decide) x4_4.toInt s2 rfl e2 (fun c1 => ?_) (fun c1 => ?_)
      · refine g_iconst F (-1) dX0_deepestFeed_35 (by decide) ?_
        exact u_iret F hA hQ hr Gj4 (⟨jI4, (gu_un.tr gu_un.rf (gu_un.su jU4 rfl)), (by decide)⟩) rfl rfl dX0_deepestFeed_36
      · refine g_iload F 4 dX0_deepestFeed_10 rfl ?_
        refine v_if_le F 35 dX0_deepestFeed_12 (by decide) x4_4.toInt rfl (fun c2 => ?_) (fun c2 => ?_)
        · refine g_iconst F (-1) dX0_deepestFeed_35 (by decide) ?_
          exact u_iret F hA hQ hr Gj4 (⟨jI4, (gu_un.tr gu_un.rf (gu_un.su jU4 rfl)), (by decide)⟩) rfl rfl dX0_deepestFeed_36
        · refine g_aload_n F 0 dX0_deepestFeed_15 rfl rfl ?_
          refine g_iload_n F 1 dX0_deepestFeed_16 rfl rfl ?_
          refine g_iload_n F 2 dX0_deepestFeed_17 rfl rfl ?_
          refine g_iload F 4 dX0_deepestFeed_18 rfl ?_
          refine u_callVi (k := 0) (n := 0) (b := a 7) (As := [.int p0, .int p1, .int x4_4]) (st := []) F (fun sz => S_X0_isQuietForAll l D K a Gj4 p0 s0 p1 s1 x4_4 x4_4.toInt e0 e1 rfl jI4 sz) (cwV 3 hts gX0_deepestFeed_X0_isQuietForAll rfl rfl rfl (by decide +kernel) ⟨Nat.le_of_ble_eq_true rfl, Nat.le_of_ble_eq_true rfl⟩) rfl 7 xc_7 rfl (Nat.le_of_ble_eq_true rfl) ⟨Nat.zero_le _, Nat.zero_le _⟩ dX0_deepestFeed_20 (fun r3 G5 hw4 => ?_)
          have hI6 : xI G5 := hw4.1
          have hU7 : gu_un xcd [602, 603, 604, 605, 608, 613, 614, 615, 616, 617, 618, 619, 620, 2100, 2400, 2700, 4400, 4500, 4600, 4700, 4800] Gj4 G5 := hw4.2.1
          have hp8 := hw4.2.2
          have rg9 := hp8
          clear hp8 hw4
          refine v_if_eq F 29 dX0_deepestFeed_23 (by decide) r3.toInt rfl (fun c10 => ?_) (fun c10 => ?_)
          · refine u_iinc F (fun v_ => [(4, .int v_), (0, .ref (a 7)), (1, .int p0), (2, .int p1), (3, .int p2)]) dX0_deepestFeed_29 (j := 4) rfl x4_4.toInt (-1) rfl rfl (by omega) (by omega) (by decide) (fun _ => rfl) (fun y11 ey11 => ?_)
            refine g_goto F 4 dX0_deepestFeed_32 (by decide) ?_
            refine g_locals [(0, .ref (a 7)), (1, .int p0), (2, .int p1), (3, .int p2), (4, .int y11)] [1, 2, 3, 4, 0] rfl ?_
            exact ih_4 y11 G5 (by omega) (by have h9 := ti_rng y11; omega) hI6 (gu_un.tr (gu_un.tr gu_un.rf (gu_un.su jU4 rfl)) (gu_un.su hU7 rfl))
          · refine g_iload F 4 dX0_deepestFeed_26 rfl ?_
            exact u_iret F hA hQ hr G5 (⟨hI6, (gu_un.tr (gu_un.tr gu_un.rf (gu_un.su jU4 rfl)) (gu_un.su hU7 rfl)), (by have h9 := ti_rng x4_4; omega)⟩) rfl rfl dX0_deepestFeed_28
  refine g_bipush F 20 dX0_deepestFeed_0 (by decide) ?_
  refine g_istore F [(4, .int 20), (0, .ref (a 7)), (1, .int p0), (2, .int p1), (3, .int p2)] dX0_deepestFeed_2 (by decide) rfl ?_
  refine g_locals [(0, .ref (a 7)), (1, .int p0), (2, .int p1), (3, .int p2), (4, .int 20)] [1, 2, 3, 4, 0] rfl ?_
  exact J_4 _ 20 G (Nat.lt_succ_self _) (by decide) hI gu_un.rf

theorem dX0_bestSpeed_0 : decode cX0_bestSpeed 0 = .ok (.iconst (-1), 1) := by decide +kernel
theorem dX0_bestSpeed_1 : decode cX0_bestSpeed 1 = .ok (.istore_n 2, 1) := by decide +kernel
theorem dX0_bestSpeed_2 : decode cX0_bestSpeed 2 = .ok (.iconst 0, 1) := by decide +kernel
theorem dX0_bestSpeed_3 : decode cX0_bestSpeed 3 = .ok (.istore_n 3, 1) := by decide +kernel
theorem dX0_bestSpeed_4 : decode cX0_bestSpeed 4 = .ok (.iconst 1, 1) := by decide +kernel
theorem dX0_bestSpeed_5 : decode cX0_bestSpeed 5 = .ok (.istore 4, 2) := by decide +kernel
theorem dX0_bestSpeed_7 : decode cX0_bestSpeed 7 = .ok (.iconst 1, 1) := by decide +kernel
theorem dX0_bestSpeed_8 : decode cX0_bestSpeed 8 = .ok (.istore 5, 2) := by decide +kernel
theorem dX0_bestSpeed_10 : decode cX0_bestSpeed 10 = .ok (.iload 5, 2) := by decide +kernel
theorem dX0_bestSpeed_12 : decode cX0_bestSpeed 12 = .ok (.bipush 9, 2) := by decide +kernel
theorem dX0_bestSpeed_14 : decode cX0_bestSpeed 14 = .ok (.if_icmp .gt 65, 3) := by decide +kernel
theorem dX0_bestSpeed_17 : decode cX0_bestSpeed 17 = .ok (.aload_n 0, 1) := by decide +kernel
theorem dX0_bestSpeed_18 : decode cX0_bestSpeed 18 = .ok (.getfield 24, 3) := by decide +kernel
theorem dX0_bestSpeed_21 : decode cX0_bestSpeed 21 = .ok (.iload 5, 2) := by decide +kernel
theorem dX0_bestSpeed_23 : decode cX0_bestSpeed 23 = .ok (.invokevirtual 64, 3) := by decide +kernel
theorem dX0_bestSpeed_26 : decode cX0_bestSpeed 26 = .ok (.istore 6, 2) := by decide +kernel
theorem dX0_bestSpeed_28 : decode cX0_bestSpeed 28 = .ok (.iload 4, 2) := by decide +kernel
theorem dX0_bestSpeed_30 : decode cX0_bestSpeed 30 = .ok (.ifCond .le 13, 3) := by decide +kernel
theorem dX0_bestSpeed_33 : decode cX0_bestSpeed 33 = .ok (.iload_n 3, 1) := by decide +kernel
theorem dX0_bestSpeed_34 : decode cX0_bestSpeed 34 = .ok (.iload 6, 2) := by decide +kernel
theorem dX0_bestSpeed_36 : decode cX0_bestSpeed 36 = .ok (.imul, 1) := by decide +kernel
theorem dX0_bestSpeed_37 : decode cX0_bestSpeed 37 = .ok (.iload 4, 2) := by decide +kernel
theorem dX0_bestSpeed_39 : decode cX0_bestSpeed 39 = .ok (.idiv, 1) := by decide +kernel
theorem dX0_bestSpeed_40 : decode cX0_bestSpeed 40 = .ok (.goto 4, 3) := by decide +kernel
theorem dX0_bestSpeed_43 : decode cX0_bestSpeed 43 = .ok (.iconst 0, 1) := by decide +kernel
theorem dX0_bestSpeed_44 : decode cX0_bestSpeed 44 = .ok (.istore 7, 2) := by decide +kernel
theorem dX0_bestSpeed_46 : decode cX0_bestSpeed 46 = .ok (.aload_n 0, 1) := by decide +kernel
theorem dX0_bestSpeed_47 : decode cX0_bestSpeed 47 = .ok (.iload_n 1, 1) := by decide +kernel
theorem dX0_bestSpeed_48 : decode cX0_bestSpeed 48 = .ok (.iload 5, 2) := by decide +kernel
theorem dX0_bestSpeed_50 : decode cX0_bestSpeed 50 = .ok (.iload 7, 2) := by decide +kernel
theorem dX0_bestSpeed_52 : decode cX0_bestSpeed 52 = .ok (.invokevirtual 68, 3) := by decide +kernel
theorem dX0_bestSpeed_55 : decode cX0_bestSpeed 55 = .ok (.istore 8, 2) := by decide +kernel
theorem dX0_bestSpeed_57 : decode cX0_bestSpeed 57 = .ok (.iload 8, 2) := by decide +kernel
theorem dX0_bestSpeed_59 : decode cX0_bestSpeed 59 = .ok (.iconst (-1), 1) := by decide +kernel
theorem dX0_bestSpeed_60 : decode cX0_bestSpeed 60 = .ok (.if_icmp .eq 13, 3) := by decide +kernel
theorem dX0_bestSpeed_63 : decode cX0_bestSpeed 63 = .ok (.iload 5, 2) := by decide +kernel
theorem dX0_bestSpeed_65 : decode cX0_bestSpeed 65 = .ok (.istore_n 2, 1) := by decide +kernel
theorem dX0_bestSpeed_66 : decode cX0_bestSpeed 66 = .ok (.iload 8, 2) := by decide +kernel
theorem dX0_bestSpeed_68 : decode cX0_bestSpeed 68 = .ok (.istore_n 3, 1) := by decide +kernel
theorem dX0_bestSpeed_69 : decode cX0_bestSpeed 69 = .ok (.iload 6, 2) := by decide +kernel
theorem dX0_bestSpeed_71 : decode cX0_bestSpeed 71 = .ok (.istore 4, 2) := by decide +kernel
theorem dX0_bestSpeed_73 : decode cX0_bestSpeed 73 = .ok (.iinc 5 1, 3) := by decide +kernel
theorem dX0_bestSpeed_76 : decode cX0_bestSpeed 76 = .ok (.goto (-66), 3) := by decide +kernel
theorem dX0_bestSpeed_79 : decode cX0_bestSpeed 79 = .ok (.iload_n 2, 1) := by decide +kernel
theorem dX0_bestSpeed_80 : decode cX0_bestSpeed 80 = .ok (.ireturn, 1) := by decide +kernel
set_option maxRecDepth 20000 in
theorem ggX0_bestSpeed_X0_deepestFeed : GoodIn wsX0_bestSpeed wsX0_deepestFeed := goodIn_r _ [20, 21, 22, 23, 19, 24, 25, 1, 26, 27, 28, 29, 30, 31, 32, 33, 34, 35, 36, 37, 38, 39, 40, 41, 42, 5, 43, 7, 44, 45, 46, 47, 48, 49, 50, 51, 52, 53, 54, 55, 56, 57, 58, 59, 60, 61, 62, 63, 64, 65, 66, 67, 68, 69, 70, 71, 72, 73, 74, 75, 76, 77, 78, 79, 80, 81, 82, 83, 84, 85, 86, 87, 88, 89, 90, 91, 92, 93, 94, 95, 96, 97, 98, 99, 100, 101, 102, 103, 104, 105, 106, 107, 108, 109, 110, 111, 112, 113, 114, 115, 116, 117, 118, 119, 120, 121, 122, 123, 124, 125, 126, 127, 128, 9, 10, 11, 129, 130, 131, 132, 133, 13, 14, 15, 134, 135, 136, 137, 138, 139, 140, 141, 142, 143, 144, 145, 146, 147, 148, 149, 150, 151, 152, 153, 154, 155, 156, 157, 158, 159, 160, 161, 162, 163, 164, 165, 166, 167, 168, 169, 170, 171, 172, 173, 174, 175, 176, 177, 178, 179] rfl (by decide +kernel)
set_option maxRecDepth 20000 in
theorem gX0_bestSpeed_X0_deepestFeed : GoodIn wsX0_bestSpeed (wsV RX0 68 RX0 yX0_deepestFeed wsX0_deepestFeed) := goodIn_app (goodIn_of _ (by decide +kernel)) ggX0_bestSpeed_X0_deepestFeed
set_option maxRecDepth 20000 in
theorem ggX0_bestSpeed_X7_passTime : GoodIn wsX0_bestSpeed wsX7_passTime := goodIn_r _ [6, 7, 8, 9, 10, 5, 11, 12, 13, 14, 15, 142, 143, 144, 145] rfl (by decide +kernel)
set_option maxRecDepth 20000 in
theorem gX0_bestSpeed_X7_passTime : GoodIn wsX0_bestSpeed (wsV RX0 64 RX7 yX7_passTime wsX7_passTime) := goodIn_app (goodIn_of _ (by decide +kernel)) ggX0_bestSpeed_X7_passTime
set_option maxHeartbeats 4000000 in
set_option maxRecDepth 100000 in
theorem S_X0_bestSpeed (l : Launch) (D : va_G) (K : Nat → ClassId) (a : Nat → Nat) (G : gS) (p0 : Int32) (s0 : Int) (e0 : p0.toInt = s0) (hI : xI G) (sz : Nat) : Ki l yX0_bestSpeed wsX0_bestSpeed 7 197 0 0 D [.ref (a 7), .int p0] (xW K a G) (tK K) sz (fun (r : Int32) (G' : gS) => (xI G') ∧ (gu_un xcd [602, 603, 604, 605, 608, 613, 614, 615, 616, 617, 618, 619, 620, 2100, 2400, 2700, 4400, 4500, 4600, 4700, 4800] G G') ∧ ((-1) ≤ r.toInt ∧ r.toInt ≤ 9)) (fun (G' : gS) => (xW K a G')) (fun _ => (tK K)) := by
  unfold Ki
  refine g_ofW (cc := cX0_bestSpeed) (lv := [(0, .ref (a 7)), (1, .int p0)]) (by decide) rfl (Nat.le_of_ble_eq_true rfl) rfl ?_
  intro p e s m args below meth c A Q hA hQ F hr hnm
  have hts := F.2.2.2.2.1
  have w_0 : (Cond.fieldLink RX0 24 "QuietCut$Chooser" "shop" "LQuietCut$Shop;").before args s = true := hts _ (List.mem_of_getElem? (i := 1) rfl)
  have i_X0 : ∀ w ∈ u_ws RX0 TX0 8, w ∈ wsX0_bestSpeed := fun _ h => List.mem_cons_of_mem _ (List.mem_append_left _ (List.mem_append_left _ (List.mem_append_left _ (List.mem_append_left _ (List.mem_append_right _ h)))))
  have rg0 : -2147483648 ≤ s0 ∧ s0 ≤ 2147483647 := e0 ▸ ti_rng p0
  have J_10 : ∀ (fuel : Nat) (x10_2 : Int32) (x10_3 : Int32) (x10_4 : Int32) (x10_5 : Int32) (Gj10 : gS), (2147483647 - x10_5.toInt).toNat < fuel → ((-1) ≤ x10_2.toInt ∧ x10_2.toInt ≤ 9) → (0 ≤ x10_3.toInt ∧ x10_3.toInt ≤ 20) → (1 ≤ x10_5.toInt ∧ x10_5.toInt ≤ 10) → (xI Gj10) → (gu_un xcd [602, 603, 604, 605, 608, 613, 614, 615, 616, 617, 618, 619, 620, 2100, 2400, 2700, 4400, 4500, 4600, 4700, 4800] G Gj10) → gG p l e (gR 7 0 0 197) s m args below meth c D A 9 Q 0 0 (xW K a Gj10) (tK K) [(0, .ref (a 7)), (1, .int p0), (2, .int x10_2), (3, .int x10_3), (4, .int x10_4), (5, .int x10_5)] 10 [] := by
    intro fuel
    induction fuel with
    | zero => intro x10_2 x10_3 x10_4 x10_5 Gj10 hm; exact absurd hm (Nat.not_lt_zero _)
    | succ fuel_10 ih_10 =>
      intro x10_2 x10_3 x10_4 x10_5 Gj10 hm_10 h10_2 h10_3 h10_5 jI10 jU10
      have J_73 : ∀  (x73_2 : Int32) (x73_3 : Int32) (x73_4 : Int32) (Gj73 : gS), ((-1) ≤ x73_2.toInt ∧ x73_2.toInt ≤ 9) → (0 ≤ x73_3.toInt ∧ x73_3.toInt ≤ 20) → (1 ≤ x10_5.toInt ∧ x10_5.toInt ≤ 9) → (xI Gj73) → (gu_un xcd [602, 603, 604, 605, 608, 613, 614, 615, 616, 617, 618, 619, 620, 2100, 2400, 2700, 4400, 4500, 4600, 4700, 4800] Gj10 Gj73) → gG p l e (gR 7 0 0 197) s m args below meth c D A 9 Q 0 0 (xW K a Gj73) (tK K) [(0, .ref (a 7)), (1, .int p0), (2, .int x73_2), (3, .int x73_3), (4, .int x73_4), (5, .int x10_5)] 73 [] := by
        intro x73_2 x73_3 x73_4 Gj73 h73_2 h73_3 k73_5 jI73 jU73
        refine u_iinc F (fun v_ => [(5, .int v_), (0, .ref (a 7)), (1, .int p0), (2, .int x73_2), (3, .int x73_3), (4, .int x73_4)]) dX0_bestSpeed_73 (j := 5) rfl x10_5.toInt 1 rfl rfl (by omega) (by omega) (by decide) (fun _ => rfl) (fun y1 ey1 => ?_)
        refine g_goto F 10 dX0_bestSpeed_76 (by decide) ?_
        refine g_locals [(0, .ref (a 7)), (1, .int p0), (2, .int x73_2), (3, .int x73_3), (4, .int x73_4), (5, .int y1)] [1, 2, 3, 4, 5, 0] rfl ?_
        exact ih_10 x73_2 x73_3 x73_4 y1 Gj73 (by omega) (by have h9 := ti_rng x73_2; omega) (by have h9 := ti_rng x73_3; omega) (by have h9 := ti_rng y1; omega) jI73 (gu_un.tr (gu_un.tr gu_un.rf (gu_un.su jU10 rfl)) (gu_un.su jU73 rfl))
      have J_44 : ∀  (x44_6 : Int32) (z44_0 : Int32), (1 ≤ x10_5.toInt ∧ x10_5.toInt ≤ 9) → gG p l e (gR 7 0 0 197) s m args below meth c D A 9 Q 0 0 (xW K a Gj10) (tK K) [(0, .ref (a 7)), (1, .int p0), (2, .int x10_2), (3, .int x10_3), (4, .int x10_4), (5, .int x10_5), (6, .int x44_6)] 44 [.int z44_0] := by
        intro x44_6 z44_0 k44_5
        refine g_istore F [(7, .int z44_0), (0, .ref (a 7)), (1, .int p0), (2, .int x10_2), (3, .int x10_3), (4, .int x10_4), (5, .int x10_5), (6, .int x44_6)] dX0_bestSpeed_44 (by decide) rfl ?_
        refine g_aload_n F 1 dX0_bestSpeed_46 rfl rfl ?_
        refine g_iload_n F 2 dX0_bestSpeed_47 rfl rfl ?_
        refine g_iload F 6 dX0_bestSpeed_48 rfl ?_
        refine g_iload F 0 dX0_bestSpeed_50 rfl ?_
        refine u_callVi (k := 0) (n := 0) (b := a 7) (As := [.int p0, .int x10_5, .int z44_0]) (st := []) F (fun sz => S_X0_deepestFeed l D K a Gj10 p0 s0 x10_5 x10_5.toInt z44_0 z44_0.toInt e0 rfl rfl jI10 sz) (cwV 3 hts gX0_bestSpeed_X0_deepestFeed rfl rfl rfl (by decide +kernel) ⟨Nat.le_of_ble_eq_true rfl, Nat.le_of_ble_eq_true rfl⟩) rfl 7 xc_7 rfl (Nat.le_of_ble_eq_true rfl) ⟨Nat.zero_le _, Nat.zero_le _⟩ dX0_bestSpeed_52 (fun r2 G4 hw3 => ?_)
        have hI5 : xI G4 := hw3.1
        have hU6 : gu_un xcd [602, 603, 604, 605, 608, 613, 614, 615, 616, 617, 618, 619, 620, 2100, 2400, 2700, 4400, 4500, 4600, 4700, 4800] Gj10 G4 := hw3.2.1
        have hp7 := hw3.2.2
        have rg8 := hp7
        clear hp7 hw3
        refine g_istore F [(8, .int r2), (7, .int z44_0), (0, .ref (a 7)), (1, .int p0), (2, .int x10_2), (3, .int x10_3), (4, .int x10_4), (5, .int x10_5), (6, .int x44_6)] dX0_bestSpeed_55 (by decide) rfl ?_
        refine g_iload F 0 dX0_bestSpeed_57 rfl ?_
        refine g_iconst F (-1) dX0_bestSpeed_59 (by decide) ?_
        refine v_icmp_eq F 73 dX0_bestSpeed_60 (by decide) r2.toInt (-1) rfl rfl (fun c9 => ?_) (fun c9 => ?_)
        · refine g_locals [(0, .ref (a 7)), (1, .int p0), (2, .int x10_2), (3, .int x10_3), (4, .int x10_4), (5, .int x10_5)] [2, 3, 4, 5, 6, 7] rfl ?_
          exact J_73 x10_2 x10_3 x10_4 G4 (by have h9 := ti_rng x10_2; omega) (by have h9 := ti_rng x10_3; omega) (by have h9 := ti_rng x10_5; omega) hI5 (gu_un.tr gu_un.rf (gu_un.su hU6 rfl))
        · refine g_iload F 7 dX0_bestSpeed_63 rfl ?_
          refine g_istore_n F [(2, .int x10_5), (8, .int r2), (7, .int z44_0), (0, .ref (a 7)), (1, .int p0), (3, .int x10_3), (4, .int x10_4), (5, .int x10_5), (6, .int x44_6)] dX0_bestSpeed_65 rfl (by decide) rfl ?_
          refine g_iload F 1 dX0_bestSpeed_66 rfl ?_
          refine g_istore_n F [(3, .int r2), (2, .int x10_5), (8, .int r2), (7, .int z44_0), (0, .ref (a 7)), (1, .int p0), (4, .int x10_4), (5, .int x10_5), (6, .int x44_6)] dX0_bestSpeed_68 rfl (by decide) rfl ?_
          refine g_iload F 8 dX0_bestSpeed_69 rfl ?_
          refine g_istore F [(4, .int x44_6), (3, .int r2), (2, .int x10_5), (8, .int r2), (7, .int z44_0), (0, .ref (a 7)), (1, .int p0), (5, .int x10_5), (6, .int x44_6)] dX0_bestSpeed_71 (by decide) rfl ?_
          refine g_locals [(0, .ref (a 7)), (1, .int p0), (2, .int x10_5), (3, .int r2), (4, .int x44_6), (5, .int x10_5)] [5, 6, 2, 1, 0, 7] rfl ?_
          exact J_73 x10_5 r2 x44_6 G4 (by have h9 := ti_rng x10_5; omega) (by have h9 := ti_rng r2; omega) (by have h9 := ti_rng x10_5; omega) hI5 (gu_un.tr gu_un.rf (gu_un.su hU6 rfl))
      refine g_iload F 5 dX0_bestSpeed_10 rfl ?_
      refine g_bipush F 9 dX0_bestSpeed_12 (by decide) ?_
      refine v_icmp_gt F 79 dX0_bestSpeed_14 (by decide) x10_5.toInt 9 rfl rfl (fun c10 => ?_) (fun c10 => ?_)
      · refine g_iload_n F 2 dX0_bestSpeed_79 rfl rfl ?_
        exact u_iret F hA hQ hr Gj10 (⟨jI10, (gu_un.tr gu_un.rf (gu_un.su jU10 rfl)), (by have h9 := ti_rng x10_2; omega)⟩) rfl rfl dX0_bestSpeed_80
      · refine g_aload_n F 0 dX0_bestSpeed_17 rfl rfl ?_
        refine xg_7_0 F i_X0 w_0 dX0_bestSpeed_18 ?_
        refine g_iload F 5 dX0_bestSpeed_21 rfl ?_
        refine u_callVi (k := 0) (n := 0) (b := a 2) (As := [.int x10_5]) (st := []) F (fun sz => S_X7_passTime_2 l D K a Gj10 x10_5 x10_5.toInt rfl jI10 sz) (cwV 1 hts gX0_bestSpeed_X7_passTime rfl rfl rfl (by decide +kernel) ⟨Nat.le_of_ble_eq_true rfl, Nat.le_of_ble_eq_true rfl⟩) rfl 2 xc_2 rfl (Nat.le_of_ble_eq_true rfl) ⟨Nat.zero_le _, Nat.zero_le _⟩ dX0_bestSpeed_23 (fun r11 _ hw12 => ?_)
        refine g_istore F [(6, .int r11), (0, .ref (a 7)), (1, .int p0), (2, .int x10_2), (3, .int x10_3), (4, .int x10_4), (5, .int x10_5)] dX0_bestSpeed_26 (by decide) rfl ?_
        refine g_iload F 5 dX0_bestSpeed_28 rfl ?_
        refine v_if_le F 43 dX0_bestSpeed_30 (by decide) x10_4.toInt rfl (fun c14 => ?_) (fun c14 => ?_)
        · refine g_iconst F 0 dX0_bestSpeed_43 (by decide) ?_
          refine g_locals [(0, .ref (a 7)), (1, .int p0), (2, .int x10_2), (3, .int x10_3), (4, .int x10_4), (5, .int x10_5), (6, .int r11)] [1, 2, 3, 4, 5, 6, 0] rfl ?_
          exact J_44 r11 0 (by have h9 := ti_rng x10_5; omega)
        · refine g_iload_n F 4 dX0_bestSpeed_33 rfl rfl ?_
          refine g_iload F 0 dX0_bestSpeed_34 rfl ?_
          refine u0_imul F dX0_bestSpeed_36 (fun y15 => ?_)
          refine g_iload F 5 dX0_bestSpeed_37 rfl ?_
          have b17 := ti_rng x10_4
          refine u0_idiv F dX0_bestSpeed_39 (ti_ne0 rfl (by omega)) (fun y16 => ?_)
          refine g_goto F 44 dX0_bestSpeed_40 (by decide) ?_
          refine g_locals [(0, .ref (a 7)), (1, .int p0), (2, .int x10_2), (3, .int x10_3), (4, .int x10_4), (5, .int x10_5), (6, .int r11)] [1, 2, 3, 4, 5, 6, 0] rfl ?_
          exact J_44 r11 y16 (by have h9 := ti_rng x10_5; omega)
  refine g_iconst F (-1) dX0_bestSpeed_0 (by decide) ?_
  refine g_istore_n F [(2, .int (-1)), (0, .ref (a 7)), (1, .int p0)] dX0_bestSpeed_1 rfl (by decide) rfl ?_
  refine g_iconst F 0 dX0_bestSpeed_2 (by decide) ?_
  refine g_istore_n F [(3, .int 0), (2, .int (-1)), (0, .ref (a 7)), (1, .int p0)] dX0_bestSpeed_3 rfl (by decide) rfl ?_
  refine g_iconst F 1 dX0_bestSpeed_4 (by decide) ?_
  refine g_istore F [(4, .int 1), (3, .int 0), (2, .int (-1)), (0, .ref (a 7)), (1, .int p0)] dX0_bestSpeed_5 (by decide) rfl ?_
  refine g_iconst F 1 dX0_bestSpeed_7 (by decide) ?_
  refine g_istore F [(5, .int 1), (4, .int 1), (3, .int 0), (2, .int (-1)), (0, .ref (a 7)), (1, .int p0)] dX0_bestSpeed_8 (by decide) rfl ?_
  refine g_locals [(0, .ref (a 7)), (1, .int p0), (2, .int (-1)), (3, .int 0), (4, .int 1), (5, .int 1)] [4, 5, 3, 2, 1, 0] rfl ?_
  exact J_10 _ (-1) 0 1 1 G (Nat.lt_succ_self _) (by decide) (by decide) (by decide) hI gu_un.rf

theorem dJ6_bitCount_0f7a4_0 : decode cJ6_bitCount_0f7a4 0 = .ok (.iload_n 0, 1) := by decide +kernel
theorem dJ6_bitCount_0f7a4_1 : decode cJ6_bitCount_0f7a4 1 = .ok (.iload_n 0, 1) := by decide +kernel
theorem dJ6_bitCount_0f7a4_2 : decode cJ6_bitCount_0f7a4 2 = .ok (.iconst 1, 1) := by decide +kernel
theorem dJ6_bitCount_0f7a4_3 : decode cJ6_bitCount_0f7a4 3 = .ok (.iushr, 1) := by decide +kernel
theorem dJ6_bitCount_0f7a4_4 : decode cJ6_bitCount_0f7a4 4 = .ok (.ldc_w 265, 3) := by decide +kernel
theorem dJ6_bitCount_0f7a4_7 : decode cJ6_bitCount_0f7a4 7 = .ok (.iand, 1) := by decide +kernel
theorem dJ6_bitCount_0f7a4_8 : decode cJ6_bitCount_0f7a4 8 = .ok (.isub, 1) := by decide +kernel
theorem dJ6_bitCount_0f7a4_9 : decode cJ6_bitCount_0f7a4 9 = .ok (.istore_n 0, 1) := by decide +kernel
theorem dJ6_bitCount_0f7a4_10 : decode cJ6_bitCount_0f7a4 10 = .ok (.iload_n 0, 1) := by decide +kernel
theorem dJ6_bitCount_0f7a4_11 : decode cJ6_bitCount_0f7a4 11 = .ok (.ldc_w 266, 3) := by decide +kernel
theorem dJ6_bitCount_0f7a4_14 : decode cJ6_bitCount_0f7a4 14 = .ok (.iand, 1) := by decide +kernel
theorem dJ6_bitCount_0f7a4_15 : decode cJ6_bitCount_0f7a4 15 = .ok (.iload_n 0, 1) := by decide +kernel
theorem dJ6_bitCount_0f7a4_16 : decode cJ6_bitCount_0f7a4 16 = .ok (.iconst 2, 1) := by decide +kernel
theorem dJ6_bitCount_0f7a4_17 : decode cJ6_bitCount_0f7a4 17 = .ok (.iushr, 1) := by decide +kernel
theorem dJ6_bitCount_0f7a4_18 : decode cJ6_bitCount_0f7a4 18 = .ok (.ldc_w 266, 3) := by decide +kernel
theorem dJ6_bitCount_0f7a4_21 : decode cJ6_bitCount_0f7a4 21 = .ok (.iand, 1) := by decide +kernel
theorem dJ6_bitCount_0f7a4_22 : decode cJ6_bitCount_0f7a4 22 = .ok (.iadd, 1) := by decide +kernel
theorem dJ6_bitCount_0f7a4_23 : decode cJ6_bitCount_0f7a4 23 = .ok (.istore_n 0, 1) := by decide +kernel
theorem dJ6_bitCount_0f7a4_24 : decode cJ6_bitCount_0f7a4 24 = .ok (.iload_n 0, 1) := by decide +kernel
theorem dJ6_bitCount_0f7a4_25 : decode cJ6_bitCount_0f7a4 25 = .ok (.iload_n 0, 1) := by decide +kernel
theorem dJ6_bitCount_0f7a4_26 : decode cJ6_bitCount_0f7a4 26 = .ok (.iconst 4, 1) := by decide +kernel
theorem dJ6_bitCount_0f7a4_27 : decode cJ6_bitCount_0f7a4 27 = .ok (.iushr, 1) := by decide +kernel
theorem dJ6_bitCount_0f7a4_28 : decode cJ6_bitCount_0f7a4 28 = .ok (.iadd, 1) := by decide +kernel
theorem dJ6_bitCount_0f7a4_29 : decode cJ6_bitCount_0f7a4 29 = .ok (.ldc_w 267, 3) := by decide +kernel
theorem dJ6_bitCount_0f7a4_32 : decode cJ6_bitCount_0f7a4 32 = .ok (.iand, 1) := by decide +kernel
theorem dJ6_bitCount_0f7a4_33 : decode cJ6_bitCount_0f7a4 33 = .ok (.istore_n 0, 1) := by decide +kernel
theorem dJ6_bitCount_0f7a4_34 : decode cJ6_bitCount_0f7a4 34 = .ok (.iload_n 0, 1) := by decide +kernel
theorem dJ6_bitCount_0f7a4_35 : decode cJ6_bitCount_0f7a4 35 = .ok (.iload_n 0, 1) := by decide +kernel
theorem dJ6_bitCount_0f7a4_36 : decode cJ6_bitCount_0f7a4 36 = .ok (.bipush 8, 2) := by decide +kernel
theorem dJ6_bitCount_0f7a4_38 : decode cJ6_bitCount_0f7a4 38 = .ok (.iushr, 1) := by decide +kernel
theorem dJ6_bitCount_0f7a4_39 : decode cJ6_bitCount_0f7a4 39 = .ok (.iadd, 1) := by decide +kernel
theorem dJ6_bitCount_0f7a4_40 : decode cJ6_bitCount_0f7a4 40 = .ok (.istore_n 0, 1) := by decide +kernel
theorem dJ6_bitCount_0f7a4_41 : decode cJ6_bitCount_0f7a4 41 = .ok (.iload_n 0, 1) := by decide +kernel
theorem dJ6_bitCount_0f7a4_42 : decode cJ6_bitCount_0f7a4 42 = .ok (.iload_n 0, 1) := by decide +kernel
theorem dJ6_bitCount_0f7a4_43 : decode cJ6_bitCount_0f7a4 43 = .ok (.bipush 16, 2) := by decide +kernel
theorem dJ6_bitCount_0f7a4_45 : decode cJ6_bitCount_0f7a4 45 = .ok (.iushr, 1) := by decide +kernel
theorem dJ6_bitCount_0f7a4_46 : decode cJ6_bitCount_0f7a4 46 = .ok (.iadd, 1) := by decide +kernel
theorem dJ6_bitCount_0f7a4_47 : decode cJ6_bitCount_0f7a4 47 = .ok (.istore_n 0, 1) := by decide +kernel
theorem dJ6_bitCount_0f7a4_48 : decode cJ6_bitCount_0f7a4 48 = .ok (.iload_n 0, 1) := by decide +kernel
theorem dJ6_bitCount_0f7a4_49 : decode cJ6_bitCount_0f7a4 49 = .ok (.bipush 63, 2) := by decide +kernel
theorem dJ6_bitCount_0f7a4_51 : decode cJ6_bitCount_0f7a4 51 = .ok (.iand, 1) := by decide +kernel
theorem dJ6_bitCount_0f7a4_52 : decode cJ6_bitCount_0f7a4 52 = .ok (.ireturn, 1) := by decide +kernel
set_option maxHeartbeats 4000000 in
set_option maxRecDepth 100000 in
theorem S_J6_bitCount_0f7a4 (l : Launch) (D : va_G)  (p0 : Int32) (s0 : Int) (e0 : p0.toInt = s0) (sz : Nat) : Ki l yJ6_bitCount_0f7a4 wsJ6_bitCount_0f7a4 1 40 0 0 D [.int p0] [] [] sz (fun (r : Int32) (_ : Unit) => (0 ≤ r.toInt ∧ r.toInt ≤ 63)) (fun (_ : Unit) => []) (fun _ => []) := by
  unfold Ki
  refine g_ofWF (cc := cJ6_bitCount_0f7a4) (lv := [(0, .int p0)]) (by decide +kernel) rfl (Nat.le_of_ble_eq_true rfl) rfl ?_
  intro p e s m args below meth c A Q hA hQ F hr hnm
  have hts := F.2.2.2.2.1
  have w_0 : (Cond.constant RJ6 265 (1431655765)).before args s = true := hts _ (List.mem_of_getElem? (i := 1) rfl)
  have w_1 : (Cond.constant RJ6 266 (858993459)).before args s = true := hts _ (List.mem_of_getElem? (i := 2) rfl)
  have w_2 : (Cond.constant RJ6 267 (252645135)).before args s = true := hts _ (List.mem_of_getElem? (i := 3) rfl)
  have rg0 : -2147483648 ≤ s0 ∧ s0 ≤ 2147483647 := e0 ▸ ti_rng p0
  refine g_iload_n F 0 dJ6_bitCount_0f7a4_0 rfl rfl ?_
  refine g_iload_n F 0 dJ6_bitCount_0f7a4_1 rfl rfl ?_
  refine g_iconst F 1 dJ6_bitCount_0f7a4_2 (by decide) ?_
  refine u0_iushr F dJ6_bitCount_0f7a4_3 (fun y1 => ?_)
  refine g_ldcw F w_0 dJ6_bitCount_0f7a4_4 ?_
  refine u_iand F dJ6_bitCount_0f7a4_7 _ 1431655765 rfl rfl (by omega) (fun y2 ey2 => ?_)
  refine u0_isub F dJ6_bitCount_0f7a4_8 (fun y3 => ?_)
  refine g_istore_n F [(0, .int y3)] dJ6_bitCount_0f7a4_9 rfl (by decide) rfl ?_
  refine g_iload_n F 0 dJ6_bitCount_0f7a4_10 rfl rfl ?_
  refine g_ldcw F w_1 dJ6_bitCount_0f7a4_11 ?_
  refine u_iand F dJ6_bitCount_0f7a4_14 _ 858993459 rfl rfl (by omega) (fun y4 ey4 => ?_)
  refine g_iload_n F 0 dJ6_bitCount_0f7a4_15 rfl rfl ?_
  refine g_iconst F 2 dJ6_bitCount_0f7a4_16 (by decide) ?_
  refine u0_iushr F dJ6_bitCount_0f7a4_17 (fun y5 => ?_)
  refine g_ldcw F w_1 dJ6_bitCount_0f7a4_18 ?_
  refine u_iand F dJ6_bitCount_0f7a4_21 _ 858993459 rfl rfl (by omega) (fun y6 ey6 => ?_)
  refine u_iadd F dJ6_bitCount_0f7a4_22 y4.toInt y6.toInt rfl rfl (by omega) (by omega) (fun y7 ey7 => ?_)
  refine g_istore_n F [(0, .int y7)] dJ6_bitCount_0f7a4_23 rfl (by decide) rfl ?_
  refine g_iload_n F 0 dJ6_bitCount_0f7a4_24 rfl rfl ?_
  refine g_iload_n F 0 dJ6_bitCount_0f7a4_25 rfl rfl ?_
  refine g_iconst F 4 dJ6_bitCount_0f7a4_26 (by decide) ?_
  refine u0_iushr F dJ6_bitCount_0f7a4_27 (fun y8 => ?_)
  refine u0_iadd F dJ6_bitCount_0f7a4_28 (fun y9 => ?_)
  refine g_ldcw F w_2 dJ6_bitCount_0f7a4_29 ?_
  refine u_iand F dJ6_bitCount_0f7a4_32 _ 252645135 rfl rfl (by omega) (fun y10 ey10 => ?_)
  refine g_istore_n F [(0, .int y10)] dJ6_bitCount_0f7a4_33 rfl (by decide) rfl ?_
  refine g_iload_n F 0 dJ6_bitCount_0f7a4_34 rfl rfl ?_
  refine g_iload_n F 0 dJ6_bitCount_0f7a4_35 rfl rfl ?_
  refine g_bipush F 8 dJ6_bitCount_0f7a4_36 (by decide) ?_
  refine u0_iushr F dJ6_bitCount_0f7a4_38 (fun y11 => ?_)
  refine u0_iadd F dJ6_bitCount_0f7a4_39 (fun y12 => ?_)
  refine g_istore_n F [(0, .int y12)] dJ6_bitCount_0f7a4_40 rfl (by decide) rfl ?_
  refine g_iload_n F 0 dJ6_bitCount_0f7a4_41 rfl rfl ?_
  refine g_iload_n F 0 dJ6_bitCount_0f7a4_42 rfl rfl ?_
  refine g_bipush F 16 dJ6_bitCount_0f7a4_43 (by decide) ?_
  refine u0_iushr F dJ6_bitCount_0f7a4_45 (fun y13 => ?_)
  refine u0_iadd F dJ6_bitCount_0f7a4_46 (fun y14 => ?_)
  refine g_istore_n F [(0, .int y14)] dJ6_bitCount_0f7a4_47 rfl (by decide) rfl ?_
  refine g_iload_n F 0 dJ6_bitCount_0f7a4_48 rfl rfl ?_
  refine g_bipush F 63 dJ6_bitCount_0f7a4_49 (by decide) ?_
  refine u_iand F dJ6_bitCount_0f7a4_51 _ 63 rfl rfl (by omega) (fun y15 ey15 => ?_)
  exact u_iret F hA hQ hr () ((by have h9 := ti_rng y15; omega)) rfl rfl dJ6_bitCount_0f7a4_52

theorem dX0_mayChoose_0 : decode cX0_mayChoose 0 = .ok (.iload_n 1, 1) := by decide +kernel
theorem dX0_mayChoose_1 : decode cX0_mayChoose 1 = .ok (.invokestatic 72, 3) := by decide +kernel
theorem dX0_mayChoose_4 : decode cX0_mayChoose 4 = .ok (.istore_n 2, 1) := by decide +kernel
theorem dX0_mayChoose_5 : decode cX0_mayChoose 5 = .ok (.iload_n 0, 1) := by decide +kernel
theorem dX0_mayChoose_6 : decode cX0_mayChoose 6 = .ok (.iconst 1, 1) := by decide +kernel
theorem dX0_mayChoose_7 : decode cX0_mayChoose 7 = .ok (.if_icmp .lt 33, 3) := by decide +kernel
theorem dX0_mayChoose_10 : decode cX0_mayChoose 10 = .ok (.iload_n 0, 1) := by decide +kernel
theorem dX0_mayChoose_11 : decode cX0_mayChoose 11 = .ok (.iconst 4, 1) := by decide +kernel
theorem dX0_mayChoose_12 : decode cX0_mayChoose 12 = .ok (.if_icmp .gt 28, 3) := by decide +kernel
theorem dX0_mayChoose_15 : decode cX0_mayChoose 15 = .ok (.iload_n 1, 1) := by decide +kernel
theorem dX0_mayChoose_16 : decode cX0_mayChoose 16 = .ok (.ifCond .lt 24, 3) := by decide +kernel
theorem dX0_mayChoose_19 : decode cX0_mayChoose 19 = .ok (.iload_n 1, 1) := by decide +kernel
theorem dX0_mayChoose_20 : decode cX0_mayChoose 20 = .ok (.ldc 77, 2) := by decide +kernel
theorem dX0_mayChoose_22 : decode cX0_mayChoose 22 = .ok (.if_icmp .ge 18, 3) := by decide +kernel
theorem dX0_mayChoose_25 : decode cX0_mayChoose 25 = .ok (.iload_n 2, 1) := by decide +kernel
theorem dX0_mayChoose_26 : decode cX0_mayChoose 26 = .ok (.iload_n 0, 1) := by decide +kernel
theorem dX0_mayChoose_27 : decode cX0_mayChoose 27 = .ok (.if_icmp .lt 13, 3) := by decide +kernel
theorem dX0_mayChoose_30 : decode cX0_mayChoose 30 = .ok (.iload_n 2, 1) := by decide +kernel
theorem dX0_mayChoose_31 : decode cX0_mayChoose 31 = .ok (.bipush 6, 2) := by decide +kernel
theorem dX0_mayChoose_33 : decode cX0_mayChoose 33 = .ok (.if_icmp .gt 7, 3) := by decide +kernel
theorem dX0_mayChoose_36 : decode cX0_mayChoose 36 = .ok (.iconst 1, 1) := by decide +kernel
theorem dX0_mayChoose_37 : decode cX0_mayChoose 37 = .ok (.goto 4, 3) := by decide +kernel
theorem dX0_mayChoose_40 : decode cX0_mayChoose 40 = .ok (.iconst 0, 1) := by decide +kernel
theorem dX0_mayChoose_41 : decode cX0_mayChoose 41 = .ok (.ireturn, 1) := by decide +kernel
set_option maxRecDepth 20000 in
theorem ggX0_mayChoose_J6_bitCount_0f7a4 : GoodIn wsX0_mayChoose wsJ6_bitCount_0f7a4 := goodIn_r _ [5, 6, 7, 8] rfl (by decide +kernel)
set_option maxRecDepth 20000 in
theorem gX0_mayChoose_J6_bitCount_0f7a4 : GoodIn wsX0_mayChoose (va_wsS RX0 72 yJ6_bitCount_0f7a4 wsJ6_bitCount_0f7a4) := goodIn_app (goodIn_of _ (by decide +kernel)) ggX0_mayChoose_J6_bitCount_0f7a4
set_option maxHeartbeats 4000000 in
set_option maxRecDepth 100000 in
theorem S_X0_mayChoose (l : Launch) (D : va_G)  (p0 : Int32) (s0 : Int) (p1 : Int32) (s1 : Int) (e0 : p0.toInt = s0) (e1 : p1.toInt = s1) (sz : Nat) : Ki l yX0_mayChoose wsX0_mayChoose 2 60 0 0 D [.int p0, .int p1] [] [] sz (fun (r : Int32) (_ : Unit) => (0 ≤ r.toInt ∧ r.toInt ≤ 1)) (fun (_ : Unit) => []) (fun _ => []) := by
  unfold Ki
  refine g_ofW (cc := cX0_mayChoose) (lv := [(0, .int p0), (1, .int p1)]) (by decide) rfl (Nat.le_of_ble_eq_true rfl) rfl ?_
  intro p e s m args below meth c A Q hA hQ F hr hnm
  have hts := F.2.2.2.2.1
  have w_0 : (Cond.constant RX0 77 (65536)).before args s = true := hts _ (List.mem_of_getElem? (i := 1) rfl)
  have rg0 : -2147483648 ≤ s0 ∧ s0 ≤ 2147483647 := e0 ▸ ti_rng p0
  have rg1 : -2147483648 ≤ s1 ∧ s1 ≤ 2147483647 := e1 ▸ ti_rng p1
  refine g_iload_n F 1 dX0_mayChoose_0 rfl rfl ?_
  refine u_call0 (k := 0) (n := 0) (As := [.int p1]) (st := []) F (fun sz => S_J6_bitCount_0f7a4 l D p1 s1 e1 sz) (va_cwS 1 hts gX0_mayChoose_J6_bitCount_0f7a4 rfl rfl rfl (by decide +kernel) ⟨Nat.le_of_ble_eq_true rfl, Nat.le_of_ble_eq_true rfl⟩) rfl (Nat.le_of_ble_eq_true rfl) ⟨Nat.zero_le _, Nat.zero_le _⟩ dX0_mayChoose_1 (fun r1 _ hw2 => ?_)
  have rg4 := hw2
  clear hw2
  refine g_istore_n F [(2, .int r1), (0, .int p0), (1, .int p1)] dX0_mayChoose_4 rfl (by decide) rfl ?_
  refine g_iload_n F 1 dX0_mayChoose_5 rfl rfl ?_
  refine g_iconst F 1 dX0_mayChoose_6 (by decide) ?_
  refine v_icmp_lt F 40 dX0_mayChoose_7 (by decide) s0 1 e0 rfl (fun c5 => ?_) (fun c5 => ?_)
  · refine g_iconst F 0 dX0_mayChoose_40 (by decide) ?_
    exact u_zret F hA hQ hr rfl () ((by decide)) rfl rfl dX0_mayChoose_41
  · refine g_iload_n F 1 dX0_mayChoose_10 rfl rfl ?_
    refine g_iconst F 4 dX0_mayChoose_11 (by decide) ?_
    refine v_icmp_gt F 40 dX0_mayChoose_12 (by decide) s0 4 e0 rfl (fun c6 => ?_) (fun c6 => ?_)
    · refine g_iconst F 0 dX0_mayChoose_40 (by decide) ?_
      exact u_zret F hA hQ hr rfl () ((by decide)) rfl rfl dX0_mayChoose_41
    · refine g_iload_n F 2 dX0_mayChoose_15 rfl rfl ?_
      refine v_if_lt F 40 dX0_mayChoose_16 (by decide) s1 e1 (fun c7 => ?_) (fun c7 => ?_)
      · refine g_iconst F 0 dX0_mayChoose_40 (by decide) ?_
        exact u_zret F hA hQ hr rfl () ((by decide)) rfl rfl dX0_mayChoose_41
      · refine g_iload_n F 2 dX0_mayChoose_19 rfl rfl ?_
        refine g_ldc F w_0 dX0_mayChoose_20 ?_
        refine v_icmp_ge F 40 dX0_mayChoose_22 (by decide) s1 65536 e1 rfl (fun c8 => ?_) (fun c8 => ?_)
        · refine g_iconst F 0 dX0_mayChoose_40 (by decide) ?_
          exact u_zret F hA hQ hr rfl () ((by decide)) rfl rfl dX0_mayChoose_41
        · refine g_iload_n F 0 dX0_mayChoose_25 rfl rfl ?_
          refine g_iload_n F 1 dX0_mayChoose_26 rfl rfl ?_
          refine v_icmp_lt F 40 dX0_mayChoose_27 (by decide) r1.toInt s0 rfl e0 (fun c9 => ?_) (fun c9 => ?_)
          · refine g_iconst F 0 dX0_mayChoose_40 (by decide) ?_
            exact u_zret F hA hQ hr rfl () ((by decide)) rfl rfl dX0_mayChoose_41
          · refine g_iload_n F 0 dX0_mayChoose_30 rfl rfl ?_
            refine g_bipush F 6 dX0_mayChoose_31 (by decide) ?_
            refine v_icmp_gt F 40 dX0_mayChoose_33 (by decide) r1.toInt 6 rfl rfl (fun c10 => ?_) (fun c10 => ?_)
            · refine g_iconst F 0 dX0_mayChoose_40 (by decide) ?_
              exact u_zret F hA hQ hr rfl () ((by decide)) rfl rfl dX0_mayChoose_41
            · refine g_iconst F 1 dX0_mayChoose_36 (by decide) ?_
              refine g_goto F 41 dX0_mayChoose_37 (by decide) ?_
              exact u_zret F hA hQ hr rfl () ((by decide)) rfl rfl dX0_mayChoose_41

theorem dX0_bestSet_0 : decode cX0_bestSet 0 = .ok (.iconst (-1), 1) := by decide +kernel
theorem dX0_bestSet_1 : decode cX0_bestSet 1 = .ok (.istore 5, 2) := by decide +kernel
theorem dX0_bestSet_3 : decode cX0_bestSet 3 = .ok (.iconst 0, 1) := by decide +kernel
theorem dX0_bestSet_4 : decode cX0_bestSet 4 = .ok (.istore 6, 2) := by decide +kernel
theorem dX0_bestSet_6 : decode cX0_bestSet 6 = .ok (.iconst 0, 1) := by decide +kernel
theorem dX0_bestSet_7 : decode cX0_bestSet 7 = .ok (.istore 7, 2) := by decide +kernel
theorem dX0_bestSet_9 : decode cX0_bestSet 9 = .ok (.iconst 0, 1) := by decide +kernel
theorem dX0_bestSet_10 : decode cX0_bestSet 10 = .ok (.istore 8, 2) := by decide +kernel
theorem dX0_bestSet_12 : decode cX0_bestSet 12 = .ok (.iload 8, 2) := by decide +kernel
theorem dX0_bestSet_14 : decode cX0_bestSet 14 = .ok (.bipush 64, 2) := by decide +kernel
theorem dX0_bestSet_16 : decode cX0_bestSet 16 = .ok (.if_icmp .ge 69, 3) := by decide +kernel
theorem dX0_bestSet_19 : decode cX0_bestSet 19 = .ok (.iload 7, 2) := by decide +kernel
theorem dX0_bestSet_21 : decode cX0_bestSet 21 = .ok (.iload 4, 2) := by decide +kernel
theorem dX0_bestSet_23 : decode cX0_bestSet 23 = .ok (.isub, 1) := by decide +kernel
theorem dX0_bestSet_24 : decode cX0_bestSet 24 = .ok (.iload 4, 2) := by decide +kernel
theorem dX0_bestSet_26 : decode cX0_bestSet 26 = .ok (.iand, 1) := by decide +kernel
theorem dX0_bestSet_27 : decode cX0_bestSet 27 = .ok (.istore 7, 2) := by decide +kernel
theorem dX0_bestSet_29 : decode cX0_bestSet 29 = .ok (.iload 7, 2) := by decide +kernel
theorem dX0_bestSet_31 : decode cX0_bestSet 31 = .ok (.ifCond .ne 6, 3) := by decide +kernel
theorem dX0_bestSet_34 : decode cX0_bestSet 34 = .ok (.goto 51, 3) := by decide +kernel
theorem dX0_bestSet_37 : decode cX0_bestSet 37 = .ok (.iload 7, 2) := by decide +kernel
theorem dX0_bestSet_39 : decode cX0_bestSet 39 = .ok (.invokestatic 72, 3) := by decide +kernel
theorem dX0_bestSet_42 : decode cX0_bestSet 42 = .ok (.iload_n 3, 1) := by decide +kernel
theorem dX0_bestSet_43 : decode cX0_bestSet 43 = .ok (.if_icmp .ne 36, 3) := by decide +kernel
theorem dX0_bestSet_46 : decode cX0_bestSet 46 = .ok (.aload_n 0, 1) := by decide +kernel
theorem dX0_bestSet_47 : decode cX0_bestSet 47 = .ok (.getfield 32, 3) := by decide +kernel
theorem dX0_bestSet_50 : decode cX0_bestSet 50 = .ok (.iload 7, 2) := by decide +kernel
theorem dX0_bestSet_52 : decode cX0_bestSet 52 = .ok (.invokevirtual 78, 3) := by decide +kernel
theorem dX0_bestSet_55 : decode cX0_bestSet 55 = .ok (.aload_n 0, 1) := by decide +kernel
theorem dX0_bestSet_56 : decode cX0_bestSet 56 = .ok (.iload_n 1, 1) := by decide +kernel
theorem dX0_bestSet_57 : decode cX0_bestSet 57 = .ok (.iload_n 2, 1) := by decide +kernel
theorem dX0_bestSet_58 : decode cX0_bestSet 58 = .ok (.iload 6, 2) := by decide +kernel
theorem dX0_bestSet_60 : decode cX0_bestSet 60 = .ok (.invokevirtual 68, 3) := by decide +kernel
theorem dX0_bestSet_63 : decode cX0_bestSet 63 = .ok (.istore 9, 2) := by decide +kernel
theorem dX0_bestSet_65 : decode cX0_bestSet 65 = .ok (.iload 9, 2) := by decide +kernel
theorem dX0_bestSet_67 : decode cX0_bestSet 67 = .ok (.iconst (-1), 1) := by decide +kernel
theorem dX0_bestSet_68 : decode cX0_bestSet 68 = .ok (.if_icmp .eq 11, 3) := by decide +kernel
theorem dX0_bestSet_71 : decode cX0_bestSet 71 = .ok (.iload 7, 2) := by decide +kernel
theorem dX0_bestSet_73 : decode cX0_bestSet 73 = .ok (.istore 5, 2) := by decide +kernel
theorem dX0_bestSet_75 : decode cX0_bestSet 75 = .ok (.iload 9, 2) := by decide +kernel
theorem dX0_bestSet_77 : decode cX0_bestSet 77 = .ok (.istore 6, 2) := by decide +kernel
theorem dX0_bestSet_79 : decode cX0_bestSet 79 = .ok (.iinc 8 1, 3) := by decide +kernel
theorem dX0_bestSet_82 : decode cX0_bestSet 82 = .ok (.goto (-70), 3) := by decide +kernel
theorem dX0_bestSet_85 : decode cX0_bestSet 85 = .ok (.aload_n 0, 1) := by decide +kernel
theorem dX0_bestSet_86 : decode cX0_bestSet 86 = .ok (.getfield 32, 3) := by decide +kernel
theorem dX0_bestSet_89 : decode cX0_bestSet 89 = .ok (.iconst 0, 1) := by decide +kernel
theorem dX0_bestSet_90 : decode cX0_bestSet 90 = .ok (.invokevirtual 78, 3) := by decide +kernel
theorem dX0_bestSet_93 : decode cX0_bestSet 93 = .ok (.iload 5, 2) := by decide +kernel
theorem dX0_bestSet_95 : decode cX0_bestSet 95 = .ok (.ireturn, 1) := by decide +kernel
set_option maxRecDepth 20000 in
theorem ggX0_bestSet_J6_bitCount_0f7a4 : GoodIn wsX0_bestSet wsJ6_bitCount_0f7a4 := goodIn_r _ [5, 6, 7, 8] rfl (by decide +kernel)
set_option maxRecDepth 20000 in
theorem gX0_bestSet_J6_bitCount_0f7a4 : GoodIn wsX0_bestSet (va_wsS RX0 72 yJ6_bitCount_0f7a4 wsJ6_bitCount_0f7a4) := goodIn_app (goodIn_of _ (by decide +kernel)) ggX0_bestSet_J6_bitCount_0f7a4
set_option maxRecDepth 20000 in
theorem ggX0_bestSet_X0_deepestFeed : GoodIn wsX0_bestSet wsX0_deepestFeed := goodIn_r _ [19, 20, 21, 22, 18, 23, 1, 24, 25, 26, 27, 28, 29, 30, 31, 12, 32, 33, 34, 35, 36, 37, 38, 39, 40, 41, 42, 43, 44, 45, 46, 47, 48, 49, 50, 51, 52, 53, 54, 55, 56, 57, 58, 59, 60, 61, 62, 63, 64, 65, 66, 67, 68, 69, 70, 71, 72, 73, 74, 75, 76, 77, 78, 79, 80, 81, 82, 83, 84, 85, 86, 87, 88, 89, 90, 91, 92, 93, 94, 95, 14, 96, 97, 98, 99, 100, 101, 102, 103, 104, 105, 106, 107, 108, 109, 110, 111, 112, 113, 114, 115, 116, 117, 118, 119, 120, 121, 122, 123, 124, 125, 126, 127, 128, 129, 130, 131, 132, 133, 134, 135, 136, 137, 138, 139, 140, 141, 142, 143, 144, 145, 146, 167, 168, 169, 170, 171, 172, 173, 174, 175, 147, 148, 149, 150, 151, 152, 153, 154, 155, 156, 157, 158, 159, 160, 161, 162, 163, 164, 165, 166, 176, 177, 178, 179, 180, 181, 182, 183, 184] rfl (by decide +kernel)
set_option maxRecDepth 20000 in
theorem gX0_bestSet_X0_deepestFeed : GoodIn wsX0_bestSet (wsV RX0 68 RX0 yX0_deepestFeed wsX0_deepestFeed) := goodIn_app (goodIn_of _ (by decide +kernel)) ggX0_bestSet_X0_deepestFeed
set_option maxRecDepth 20000 in
theorem ggX0_bestSet_X5_useTeeth : GoodIn wsX0_bestSet wsX5_useTeeth := goodIn_r _ [13, 14, 147, 148, 149, 150, 151, 152, 153, 154, 155, 156, 157, 158, 159, 160, 161, 162, 163, 164, 165, 166] rfl (by decide +kernel)
set_option maxRecDepth 20000 in
theorem gX0_bestSet_X5_useTeeth : GoodIn wsX0_bestSet (wsV RX0 78 RX5 yX5_useTeeth wsX5_useTeeth) := goodIn_app (goodIn_of _ (by decide +kernel)) ggX0_bestSet_X5_useTeeth
set_option maxHeartbeats 4000000 in
set_option maxRecDepth 100000 in
theorem S_X0_bestSet (l : Launch) (D : va_G) (K : Nat → ClassId) (a : Nat → Nat) (G : gS) (p0 : Int32) (s0 : Int) (p1 : Int32) (s1 : Int) (p2 : Int32) (s2 : Int) (p3 : Int32) (s3 : Int) (e0 : p0.toInt = s0) (e1 : p1.toInt = s1) (e2 : p2.toInt = s2) (e3 : p3.toInt = s3) (hI : xI G) (sz : Nat) : Ki l yX0_bestSet wsX0_bestSet 7 197 0 0 D [.ref (a 7), .int p0, .int p1, .int p2, .int p3] (xW K a G) (tK K) sz (fun (r : Int32) (G' : gS) => (xI G') ∧ (gu_un xcd [602, 603, 604, 605, 607, 608, 613, 614, 615, 616, 617, 618, 619, 620, 2100, 2400, 2700, 4400, 4500, 4600, 4700, 4800] G G') ∧ (((G' 6 6).toInt = 0))) (fun (G' : gS) => (xW K a G')) (fun _ => (tK K)) := by
  unfold Ki
  refine g_ofW (cc := cX0_bestSet) (lv := [(0, .ref (a 7)), (1, .int p0), (2, .int p1), (3, .int p2), (4, .int p3)]) (by decide) rfl (Nat.le_of_ble_eq_true rfl) rfl ?_
  intro p e s m args below meth c A Q hA hQ F hr hnm
  have hts := F.2.2.2.2.1
  have w_0 : (Cond.fieldLink RX0 32 "QuietCut$Chooser" "lathe" "LQuietCut$Lathe;").before args s = true := hts _ (List.mem_of_getElem? (i := 1) rfl)
  have i_X0 : ∀ w ∈ u_ws RX0 TX0 8, w ∈ wsX0_bestSet := fun _ h => List.mem_cons_of_mem _ (List.mem_append_left _ (List.mem_append_left _ (List.mem_append_left _ (List.mem_append_left _ (List.mem_append_right _ h)))))
  have rg0 : -2147483648 ≤ s0 ∧ s0 ≤ 2147483647 := e0 ▸ ti_rng p0
  have rg1 : -2147483648 ≤ s1 ∧ s1 ≤ 2147483647 := e1 ▸ ti_rng p1
  have rg2 : -2147483648 ≤ s2 ∧ s2 ≤ 2147483647 := e2 ▸ ti_rng p2
  have rg3 : -2147483648 ≤ s3 ∧ s3 ≤ 2147483647 := e3 ▸ ti_rng p3
  have J_12 : ∀ (fuel : Nat) (x12_5 : Int32) (x12_6 : Int32) (x12_7 : Int32) (x12_8 : Int32) (Gj12 : gS), (2147483647 - x12_8.toInt).toNat < fuel → (0 ≤ x12_6.toInt ∧ x12_6.toInt ≤ 20) → (0 ≤ x12_8.toInt ∧ x12_8.toInt ≤ 64) → (xI Gj12) → (gu_un xcd [602, 603, 604, 605, 607, 608, 613, 614, 615, 616, 617, 618, 619, 620, 2100, 2400, 2700, 4400, 4500, 4600, 4700, 4800] G Gj12) → gG p l e (gR 7 0 0 197) s m args below meth c D A 10 Q 0 0 (xW K a Gj12) (tK K) [(0, .ref (a 7)), (1, .int p0), (2, .int p1), (3, .int p2), (4, .int p3), (5, .int x12_5), (6, .int x12_6), (7, .int x12_7), (8, .int x12_8)] 12 [] := by
    intro fuel
    induction fuel with
    | zero => intro x12_5 x12_6 x12_7 x12_8 Gj12 hm; exact absurd hm (Nat.not_lt_zero _)
    | succ fuel_12 ih_12 =>
      intro x12_5 x12_6 x12_7 x12_8 Gj12 hm_12 h12_6 h12_8 jI12 jU12
      have J_79 : ∀  (x79_5 : Int32) (x79_6 : Int32) (x79_7 : Int32) (Gj79 : gS), (0 ≤ x79_6.toInt ∧ x79_6.toInt ≤ 20) → (0 ≤ x12_8.toInt ∧ x12_8.toInt ≤ 63) → (xI Gj79) → (gu_un xcd [602, 603, 604, 605, 607, 608, 613, 614, 615, 616, 617, 618, 619, 620, 2100, 2400, 2700, 4400, 4500, 4600, 4700, 4800] Gj12 Gj79) → gG p l e (gR 7 0 0 197) s m args below meth c D A 10 Q 0 0 (xW K a Gj79) (tK K) [(0, .ref (a 7)), (1, .int p0), (2, .int p1), (3, .int p2), (4, .int p3), (5, .int x79_5), (6, .int x79_6), (7, .int x79_7), (8, .int x12_8)] 79 [] := by
        intro x79_5 x79_6 x79_7 Gj79 h79_6 k79_8 jI79 jU79
        refine u_iinc F (fun v_ => [(8, .int v_), (0, .ref (a 7)), (1, .int p0), (2, .int p1), (3, .int p2), (4, .int p3), (5, .int x79_5), (6, .int x79_6), (7, .int x79_7)]) dX0_bestSet_79 (j := 8) rfl x12_8.toInt 1 rfl rfl (by omega) (by omega) (by decide) (fun _ => rfl) (fun y1 ey1 => ?_)
        refine g_goto F 12 dX0_bestSet_82 (by decide) ?_
        refine g_locals [(0, .ref (a 7)), (1, .int p0), (2, .int p1), (3, .int p2), (4, .int p3), (5, .int x79_5), (6, .int x79_6), (7, .int x79_7), (8, .int y1)] [1, 2, 3, 4, 5, 6, 7, 8, 0] rfl ?_
        exact ih_12 x79_5 x79_6 x79_7 y1 Gj79 (by omega) (by have h9 := ti_rng x79_6; omega) (by have h9 := ti_rng y1; omega) jI79 (gu_un.tr (gu_un.tr gu_un.rf (gu_un.su jU12 rfl)) (gu_un.su jU79 rfl))
      refine g_iload F 8 dX0_bestSet_12 rfl ?_
      refine g_bipush F 64 dX0_bestSet_14 (by decide) ?_
      refine v_icmp_ge F 85 dX0_bestSet_16 (by decide) x12_8.toInt 64 rfl rfl (fun c2 => ?_) (fun c2 => ?_)
      · refine g_aload_n F 0 dX0_bestSet_85 rfl rfl ?_
        refine xg_7_2 F i_X0 w_0 dX0_bestSet_86 ?_
        refine g_iconst F 0 dX0_bestSet_89 (by decide) ?_
        refine u_callVv (k := 0) (n := 0) (b := a 6) (As := [.int 0]) (st := []) F (fun sz => S_X5_useTeeth l D K a Gj12 0 0 rfl jI12 sz) (cwV 1 hts gX0_bestSet_X5_useTeeth rfl rfl rfl (by decide +kernel) ⟨Nat.le_of_ble_eq_true rfl, Nat.le_of_ble_eq_true rfl⟩) rfl 6 xc_6 rfl (Nat.le_of_ble_eq_true rfl) ⟨Nat.zero_le _, Nat.zero_le _⟩ dX0_bestSet_90 (fun G5 hw4 => ?_)
        have hI6 : xI G5 := hw4.1
        have hU7 : gu_un xcd [607] Gj12 G5 := hw4.2.1
        have hp8 := hw4.2.2
        have q9 : ((G5 6 6).toInt = (0 : Int)) := hp8
        clear hp8 hw4
        refine g_iload F 5 dX0_bestSet_93 rfl ?_
        exact u_iret F hA hQ hr G5 (⟨hI6, (gu_un.tr (gu_un.tr gu_un.rf (gu_un.su jU12 rfl)) (gu_un.su hU7 rfl)), (by show ((G5 6 6).toInt = 0); (first | omega | (simp only [Int32.reduceToInt, true_and, and_true, ne_eq, not_true_eq_false, false_and, or_false, false_or, true_or, or_true, false_implies] <;> omega)))⟩) rfl rfl dX0_bestSet_95
      · refine g_iload F 7 dX0_bestSet_19 rfl ?_
        refine g_iload F 4 dX0_bestSet_21 rfl ?_
        refine u0_isub F dX0_bestSet_23 (fun y10 => ?_)
        refine g_iload F 4 dX0_bestSet_24 rfl ?_
        refine u0_iand F dX0_bestSet_26 (fun y11 => ?_)
        refine g_istore F [(7, .int y11), (0, .ref (a 7)), (1, .int p0), (2, .int p1), (3, .int p2), (4, .int p3), (5, .int x12_5), (6, .int x12_6), (8, .int x12_8)] dX0_bestSet_27 (by decide) rfl ?_
        refine g_iload F 0 dX0_bestSet_29 rfl ?_
        refine v_if_ne F 37 dX0_bestSet_31 (by decide) y11.toInt rfl (fun c12 => ?_) (fun c12 => ?_)
        · refine g_iload F 0 dX0_bestSet_37 rfl ?_
          refine u_call0 (k := 0) (n := 0) (As := [.int y11]) (st := []) F (fun sz => S_J6_bitCount_0f7a4 l D y11 y11.toInt rfl sz) (va_cwS 1 hts gX0_bestSet_J6_bitCount_0f7a4 rfl rfl rfl (by decide +kernel) ⟨Nat.le_of_ble_eq_true rfl, Nat.le_of_ble_eq_true rfl⟩) rfl (Nat.le_of_ble_eq_true rfl) ⟨Nat.zero_le _, Nat.zero_le _⟩ dX0_bestSet_39 (fun r13 _ hw14 => ?_)
          have rg16 := hw14
          clear hw14
          refine g_iload_n F 4 dX0_bestSet_42 rfl rfl ?_
          refine v_icmp_ne F 79 dX0_bestSet_43 (by decide) r13.toInt s2 rfl e2 (fun c17 => ?_) (fun c17 => ?_)
          · refine g_locals [(0, .ref (a 7)), (1, .int p0), (2, .int p1), (3, .int p2), (4, .int p3), (5, .int x12_5), (6, .int x12_6), (7, .int y11), (8, .int x12_8)] [1, 2, 3, 4, 5, 6, 7, 0, 8] rfl ?_
            exact J_79 x12_5 x12_6 y11 Gj12 (by have h9 := ti_rng x12_6; omega) (by have h9 := ti_rng x12_8; omega) jI12 gu_un.rf
          · refine g_aload_n F 1 dX0_bestSet_46 rfl rfl ?_
            refine xg_7_2 F i_X0 w_0 dX0_bestSet_47 ?_
            refine g_iload F 0 dX0_bestSet_50 rfl ?_
            refine u_callVv (k := 0) (n := 0) (b := a 6) (As := [.int y11]) (st := []) F (fun sz => S_X5_useTeeth l D K a Gj12 y11 y11.toInt rfl jI12 sz) (cwV 1 hts gX0_bestSet_X5_useTeeth rfl rfl rfl (by decide +kernel) ⟨Nat.le_of_ble_eq_true rfl, Nat.le_of_ble_eq_true rfl⟩) rfl 6 xc_6 rfl (Nat.le_of_ble_eq_true rfl) ⟨Nat.zero_le _, Nat.zero_le _⟩ dX0_bestSet_52 (fun G20 hw19 => ?_)
            have hI21 : xI G20 := hw19.1
            have hU22 : gu_un xcd [607] Gj12 G20 := hw19.2.1
            have hp23 := hw19.2.2
            have q24 : ((G20 6 6).toInt = y11.toInt) := hp23
            clear hp23 hw19
            refine g_aload_n F 1 dX0_bestSet_55 rfl rfl ?_
            refine g_iload_n F 2 dX0_bestSet_56 rfl rfl ?_
            refine g_iload_n F 3 dX0_bestSet_57 rfl rfl ?_
            refine g_iload F 7 dX0_bestSet_58 rfl ?_
            refine u_callVi (k := 0) (n := 0) (b := a 7) (As := [.int p0, .int p1, .int x12_6]) (st := []) F (fun sz => S_X0_deepestFeed l D K a G20 p0 s0 p1 s1 x12_6 x12_6.toInt e0 e1 rfl hI21 sz) (cwV 3 hts gX0_bestSet_X0_deepestFeed rfl rfl rfl (by decide +kernel) ⟨Nat.le_of_ble_eq_true rfl, Nat.le_of_ble_eq_true rfl⟩) rfl 7 xc_7 rfl (Nat.le_of_ble_eq_true rfl) ⟨Nat.zero_le _, Nat.zero_le _⟩ dX0_bestSet_60 (fun r25 G27 hw26 => ?_)
            have hI28 : xI G27 := hw26.1
            have hU29 : gu_un xcd [602, 603, 604, 605, 608, 613, 614, 615, 616, 617, 618, 619, 620, 2100, 2400, 2700, 4400, 4500, 4600, 4700, 4800] G20 G27 := hw26.2.1
            have hp30 := hw26.2.2
            have rg31 := hp30
            clear hp30 hw26
            refine g_istore F [(9, .int r25), (7, .int y11), (0, .ref (a 7)), (1, .int p0), (2, .int p1), (3, .int p2), (4, .int p3), (5, .int x12_5), (6, .int x12_6), (8, .int x12_8)] dX0_bestSet_63 (by decide) rfl ?_
            refine g_iload F 0 dX0_bestSet_65 rfl ?_
            refine g_iconst F (-1) dX0_bestSet_67 (by decide) ?_
            refine v_icmp_eq F 79 dX0_bestSet_68 (by decide) r25.toInt (-1) rfl rfl (fun c32 => ?_) (fun c32 => ?_)
            · refine g_locals [(0, .ref (a 7)), (1, .int p0), (2, .int p1), (3, .int p2), (4, .int p3), (5, .int x12_5), (6, .int x12_6), (7, .int y11), (8, .int x12_8)] [2, 3, 4, 5, 6, 7, 8, 1, 9] rfl ?_
              exact J_79 x12_5 x12_6 y11 G27 (by have h9 := ti_rng x12_6; omega) (by have h9 := ti_rng x12_8; omega) hI28 (gu_un.tr (gu_un.tr gu_un.rf (gu_un.su hU22 rfl)) (gu_un.su hU29 rfl))
            · refine g_iload F 1 dX0_bestSet_71 rfl ?_
              refine g_istore F [(5, .int y11), (9, .int r25), (7, .int y11), (0, .ref (a 7)), (1, .int p0), (2, .int p1), (3, .int p2), (4, .int p3), (6, .int x12_6), (8, .int x12_8)] dX0_bestSet_73 (by decide) rfl ?_
              refine g_iload F 1 dX0_bestSet_75 rfl ?_
              refine g_istore F [(6, .int r25), (5, .int y11), (9, .int r25), (7, .int y11), (0, .ref (a 7)), (1, .int p0), (2, .int p1), (3, .int p2), (4, .int p3), (8, .int x12_8)] dX0_bestSet_77 (by decide) rfl ?_
              refine g_locals [(0, .ref (a 7)), (1, .int p0), (2, .int p1), (3, .int p2), (4, .int p3), (5, .int y11), (6, .int r25), (7, .int y11), (8, .int x12_8)] [4, 5, 6, 7, 8, 1, 0, 3, 9] rfl ?_
              exact J_79 y11 r25 y11 G27 (by have h9 := ti_rng r25; omega) (by have h9 := ti_rng x12_8; omega) hI28 (gu_un.tr (gu_un.tr gu_un.rf (gu_un.su hU22 rfl)) (gu_un.su hU29 rfl))
        · refine g_goto F 85 dX0_bestSet_34 (by decide) ?_
          refine g_aload_n F 1 dX0_bestSet_85 rfl rfl ?_
          refine xg_7_2 F i_X0 w_0 dX0_bestSet_86 ?_
          refine g_iconst F 0 dX0_bestSet_89 (by decide) ?_
          refine u_callVv (k := 0) (n := 0) (b := a 6) (As := [.int 0]) (st := []) F (fun sz => S_X5_useTeeth l D K a Gj12 0 0 rfl jI12 sz) (cwV 1 hts gX0_bestSet_X5_useTeeth rfl rfl rfl (by decide +kernel) ⟨Nat.le_of_ble_eq_true rfl, Nat.le_of_ble_eq_true rfl⟩) rfl 6 xc_6 rfl (Nat.le_of_ble_eq_true rfl) ⟨Nat.zero_le _, Nat.zero_le _⟩ dX0_bestSet_90 (fun G35 hw34 => ?_)
          have hI36 : xI G35 := hw34.1
          have hU37 : gu_un xcd [607] Gj12 G35 := hw34.2.1
          have hp38 := hw34.2.2
          have q39 : ((G35 6 6).toInt = (0 : Int)) := hp38
          clear hp38 hw34
          refine g_iload F 6 dX0_bestSet_93 rfl ?_
          exact u_iret F hA hQ hr G35 (⟨hI36, (gu_un.tr (gu_un.tr gu_un.rf (gu_un.su jU12 rfl)) (gu_un.su hU37 rfl)), (by show ((G35 6 6).toInt = 0); (first | omega | (simp only [Int32.reduceToInt, true_and, and_true, ne_eq, not_true_eq_false, false_and, or_false, false_or, true_or, or_true, false_implies] <;> omega)))⟩) rfl rfl dX0_bestSet_95
  refine g_iconst F (-1) dX0_bestSet_0 (by decide) ?_
  refine g_istore F [(5, .int (-1)), (0, .ref (a 7)), (1, .int p0), (2, .int p1), (3, .int p2), (4, .int p3)] dX0_bestSet_1 (by decide) rfl ?_
  refine g_iconst F 0 dX0_bestSet_3 (by decide) ?_
  refine g_istore F [(6, .int 0), (5, .int (-1)), (0, .ref (a 7)), (1, .int p0), (2, .int p1), (3, .int p2), (4, .int p3)] dX0_bestSet_4 (by decide) rfl ?_
  refine g_iconst F 0 dX0_bestSet_6 (by decide) ?_
  refine g_istore F [(7, .int 0), (6, .int 0), (5, .int (-1)), (0, .ref (a 7)), (1, .int p0), (2, .int p1), (3, .int p2), (4, .int p3)] dX0_bestSet_7 (by decide) rfl ?_
  refine g_iconst F 0 dX0_bestSet_9 (by decide) ?_
  refine g_istore F [(8, .int 0), (7, .int 0), (6, .int 0), (5, .int (-1)), (0, .ref (a 7)), (1, .int p0), (2, .int p1), (3, .int p2), (4, .int p3)] dX0_bestSet_10 (by decide) rfl ?_
  refine g_locals [(0, .ref (a 7)), (1, .int p0), (2, .int p1), (3, .int p2), (4, .int p3), (5, .int (-1)), (6, .int 0), (7, .int 0), (8, .int 0)] [4, 5, 6, 7, 8, 3, 2, 1, 0] rfl ?_
  exact J_12 _ (-1) 0 0 0 G (Nat.lt_succ_self _) (by decide) (by decide) hI gu_un.rf


set_option maxHeartbeats 4000000 in
set_option maxRecDepth 100000 in
theorem S_J7_fill_53178_49 (l : Launch) (D : va_G) (K : Nat → ClassId) (a : Nat → Nat) (G : gS) (p1 : Int32) (s1 : Int) (e1 : p1.toInt = s1) (hI : xI G) (sz : Nat) : Kv l yJ7_fill_53178 wsJ7_fill_53178 1 40 0 0 D [.ref (a 49), .int p1] (xW K a G) (tK K) sz (fun (G' : gS) => (xI G') ∧ (gu_un xcd [4900] G G')) (fun (G' : gS) => (xW K a G')) (fun _ => (tK K)) := by
  unfold Kv
  refine g_ofW (cc := cJ7_fill_53178) (lv := [(0, .ref (a 49)), (1, .int p1)]) (by decide +kernel) rfl (Nat.le_of_ble_eq_true rfl) rfl ?_
  intro p e s m args below meth c A Q hA hQ F hr hnm
  have hts := F.2.2.2.2.1
  have rg1 : -2147483648 ≤ s1 ∧ s1 ≤ 2147483647 := e1 ▸ ti_rng p1
  have J_5 : ∀ (fuel : Nat) (x5_2 : Int32) (Gj5 : gS), (2147483647 - x5_2.toInt).toNat < fuel → (0 ≤ x5_2.toInt ∧ x5_2.toInt ≤ 21) → (xI Gj5) → (gu_un xcd [4900] G Gj5) → gG p l e (gR 1 0 0 40) s m args below meth c D A 4 Q 0 0 (xW K a Gj5) (tK K) [(0, .ref (a 49)), (1, .int p1), (2, .int x5_2), (3, .int 21)] 5 [] := by
    intro fuel
    induction fuel with
    | zero => intro x5_2 Gj5 hm; exact absurd hm (Nat.not_lt_zero _)
    | succ fuel_5 ih_5 =>
      intro x5_2 Gj5 hm_5 h5_2 jI5 jU5
      refine g_iload_n F 2 dJ7_fill_53178_5 rfl rfl ?_
      refine g_iload_n F 3 dJ7_fill_53178_6 rfl rfl ?_
      refine v_icmp_ge F 20 dJ7_fill_53178_7 (by decide) x5_2.toInt 21 rfl rfl (fun c1 => ?_) (fun c1 => ?_)
      · exact u_vret F hA hQ hr Gj5 (⟨jI5, (gu_un.tr gu_un.rf (gu_un.su jU5 rfl))⟩) rfl rfl dJ7_fill_53178_20
      · refine g_aload_n F 0 dJ7_fill_53178_10 rfl rfl ?_
        refine g_iload_n F 2 dJ7_fill_53178_11 rfl rfl ?_
        refine g_iload_n F 1 dJ7_fill_53178_12 rfl rfl ?_
        refine u_iast F 49 0 xc_49 rfl x5_2.toInt rfl (by omega) (by omega) (xW K a (gu_up Gj5 49 (x5_2.toInt).toNat p1)) (xs_49 _) dJ7_fill_53178_13 ?_
        refine u_iinc F (fun v_ => [(2, .int v_), (0, .ref (a 49)), (1, .int p1), (3, .int 21)]) dJ7_fill_53178_14 (j := 2) rfl x5_2.toInt 1 rfl rfl (by omega) (by omega) (by decide) (fun _ => rfl) (fun y2 ey2 => ?_)
        refine g_goto F 5 dJ7_fill_53178_17 (by decide) ?_
        refine g_locals [(0, .ref (a 49)), (1, .int p1), (2, .int y2), (3, .int 21)] [1, 2, 0, 3] rfl ?_
        exact ih_5 y2 (gu_up Gj5 49 (x5_2.toInt).toNat p1) (by omega) (by have h9 := ti_rng y2; omega) (gu_I.up (j := 49) (k := (x5_2.toInt).toNat) (v := p1) jI5 (ti_rng _).1 (ti_rng _).2) (gu_un.up (j := 49) (k := (x5_2.toInt).toNat) (v := p1) (gu_un.tr gu_un.rf (gu_un.su jU5 rfl)) (show (4900 : Nat) ∈ ([4900] : List Nat) by decide))
  refine g_iconst F 0 dJ7_fill_53178_0 (by decide) ?_
  refine g_istore_n F [(2, .int 0), (0, .ref (a 49)), (1, .int p1)] dJ7_fill_53178_1 rfl (by decide) rfl ?_
  refine g_aload_n F 1 dJ7_fill_53178_2 rfl rfl ?_
  refine g_alen F 49 0 xc_49 rfl 21 rfl dJ7_fill_53178_3 ?_
  refine g_istore_n F [(3, .int 21), (2, .int 0), (0, .ref (a 49)), (1, .int p1)] dJ7_fill_53178_4 rfl (by decide) rfl ?_
  refine g_locals [(0, .ref (a 49)), (1, .int p1), (2, .int 0), (3, .int 21)] [2, 3, 1, 0] rfl ?_
  exact J_5 _ 0 G (Nat.lt_succ_self _) (by decide) hI gu_un.rf

theorem dX0_findSpeeds_0 : decode cX0_findSpeeds 0 = .ok (.aload_n 0, 1) := by decide +kernel
theorem dX0_findSpeeds_1 : decode cX0_findSpeeds 1 = .ok (.getfield 9, 3) := by decide +kernel
theorem dX0_findSpeeds_4 : decode cX0_findSpeeds 4 = .ok (.iconst 0, 1) := by decide +kernel
theorem dX0_findSpeeds_5 : decode cX0_findSpeeds 5 = .ok (.invokestatic 98, 3) := by decide +kernel
theorem dX0_findSpeeds_8 : decode cX0_findSpeeds 8 = .ok (.iconst 1, 1) := by decide +kernel
theorem dX0_findSpeeds_9 : decode cX0_findSpeeds 9 = .ok (.istore_n 3, 1) := by decide +kernel
theorem dX0_findSpeeds_10 : decode cX0_findSpeeds 10 = .ok (.iload_n 3, 1) := by decide +kernel
theorem dX0_findSpeeds_11 : decode cX0_findSpeeds 11 = .ok (.iload_n 2, 1) := by decide +kernel
theorem dX0_findSpeeds_12 : decode cX0_findSpeeds 12 = .ok (.if_icmp .gt 59, 3) := by decide +kernel
theorem dX0_findSpeeds_15 : decode cX0_findSpeeds 15 = .ok (.iload_n 3, 1) := by decide +kernel
theorem dX0_findSpeeds_16 : decode cX0_findSpeeds 16 = .ok (.bipush 20, 2) := by decide +kernel
theorem dX0_findSpeeds_18 : decode cX0_findSpeeds 18 = .ok (.if_icmp .gt 53, 3) := by decide +kernel
theorem dX0_findSpeeds_21 : decode cX0_findSpeeds 21 = .ok (.iconst 1, 1) := by decide +kernel
theorem dX0_findSpeeds_22 : decode cX0_findSpeeds 22 = .ok (.istore 4, 2) := by decide +kernel
theorem dX0_findSpeeds_24 : decode cX0_findSpeeds 24 = .ok (.iload 4, 2) := by decide +kernel
theorem dX0_findSpeeds_26 : decode cX0_findSpeeds 26 = .ok (.bipush 9, 2) := by decide +kernel
theorem dX0_findSpeeds_28 : decode cX0_findSpeeds 28 = .ok (.if_icmp .gt 37, 3) := by decide +kernel
theorem dX0_findSpeeds_31 : decode cX0_findSpeeds 31 = .ok (.aload_n 0, 1) := by decide +kernel
theorem dX0_findSpeeds_32 : decode cX0_findSpeeds 32 = .ok (.getfield 9, 3) := by decide +kernel
theorem dX0_findSpeeds_35 : decode cX0_findSpeeds 35 = .ok (.iload_n 3, 1) := by decide +kernel
theorem dX0_findSpeeds_36 : decode cX0_findSpeeds 36 = .ok (.iaload, 1) := by decide +kernel
theorem dX0_findSpeeds_37 : decode cX0_findSpeeds 37 = .ok (.ifCond .ne 28, 3) := by decide +kernel
theorem dX0_findSpeeds_40 : decode cX0_findSpeeds 40 = .ok (.aload_n 0, 1) := by decide +kernel
theorem dX0_findSpeeds_41 : decode cX0_findSpeeds 41 = .ok (.iload_n 1, 1) := by decide +kernel
theorem dX0_findSpeeds_42 : decode cX0_findSpeeds 42 = .ok (.iload 4, 2) := by decide +kernel
theorem dX0_findSpeeds_44 : decode cX0_findSpeeds 44 = .ok (.iload_n 3, 1) := by decide +kernel
theorem dX0_findSpeeds_45 : decode cX0_findSpeeds 45 = .ok (.invokevirtual 60, 3) := by decide +kernel
theorem dX0_findSpeeds_48 : decode cX0_findSpeeds 48 = .ok (.ifCond .eq 11, 3) := by decide +kernel
theorem dX0_findSpeeds_51 : decode cX0_findSpeeds 51 = .ok (.aload_n 0, 1) := by decide +kernel
theorem dX0_findSpeeds_52 : decode cX0_findSpeeds 52 = .ok (.getfield 9, 3) := by decide +kernel
theorem dX0_findSpeeds_55 : decode cX0_findSpeeds 55 = .ok (.iload_n 3, 1) := by decide +kernel
theorem dX0_findSpeeds_56 : decode cX0_findSpeeds 56 = .ok (.iload 4, 2) := by decide +kernel
theorem dX0_findSpeeds_58 : decode cX0_findSpeeds 58 = .ok (.iastore, 1) := by decide +kernel
theorem dX0_findSpeeds_59 : decode cX0_findSpeeds 59 = .ok (.iinc 4 1, 3) := by decide +kernel
theorem dX0_findSpeeds_62 : decode cX0_findSpeeds 62 = .ok (.goto (-38), 3) := by decide +kernel
theorem dX0_findSpeeds_65 : decode cX0_findSpeeds 65 = .ok (.iinc 3 1, 3) := by decide +kernel
theorem dX0_findSpeeds_68 : decode cX0_findSpeeds 68 = .ok (.goto (-58), 3) := by decide +kernel
theorem dX0_findSpeeds_71 : decode cX0_findSpeeds 71 = .ok (.return_, 1) := by decide +kernel
set_option maxRecDepth 20000 in
theorem ggX0_findSpeeds_J7_fill_53178 : GoodIn wsX0_findSpeeds wsJ7_fill_53178 := goodIn_r _ [5] rfl (by decide +kernel)
set_option maxRecDepth 20000 in
theorem gX0_findSpeeds_J7_fill_53178 : GoodIn wsX0_findSpeeds (va_wsS RX0 98 yJ7_fill_53178 wsJ7_fill_53178) := goodIn_app (goodIn_of _ (by decide +kernel)) ggX0_findSpeeds_J7_fill_53178
set_option maxRecDepth 20000 in
theorem ggX0_findSpeeds_X0_isQuietForAll : GoodIn wsX0_findSpeeds wsX0_isQuietForAll := goodIn_r _ [10, 11, 12, 13, 14, 15, 16, 17, 18, 19, 20, 21, 22, 23, 24, 25, 26, 27, 28, 29, 30, 31, 32, 33, 34, 35, 36, 37, 38, 39, 40, 41, 42, 43, 44, 45, 46, 47, 48, 49, 50, 51, 52, 53, 54, 55, 56, 57, 58, 59, 60, 61, 62, 63, 64, 65, 66, 67, 68, 69, 70, 71, 72, 73, 74, 75, 76, 77, 78, 79, 80, 81, 82, 83, 84, 85, 86, 87, 3, 4, 5, 88, 89, 90, 91, 92, 93, 94, 95, 96, 97, 98, 99, 100, 101, 102, 103, 104, 105, 106, 107, 108, 109, 110, 111, 112, 113, 114, 115, 116, 117, 118, 119, 120, 121, 122, 123, 124, 125, 126, 127, 128, 129, 130, 131, 132, 133, 134, 135, 136, 137, 138, 139, 140, 141, 142, 143, 144, 145, 146, 147, 148, 149, 150, 151, 152, 153, 154, 155, 156, 157, 158, 159, 160, 161, 162, 163, 164, 165, 166, 167, 168, 169, 170, 171] rfl (by decide +kernel)
set_option maxRecDepth 20000 in
theorem gX0_findSpeeds_X0_isQuietForAll : GoodIn wsX0_findSpeeds (wsV RX0 60 RX0 yX0_isQuietForAll wsX0_isQuietForAll) := goodIn_app (goodIn_of _ (by decide +kernel)) ggX0_findSpeeds_X0_isQuietForAll
set_option maxHeartbeats 4000000 in
set_option maxRecDepth 100000 in
theorem S_X0_findSpeeds (l : Launch) (D : va_G) (K : Nat → ClassId) (a : Nat → Nat) (G : gS) (p0 : Int32) (s0 : Int) (p1 : Int32) (s1 : Int) (e0 : p0.toInt = s0) (e1 : p1.toInt = s1) (hI : xI G) (sz : Nat) : Kv l yX0_findSpeeds wsX0_findSpeeds 6 173 0 0 D [.ref (a 7), .int p0, .int p1] (xW K a G) (tK K) sz (fun (G' : gS) => (xI G') ∧ (gu_un xcd [602, 603, 604, 605, 608, 613, 614, 615, 616, 617, 618, 619, 620, 2100, 2400, 2700, 4400, 4500, 4600, 4700, 4800, 4900] G G')) (fun (G' : gS) => (xW K a G')) (fun _ => (tK K)) := by
  unfold Kv
  refine g_ofW (cc := cX0_findSpeeds) (lv := [(0, .ref (a 7)), (1, .int p0), (2, .int p1)]) (by decide) rfl (Nat.le_of_ble_eq_true rfl) rfl ?_
  intro p e s m args below meth c A Q hA hQ F hr hnm
  have hts := F.2.2.2.2.1
  have w_0 : (Cond.fieldLink RX0 9 "QuietCut$Chooser" "speedOf" "[I").before args s = true := hts _ (List.mem_of_getElem? (i := 1) rfl)
  have i_X0 : ∀ w ∈ u_ws RX0 TX0 8, w ∈ wsX0_findSpeeds := fun _ h => List.mem_cons_of_mem _ (List.mem_append_left _ (List.mem_append_left _ (List.mem_append_left _ (List.mem_append_left _ (List.mem_append_right _ h)))))
  have rg0 : -2147483648 ≤ s0 ∧ s0 ≤ 2147483647 := e0 ▸ ti_rng p0
  have rg1 : -2147483648 ≤ s1 ∧ s1 ≤ 2147483647 := e1 ▸ ti_rng p1
  have J_10 : ∀ (fuel : Nat) (x10_3 : Int32) (Gj10 : gS), (2147483647 - x10_3.toInt).toNat < fuel → (1 ≤ x10_3.toInt ∧ x10_3.toInt ≤ 21) → (xI Gj10) → (gu_un xcd [602, 603, 604, 605, 608, 613, 614, 615, 616, 617, 618, 619, 620, 2100, 2400, 2700, 4400, 4500, 4600, 4700, 4800, 4900] G Gj10) → gG p l e (gR 6 0 0 173) s m args below meth c D A 5 Q 0 0 (xW K a Gj10) (tK K) [(0, .ref (a 7)), (1, .int p0), (2, .int p1), (3, .int x10_3)] 10 [] := by
    intro fuel
    induction fuel with
    | zero => intro x10_3 Gj10 hm; exact absurd hm (Nat.not_lt_zero _)
    | succ fuel_10 ih_10 =>
      intro x10_3 Gj10 hm_10 h10_3 jI10 jU10
      have J_65 : ∀  (Gj65 : gS), (1 ≤ s1 ∧ s1 ≤ 2147483647) → (1 ≤ x10_3.toInt ∧ x10_3.toInt ≤ 20) → (xI Gj65) → (gu_un xcd [602, 603, 604, 605, 608, 613, 614, 615, 616, 617, 618, 619, 620, 2100, 2400, 2700, 4400, 4500, 4600, 4700, 4800, 4900] Gj10 Gj65) → gG p l e (gR 6 0 0 173) s m args below meth c D A 5 Q 0 0 (xW K a Gj65) (tK K) [(0, .ref (a 7)), (1, .int p0), (2, .int p1), (3, .int x10_3)] 65 [] := by
        intro Gj65 k65_2 k65_3 jI65 jU65
        refine u_iinc F (fun v_ => [(3, .int v_), (0, .ref (a 7)), (1, .int p0), (2, .int p1)]) dX0_findSpeeds_65 (j := 3) rfl x10_3.toInt 1 rfl rfl (by omega) (by omega) (by decide) (fun _ => rfl) (fun y1 ey1 => ?_)
        refine g_goto F 10 dX0_findSpeeds_68 (by decide) ?_
        refine g_locals [(0, .ref (a 7)), (1, .int p0), (2, .int p1), (3, .int y1)] [1, 2, 3, 0] rfl ?_
        exact ih_10 y1 Gj65 (by omega) (by have h9 := ti_rng y1; omega) jI65 (gu_un.tr (gu_un.tr gu_un.rf (gu_un.su jU10 rfl)) (gu_un.su jU65 rfl))
      have J_24 : ∀ (fuel : Nat) (x24_4 : Int32) (Gj24 : gS), (2147483647 - x24_4.toInt).toNat < fuel → (1 ≤ s1 ∧ s1 ≤ 2147483647) → (1 ≤ x10_3.toInt ∧ x10_3.toInt ≤ 20) → (1 ≤ x24_4.toInt ∧ x24_4.toInt ≤ 10) → (xI Gj24) → (gu_un xcd [602, 603, 604, 605, 608, 613, 614, 615, 616, 617, 618, 619, 620, 2100, 2400, 2700, 4400, 4500, 4600, 4700, 4800, 4900] Gj10 Gj24) → gG p l e (gR 6 0 0 173) s m args below meth c D A 5 Q 0 0 (xW K a Gj24) (tK K) [(0, .ref (a 7)), (1, .int p0), (2, .int p1), (3, .int x10_3), (4, .int x24_4)] 24 [] := by
        intro fuel
        induction fuel with
        | zero => intro x24_4 Gj24 hm; exact absurd hm (Nat.not_lt_zero _)
        | succ fuel_24 ih_24 =>
          intro x24_4 Gj24 hm_24 k24_2 k24_3 h24_4 jI24 jU24
          have J_59 : ∀  (Gj59 : gS), (1 ≤ x24_4.toInt ∧ x24_4.toInt ≤ 9) → (xI Gj59) → (gu_un xcd [602, 603, 604, 605, 608, 613, 614, 615, 616, 617, 618, 619, 620, 2100, 2400, 2700, 4400, 4500, 4600, 4700, 4800, 4900] Gj24 Gj59) → gG p l e (gR 6 0 0 173) s m args below meth c D A 5 Q 0 0 (xW K a Gj59) (tK K) [(0, .ref (a 7)), (1, .int p0), (2, .int p1), (3, .int x10_3), (4, .int x24_4)] 59 [] := by
            intro Gj59 k59_4 jI59 jU59
            refine u_iinc F (fun v_ => [(4, .int v_), (0, .ref (a 7)), (1, .int p0), (2, .int p1), (3, .int x10_3)]) dX0_findSpeeds_59 (j := 4) rfl x24_4.toInt 1 rfl rfl (by omega) (by omega) (by decide) (fun _ => rfl) (fun y2 ey2 => ?_)
            refine g_goto F 24 dX0_findSpeeds_62 (by decide) ?_
            refine g_locals [(0, .ref (a 7)), (1, .int p0), (2, .int p1), (3, .int x10_3), (4, .int y2)] [1, 2, 3, 4, 0] rfl ?_
            exact ih_24 y2 Gj59 (by omega) (by have h9 := ti_rng p1; omega) (by have h9 := ti_rng x10_3; omega) (by have h9 := ti_rng y2; omega) jI59 (gu_un.tr (gu_un.tr gu_un.rf (gu_un.su jU24 rfl)) (gu_un.su jU59 rfl))
          refine g_iload F 4 dX0_findSpeeds_24 rfl ?_
          refine g_bipush F 9 dX0_findSpeeds_26 (by decide) ?_
          refine v_icmp_gt F 65 dX0_findSpeeds_28 (by decide) x24_4.toInt 9 rfl rfl (fun c3 => ?_) (fun c3 => ?_)
          · refine g_locals [(0, .ref (a 7)), (1, .int p0), (2, .int p1), (3, .int x10_3)] [0, 1, 2, 3] rfl ?_
            exact J_65 Gj24 (by have h9 := ti_rng p1; omega) (by have h9 := ti_rng x10_3; omega) jI24 (gu_un.tr gu_un.rf (gu_un.su jU24 rfl))
          · refine g_aload_n F 0 dX0_findSpeeds_31 rfl rfl ?_
            refine xg_7_3 F i_X0 w_0 dX0_findSpeeds_32 ?_
            refine g_iload_n F 3 dX0_findSpeeds_35 rfl rfl ?_
            refine u_iald F 49 0 xc_49 rfl x10_3.toInt rfl (by omega) (by omega) dX0_findSpeeds_36 (fun _ => True) (fun _ => trivial) (fun y4 by4 => ?_)
            refine v_if_ne F 65 dX0_findSpeeds_37 (by decide) y4.toInt rfl (fun c5 => ?_) (fun c5 => ?_)
            · refine g_locals [(0, .ref (a 7)), (1, .int p0), (2, .int p1), (3, .int x10_3)] [0, 1, 2, 3] rfl ?_
              exact J_65 Gj24 (by have h9 := ti_rng p1; omega) (by have h9 := ti_rng x10_3; omega) jI24 (gu_un.tr gu_un.rf (gu_un.su jU24 rfl))
            · refine g_aload_n F 0 dX0_findSpeeds_40 rfl rfl ?_
              refine g_iload_n F 1 dX0_findSpeeds_41 rfl rfl ?_
              refine g_iload F 4 dX0_findSpeeds_42 rfl ?_
              refine g_iload_n F 3 dX0_findSpeeds_44 rfl rfl ?_
              refine u_callVi (k := 0) (n := 0) (b := a 7) (As := [.int p0, .int x24_4, .int x10_3]) (st := []) F (fun sz => S_X0_isQuietForAll l D K a Gj24 p0 s0 x24_4 x24_4.toInt x10_3 x10_3.toInt e0 rfl rfl jI24 sz) (cwV 3 hts gX0_findSpeeds_X0_isQuietForAll rfl rfl rfl (by decide +kernel) ⟨Nat.le_of_ble_eq_true rfl, Nat.le_of_ble_eq_true rfl⟩) rfl 7 xc_7 rfl (Nat.le_of_ble_eq_true rfl) ⟨Nat.zero_le _, Nat.zero_le _⟩ dX0_findSpeeds_45 (fun r6 G8 hw7 => ?_)
              have hI9 : xI G8 := hw7.1
              have hU10 : gu_un xcd [602, 603, 604, 605, 608, 613, 614, 615, 616, 617, 618, 619, 620, 2100, 2400, 2700, 4400, 4500, 4600, 4700, 4800] Gj24 G8 := hw7.2.1
              have hp11 := hw7.2.2
              have rg12 := hp11
              clear hp11 hw7
              refine v_if_eq F 59 dX0_findSpeeds_48 (by decide) r6.toInt rfl (fun c13 => ?_) (fun c13 => ?_)
              · exact J_59 G8 (by have h9 := ti_rng x24_4; omega) hI9 (gu_un.tr gu_un.rf (gu_un.su hU10 rfl))
              · refine g_aload_n F 0 dX0_findSpeeds_51 rfl rfl ?_
                refine xg_7_3 F i_X0 w_0 dX0_findSpeeds_52 ?_
                refine g_iload_n F 3 dX0_findSpeeds_55 rfl rfl ?_
                refine g_iload F 4 dX0_findSpeeds_56 rfl ?_
                refine u_iast F 49 0 xc_49 rfl x10_3.toInt rfl (by omega) (by omega) (xW K a (gu_up G8 49 (x10_3.toInt).toNat x24_4)) (xs_49 _) dX0_findSpeeds_58 ?_
                exact J_59 (gu_up G8 49 (x10_3.toInt).toNat x24_4) (by have h9 := ti_rng x24_4; omega) (gu_I.up (j := 49) (k := (x10_3.toInt).toNat) (v := x24_4) hI9 (ti_rng _).1 (ti_rng _).2) (gu_un.up (j := 49) (k := (x10_3.toInt).toNat) (v := x24_4) (gu_un.tr gu_un.rf (gu_un.su hU10 rfl)) (show (4900 : Nat) ∈ ([602, 603, 604, 605, 608, 613, 614, 615, 616, 617, 618, 619, 620, 2100, 2400, 2700, 4400, 4500, 4600, 4700, 4800, 4900] : List Nat) by decide))
      refine g_iload_n F 3 dX0_findSpeeds_10 rfl rfl ?_
      refine g_iload_n F 2 dX0_findSpeeds_11 rfl rfl ?_
      refine v_icmp_gt F 71 dX0_findSpeeds_12 (by decide) x10_3.toInt s1 rfl e1 (fun c14 => ?_) (fun c14 => ?_)
      · exact u_vret F hA hQ hr Gj10 (⟨jI10, (gu_un.tr gu_un.rf (gu_un.su jU10 rfl))⟩) rfl rfl dX0_findSpeeds_71
      · refine g_iload_n F 3 dX0_findSpeeds_15 rfl rfl ?_
        refine g_bipush F 20 dX0_findSpeeds_16 (by decide) ?_
        refine v_icmp_gt F 71 dX0_findSpeeds_18 (by decide) x10_3.toInt 20 rfl rfl (fun c15 => ?_) (fun c15 => ?_)
        · exact u_vret F hA hQ hr Gj10 (⟨jI10, (gu_un.tr gu_un.rf (gu_un.su jU10 rfl))⟩) rfl rfl dX0_findSpeeds_71
        · refine g_iconst F 1 dX0_findSpeeds_21 (by decide) ?_
          refine g_istore F [(4, .int 1), (0, .ref (a 7)), (1, .int p0), (2, .int p1), (3, .int x10_3)] dX0_findSpeeds_22 (by decide) rfl ?_
          refine g_locals [(0, .ref (a 7)), (1, .int p0), (2, .int p1), (3, .int x10_3), (4, .int 1)] [1, 2, 3, 4, 0] rfl ?_
          exact J_24 _ 1 Gj10 (Nat.lt_succ_self _) (by have h9 := ti_rng p1; omega) (by have h9 := ti_rng x10_3; omega) (by decide) jI10 gu_un.rf
  refine g_aload_n F 0 dX0_findSpeeds_0 rfl rfl ?_
  refine xg_7_3 F i_X0 w_0 dX0_findSpeeds_1 ?_
  refine g_iconst F 0 dX0_findSpeeds_4 (by decide) ?_
  refine u_callSv (k := 0) (n := 0) (As := [.ref (a 49), .int 0]) (st := []) F (fun sz => S_J7_fill_53178_49 l D K a G 0 0 rfl hI sz) (va_cwS 2 hts gX0_findSpeeds_J7_fill_53178 rfl rfl rfl (by decide +kernel) ⟨Nat.le_of_ble_eq_true rfl, Nat.le_of_ble_eq_true rfl⟩) rfl (Nat.le_of_ble_eq_true rfl) ⟨Nat.zero_le _, Nat.zero_le _⟩ dX0_findSpeeds_5 (fun G18 hw17 => ?_)
  have hI19 : xI G18 := hw17.1
  have hU20 : gu_un xcd [4900] G G18 := hw17.2
  refine g_iconst F 1 dX0_findSpeeds_8 (by decide) ?_
  refine g_istore_n F [(3, .int 1), (0, .ref (a 7)), (1, .int p0), (2, .int p1)] dX0_findSpeeds_9 rfl (by decide) rfl ?_
  refine g_locals [(0, .ref (a 7)), (1, .int p0), (2, .int p1), (3, .int 1)] [1, 2, 3, 0] rfl ?_
  exact J_10 _ 1 G18 (Nat.lt_succ_self _) (by decide) hI19 (gu_un.tr gu_un.rf (gu_un.su hU20 rfl))

theorem dX0_feedOf_0 : decode cX0_feedOf 0 = .ok (.iload_n 0, 1) := by decide +kernel
theorem dX0_feedOf_1 : decode cX0_feedOf 1 = .ok (.iconst 1, 1) := by decide +kernel
theorem dX0_feedOf_2 : decode cX0_feedOf 2 = .ok (.isub, 1) := by decide +kernel
theorem dX0_feedOf_3 : decode cX0_feedOf 3 = .ok (.bipush 20, 2) := by decide +kernel
theorem dX0_feedOf_5 : decode cX0_feedOf 5 = .ok (.irem, 1) := by decide +kernel
theorem dX0_feedOf_6 : decode cX0_feedOf 6 = .ok (.iconst 1, 1) := by decide +kernel
theorem dX0_feedOf_7 : decode cX0_feedOf 7 = .ok (.iadd, 1) := by decide +kernel
theorem dX0_feedOf_8 : decode cX0_feedOf 8 = .ok (.ireturn, 1) := by decide +kernel
set_option maxHeartbeats 4000000 in
set_option maxRecDepth 100000 in
theorem S_X0_feedOf (l : Launch) (D : va_G)  (p0 : Int32) (s0 : Int) (e0 : p0.toInt = s0) (sz : Nat) : Ki l yX0_feedOf wsX0_feedOf 1 40 0 0 D [.int p0] [] [] sz (fun (r : Int32) (_ : Unit) => True) (fun (_ : Unit) => []) (fun _ => []) := by
  unfold Ki
  refine g_ofW (cc := cX0_feedOf) (lv := [(0, .int p0)]) (by decide) rfl (Nat.le_of_ble_eq_true rfl) rfl ?_
  intro p e s m args below meth c A Q hA hQ F hr hnm
  have hts := F.2.2.2.2.1
  have rg0 : -2147483648 ≤ s0 ∧ s0 ≤ 2147483647 := e0 ▸ ti_rng p0
  refine g_iload_n F 0 dX0_feedOf_0 rfl rfl ?_
  refine g_iconst F 1 dX0_feedOf_1 (by decide) ?_
  refine u_isubc F dX0_feedOf_2 s0 1 e0 rfl (fun y1 ey1 => ?_)
  refine g_bipush F 20 dX0_feedOf_3 (by decide) ?_
  refine u0_irem F dX0_feedOf_5 (by decide) (fun y2 => ?_)
  refine g_iconst F 1 dX0_feedOf_6 (by decide) ?_
  refine u_iaddc F dX0_feedOf_7 y2.toInt 1 rfl rfl (fun y3 ey3 => ?_)
  exact u_iret F hA hQ hr () (trivial) rfl rfl dX0_feedOf_8

theorem dX0_growTimes_0 : decode cX0_growTimes 0 = .ok (.iconst 1, 1) := by decide +kernel
theorem dX0_growTimes_1 : decode cX0_growTimes 1 = .ok (.iload_n 1, 1) := by decide +kernel
theorem dX0_growTimes_2 : decode cX0_growTimes 2 = .ok (.invokestatic 108, 3) := by decide +kernel
theorem dX0_growTimes_5 : decode cX0_growTimes 5 = .ok (.istore 4, 2) := by decide +kernel
theorem dX0_growTimes_7 : decode cX0_growTimes 7 = .ok (.iload 4, 2) := by decide +kernel
theorem dX0_growTimes_9 : decode cX0_growTimes 9 = .ok (.iload_n 3, 1) := by decide +kernel
theorem dX0_growTimes_10 : decode cX0_growTimes 10 = .ok (.if_icmp .gt 141, 3) := by decide +kernel
theorem dX0_growTimes_13 : decode cX0_growTimes 13 = .ok (.iload 4, 2) := by decide +kernel
theorem dX0_growTimes_15 : decode cX0_growTimes 15 = .ok (.sipush 400, 3) := by decide +kernel
theorem dX0_growTimes_18 : decode cX0_growTimes 18 = .ok (.if_icmp .gt 133, 3) := by decide +kernel
theorem dX0_growTimes_21 : decode cX0_growTimes 21 = .ok (.iload 4, 2) := by decide +kernel
theorem dX0_growTimes_23 : decode cX0_growTimes 23 = .ok (.iload_n 1, 1) := by decide +kernel
theorem dX0_growTimes_24 : decode cX0_growTimes 24 = .ok (.isub, 1) := by decide +kernel
theorem dX0_growTimes_25 : decode cX0_growTimes 25 = .ok (.istore 5, 2) := by decide +kernel
theorem dX0_growTimes_27 : decode cX0_growTimes 27 = .ok (.iload 5, 2) := by decide +kernel
theorem dX0_growTimes_29 : decode cX0_growTimes 29 = .ok (.ifCond .lt 116, 3) := by decide +kernel
theorem dX0_growTimes_32 : decode cX0_growTimes 32 = .ok (.aload_n 0, 1) := by decide +kernel
theorem dX0_growTimes_33 : decode cX0_growTimes 33 = .ok (.getfield 15, 3) := by decide +kernel
theorem dX0_growTimes_36 : decode cX0_growTimes 36 = .ok (.iload 5, 2) := by decide +kernel
theorem dX0_growTimes_38 : decode cX0_growTimes 38 = .ok (.iaload, 1) := by decide +kernel
theorem dX0_growTimes_39 : decode cX0_growTimes 39 = .ok (.iconst (-1), 1) := by decide +kernel
theorem dX0_growTimes_40 : decode cX0_growTimes 40 = .ok (.if_icmp .ne 6, 3) := by decide +kernel
theorem dX0_growTimes_43 : decode cX0_growTimes 43 = .ok (.goto 102, 3) := by decide +kernel
theorem dX0_growTimes_46 : decode cX0_growTimes 46 = .ok (.aload_n 0, 1) := by decide +kernel
theorem dX0_growTimes_47 : decode cX0_growTimes 47 = .ok (.getfield 15, 3) := by decide +kernel
theorem dX0_growTimes_50 : decode cX0_growTimes 50 = .ok (.iload 5, 2) := by decide +kernel
theorem dX0_growTimes_52 : decode cX0_growTimes 52 = .ok (.iaload, 1) := by decide +kernel
theorem dX0_growTimes_53 : decode cX0_growTimes 53 = .ok (.iload_n 2, 1) := by decide +kernel
theorem dX0_growTimes_54 : decode cX0_growTimes 54 = .ok (.iadd, 1) := by decide +kernel
theorem dX0_growTimes_55 : decode cX0_growTimes 55 = .ok (.istore 6, 2) := by decide +kernel
theorem dX0_growTimes_57 : decode cX0_growTimes 57 = .ok (.aload_n 0, 1) := by decide +kernel
theorem dX0_growTimes_58 : decode cX0_growTimes 58 = .ok (.getfield 18, 3) := by decide +kernel
theorem dX0_growTimes_61 : decode cX0_growTimes 61 = .ok (.iload 5, 2) := by decide +kernel
theorem dX0_growTimes_63 : decode cX0_growTimes 63 = .ok (.iaload, 1) := by decide +kernel
theorem dX0_growTimes_64 : decode cX0_growTimes 64 = .ok (.iconst 1, 1) := by decide +kernel
theorem dX0_growTimes_65 : decode cX0_growTimes 65 = .ok (.iadd, 1) := by decide +kernel
theorem dX0_growTimes_66 : decode cX0_growTimes 66 = .ok (.istore 7, 2) := by decide +kernel
theorem dX0_growTimes_68 : decode cX0_growTimes 68 = .ok (.aload_n 0, 1) := by decide +kernel
theorem dX0_growTimes_69 : decode cX0_growTimes 69 = .ok (.getfield 15, 3) := by decide +kernel
theorem dX0_growTimes_72 : decode cX0_growTimes 72 = .ok (.iload 4, 2) := by decide +kernel
theorem dX0_growTimes_74 : decode cX0_growTimes 74 = .ok (.iaload, 1) := by decide +kernel
theorem dX0_growTimes_75 : decode cX0_growTimes 75 = .ok (.iconst (-1), 1) := by decide +kernel
theorem dX0_growTimes_76 : decode cX0_growTimes 76 = .ok (.if_icmp .eq 15, 3) := by decide +kernel
theorem dX0_growTimes_79 : decode cX0_growTimes 79 = .ok (.iload 6, 2) := by decide +kernel
theorem dX0_growTimes_81 : decode cX0_growTimes 81 = .ok (.aload_n 0, 1) := by decide +kernel
theorem dX0_growTimes_82 : decode cX0_growTimes 82 = .ok (.getfield 15, 3) := by decide +kernel
theorem dX0_growTimes_85 : decode cX0_growTimes 85 = .ok (.iload 4, 2) := by decide +kernel
theorem dX0_growTimes_87 : decode cX0_growTimes 87 = .ok (.iaload, 1) := by decide +kernel
theorem dX0_growTimes_88 : decode cX0_growTimes 88 = .ok (.if_icmp .ge 7, 3) := by decide +kernel
theorem dX0_growTimes_91 : decode cX0_growTimes 91 = .ok (.iconst 1, 1) := by decide +kernel
theorem dX0_growTimes_92 : decode cX0_growTimes 92 = .ok (.goto 4, 3) := by decide +kernel
theorem dX0_growTimes_95 : decode cX0_growTimes 95 = .ok (.iconst 0, 1) := by decide +kernel
theorem dX0_growTimes_96 : decode cX0_growTimes 96 = .ok (.istore 8, 2) := by decide +kernel
theorem dX0_growTimes_98 : decode cX0_growTimes 98 = .ok (.iload 8, 2) := by decide +kernel
theorem dX0_growTimes_100 : decode cX0_growTimes 100 = .ok (.ifCond .ne 27, 3) := by decide +kernel
theorem dX0_growTimes_103 : decode cX0_growTimes 103 = .ok (.iload 6, 2) := by decide +kernel
theorem dX0_growTimes_105 : decode cX0_growTimes 105 = .ok (.aload_n 0, 1) := by decide +kernel
theorem dX0_growTimes_106 : decode cX0_growTimes 106 = .ok (.getfield 15, 3) := by decide +kernel
theorem dX0_growTimes_109 : decode cX0_growTimes 109 = .ok (.iload 4, 2) := by decide +kernel
theorem dX0_growTimes_111 : decode cX0_growTimes 111 = .ok (.iaload, 1) := by decide +kernel
theorem dX0_growTimes_112 : decode cX0_growTimes 112 = .ok (.if_icmp .ne 33, 3) := by decide +kernel
theorem dX0_growTimes_115 : decode cX0_growTimes 115 = .ok (.iload 7, 2) := by decide +kernel
theorem dX0_growTimes_117 : decode cX0_growTimes 117 = .ok (.aload_n 0, 1) := by decide +kernel
theorem dX0_growTimes_118 : decode cX0_growTimes 118 = .ok (.getfield 18, 3) := by decide +kernel
theorem dX0_growTimes_121 : decode cX0_growTimes 121 = .ok (.iload 4, 2) := by decide +kernel
theorem dX0_growTimes_123 : decode cX0_growTimes 123 = .ok (.iaload, 1) := by decide +kernel
theorem dX0_growTimes_124 : decode cX0_growTimes 124 = .ok (.if_icmp .ge 21, 3) := by decide +kernel
theorem dX0_growTimes_127 : decode cX0_growTimes 127 = .ok (.aload_n 0, 1) := by decide +kernel
theorem dX0_growTimes_128 : decode cX0_growTimes 128 = .ok (.getfield 15, 3) := by decide +kernel
theorem dX0_growTimes_131 : decode cX0_growTimes 131 = .ok (.iload 4, 2) := by decide +kernel
theorem dX0_growTimes_133 : decode cX0_growTimes 133 = .ok (.iload 6, 2) := by decide +kernel
theorem dX0_growTimes_135 : decode cX0_growTimes 135 = .ok (.iastore, 1) := by decide +kernel
theorem dX0_growTimes_136 : decode cX0_growTimes 136 = .ok (.aload_n 0, 1) := by decide +kernel
theorem dX0_growTimes_137 : decode cX0_growTimes 137 = .ok (.getfield 18, 3) := by decide +kernel
theorem dX0_growTimes_140 : decode cX0_growTimes 140 = .ok (.iload 4, 2) := by decide +kernel
theorem dX0_growTimes_142 : decode cX0_growTimes 142 = .ok (.iload 7, 2) := by decide +kernel
theorem dX0_growTimes_144 : decode cX0_growTimes 144 = .ok (.iastore, 1) := by decide +kernel
theorem dX0_growTimes_145 : decode cX0_growTimes 145 = .ok (.iinc 4 1, 3) := by decide +kernel
theorem dX0_growTimes_148 : decode cX0_growTimes 148 = .ok (.goto (-141), 3) := by decide +kernel
theorem dX0_growTimes_151 : decode cX0_growTimes 151 = .ok (.return_, 1) := by decide +kernel
set_option maxHeartbeats 4000000 in
set_option maxRecDepth 100000 in
theorem S_X0_growTimes (l : Launch) (D : va_G) (K : Nat → ClassId) (a : Nat → Nat) (G : gS) (p0 : Int32) (s0 : Int) (p1 : Int32) (s1 : Int) (p2 : Int32) (s2 : Int) (e0 : p0.toInt = s0) (h0 : 1 ≤ s0 ∧ s0 ≤ 20) (e1 : p1.toInt = s1) (e2 : p2.toInt = s2) (h2 : 0 ≤ s2 ∧ s2 ≤ 400) (hI : xI G) (sz : Nat) : Kv l yX0_growTimes wsX0_growTimes 1 40 0 0 D [.ref (a 7), .int p0, .int p1, .int p2] (xW K a G) (tK K) sz (fun (G' : gS) => (xI G') ∧ (gu_un xcd [5000, 5100] G G')) (fun (G' : gS) => (xW K a G')) (fun _ => (tK K)) := by
  unfold Kv
  refine g_ofW (cc := cX0_growTimes) (lv := [(0, .ref (a 7)), (1, .int p0), (2, .int p1), (3, .int p2)]) (by decide) rfl (Nat.le_of_ble_eq_true rfl) rfl ?_
  intro p e s m args below meth c A Q hA hQ F hr hnm
  have hts := F.2.2.2.2.1
  have w_0 : (Cond.fieldLink RX0 15 "QuietCut$Chooser" "leastTime" "[I").before args s = true := hts _ (List.mem_of_getElem? (i := 5) rfl)
  have i_X0 : ∀ w ∈ u_ws RX0 TX0 8, w ∈ wsX0_growTimes := fun _ h => List.mem_cons_of_mem _ (List.mem_append_right _ h)
  have w_1 : (Cond.fieldLink RX0 18 "QuietCut$Chooser" "fewest" "[I").before args s = true := hts _ (List.mem_of_getElem? (i := 6) rfl)
  have w_2 : (Cond.methodLink RX0 108 Lib.Math.max.name).before args s = true := hts _ (List.mem_of_getElem? (i := 1) rfl)
  have w_3 : (Cond.static Lib.Math.max.name).before args s = true := hts _ (List.mem_of_getElem? (i := 2) rfl)
  have w_4 : (Cond.initialized "java/lang/Math").before args s = true := hts _ (List.mem_of_getElem? (i := 3) rfl)
  have w_5 : (Cond.code Lib.Math.max.name Lib.Math.max.code 2 (some .int)).before args s = true := hts _ (List.mem_of_getElem? (i := 4) rfl)
  have rg1 : -2147483648 ≤ s1 ∧ s1 ≤ 2147483647 := e1 ▸ ti_rng p1
  have J_7 : ∀ (fuel : Nat) (x7_4 : Int32) (Gj7 : gS), (2147483647 - x7_4.toInt).toNat < fuel → (1 ≤ x7_4.toInt ∧ x7_4.toInt ≤ 401) → (xI Gj7) → (gu_un xcd [5000, 5100] G Gj7) → gG p l e (gR 1 0 0 40) s m args below meth c D A 9 Q 0 0 (xW K a Gj7) (tK K) [(0, .ref (a 7)), (1, .int p0), (2, .int p1), (3, .int p2), (4, .int x7_4)] 7 [] := by
    intro fuel
    induction fuel with
    | zero => intro x7_4 Gj7 hm; exact absurd hm (Nat.not_lt_zero _)
    | succ fuel_7 ih_7 =>
      intro x7_4 Gj7 hm_7 h7_4 jI7 jU7
      have J_145 : ∀  (Gj145 : gS), (1 ≤ s2 ∧ s2 ≤ 400) → (1 ≤ x7_4.toInt ∧ x7_4.toInt ≤ 400) → (xI Gj145) → (gu_un xcd [5000, 5100] Gj7 Gj145) → gG p l e (gR 1 0 0 40) s m args below meth c D A 9 Q 0 0 (xW K a Gj145) (tK K) [(0, .ref (a 7)), (1, .int p0), (2, .int p1), (3, .int p2), (4, .int x7_4)] 145 [] := by
        intro Gj145 k145_3 k145_4 jI145 jU145
        refine u_iinc F (fun v_ => [(4, .int v_), (0, .ref (a 7)), (1, .int p0), (2, .int p1), (3, .int p2)]) dX0_growTimes_145 (j := 4) rfl x7_4.toInt 1 rfl rfl (by omega) (by omega) (by decide) (fun _ => rfl) (fun y1 ey1 => ?_)
        refine g_goto F 7 dX0_growTimes_148 (by decide) ?_
        refine g_locals [(0, .ref (a 7)), (1, .int p0), (2, .int p1), (3, .int p2), (4, .int y1)] [1, 2, 3, 4, 0] rfl ?_
        exact ih_7 y1 Gj145 (by omega) (by have h9 := ti_rng y1; omega) jI145 (gu_un.tr (gu_un.tr gu_un.rf (gu_un.su jU7 rfl)) (gu_un.su jU145 rfl))
      have J_127 : ∀  (x127_6 : Int32) (x127_7 : Int32), (1 ≤ s2 ∧ s2 ≤ 400) → (1 ≤ x7_4.toInt ∧ x7_4.toInt ≤ 400) → gG p l e (gR 1 0 0 40) s m args below meth c D A 9 Q 0 0 (xW K a Gj7) (tK K) [(0, .ref (a 7)), (1, .int p0), (2, .int p1), (3, .int p2), (4, .int x7_4), (6, .int x127_6), (7, .int x127_7)] 127 [] := by
        intro x127_6 x127_7 k127_3 k127_4
        refine g_aload_n F 0 dX0_growTimes_127 rfl rfl ?_
        refine xg_7_4 F i_X0 w_0 dX0_growTimes_128 ?_
        refine g_iload F 4 dX0_growTimes_131 rfl ?_
        refine g_iload F 5 dX0_growTimes_133 rfl ?_
        refine u_iast F 50 0 xc_50 rfl x7_4.toInt rfl (by omega) (by omega) (xW K a (gu_up Gj7 50 (x7_4.toInt).toNat x127_6)) (xs_50 _) dX0_growTimes_135 ?_
        refine g_aload_n F 0 dX0_growTimes_136 rfl rfl ?_
        refine xg_7_5 F i_X0 w_1 dX0_growTimes_137 ?_
        refine g_iload F 4 dX0_growTimes_140 rfl ?_
        refine g_iload F 6 dX0_growTimes_142 rfl ?_
        refine u_iast F 51 0 xc_51 rfl x7_4.toInt rfl (by omega) (by omega) (xW K a (gu_up (gu_up Gj7 50 (x7_4.toInt).toNat x127_6) 51 (x7_4.toInt).toNat x127_7)) (xs_51 _) dX0_growTimes_144 ?_
        refine g_locals [(0, .ref (a 7)), (1, .int p0), (2, .int p1), (3, .int p2), (4, .int x7_4)] [0, 1, 2, 3, 4] rfl ?_
        exact J_145 (gu_up (gu_up Gj7 50 (x7_4.toInt).toNat x127_6) 51 (x7_4.toInt).toNat x127_7) (by have h9 := ti_rng p2; omega) (by have h9 := ti_rng x7_4; omega) (gu_I.up (j := 51) (k := (x7_4.toInt).toNat) (v := x127_7) (gu_I.up (j := 50) (k := (x7_4.toInt).toNat) (v := x127_6) jI7 (ti_rng _).1 (ti_rng _).2) (ti_rng _).1 (ti_rng _).2) (gu_un.up (j := 51) (k := (x7_4.toInt).toNat) (v := x127_7) (gu_un.up (j := 50) (k := (x7_4.toInt).toNat) (v := x127_6) gu_un.rf (show (5000 : Nat) ∈ ([5000, 5100] : List Nat) by decide)) (show (5100 : Nat) ∈ ([5000, 5100] : List Nat) by decide))
      have J_96 : ∀  (x96_6 : Int32) (x96_7 : Int32) (z96_0 : Int32), (1 ≤ s2 ∧ s2 ≤ 400) → (1 ≤ x7_4.toInt ∧ x7_4.toInt ≤ 400) → (0 ≤ z96_0.toInt ∧ z96_0.toInt ≤ 1) → gG p l e (gR 1 0 0 40) s m args below meth c D A 9 Q 0 0 (xW K a Gj7) (tK K) [(0, .ref (a 7)), (1, .int p0), (2, .int p1), (3, .int p2), (4, .int x7_4), (6, .int x96_6), (7, .int x96_7)] 96 [.int z96_0] := by
        intro x96_6 x96_7 z96_0 k96_3 k96_4 g96_0
        refine g_istore F [(8, .int z96_0), (0, .ref (a 7)), (1, .int p0), (2, .int p1), (3, .int p2), (4, .int x7_4), (6, .int x96_6), (7, .int x96_7)] dX0_growTimes_96 (by decide) rfl ?_
        refine g_iload F 0 dX0_growTimes_98 rfl ?_
        refine v_if_ne F 127 dX0_growTimes_100 (by decide) z96_0.toInt rfl (fun c2 => ?_) (fun c2 => ?_)
        · refine g_locals [(0, .ref (a 7)), (1, .int p0), (2, .int p1), (3, .int p2), (4, .int x7_4), (6, .int x96_6), (7, .int x96_7)] [1, 2, 3, 4, 5, 6, 7] rfl ?_
          exact J_127 x96_6 x96_7 (by have h9 := ti_rng p2; omega) (by have h9 := ti_rng x7_4; omega)
        · refine g_iload F 6 dX0_growTimes_103 rfl ?_
          refine g_aload_n F 1 dX0_growTimes_105 rfl rfl ?_
          refine xg_7_4 F i_X0 w_0 dX0_growTimes_106 ?_
          refine g_iload F 5 dX0_growTimes_109 rfl ?_
          refine u_iald F 50 0 xc_50 rfl x7_4.toInt rfl (by omega) (by omega) dX0_growTimes_111 (fun _ => True) (fun _ => trivial) (fun y3 by3 => ?_)
          have b4 := ti_rng x96_6
          have b5 := ti_rng y3
          refine v_icmp_ne F 145 dX0_growTimes_112 (by decide) x96_6.toInt y3.toInt rfl rfl (fun c6 => ?_) (fun c6 => ?_)
          · refine g_locals [(0, .ref (a 7)), (1, .int p0), (2, .int p1), (3, .int p2), (4, .int x7_4)] [1, 2, 3, 4, 5] rfl ?_
            exact J_145 Gj7 (by have h9 := ti_rng p2; omega) (by have h9 := ti_rng x7_4; omega) jI7 gu_un.rf
          · refine g_iload F 7 dX0_growTimes_115 rfl ?_
            refine g_aload_n F 1 dX0_growTimes_117 rfl rfl ?_
            refine xg_7_5 F i_X0 w_1 dX0_growTimes_118 ?_
            refine g_iload F 5 dX0_growTimes_121 rfl ?_
            refine u_iald F 51 0 xc_51 rfl x7_4.toInt rfl (by omega) (by omega) dX0_growTimes_123 (fun _ => True) (fun _ => trivial) (fun y7 by7 => ?_)
            have b8 := ti_rng x96_7
            have b9 := ti_rng y7
            refine v_icmp_ge F 145 dX0_growTimes_124 (by decide) x96_7.toInt y7.toInt rfl rfl (fun c10 => ?_) (fun c10 => ?_)
            · refine g_locals [(0, .ref (a 7)), (1, .int p0), (2, .int p1), (3, .int p2), (4, .int x7_4)] [1, 2, 3, 4, 5] rfl ?_
              exact J_145 Gj7 (by have h9 := ti_rng p2; omega) (by have h9 := ti_rng x7_4; omega) jI7 gu_un.rf
            · refine g_locals [(0, .ref (a 7)), (1, .int p0), (2, .int p1), (3, .int p2), (4, .int x7_4), (6, .int x96_6), (7, .int x96_7)] [1, 2, 3, 4, 5, 6, 7] rfl ?_
              exact J_127 x96_6 x96_7 (by have h9 := ti_rng p2; omega) (by have h9 := ti_rng x7_4; omega)
      have J_91 : ∀  (x91_6 : Int32) (x91_7 : Int32), (1 ≤ s2 ∧ s2 ≤ 400) → (1 ≤ x7_4.toInt ∧ x7_4.toInt ≤ 400) → gG p l e (gR 1 0 0 40) s m args below meth c D A 9 Q 0 0 (xW K a Gj7) (tK K) [(0, .ref (a 7)), (1, .int p0), (2, .int p1), (3, .int p2), (4, .int x7_4), (6, .int x91_6), (7, .int x91_7)] 91 [] := by
        intro x91_6 x91_7 k91_3 k91_4
        refine g_iconst F 1 dX0_growTimes_91 (by decide) ?_
        refine g_goto F 96 dX0_growTimes_92 (by decide) ?_
        exact J_96 x91_6 x91_7 1 (by have h9 := ti_rng p2; omega) (by have h9 := ti_rng x7_4; omega) (by decide)
      refine g_iload F 4 dX0_growTimes_7 rfl ?_
      refine g_iload_n F 3 dX0_growTimes_9 rfl rfl ?_
      refine v_icmp_gt F 151 dX0_growTimes_10 (by decide) x7_4.toInt s2 rfl e2 (fun c11 => ?_) (fun c11 => ?_)
      · exact u_vret F hA hQ hr Gj7 (⟨jI7, (gu_un.tr gu_un.rf (gu_un.su jU7 rfl))⟩) rfl rfl dX0_growTimes_151
      · refine g_iload F 4 dX0_growTimes_13 rfl ?_
        refine g_sipush F 400 dX0_growTimes_15 (by decide) ?_
        refine v_icmp_gt F 151 dX0_growTimes_18 (by decide) x7_4.toInt 400 rfl rfl (fun c12 => absurd c12 (by omega)) (fun c12 => ?_)
        refine g_iload F 4 dX0_growTimes_21 rfl ?_
        refine g_iload_n F 1 dX0_growTimes_23 rfl rfl ?_
        refine u_isub F dX0_growTimes_24 x7_4.toInt s0 rfl e0 (by omega) (by omega) (fun y13 ey13 => ?_)
        refine g_istore F [(5, .int y13), (0, .ref (a 7)), (1, .int p0), (2, .int p1), (3, .int p2), (4, .int x7_4)] dX0_growTimes_25 (by decide) rfl ?_
        refine g_iload F 0 dX0_growTimes_27 rfl ?_
        refine v_if_lt F 145 dX0_growTimes_29 (by decide) y13.toInt rfl (fun c14 => ?_) (fun c14 => ?_)
        · refine g_locals [(0, .ref (a 7)), (1, .int p0), (2, .int p1), (3, .int p2), (4, .int x7_4)] [1, 2, 3, 4, 5] rfl ?_
          exact J_145 Gj7 (by have h9 := ti_rng p2; omega) (by have h9 := ti_rng x7_4; omega) jI7 gu_un.rf
        · refine g_aload_n F 1 dX0_growTimes_32 rfl rfl ?_
          refine xg_7_4 F i_X0 w_0 dX0_growTimes_33 ?_
          refine g_iload F 0 dX0_growTimes_36 rfl ?_
          refine u_iald F 50 0 xc_50 rfl y13.toInt rfl (by omega) (by omega) dX0_growTimes_38 (fun _ => True) (fun _ => trivial) (fun y15 by15 => ?_)
          refine g_iconst F (-1) dX0_growTimes_39 (by decide) ?_
          refine v_icmp_ne F 46 dX0_growTimes_40 (by decide) y15.toInt (-1) rfl rfl (fun c16 => ?_) (fun c16 => ?_)
          · refine g_aload_n F 1 dX0_growTimes_46 rfl rfl ?_
            refine xg_7_4 F i_X0 w_0 dX0_growTimes_47 ?_
            refine g_iload F 0 dX0_growTimes_50 rfl ?_
            refine u_iald F 50 0 xc_50 rfl y13.toInt rfl (by omega) (by omega) dX0_growTimes_52 (fun _ => True) (fun _ => trivial) (fun y17 by17 => ?_)
            refine g_iload_n F 3 dX0_growTimes_53 rfl rfl ?_
            refine u0_iadd F dX0_growTimes_54 (fun y18 => ?_)
            refine g_istore F [(6, .int y18), (5, .int y13), (0, .ref (a 7)), (1, .int p0), (2, .int p1), (3, .int p2), (4, .int x7_4)] dX0_growTimes_55 (by decide) rfl ?_
            refine g_aload_n F 2 dX0_growTimes_57 rfl rfl ?_
            refine xg_7_5 F i_X0 w_1 dX0_growTimes_58 ?_
            refine g_iload F 1 dX0_growTimes_61 rfl ?_
            refine u_iald F 51 0 xc_51 rfl y13.toInt rfl (by omega) (by omega) dX0_growTimes_63 (fun _ => True) (fun _ => trivial) (fun y19 by19 => ?_)
            refine g_iconst F 1 dX0_growTimes_64 (by decide) ?_
            refine u_iaddc F dX0_growTimes_65 y19.toInt 1 rfl rfl (fun y20 ey20 => ?_)
            refine g_istore F [(7, .int y20), (6, .int y18), (5, .int y13), (0, .ref (a 7)), (1, .int p0), (2, .int p1), (3, .int p2), (4, .int x7_4)] dX0_growTimes_66 (by decide) rfl ?_
            refine g_aload_n F 3 dX0_growTimes_68 rfl rfl ?_
            refine xg_7_4 F i_X0 w_0 dX0_growTimes_69 ?_
            refine g_iload F 7 dX0_growTimes_72 rfl ?_
            refine u_iald F 50 0 xc_50 rfl x7_4.toInt rfl (by omega) (by omega) dX0_growTimes_74 (fun _ => True) (fun _ => trivial) (fun y21 by21 => ?_)
            refine g_iconst F (-1) dX0_growTimes_75 (by decide) ?_
            refine v_icmp_eq F 91 dX0_growTimes_76 (by decide) y21.toInt (-1) rfl rfl (fun c22 => ?_) (fun c22 => ?_)
            · refine g_locals [(0, .ref (a 7)), (1, .int p0), (2, .int p1), (3, .int p2), (4, .int x7_4), (6, .int y18), (7, .int y20)] [3, 4, 5, 6, 7, 1, 0] rfl ?_
              exact J_91 y18 y20 (by have h9 := ti_rng p2; omega) (by have h9 := ti_rng x7_4; omega)
            · refine g_iload F 1 dX0_growTimes_79 rfl ?_
              refine g_aload_n F 3 dX0_growTimes_81 rfl rfl ?_
              refine xg_7_4 F i_X0 w_0 dX0_growTimes_82 ?_
              refine g_iload F 7 dX0_growTimes_85 rfl ?_
              refine u_iald F 50 0 xc_50 rfl x7_4.toInt rfl (by omega) (by omega) dX0_growTimes_87 (fun _ => True) (fun _ => trivial) (fun y23 by23 => ?_)
              have b24 := ti_rng y18
              have b25 := ti_rng y23
              refine v_icmp_ge F 95 dX0_growTimes_88 (by decide) y18.toInt y23.toInt rfl rfl (fun c26 => ?_) (fun c26 => ?_)
              · refine g_iconst F 0 dX0_growTimes_95 (by decide) ?_
                refine g_locals [(0, .ref (a 7)), (1, .int p0), (2, .int p1), (3, .int p2), (4, .int x7_4), (6, .int y18), (7, .int y20)] [3, 4, 5, 6, 7, 1, 0] rfl ?_
                exact J_96 y18 y20 0 (by have h9 := ti_rng p2; omega) (by have h9 := ti_rng x7_4; omega) (by decide)
              · refine g_locals [(0, .ref (a 7)), (1, .int p0), (2, .int p1), (3, .int p2), (4, .int x7_4), (6, .int y18), (7, .int y20)] [3, 4, 5, 6, 7, 1, 0] rfl ?_
                exact J_91 y18 y20 (by have h9 := ti_rng p2; omega) (by have h9 := ti_rng x7_4; omega)
          · refine g_goto F 145 dX0_growTimes_43 (by decide) ?_
            refine g_locals [(0, .ref (a 7)), (1, .int p0), (2, .int p1), (3, .int p2), (4, .int x7_4)] [1, 2, 3, 4, 5] rfl ?_
            exact J_145 Gj7 (by have h9 := ti_rng p2; omega) (by have h9 := ti_rng x7_4; omega) jI7 gu_un.rf
  refine g_iconst F 1 dX0_growTimes_0 (by decide) ?_
  refine g_iload_n F 1 dX0_growTimes_1 rfl rfl ?_
  refine u_mmax F w_2 w_3 w_4 w_5 (Nat.le_of_ble_eq_true rfl) (Nat.le_of_ble_eq_true rfl) (Nat.le_of_ble_eq_true rfl) (Nat.le_of_ble_eq_true rfl) dX0_growTimes_2 1 s0 rfl e0 (fun y27 ey27 => ?_)
  refine g_istore F [(4, .int y27), (0, .ref (a 7)), (1, .int p0), (2, .int p1), (3, .int p2)] dX0_growTimes_5 (by decide) rfl ?_
  refine g_locals [(0, .ref (a 7)), (1, .int p0), (2, .int p1), (3, .int p2), (4, .int y27)] [1, 2, 3, 4, 0] rfl ?_
  exact J_7 _ y27 G (Nat.lt_succ_self _) (by have h9 := ti_rng y27; omega) hI gu_un.rf

theorem dX0_findLeastTimes_0 : decode cX0_findLeastTimes 0 = .ok (.aload_n 0, 1) := by decide +kernel
theorem dX0_findLeastTimes_1 : decode cX0_findLeastTimes 1 = .ok (.getfield 15, 3) := by decide +kernel
theorem dX0_findLeastTimes_4 : decode cX0_findLeastTimes 4 = .ok (.iconst 0, 1) := by decide +kernel
theorem dX0_findLeastTimes_5 : decode cX0_findLeastTimes 5 = .ok (.iconst 0, 1) := by decide +kernel
theorem dX0_findLeastTimes_6 : decode cX0_findLeastTimes 6 = .ok (.iastore, 1) := by decide +kernel
theorem dX0_findLeastTimes_7 : decode cX0_findLeastTimes 7 = .ok (.aload_n 0, 1) := by decide +kernel
theorem dX0_findLeastTimes_8 : decode cX0_findLeastTimes 8 = .ok (.getfield 18, 3) := by decide +kernel
theorem dX0_findLeastTimes_11 : decode cX0_findLeastTimes 11 = .ok (.iconst 0, 1) := by decide +kernel
theorem dX0_findLeastTimes_12 : decode cX0_findLeastTimes 12 = .ok (.iconst 0, 1) := by decide +kernel
theorem dX0_findLeastTimes_13 : decode cX0_findLeastTimes 13 = .ok (.iastore, 1) := by decide +kernel
theorem dX0_findLeastTimes_14 : decode cX0_findLeastTimes 14 = .ok (.iconst 1, 1) := by decide +kernel
theorem dX0_findLeastTimes_15 : decode cX0_findLeastTimes 15 = .ok (.istore_n 2, 1) := by decide +kernel
theorem dX0_findLeastTimes_16 : decode cX0_findLeastTimes 16 = .ok (.iload_n 2, 1) := by decide +kernel
theorem dX0_findLeastTimes_17 : decode cX0_findLeastTimes 17 = .ok (.iload_n 1, 1) := by decide +kernel
theorem dX0_findLeastTimes_18 : decode cX0_findLeastTimes 18 = .ok (.if_icmp .gt 30, 3) := by decide +kernel
theorem dX0_findLeastTimes_21 : decode cX0_findLeastTimes 21 = .ok (.iload_n 2, 1) := by decide +kernel
theorem dX0_findLeastTimes_22 : decode cX0_findLeastTimes 22 = .ok (.sipush 400, 3) := by decide +kernel
theorem dX0_findLeastTimes_25 : decode cX0_findLeastTimes 25 = .ok (.if_icmp .gt 23, 3) := by decide +kernel
theorem dX0_findLeastTimes_28 : decode cX0_findLeastTimes 28 = .ok (.aload_n 0, 1) := by decide +kernel
theorem dX0_findLeastTimes_29 : decode cX0_findLeastTimes 29 = .ok (.getfield 15, 3) := by decide +kernel
theorem dX0_findLeastTimes_32 : decode cX0_findLeastTimes 32 = .ok (.iload_n 2, 1) := by decide +kernel
theorem dX0_findLeastTimes_33 : decode cX0_findLeastTimes 33 = .ok (.iconst (-1), 1) := by decide +kernel
theorem dX0_findLeastTimes_34 : decode cX0_findLeastTimes 34 = .ok (.iastore, 1) := by decide +kernel
theorem dX0_findLeastTimes_35 : decode cX0_findLeastTimes 35 = .ok (.aload_n 0, 1) := by decide +kernel
theorem dX0_findLeastTimes_36 : decode cX0_findLeastTimes 36 = .ok (.getfield 18, 3) := by decide +kernel
theorem dX0_findLeastTimes_39 : decode cX0_findLeastTimes 39 = .ok (.iload_n 2, 1) := by decide +kernel
theorem dX0_findLeastTimes_40 : decode cX0_findLeastTimes 40 = .ok (.iconst 0, 1) := by decide +kernel
theorem dX0_findLeastTimes_41 : decode cX0_findLeastTimes 41 = .ok (.iastore, 1) := by decide +kernel
theorem dX0_findLeastTimes_42 : decode cX0_findLeastTimes 42 = .ok (.iinc 2 1, 3) := by decide +kernel
theorem dX0_findLeastTimes_45 : decode cX0_findLeastTimes 45 = .ok (.goto (-29), 3) := by decide +kernel
theorem dX0_findLeastTimes_48 : decode cX0_findLeastTimes 48 = .ok (.iconst 1, 1) := by decide +kernel
theorem dX0_findLeastTimes_49 : decode cX0_findLeastTimes 49 = .ok (.istore_n 2, 1) := by decide +kernel
theorem dX0_findLeastTimes_50 : decode cX0_findLeastTimes 50 = .ok (.iload_n 2, 1) := by decide +kernel
theorem dX0_findLeastTimes_51 : decode cX0_findLeastTimes 51 = .ok (.bipush 20, 2) := by decide +kernel
theorem dX0_findLeastTimes_53 : decode cX0_findLeastTimes 53 = .ok (.if_icmp .gt 37, 3) := by decide +kernel
theorem dX0_findLeastTimes_56 : decode cX0_findLeastTimes 56 = .ok (.aload_n 0, 1) := by decide +kernel
theorem dX0_findLeastTimes_57 : decode cX0_findLeastTimes 57 = .ok (.getfield 9, 3) := by decide +kernel
theorem dX0_findLeastTimes_60 : decode cX0_findLeastTimes 60 = .ok (.iload_n 2, 1) := by decide +kernel
theorem dX0_findLeastTimes_61 : decode cX0_findLeastTimes 61 = .ok (.iaload, 1) := by decide +kernel
theorem dX0_findLeastTimes_62 : decode cX0_findLeastTimes 62 = .ok (.ifCond .eq 22, 3) := by decide +kernel
theorem dX0_findLeastTimes_65 : decode cX0_findLeastTimes 65 = .ok (.aload_n 0, 1) := by decide +kernel
theorem dX0_findLeastTimes_66 : decode cX0_findLeastTimes 66 = .ok (.iload_n 2, 1) := by decide +kernel
theorem dX0_findLeastTimes_67 : decode cX0_findLeastTimes 67 = .ok (.aload_n 0, 1) := by decide +kernel
theorem dX0_findLeastTimes_68 : decode cX0_findLeastTimes 68 = .ok (.getfield 24, 3) := by decide +kernel
theorem dX0_findLeastTimes_71 : decode cX0_findLeastTimes 71 = .ok (.aload_n 0, 1) := by decide +kernel
theorem dX0_findLeastTimes_72 : decode cX0_findLeastTimes 72 = .ok (.getfield 9, 3) := by decide +kernel
theorem dX0_findLeastTimes_75 : decode cX0_findLeastTimes 75 = .ok (.iload_n 2, 1) := by decide +kernel
theorem dX0_findLeastTimes_76 : decode cX0_findLeastTimes 76 = .ok (.iaload, 1) := by decide +kernel
theorem dX0_findLeastTimes_77 : decode cX0_findLeastTimes 77 = .ok (.invokevirtual 64, 3) := by decide +kernel
theorem dX0_findLeastTimes_80 : decode cX0_findLeastTimes 80 = .ok (.iload_n 1, 1) := by decide +kernel
theorem dX0_findLeastTimes_81 : decode cX0_findLeastTimes 81 = .ok (.invokevirtual 104, 3) := by decide +kernel
theorem dX0_findLeastTimes_84 : decode cX0_findLeastTimes 84 = .ok (.iinc 2 1, 3) := by decide +kernel
theorem dX0_findLeastTimes_87 : decode cX0_findLeastTimes 87 = .ok (.goto (-37), 3) := by decide +kernel
theorem dX0_findLeastTimes_90 : decode cX0_findLeastTimes 90 = .ok (.return_, 1) := by decide +kernel
set_option maxRecDepth 20000 in
theorem ggX0_findLeastTimes_X0_growTimes : GoodIn wsX0_findLeastTimes wsX0_growTimes := goodIn_r _ [23, 24, 25, 26, 27, 1, 2, 28, 29, 30, 31, 32, 33, 34, 35] rfl (by decide +kernel)
set_option maxRecDepth 20000 in
theorem gX0_findLeastTimes_X0_growTimes : GoodIn wsX0_findLeastTimes (wsV RX0 104 RX0 yX0_growTimes wsX0_growTimes) := goodIn_app (goodIn_of _ (by decide +kernel)) ggX0_findLeastTimes_X0_growTimes
set_option maxRecDepth 20000 in
theorem ggX0_findLeastTimes_X7_passTime : GoodIn wsX0_findLeastTimes wsX7_passTime := goodIn_r _ [9, 10, 11, 12, 13, 8, 14, 15, 16, 17, 18, 36, 37, 38, 39] rfl (by decide +kernel)
set_option maxRecDepth 20000 in
theorem gX0_findLeastTimes_X7_passTime : GoodIn wsX0_findLeastTimes (wsV RX0 64 RX7 yX7_passTime wsX7_passTime) := goodIn_app (goodIn_of _ (by decide +kernel)) ggX0_findLeastTimes_X7_passTime
set_option maxHeartbeats 4000000 in
set_option maxRecDepth 100000 in
theorem S_X0_findLeastTimes (l : Launch) (D : va_G) (K : Nat → ClassId) (a : Nat → Nat) (G : gS) (p0 : Int32) (s0 : Int) (e0 : p0.toInt = s0) (h0 : 0 ≤ s0 ∧ s0 ≤ 400) (hI : xI G) (sz : Nat) : Kv l yX0_findLeastTimes wsX0_findLeastTimes 3 86 0 0 D [.ref (a 7), .int p0] (xW K a G) (tK K) sz (fun (G' : gS) => (xI G') ∧ (gu_un xcd [5000, 5100] G G')) (fun (G' : gS) => (xW K a G')) (fun _ => (tK K)) := by
  unfold Kv
  refine g_ofW (cc := cX0_findLeastTimes) (lv := [(0, .ref (a 7)), (1, .int p0)]) (by decide) rfl (Nat.le_of_ble_eq_true rfl) rfl ?_
  intro p e s m args below meth c A Q hA hQ F hr hnm
  have hts := F.2.2.2.2.1
  have w_0 : (Cond.fieldLink RX0 9 "QuietCut$Chooser" "speedOf" "[I").before args s = true := hts _ (List.mem_of_getElem? (i := 3) rfl)
  have i_X0 : ∀ w ∈ u_ws RX0 TX0 8, w ∈ wsX0_findLeastTimes := fun _ h => List.mem_cons_of_mem _ (List.mem_append_left _ (List.mem_append_right _ h))
  have w_1 : (Cond.fieldLink RX0 24 "QuietCut$Chooser" "shop" "LQuietCut$Shop;").before args s = true := hts _ (List.mem_of_getElem? (i := 4) rfl)
  have w_2 : (Cond.fieldLink RX0 15 "QuietCut$Chooser" "leastTime" "[I").before args s = true := hts _ (List.mem_of_getElem? (i := 1) rfl)
  have w_3 : (Cond.fieldLink RX0 18 "QuietCut$Chooser" "fewest" "[I").before args s = true := hts _ (List.mem_of_getElem? (i := 2) rfl)
  have J_50 : ∀ (fuel : Nat) (x50_2 : Int32) (Gj50 : gS), (2147483647 - x50_2.toInt).toNat < fuel → (1 ≤ x50_2.toInt ∧ x50_2.toInt ≤ 21) → (xI Gj50) → (gu_un xcd [5000, 5100] G Gj50) → gG p l e (gR 3 0 0 86) s m args below meth c D A 3 Q 0 0 (xW K a Gj50) (tK K) [(0, .ref (a 7)), (1, .int p0), (2, .int x50_2)] 50 [] := by
    intro fuel
    induction fuel with
    | zero => intro x50_2 Gj50 hm; exact absurd hm (Nat.not_lt_zero _)
    | succ fuel_50 ih_50 =>
      intro x50_2 Gj50 hm_50 h50_2 jI50 jU50
      have J_84 : ∀  (Gj84 : gS), (1 ≤ x50_2.toInt ∧ x50_2.toInt ≤ 20) → (xI Gj84) → (gu_un xcd [5000, 5100] Gj50 Gj84) → gG p l e (gR 3 0 0 86) s m args below meth c D A 3 Q 0 0 (xW K a Gj84) (tK K) [(0, .ref (a 7)), (1, .int p0), (2, .int x50_2)] 84 [] := by
        intro Gj84 k84_2 jI84 jU84
        refine u_iinc F (fun v_ => [(2, .int v_), (0, .ref (a 7)), (1, .int p0)]) dX0_findLeastTimes_84 (j := 2) rfl x50_2.toInt 1 rfl rfl (by omega) (by omega) (by decide) (fun _ => rfl) (fun y1 ey1 => ?_)
        refine g_goto F 50 dX0_findLeastTimes_87 (by decide) ?_
        refine g_locals [(0, .ref (a 7)), (1, .int p0), (2, .int y1)] [1, 2, 0] rfl ?_
        exact ih_50 y1 Gj84 (by omega) (by have h9 := ti_rng y1; omega) jI84 (gu_un.tr (gu_un.tr gu_un.rf (gu_un.su jU50 rfl)) (gu_un.su jU84 rfl))
      refine g_iload_n F 2 dX0_findLeastTimes_50 rfl rfl ?_
      refine g_bipush F 20 dX0_findLeastTimes_51 (by decide) ?_
      refine v_icmp_gt F 90 dX0_findLeastTimes_53 (by decide) x50_2.toInt 20 rfl rfl (fun c2 => ?_) (fun c2 => ?_)
      · exact u_vret F hA hQ hr Gj50 (⟨jI50, (gu_un.tr gu_un.rf (gu_un.su jU50 rfl))⟩) rfl rfl dX0_findLeastTimes_90
      · refine g_aload_n F 0 dX0_findLeastTimes_56 rfl rfl ?_
        refine xg_7_3 F i_X0 w_0 dX0_findLeastTimes_57 ?_
        refine g_iload_n F 2 dX0_findLeastTimes_60 rfl rfl ?_
        refine u_iald F 49 0 xc_49 rfl x50_2.toInt rfl (by omega) (by omega) dX0_findLeastTimes_61 (fun _ => True) (fun _ => trivial) (fun y3 by3 => ?_)
        refine v_if_eq F 84 dX0_findLeastTimes_62 (by decide) y3.toInt rfl (fun c4 => ?_) (fun c4 => ?_)
        · exact J_84 Gj50 (by have h9 := ti_rng x50_2; omega) jI50 gu_un.rf
        · refine g_aload_n F 0 dX0_findLeastTimes_65 rfl rfl ?_
          refine g_iload_n F 2 dX0_findLeastTimes_66 rfl rfl ?_
          refine g_aload_n F 0 dX0_findLeastTimes_67 rfl rfl ?_
          refine xg_7_0 F i_X0 w_1 dX0_findLeastTimes_68 ?_
          refine g_aload_n F 0 dX0_findLeastTimes_71 rfl rfl ?_
          refine xg_7_3 F i_X0 w_0 dX0_findLeastTimes_72 ?_
          refine g_iload_n F 2 dX0_findLeastTimes_75 rfl rfl ?_
          refine u_iald F 49 0 xc_49 rfl x50_2.toInt rfl (by omega) (by omega) dX0_findLeastTimes_76 (fun _ => True) (fun _ => trivial) (fun y5 by5 => ?_)
          refine u_callVi (k := 0) (n := 0) (b := a 2) (As := [.int y5]) (st := [.int x50_2, .ref (a 7)]) F (fun sz => S_X7_passTime_2 l D K a Gj50 y5 y5.toInt rfl jI50 sz) (cwV 1 hts gX0_findLeastTimes_X7_passTime rfl rfl rfl (by decide +kernel) ⟨Nat.le_of_ble_eq_true rfl, Nat.le_of_ble_eq_true rfl⟩) rfl 2 xc_2 rfl (Nat.le_of_ble_eq_true rfl) ⟨Nat.zero_le _, Nat.zero_le _⟩ dX0_findLeastTimes_77 (fun r6 _ hw7 => ?_)
          refine g_iload_n F 1 dX0_findLeastTimes_80 rfl rfl ?_
          refine u_callVv (k := 0) (n := 0) (b := a 7) (As := [.int x50_2, .int r6, .int p0]) (st := []) F (fun sz => S_X0_growTimes l D K a Gj50 x50_2 x50_2.toInt r6 r6.toInt p0 s0 rfl (by omega) rfl e0 (by omega) jI50 sz) (cwV 3 hts gX0_findLeastTimes_X0_growTimes rfl rfl rfl (by decide +kernel) ⟨Nat.le_of_ble_eq_true rfl, Nat.le_of_ble_eq_true rfl⟩) rfl 7 xc_7 rfl (Nat.le_of_ble_eq_true rfl) ⟨Nat.zero_le _, Nat.zero_le _⟩ dX0_findLeastTimes_81 (fun G11 hw10 => ?_)
          have hI12 : xI G11 := hw10.1
          have hU13 : gu_un xcd [5000, 5100] Gj50 G11 := hw10.2
          exact J_84 G11 (by have h9 := ti_rng x50_2; omega) hI12 (gu_un.tr gu_un.rf (gu_un.su hU13 rfl))
  have J_48 : ∀  (Gj48 : gS), (xI Gj48) → (gu_un xcd [5000, 5100] G Gj48) → gG p l e (gR 3 0 0 86) s m args below meth c D A 3 Q 0 0 (xW K a Gj48) (tK K) [(0, .ref (a 7)), (1, .int p0)] 48 [] := by
    intro Gj48 jI48 jU48
    refine g_iconst F 1 dX0_findLeastTimes_48 (by decide) ?_
    refine g_istore_n F [(2, .int 1), (0, .ref (a 7)), (1, .int p0)] dX0_findLeastTimes_49 rfl (by decide) rfl ?_
    refine g_locals [(0, .ref (a 7)), (1, .int p0), (2, .int 1)] [1, 2, 0] rfl ?_
    exact J_50 _ 1 Gj48 (Nat.lt_succ_self _) (by decide) jI48 (gu_un.tr gu_un.rf (gu_un.su jU48 rfl))
  have J_16 : ∀ (fuel : Nat) (x16_2 : Int32) (Gj16 : gS), (2147483647 - x16_2.toInt).toNat < fuel → (1 ≤ x16_2.toInt ∧ x16_2.toInt ≤ 401) → (xI Gj16) → (gu_un xcd [5000, 5100] G Gj16) → gG p l e (gR 3 0 0 86) s m args below meth c D A 3 Q 0 0 (xW K a Gj16) (tK K) [(0, .ref (a 7)), (1, .int p0), (2, .int x16_2)] 16 [] := by
    intro fuel
    induction fuel with
    | zero => intro x16_2 Gj16 hm; exact absurd hm (Nat.not_lt_zero _)
    | succ fuel_16 ih_16 =>
      intro x16_2 Gj16 hm_16 h16_2 jI16 jU16
      refine g_iload_n F 2 dX0_findLeastTimes_16 rfl rfl ?_
      refine g_iload_n F 1 dX0_findLeastTimes_17 rfl rfl ?_
      refine v_icmp_gt F 48 dX0_findLeastTimes_18 (by decide) x16_2.toInt s0 rfl e0 (fun c15 => ?_) (fun c15 => ?_)
      · refine g_locals [(0, .ref (a 7)), (1, .int p0)] [0, 1] rfl ?_
        exact J_48 Gj16 jI16 (gu_un.tr gu_un.rf (gu_un.su jU16 rfl))
      · refine g_iload_n F 2 dX0_findLeastTimes_21 rfl rfl ?_
        refine g_sipush F 400 dX0_findLeastTimes_22 (by decide) ?_
        refine v_icmp_gt F 48 dX0_findLeastTimes_25 (by decide) x16_2.toInt 400 rfl rfl (fun c16 => absurd c16 (by omega)) (fun c16 => ?_)
        refine g_aload_n F 0 dX0_findLeastTimes_28 rfl rfl ?_
        refine xg_7_4 F i_X0 w_2 dX0_findLeastTimes_29 ?_
        refine g_iload_n F 2 dX0_findLeastTimes_32 rfl rfl ?_
        refine g_iconst F (-1) dX0_findLeastTimes_33 (by decide) ?_
        refine u_iast F 50 0 xc_50 rfl x16_2.toInt rfl (by omega) (by omega) (xW K a (gu_up Gj16 50 (x16_2.toInt).toNat (-1))) (xs_50 _) dX0_findLeastTimes_34 ?_
        refine g_aload_n F 0 dX0_findLeastTimes_35 rfl rfl ?_
        refine xg_7_5 F i_X0 w_3 dX0_findLeastTimes_36 ?_
        refine g_iload_n F 2 dX0_findLeastTimes_39 rfl rfl ?_
        refine g_iconst F 0 dX0_findLeastTimes_40 (by decide) ?_
        refine u_iast F 51 0 xc_51 rfl x16_2.toInt rfl (by omega) (by omega) (xW K a (gu_up (gu_up Gj16 50 (x16_2.toInt).toNat (-1)) 51 (x16_2.toInt).toNat 0)) (xs_51 _) dX0_findLeastTimes_41 ?_
        refine u_iinc F (fun v_ => [(2, .int v_), (0, .ref (a 7)), (1, .int p0)]) dX0_findLeastTimes_42 (j := 2) rfl x16_2.toInt 1 rfl rfl (by omega) (by omega) (by decide) (fun _ => rfl) (fun y17 ey17 => ?_)
        refine g_goto F 16 dX0_findLeastTimes_45 (by decide) ?_
        refine g_locals [(0, .ref (a 7)), (1, .int p0), (2, .int y17)] [1, 2, 0] rfl ?_
        exact ih_16 y17 (gu_up (gu_up Gj16 50 (x16_2.toInt).toNat (-1)) 51 (x16_2.toInt).toNat 0) (by omega) (by have h9 := ti_rng y17; omega) (gu_I.up (j := 51) (k := (x16_2.toInt).toNat) (v := 0) (gu_I.up (j := 50) (k := (x16_2.toInt).toNat) (v := (-1)) jI16 (ti_rng _).1 (ti_rng _).2) (ti_rng _).1 (ti_rng _).2) (gu_un.up (j := 51) (k := (x16_2.toInt).toNat) (v := 0) (gu_un.up (j := 50) (k := (x16_2.toInt).toNat) (v := (-1)) (gu_un.tr gu_un.rf (gu_un.su jU16 rfl)) (show (5000 : Nat) ∈ ([5000, 5100] : List Nat) by decide)) (show (5100 : Nat) ∈ ([5000, 5100] : List Nat) by decide))
  refine g_aload_n F 0 dX0_findLeastTimes_0 rfl rfl ?_
  refine xg_7_4 F i_X0 w_2 dX0_findLeastTimes_1 ?_
  refine g_iconst F 0 dX0_findLeastTimes_4 (by decide) ?_
  refine g_iconst F 0 dX0_findLeastTimes_5 (by decide) ?_
  refine u_iast F 50 0 xc_50 rfl 0 rfl (by decide) (by decide) (xW K a (gu_up G 50 0 0)) (xs_50 _) dX0_findLeastTimes_6 ?_
  refine g_aload_n F 0 dX0_findLeastTimes_7 rfl rfl ?_
  refine xg_7_5 F i_X0 w_3 dX0_findLeastTimes_8 ?_
  refine g_iconst F 0 dX0_findLeastTimes_11 (by decide) ?_
  refine g_iconst F 0 dX0_findLeastTimes_12 (by decide) ?_
  refine u_iast F 51 0 xc_51 rfl 0 rfl (by decide) (by decide) (xW K a (gu_up (gu_up G 50 0 0) 51 0 0)) (xs_51 _) dX0_findLeastTimes_13 ?_
  refine g_iconst F 1 dX0_findLeastTimes_14 (by decide) ?_
  refine g_istore_n F [(2, .int 1), (0, .ref (a 7)), (1, .int p0)] dX0_findLeastTimes_15 rfl (by decide) rfl ?_
  refine g_locals [(0, .ref (a 7)), (1, .int p0), (2, .int 1)] [1, 2, 0] rfl ?_
  exact J_16 _ 1 (gu_up (gu_up G 50 0 0) 51 0 0) (Nat.lt_succ_self _) (by decide) (gu_I.up (j := 51) (k := 0) (v := 0) (gu_I.up (j := 50) (k := 0) (v := 0) hI (ti_rng _).1 (ti_rng _).2) (ti_rng _).1 (ti_rng _).2) (gu_un.up (j := 51) (k := 0) (v := 0) (gu_un.up (j := 50) (k := 0) (v := 0) gu_un.rf (show (5000 : Nat) ∈ ([5000, 5100] : List Nat) by decide)) (show (5100 : Nat) ∈ ([5000, 5100] : List Nat) by decide))

theorem dX0_leastOpening_0 : decode cX0_leastOpening 0 = .ok (.iconst (-1), 1) := by decide +kernel
theorem dX0_leastOpening_1 : decode cX0_leastOpening 1 = .ok (.istore_n 2, 1) := by decide +kernel
theorem dX0_leastOpening_2 : decode cX0_leastOpening 2 = .ok (.iconst 1, 1) := by decide +kernel
theorem dX0_leastOpening_3 : decode cX0_leastOpening 3 = .ok (.istore_n 3, 1) := by decide +kernel
theorem dX0_leastOpening_4 : decode cX0_leastOpening 4 = .ok (.iload_n 3, 1) := by decide +kernel
theorem dX0_leastOpening_5 : decode cX0_leastOpening 5 = .ok (.bipush 20, 2) := by decide +kernel
theorem dX0_leastOpening_7 : decode cX0_leastOpening 7 = .ok (.if_icmp .gt 140, 3) := by decide +kernel
theorem dX0_leastOpening_10 : decode cX0_leastOpening 10 = .ok (.iload_n 3, 1) := by decide +kernel
theorem dX0_leastOpening_11 : decode cX0_leastOpening 11 = .ok (.iload_n 1, 1) := by decide +kernel
theorem dX0_leastOpening_12 : decode cX0_leastOpening 12 = .ok (.if_icmp .gt 135, 3) := by decide +kernel
theorem dX0_leastOpening_15 : decode cX0_leastOpening 15 = .ok (.aload_n 0, 1) := by decide +kernel
theorem dX0_leastOpening_16 : decode cX0_leastOpening 16 = .ok (.getfield 9, 3) := by decide +kernel
theorem dX0_leastOpening_19 : decode cX0_leastOpening 19 = .ok (.iload_n 3, 1) := by decide +kernel
theorem dX0_leastOpening_20 : decode cX0_leastOpening 20 = .ok (.iaload, 1) := by decide +kernel
theorem dX0_leastOpening_21 : decode cX0_leastOpening 21 = .ok (.istore 4, 2) := by decide +kernel
theorem dX0_leastOpening_23 : decode cX0_leastOpening 23 = .ok (.iload_n 1, 1) := by decide +kernel
theorem dX0_leastOpening_24 : decode cX0_leastOpening 24 = .ok (.iload_n 3, 1) := by decide +kernel
theorem dX0_leastOpening_25 : decode cX0_leastOpening 25 = .ok (.isub, 1) := by decide +kernel
theorem dX0_leastOpening_26 : decode cX0_leastOpening 26 = .ok (.istore 5, 2) := by decide +kernel
theorem dX0_leastOpening_28 : decode cX0_leastOpening 28 = .ok (.iload 4, 2) := by decide +kernel
theorem dX0_leastOpening_30 : decode cX0_leastOpening 30 = .ok (.ifCond .eq 111, 3) := by decide +kernel
theorem dX0_leastOpening_33 : decode cX0_leastOpening 33 = .ok (.iload 5, 2) := by decide +kernel
theorem dX0_leastOpening_35 : decode cX0_leastOpening 35 = .ok (.sipush 400, 3) := by decide +kernel
theorem dX0_leastOpening_38 : decode cX0_leastOpening 38 = .ok (.if_icmp .gt 103, 3) := by decide +kernel
theorem dX0_leastOpening_41 : decode cX0_leastOpening 41 = .ok (.iload_n 1, 1) := by decide +kernel
theorem dX0_leastOpening_42 : decode cX0_leastOpening 42 = .ok (.sipush 400, 3) := by decide +kernel
theorem dX0_leastOpening_45 : decode cX0_leastOpening 45 = .ok (.if_icmp .gt 96, 3) := by decide +kernel
theorem dX0_leastOpening_48 : decode cX0_leastOpening 48 = .ok (.aload_n 0, 1) := by decide +kernel
theorem dX0_leastOpening_49 : decode cX0_leastOpening 49 = .ok (.getfield 15, 3) := by decide +kernel
theorem dX0_leastOpening_52 : decode cX0_leastOpening 52 = .ok (.iload 5, 2) := by decide +kernel
theorem dX0_leastOpening_54 : decode cX0_leastOpening 54 = .ok (.iaload, 1) := by decide +kernel
theorem dX0_leastOpening_55 : decode cX0_leastOpening 55 = .ok (.iconst (-1), 1) := by decide +kernel
theorem dX0_leastOpening_56 : decode cX0_leastOpening 56 = .ok (.if_icmp .ne 6, 3) := by decide +kernel
theorem dX0_leastOpening_59 : decode cX0_leastOpening 59 = .ok (.goto 82, 3) := by decide +kernel
theorem dX0_leastOpening_62 : decode cX0_leastOpening 62 = .ok (.bipush 20, 2) := by decide +kernel
theorem dX0_leastOpening_64 : decode cX0_leastOpening 64 = .ok (.iload 4, 2) := by decide +kernel
theorem dX0_leastOpening_66 : decode cX0_leastOpening 66 = .ok (.imul, 1) := by decide +kernel
theorem dX0_leastOpening_67 : decode cX0_leastOpening 67 = .ok (.iload_n 3, 1) := by decide +kernel
theorem dX0_leastOpening_68 : decode cX0_leastOpening 68 = .ok (.iadd, 1) := by decide +kernel
theorem dX0_leastOpening_69 : decode cX0_leastOpening 69 = .ok (.istore 6, 2) := by decide +kernel
theorem dX0_leastOpening_71 : decode cX0_leastOpening 71 = .ok (.aload_n 0, 1) := by decide +kernel
theorem dX0_leastOpening_72 : decode cX0_leastOpening 72 = .ok (.getfield 15, 3) := by decide +kernel
theorem dX0_leastOpening_75 : decode cX0_leastOpening 75 = .ok (.iload 5, 2) := by decide +kernel
theorem dX0_leastOpening_77 : decode cX0_leastOpening 77 = .ok (.iaload, 1) := by decide +kernel
theorem dX0_leastOpening_78 : decode cX0_leastOpening 78 = .ok (.aload_n 0, 1) := by decide +kernel
theorem dX0_leastOpening_79 : decode cX0_leastOpening 79 = .ok (.getfield 24, 3) := by decide +kernel
theorem dX0_leastOpening_82 : decode cX0_leastOpening 82 = .ok (.iload 4, 2) := by decide +kernel
theorem dX0_leastOpening_84 : decode cX0_leastOpening 84 = .ok (.invokevirtual 64, 3) := by decide +kernel
theorem dX0_leastOpening_87 : decode cX0_leastOpening 87 = .ok (.iadd, 1) := by decide +kernel
theorem dX0_leastOpening_88 : decode cX0_leastOpening 88 = .ok (.aload_n 0, 1) := by decide +kernel
theorem dX0_leastOpening_89 : decode cX0_leastOpening 89 = .ok (.getfield 15, 3) := by decide +kernel
theorem dX0_leastOpening_92 : decode cX0_leastOpening 92 = .ok (.iload_n 1, 1) := by decide +kernel
theorem dX0_leastOpening_93 : decode cX0_leastOpening 93 = .ok (.iaload, 1) := by decide +kernel
theorem dX0_leastOpening_94 : decode cX0_leastOpening 94 = .ok (.if_icmp .ne 25, 3) := by decide +kernel
theorem dX0_leastOpening_97 : decode cX0_leastOpening 97 = .ok (.aload_n 0, 1) := by decide +kernel
theorem dX0_leastOpening_98 : decode cX0_leastOpening 98 = .ok (.getfield 18, 3) := by decide +kernel
theorem dX0_leastOpening_101 : decode cX0_leastOpening 101 = .ok (.iload 5, 2) := by decide +kernel
theorem dX0_leastOpening_103 : decode cX0_leastOpening 103 = .ok (.iaload, 1) := by decide +kernel
theorem dX0_leastOpening_104 : decode cX0_leastOpening 104 = .ok (.iconst 1, 1) := by decide +kernel
theorem dX0_leastOpening_105 : decode cX0_leastOpening 105 = .ok (.iadd, 1) := by decide +kernel
theorem dX0_leastOpening_106 : decode cX0_leastOpening 106 = .ok (.aload_n 0, 1) := by decide +kernel
theorem dX0_leastOpening_107 : decode cX0_leastOpening 107 = .ok (.getfield 18, 3) := by decide +kernel
theorem dX0_leastOpening_110 : decode cX0_leastOpening 110 = .ok (.iload_n 1, 1) := by decide +kernel
theorem dX0_leastOpening_111 : decode cX0_leastOpening 111 = .ok (.iaload, 1) := by decide +kernel
theorem dX0_leastOpening_112 : decode cX0_leastOpening 112 = .ok (.if_icmp .ne 7, 3) := by decide +kernel
theorem dX0_leastOpening_115 : decode cX0_leastOpening 115 = .ok (.iconst 1, 1) := by decide +kernel
theorem dX0_leastOpening_116 : decode cX0_leastOpening 116 = .ok (.goto 4, 3) := by decide +kernel
theorem dX0_leastOpening_119 : decode cX0_leastOpening 119 = .ok (.iconst 0, 1) := by decide +kernel
theorem dX0_leastOpening_120 : decode cX0_leastOpening 120 = .ok (.istore 7, 2) := by decide +kernel
theorem dX0_leastOpening_122 : decode cX0_leastOpening 122 = .ok (.iload 7, 2) := by decide +kernel
theorem dX0_leastOpening_124 : decode cX0_leastOpening 124 = .ok (.ifCond .eq 17, 3) := by decide +kernel
theorem dX0_leastOpening_127 : decode cX0_leastOpening 127 = .ok (.iload_n 2, 1) := by decide +kernel
theorem dX0_leastOpening_128 : decode cX0_leastOpening 128 = .ok (.iconst (-1), 1) := by decide +kernel
theorem dX0_leastOpening_129 : decode cX0_leastOpening 129 = .ok (.if_icmp .eq 9, 3) := by decide +kernel
theorem dX0_leastOpening_132 : decode cX0_leastOpening 132 = .ok (.iload 6, 2) := by decide +kernel
theorem dX0_leastOpening_134 : decode cX0_leastOpening 134 = .ok (.iload_n 2, 1) := by decide +kernel
theorem dX0_leastOpening_135 : decode cX0_leastOpening 135 = .ok (.if_icmp .ge 6, 3) := by decide +kernel
theorem dX0_leastOpening_138 : decode cX0_leastOpening 138 = .ok (.iload 6, 2) := by decide +kernel
theorem dX0_leastOpening_140 : decode cX0_leastOpening 140 = .ok (.istore_n 2, 1) := by decide +kernel
theorem dX0_leastOpening_141 : decode cX0_leastOpening 141 = .ok (.iinc 3 1, 3) := by decide +kernel
theorem dX0_leastOpening_144 : decode cX0_leastOpening 144 = .ok (.goto (-140), 3) := by decide +kernel
theorem dX0_leastOpening_147 : decode cX0_leastOpening 147 = .ok (.iload_n 2, 1) := by decide +kernel
theorem dX0_leastOpening_148 : decode cX0_leastOpening 148 = .ok (.ireturn, 1) := by decide +kernel
set_option maxRecDepth 20000 in
theorem ggX0_leastOpening_X7_passTime : GoodIn wsX0_leastOpening wsX7_passTime := goodIn_r _ [9, 10, 11, 12, 13, 8, 14, 15, 16, 17, 18, 27, 28, 29, 30] rfl (by decide +kernel)
set_option maxRecDepth 20000 in
theorem gX0_leastOpening_X7_passTime : GoodIn wsX0_leastOpening (wsV RX0 64 RX7 yX7_passTime wsX7_passTime) := goodIn_app (goodIn_of _ (by decide +kernel)) ggX0_leastOpening_X7_passTime
set_option maxHeartbeats 4000000 in
set_option maxRecDepth 100000 in
theorem S_X0_leastOpening (l : Launch) (D : va_G) (K : Nat → ClassId) (a : Nat → Nat) (G : gS) (p0 : Int32) (s0 : Int) (e0 : p0.toInt = s0) (hI : xI G) (sz : Nat) : Ki l yX0_leastOpening wsX0_leastOpening 3 86 0 0 D [.ref (a 7), .int p0] (xW K a G) (tK K) sz (fun (r : Int32) (_ : Unit) => True) (fun (_ : Unit) => (xW K a G)) (fun _ => (tK K)) := by
  unfold Ki
  refine g_ofW (cc := cX0_leastOpening) (lv := [(0, .ref (a 7)), (1, .int p0)]) (by decide) rfl (Nat.le_of_ble_eq_true rfl) rfl ?_
  intro p e s m args below meth c A Q hA hQ F hr hnm
  have hts := F.2.2.2.2.1
  have w_0 : (Cond.fieldLink RX0 9 "QuietCut$Chooser" "speedOf" "[I").before args s = true := hts _ (List.mem_of_getElem? (i := 1) rfl)
  have i_X0 : ∀ w ∈ u_ws RX0 TX0 8, w ∈ wsX0_leastOpening := fun _ h => List.mem_cons_of_mem _ (List.mem_append_left _ (List.mem_append_right _ h))
  have w_1 : (Cond.fieldLink RX0 15 "QuietCut$Chooser" "leastTime" "[I").before args s = true := hts _ (List.mem_of_getElem? (i := 2) rfl)
  have w_2 : (Cond.fieldLink RX0 24 "QuietCut$Chooser" "shop" "LQuietCut$Shop;").before args s = true := hts _ (List.mem_of_getElem? (i := 3) rfl)
  have w_3 : (Cond.fieldLink RX0 18 "QuietCut$Chooser" "fewest" "[I").before args s = true := hts _ (List.mem_of_getElem? (i := 4) rfl)
  have rg0 : -2147483648 ≤ s0 ∧ s0 ≤ 2147483647 := e0 ▸ ti_rng p0
  have J_4 : ∀ (fuel : Nat) (x4_2 : Int32) (x4_3 : Int32), (2147483647 - x4_3.toInt).toNat < fuel → (1 ≤ x4_3.toInt ∧ x4_3.toInt ≤ 21) → gG p l e (gR 3 0 0 86) s m args below meth c D A 8 Q 0 0 (xW K a G) (tK K) [(0, .ref (a 7)), (1, .int p0), (2, .int x4_2), (3, .int x4_3)] 4 [] := by
    intro fuel
    induction fuel with
    | zero => intro x4_2 x4_3 hm; exact absurd hm (Nat.not_lt_zero _)
    | succ fuel_4 ih_4 =>
      intro x4_2 x4_3 hm_4 h4_3
      have J_141 : ∀  (x141_2 : Int32), (1 ≤ s0 ∧ s0 ≤ 2147483647) → (1 ≤ x4_3.toInt ∧ x4_3.toInt ≤ 20) → gG p l e (gR 3 0 0 86) s m args below meth c D A 8 Q 0 0 (xW K a G) (tK K) [(0, .ref (a 7)), (1, .int p0), (2, .int x141_2), (3, .int x4_3)] 141 [] := by
        intro x141_2 k141_1 k141_3
        refine u_iinc F (fun v_ => [(3, .int v_), (0, .ref (a 7)), (1, .int p0), (2, .int x141_2)]) dX0_leastOpening_141 (j := 3) rfl x4_3.toInt 1 rfl rfl (by omega) (by omega) (by decide) (fun _ => rfl) (fun y1 ey1 => ?_)
        refine g_goto F 4 dX0_leastOpening_144 (by decide) ?_
        refine g_locals [(0, .ref (a 7)), (1, .int p0), (2, .int x141_2), (3, .int y1)] [1, 2, 3, 0] rfl ?_
        exact ih_4 x141_2 y1 (by omega) (by have h9 := ti_rng y1; omega)
      have J_138 : ∀  (x138_6 : Int32), (1 ≤ s0 ∧ s0 ≤ 400) → (1 ≤ x4_3.toInt ∧ x4_3.toInt ≤ 20) → gG p l e (gR 3 0 0 86) s m args below meth c D A 8 Q 0 0 (xW K a G) (tK K) [(0, .ref (a 7)), (1, .int p0), (3, .int x4_3), (6, .int x138_6)] 138 [] := by
        intro x138_6 k138_1 k138_3
        refine g_iload F 3 dX0_leastOpening_138 rfl ?_
        refine g_istore_n F [(2, .int x138_6), (0, .ref (a 7)), (1, .int p0), (3, .int x4_3), (6, .int x138_6)] dX0_leastOpening_140 rfl (by decide) rfl ?_
        refine g_locals [(0, .ref (a 7)), (1, .int p0), (2, .int x138_6), (3, .int x4_3)] [1, 2, 0, 3] rfl ?_
        exact J_141 x138_6 (by have h9 := ti_rng p0; omega) (by have h9 := ti_rng x4_3; omega)
      have J_120 : ∀  (x120_6 : Int32) (z120_0 : Int32), (1 ≤ s0 ∧ s0 ≤ 400) → (1 ≤ x4_3.toInt ∧ x4_3.toInt ≤ 20) → (0 ≤ z120_0.toInt ∧ z120_0.toInt ≤ 1) → gG p l e (gR 3 0 0 86) s m args below meth c D A 8 Q 0 0 (xW K a G) (tK K) [(0, .ref (a 7)), (1, .int p0), (2, .int x4_2), (3, .int x4_3), (6, .int x120_6)] 120 [.int z120_0] := by
        intro x120_6 z120_0 k120_1 k120_3 g120_0
        refine g_istore F [(7, .int z120_0), (0, .ref (a 7)), (1, .int p0), (2, .int x4_2), (3, .int x4_3), (6, .int x120_6)] dX0_leastOpening_120 (by decide) rfl ?_
        refine g_iload F 0 dX0_leastOpening_122 rfl ?_
        refine v_if_eq F 141 dX0_leastOpening_124 (by decide) z120_0.toInt rfl (fun c2 => ?_) (fun c2 => ?_)
        · refine g_locals [(0, .ref (a 7)), (1, .int p0), (2, .int x4_2), (3, .int x4_3)] [1, 2, 3, 4] rfl ?_
          exact J_141 x4_2 (by have h9 := ti_rng p0; omega) (by have h9 := ti_rng x4_3; omega)
        · refine g_iload_n F 3 dX0_leastOpening_127 rfl rfl ?_
          refine g_iconst F (-1) dX0_leastOpening_128 (by decide) ?_
          refine v_icmp_eq F 138 dX0_leastOpening_129 (by decide) x4_2.toInt (-1) rfl rfl (fun c3 => ?_) (fun c3 => ?_)
          · refine g_locals [(0, .ref (a 7)), (1, .int p0), (3, .int x4_3), (6, .int x120_6)] [1, 2, 4, 5] rfl ?_
            exact J_138 x120_6 (by have h9 := ti_rng p0; omega) (by have h9 := ti_rng x4_3; omega)
          · refine g_iload F 5 dX0_leastOpening_132 rfl ?_
            refine g_iload_n F 3 dX0_leastOpening_134 rfl rfl ?_
            have b4 := ti_rng x120_6
            have b5 := ti_rng x4_2
            refine v_icmp_ge F 141 dX0_leastOpening_135 (by decide) x120_6.toInt x4_2.toInt rfl rfl (fun c6 => ?_) (fun c6 => ?_)
            · refine g_locals [(0, .ref (a 7)), (1, .int p0), (2, .int x4_2), (3, .int x4_3)] [1, 2, 3, 4] rfl ?_
              exact J_141 x4_2 (by have h9 := ti_rng p0; omega) (by have h9 := ti_rng x4_3; omega)
            · refine g_locals [(0, .ref (a 7)), (1, .int p0), (3, .int x4_3), (6, .int x120_6)] [1, 2, 4, 5] rfl ?_
              exact J_138 x120_6 (by have h9 := ti_rng p0; omega) (by have h9 := ti_rng x4_3; omega)
      have J_119 : ∀  (x119_6 : Int32), (1 ≤ s0 ∧ s0 ≤ 400) → (1 ≤ x4_3.toInt ∧ x4_3.toInt ≤ 20) → gG p l e (gR 3 0 0 86) s m args below meth c D A 8 Q 0 0 (xW K a G) (tK K) [(0, .ref (a 7)), (1, .int p0), (2, .int x4_2), (3, .int x4_3), (6, .int x119_6)] 119 [] := by
        intro x119_6 k119_1 k119_3
        refine g_iconst F 0 dX0_leastOpening_119 (by decide) ?_
        exact J_120 x119_6 0 (by have h9 := ti_rng p0; omega) (by have h9 := ti_rng x4_3; omega) (by decide)
      refine g_iload_n F 3 dX0_leastOpening_4 rfl rfl ?_
      refine g_bipush F 20 dX0_leastOpening_5 (by decide) ?_
      refine v_icmp_gt F 147 dX0_leastOpening_7 (by decide) x4_3.toInt 20 rfl rfl (fun c7 => ?_) (fun c7 => ?_)
      · refine g_iload_n F 2 dX0_leastOpening_147 rfl rfl ?_
        exact u_iret F hA hQ hr () (trivial) rfl rfl dX0_leastOpening_148
      · refine g_iload_n F 3 dX0_leastOpening_10 rfl rfl ?_
        refine g_iload_n F 1 dX0_leastOpening_11 rfl rfl ?_
        refine v_icmp_gt F 147 dX0_leastOpening_12 (by decide) x4_3.toInt s0 rfl e0 (fun c8 => ?_) (fun c8 => ?_)
        · refine g_iload_n F 2 dX0_leastOpening_147 rfl rfl ?_
          exact u_iret F hA hQ hr () (trivial) rfl rfl dX0_leastOpening_148
        · refine g_aload_n F 0 dX0_leastOpening_15 rfl rfl ?_
          refine xg_7_3 F i_X0 w_0 dX0_leastOpening_16 ?_
          refine g_iload_n F 3 dX0_leastOpening_19 rfl rfl ?_
          refine u_iald F 49 0 xc_49 rfl x4_3.toInt rfl (by omega) (by omega) dX0_leastOpening_20 (fun _ => True) (fun _ => trivial) (fun y9 by9 => ?_)
          refine g_istore F [(4, .int y9), (0, .ref (a 7)), (1, .int p0), (2, .int x4_2), (3, .int x4_3)] dX0_leastOpening_21 (by decide) rfl ?_
          refine g_iload_n F 2 dX0_leastOpening_23 rfl rfl ?_
          refine g_iload_n F 4 dX0_leastOpening_24 rfl rfl ?_
          refine u_isub F dX0_leastOpening_25 s0 x4_3.toInt e0 rfl (by omega) (by omega) (fun y10 ey10 => ?_)
          refine g_istore F [(5, .int y10), (4, .int y9), (0, .ref (a 7)), (1, .int p0), (2, .int x4_2), (3, .int x4_3)] dX0_leastOpening_26 (by decide) rfl ?_
          refine g_iload F 1 dX0_leastOpening_28 rfl ?_
          refine v_if_eq F 141 dX0_leastOpening_30 (by decide) y9.toInt rfl (fun c11 => ?_) (fun c11 => ?_)
          · refine g_locals [(0, .ref (a 7)), (1, .int p0), (2, .int x4_2), (3, .int x4_3)] [2, 3, 4, 5] rfl ?_
            exact J_141 x4_2 (by have h9 := ti_rng p0; omega) (by have h9 := ti_rng x4_3; omega)
          · refine g_iload F 0 dX0_leastOpening_33 rfl ?_
            refine g_sipush F 400 dX0_leastOpening_35 (by decide) ?_
            refine v_icmp_gt F 141 dX0_leastOpening_38 (by decide) y10.toInt 400 rfl rfl (fun c12 => ?_) (fun c12 => ?_)
            · refine g_locals [(0, .ref (a 7)), (1, .int p0), (2, .int x4_2), (3, .int x4_3)] [2, 3, 4, 5] rfl ?_
              exact J_141 x4_2 (by have h9 := ti_rng p0; omega) (by have h9 := ti_rng x4_3; omega)
            · refine g_iload_n F 3 dX0_leastOpening_41 rfl rfl ?_
              refine g_sipush F 400 dX0_leastOpening_42 (by decide) ?_
              refine v_icmp_gt F 141 dX0_leastOpening_45 (by decide) s0 400 e0 rfl (fun c13 => ?_) (fun c13 => ?_)
              · refine g_locals [(0, .ref (a 7)), (1, .int p0), (2, .int x4_2), (3, .int x4_3)] [2, 3, 4, 5] rfl ?_
                exact J_141 x4_2 (by have h9 := ti_rng p0; omega) (by have h9 := ti_rng x4_3; omega)
              · refine g_aload_n F 2 dX0_leastOpening_48 rfl rfl ?_
                refine xg_7_4 F i_X0 w_1 dX0_leastOpening_49 ?_
                refine g_iload F 0 dX0_leastOpening_52 rfl ?_
                refine u_iald F 50 0 xc_50 rfl y10.toInt rfl (by omega) (by omega) dX0_leastOpening_54 (fun _ => True) (fun _ => trivial) (fun y14 by14 => ?_)
                refine g_iconst F (-1) dX0_leastOpening_55 (by decide) ?_
                refine v_icmp_ne F 62 dX0_leastOpening_56 (by decide) y14.toInt (-1) rfl rfl (fun c15 => ?_) (fun c15 => ?_)
                · refine g_bipush F 20 dX0_leastOpening_62 (by decide) ?_
                  refine g_iload F 1 dX0_leastOpening_64 rfl ?_
                  refine u0_imul F dX0_leastOpening_66 (fun y16 => ?_)
                  refine g_iload_n F 5 dX0_leastOpening_67 rfl rfl ?_
                  refine u0_iadd F dX0_leastOpening_68 (fun y17 => ?_)
                  refine g_istore F [(6, .int y17), (5, .int y10), (4, .int y9), (0, .ref (a 7)), (1, .int p0), (2, .int x4_2), (3, .int x4_3)] dX0_leastOpening_69 (by decide) rfl ?_
                  refine g_aload_n F 3 dX0_leastOpening_71 rfl rfl ?_
                  refine xg_7_4 F i_X0 w_1 dX0_leastOpening_72 ?_
                  refine g_iload F 1 dX0_leastOpening_75 rfl ?_
                  refine u_iald F 50 0 xc_50 rfl y10.toInt rfl (by omega) (by omega) dX0_leastOpening_77 (fun _ => True) (fun _ => trivial) (fun y18 by18 => ?_)
                  refine g_aload_n F 3 dX0_leastOpening_78 rfl rfl ?_
                  refine xg_7_0 F i_X0 w_2 dX0_leastOpening_79 ?_
                  refine g_iload F 2 dX0_leastOpening_82 rfl ?_
                  refine u_callVi (k := 0) (n := 0) (b := a 2) (As := [.int y9]) (st := [.int y18]) F (fun sz => S_X7_passTime_2 l D K a G y9 y9.toInt rfl hI sz) (cwV 1 hts gX0_leastOpening_X7_passTime rfl rfl rfl (by decide +kernel) ⟨Nat.le_of_ble_eq_true rfl, Nat.le_of_ble_eq_true rfl⟩) rfl 2 xc_2 rfl (Nat.le_of_ble_eq_true rfl) ⟨Nat.zero_le _, Nat.zero_le _⟩ dX0_leastOpening_84 (fun r19 _ hw20 => ?_)
                  refine u0_iadd F dX0_leastOpening_87 (fun y22 => ?_)
                  refine g_aload_n F 3 dX0_leastOpening_88 rfl rfl ?_
                  refine xg_7_4 F i_X0 w_1 dX0_leastOpening_89 ?_
                  refine g_iload_n F 4 dX0_leastOpening_92 rfl rfl ?_
                  refine u_iald F 50 0 xc_50 rfl s0 e0 (by omega) (by omega) dX0_leastOpening_93 (fun _ => True) (fun _ => trivial) (fun y23 by23 => ?_)
                  have b24 := ti_rng y22
                  have b25 := ti_rng y23
                  refine v_icmp_ne F 119 dX0_leastOpening_94 (by decide) y22.toInt y23.toInt rfl rfl (fun c26 => ?_) (fun c26 => ?_)
                  · refine g_locals [(0, .ref (a 7)), (1, .int p0), (2, .int x4_2), (3, .int x4_3), (6, .int y17)] [3, 4, 5, 6, 0] rfl ?_
                    exact J_119 y17 (by have h9 := ti_rng p0; omega) (by have h9 := ti_rng x4_3; omega)
                  · refine g_aload_n F 3 dX0_leastOpening_97 rfl rfl ?_
                    refine xg_7_5 F i_X0 w_3 dX0_leastOpening_98 ?_
                    refine g_iload F 1 dX0_leastOpening_101 rfl ?_
                    refine u_iald F 51 0 xc_51 rfl y10.toInt rfl (by omega) (by omega) dX0_leastOpening_103 (fun _ => True) (fun _ => trivial) (fun y27 by27 => ?_)
                    refine g_iconst F 1 dX0_leastOpening_104 (by decide) ?_
                    refine u_iaddc F dX0_leastOpening_105 y27.toInt 1 rfl rfl (fun y28 ey28 => ?_)
                    refine g_aload_n F 3 dX0_leastOpening_106 rfl rfl ?_
                    refine xg_7_5 F i_X0 w_3 dX0_leastOpening_107 ?_
                    refine g_iload_n F 4 dX0_leastOpening_110 rfl rfl ?_
                    refine u_iald F 51 0 xc_51 rfl s0 e0 (by omega) (by omega) dX0_leastOpening_111 (fun _ => True) (fun _ => trivial) (fun y29 by29 => ?_)
                    have b30 := ti_rng y28
                    have b31 := ti_rng y29
                    refine v_icmp_ne F 119 dX0_leastOpening_112 (by decide) y28.toInt y29.toInt rfl rfl (fun c32 => ?_) (fun c32 => ?_)
                    · refine g_locals [(0, .ref (a 7)), (1, .int p0), (2, .int x4_2), (3, .int x4_3), (6, .int y17)] [3, 4, 5, 6, 0] rfl ?_
                      exact J_119 y17 (by have h9 := ti_rng p0; omega) (by have h9 := ti_rng x4_3; omega)
                    · refine g_iconst F 1 dX0_leastOpening_115 (by decide) ?_
                      refine g_goto F 120 dX0_leastOpening_116 (by decide) ?_
                      refine g_locals [(0, .ref (a 7)), (1, .int p0), (2, .int x4_2), (3, .int x4_3), (6, .int y17)] [3, 4, 5, 6, 0] rfl ?_
                      exact J_120 y17 1 (by have h9 := ti_rng p0; omega) (by have h9 := ti_rng x4_3; omega) (by decide)
                · refine g_goto F 141 dX0_leastOpening_59 (by decide) ?_
                  refine g_locals [(0, .ref (a 7)), (1, .int p0), (2, .int x4_2), (3, .int x4_3)] [2, 3, 4, 5] rfl ?_
                  exact J_141 x4_2 (by have h9 := ti_rng p0; omega) (by have h9 := ti_rng x4_3; omega)
  refine g_iconst F (-1) dX0_leastOpening_0 (by decide) ?_
  refine g_istore_n F [(2, .int (-1)), (0, .ref (a 7)), (1, .int p0)] dX0_leastOpening_1 rfl (by decide) rfl ?_
  refine g_iconst F 1 dX0_leastOpening_2 (by decide) ?_
  refine g_istore_n F [(3, .int 1), (2, .int (-1)), (0, .ref (a 7)), (1, .int p0)] dX0_leastOpening_3 rfl (by decide) rfl ?_
  refine g_locals [(0, .ref (a 7)), (1, .int p0), (2, .int (-1)), (3, .int 1)] [2, 3, 1, 0] rfl ?_
  exact J_4 _ (-1) 1 (Nat.lt_succ_self _) (by decide)

theorem dX0_keepLeastRow_0 : decode cX0_keepLeastRow 0 = .ok (.aload_n 0, 1) := by decide +kernel
theorem dX0_keepLeastRow_1 : decode cX0_keepLeastRow 1 = .ok (.iconst 0, 1) := by decide +kernel
theorem dX0_keepLeastRow_2 : decode cX0_keepLeastRow 2 = .ok (.putfield 111, 3) := by decide +kernel
theorem dX0_keepLeastRow_5 : decode cX0_keepLeastRow 5 = .ok (.iload_n 1, 1) := by decide +kernel
theorem dX0_keepLeastRow_6 : decode cX0_keepLeastRow 6 = .ok (.istore_n 2, 1) := by decide +kernel
theorem dX0_keepLeastRow_7 : decode cX0_keepLeastRow 7 = .ok (.iconst 0, 1) := by decide +kernel
theorem dX0_keepLeastRow_8 : decode cX0_keepLeastRow 8 = .ok (.istore_n 3, 1) := by decide +kernel
theorem dX0_keepLeastRow_9 : decode cX0_keepLeastRow 9 = .ok (.iload_n 3, 1) := by decide +kernel
theorem dX0_keepLeastRow_10 : decode cX0_keepLeastRow 10 = .ok (.sipush 400, 3) := by decide +kernel
theorem dX0_keepLeastRow_13 : decode cX0_keepLeastRow 13 = .ok (.if_icmp .ge 56, 3) := by decide +kernel
theorem dX0_keepLeastRow_16 : decode cX0_keepLeastRow 16 = .ok (.iload_n 2, 1) := by decide +kernel
theorem dX0_keepLeastRow_17 : decode cX0_keepLeastRow 17 = .ok (.ifCond .le 52, 3) := by decide +kernel
theorem dX0_keepLeastRow_20 : decode cX0_keepLeastRow 20 = .ok (.aload_n 0, 1) := by decide +kernel
theorem dX0_keepLeastRow_21 : decode cX0_keepLeastRow 21 = .ok (.iload_n 2, 1) := by decide +kernel
theorem dX0_keepLeastRow_22 : decode cX0_keepLeastRow 22 = .ok (.invokevirtual 114, 3) := by decide +kernel
theorem dX0_keepLeastRow_25 : decode cX0_keepLeastRow 25 = .ok (.istore 4, 2) := by decide +kernel
theorem dX0_keepLeastRow_27 : decode cX0_keepLeastRow 27 = .ok (.iload 4, 2) := by decide +kernel
theorem dX0_keepLeastRow_29 : decode cX0_keepLeastRow 29 = .ok (.iconst (-1), 1) := by decide +kernel
theorem dX0_keepLeastRow_30 : decode cX0_keepLeastRow 30 = .ok (.if_icmp .ne 4, 3) := by decide +kernel
theorem dX0_keepLeastRow_33 : decode cX0_keepLeastRow 33 = .ok (.return_, 1) := by decide +kernel
theorem dX0_keepLeastRow_34 : decode cX0_keepLeastRow 34 = .ok (.aload_n 0, 1) := by decide +kernel
theorem dX0_keepLeastRow_35 : decode cX0_keepLeastRow 35 = .ok (.getfield 21, 3) := by decide +kernel
theorem dX0_keepLeastRow_38 : decode cX0_keepLeastRow 38 = .ok (.aload_n 0, 1) := by decide +kernel
theorem dX0_keepLeastRow_39 : decode cX0_keepLeastRow 39 = .ok (.getfield 111, 3) := by decide +kernel
theorem dX0_keepLeastRow_42 : decode cX0_keepLeastRow 42 = .ok (.iload 4, 2) := by decide +kernel
theorem dX0_keepLeastRow_44 : decode cX0_keepLeastRow 44 = .ok (.iastore, 1) := by decide +kernel
theorem dX0_keepLeastRow_45 : decode cX0_keepLeastRow 45 = .ok (.aload_n 0, 1) := by decide +kernel
theorem dX0_keepLeastRow_46 : decode cX0_keepLeastRow 46 = .ok (.dup, 1) := by decide +kernel
theorem dX0_keepLeastRow_47 : decode cX0_keepLeastRow 47 = .ok (.getfield 111, 3) := by decide +kernel
theorem dX0_keepLeastRow_50 : decode cX0_keepLeastRow 50 = .ok (.iconst 1, 1) := by decide +kernel
theorem dX0_keepLeastRow_51 : decode cX0_keepLeastRow 51 = .ok (.iadd, 1) := by decide +kernel
theorem dX0_keepLeastRow_52 : decode cX0_keepLeastRow 52 = .ok (.putfield 111, 3) := by decide +kernel
theorem dX0_keepLeastRow_55 : decode cX0_keepLeastRow 55 = .ok (.iload_n 2, 1) := by decide +kernel
theorem dX0_keepLeastRow_56 : decode cX0_keepLeastRow 56 = .ok (.iload 4, 2) := by decide +kernel
theorem dX0_keepLeastRow_58 : decode cX0_keepLeastRow 58 = .ok (.invokestatic 117, 3) := by decide +kernel
theorem dX0_keepLeastRow_61 : decode cX0_keepLeastRow 61 = .ok (.isub, 1) := by decide +kernel
theorem dX0_keepLeastRow_62 : decode cX0_keepLeastRow 62 = .ok (.istore_n 2, 1) := by decide +kernel
theorem dX0_keepLeastRow_63 : decode cX0_keepLeastRow 63 = .ok (.iinc 3 1, 3) := by decide +kernel
theorem dX0_keepLeastRow_66 : decode cX0_keepLeastRow 66 = .ok (.goto (-57), 3) := by decide +kernel
theorem dX0_keepLeastRow_69 : decode cX0_keepLeastRow 69 = .ok (.return_, 1) := by decide +kernel
set_option maxRecDepth 20000 in
theorem ggX0_keepLeastRow_X0_feedOf : GoodIn wsX0_keepLeastRow wsX0_feedOf := goodIn_r _ [28] rfl (by decide +kernel)
set_option maxRecDepth 20000 in
theorem gX0_keepLeastRow_X0_feedOf : GoodIn wsX0_keepLeastRow (va_wsS RX0 117 yX0_feedOf wsX0_feedOf) := goodIn_app (goodIn_of _ (by decide +kernel)) ggX0_keepLeastRow_X0_feedOf
set_option maxRecDepth 20000 in
theorem ggX0_keepLeastRow_X0_leastOpening : GoodIn wsX0_keepLeastRow wsX0_leastOpening := goodIn_r _ [7, 8, 9, 10, 11, 12, 13, 14, 15, 16, 17, 18, 19, 20, 21, 22, 23, 24, 25, 29, 30, 31, 32, 33, 34, 35, 36, 37, 38, 39, 40] rfl (by decide +kernel)
set_option maxRecDepth 20000 in
theorem gX0_keepLeastRow_X0_leastOpening : GoodIn wsX0_keepLeastRow (wsV RX0 114 RX0 yX0_leastOpening wsX0_leastOpening) := goodIn_app (goodIn_of _ (by decide +kernel)) ggX0_keepLeastRow_X0_leastOpening
set_option maxHeartbeats 4000000 in
set_option maxRecDepth 100000 in
theorem S_X0_keepLeastRow (l : Launch) (D : va_G) (K : Nat → ClassId) (a : Nat → Nat) (G : gS) (p0 : Int32) (s0 : Int) (e0 : p0.toInt = s0) (hI : xI G) (sz : Nat) : Kv l yX0_keepLeastRow wsX0_keepLeastRow 4 113 0 0 D [.ref (a 7), .int p0] (xW K a G) (tK K) sz (fun (G' : gS) => (xI G') ∧ (gu_un xcd [708, 5200] G G')) (fun (G' : gS) => (xW K a G')) (fun _ => (tK K)) := by
  unfold Kv
  refine g_ofW (cc := cX0_keepLeastRow) (lv := [(0, .ref (a 7)), (1, .int p0)]) (by decide) rfl (Nat.le_of_ble_eq_true rfl) rfl ?_
  intro p e s m args below meth c A Q hA hQ F hr hnm
  have hts := F.2.2.2.2.1
  have w_0 : (Cond.fieldLink RX0 21 "QuietCut$Chooser" "planRow" "[I").before args s = true := hts _ (List.mem_of_getElem? (i := 2) rfl)
  have i_X0 : ∀ w ∈ u_ws RX0 TX0 8, w ∈ wsX0_keepLeastRow := fun _ h => List.mem_cons_of_mem _ (List.mem_append_left _ (List.mem_append_right _ h))
  have w_1 : (Cond.fieldLink RX0 111 "QuietCut$Chooser" "planMany" "I").before args s = true := hts _ (List.mem_of_getElem? (i := 1) rfl)
  have rg0 : -2147483648 ≤ s0 ∧ s0 ≤ 2147483647 := e0 ▸ ti_rng p0
  have J_9 : ∀ (fuel : Nat) (x9_2 : Int32) (x9_3 : Int32) (Gj9 : gS), (2147483647 - x9_3.toInt).toNat < fuel → (0 ≤ x9_3.toInt ∧ x9_3.toInt ≤ 400) → (xI Gj9) → (gu_un xcd [708, 5200] G Gj9) → ((Gj9 7 7).toInt = x9_3.toInt) → gG p l e (gR 4 0 0 113) s m args below meth c D A 5 Q 0 0 (xW K a Gj9) (tK K) [(0, .ref (a 7)), (2, .int x9_2), (3, .int x9_3)] 9 [] := by
    intro fuel
    induction fuel with
    | zero => intro x9_2 x9_3 Gj9 hm; exact absurd hm (Nat.not_lt_zero _)
    | succ fuel_9 ih_9 =>
      intro x9_2 x9_3 Gj9 hm_9 h9_3 jI9 jU9 hv
      refine g_iload_n F 2 dX0_keepLeastRow_9 rfl rfl ?_
      refine g_sipush F 400 dX0_keepLeastRow_10 (by decide) ?_
      refine v_icmp_ge F 69 dX0_keepLeastRow_13 (by decide) x9_3.toInt 400 rfl rfl (fun c1 => ?_) (fun c1 => ?_)
      · exact u_vret F hA hQ hr Gj9 (⟨jI9, (gu_un.tr gu_un.rf (gu_un.su jU9 rfl))⟩) rfl rfl dX0_keepLeastRow_69
      · refine g_iload_n F 1 dX0_keepLeastRow_16 rfl rfl ?_
        refine v_if_le F 69 dX0_keepLeastRow_17 (by decide) x9_2.toInt rfl (fun c2 => ?_) (fun c2 => ?_)
        · exact u_vret F hA hQ hr Gj9 (⟨jI9, (gu_un.tr gu_un.rf (gu_un.su jU9 rfl))⟩) rfl rfl dX0_keepLeastRow_69
        · refine g_aload_n F 0 dX0_keepLeastRow_20 rfl rfl ?_
          refine g_iload_n F 1 dX0_keepLeastRow_21 rfl rfl ?_
          have b3 := ti_rng x9_2
          refine u_callVi (k := 0) (n := 0) (b := a 7) (As := [.int x9_2]) (st := []) F (fun sz => S_X0_leastOpening l D K a Gj9 x9_2 x9_2.toInt rfl jI9 sz) (cwV 1 hts gX0_keepLeastRow_X0_leastOpening rfl rfl rfl (by decide +kernel) ⟨Nat.le_of_ble_eq_true rfl, Nat.le_of_ble_eq_true rfl⟩) rfl 7 xc_7 rfl (Nat.le_of_ble_eq_true rfl) ⟨Nat.zero_le _, Nat.zero_le _⟩ dX0_keepLeastRow_22 (fun r4 _ hw5 => ?_)
          refine g_istore F [(4, .int r4), (0, .ref (a 7)), (2, .int x9_2), (3, .int x9_3)] dX0_keepLeastRow_25 (by decide) rfl ?_
          refine g_iload F 0 dX0_keepLeastRow_27 rfl ?_
          refine g_iconst F (-1) dX0_keepLeastRow_29 (by decide) ?_
          refine v_icmp_ne F 34 dX0_keepLeastRow_30 (by decide) r4.toInt (-1) rfl rfl (fun c7 => ?_) (fun c7 => ?_)
          · refine g_aload_n F 1 dX0_keepLeastRow_34 rfl rfl ?_
            refine xg_7_6 F i_X0 w_0 dX0_keepLeastRow_35 ?_
            refine g_aload_n F 1 dX0_keepLeastRow_38 rfl rfl ?_
            refine xg_7_7 F i_X0 w_1 dX0_keepLeastRow_39 (Gj9 7 7) (rfl) ?_
            refine g_iload F 0 dX0_keepLeastRow_42 rfl ?_
            have b8 : (0 : Int) ≤ (Gj9 7 7).toInt ∧ (Gj9 7 7).toInt ≤ 400 := jI9 7 7
            refine u_iast F 52 0 xc_52 rfl (Gj9 7 7).toInt rfl (by omega) (by omega) (xW K a (gu_up Gj9 52 ((Gj9 7 7).toInt).toNat r4)) (xs_52 _) dX0_keepLeastRow_44 ?_
            refine g_aload_n F 1 dX0_keepLeastRow_45 rfl rfl ?_
            refine g_dup F dX0_keepLeastRow_46 rfl ?_
            refine xg_7_7 F i_X0 w_1 dX0_keepLeastRow_47 (Gj9 7 7) (rfl) ?_
            refine g_iconst F 1 dX0_keepLeastRow_50 (by decide) ?_
            refine u_iadd F dX0_keepLeastRow_51 (Gj9 7 7).toInt 1 rfl rfl (by omega) (by omega) (fun y9 ey9 => ?_)
            refine xp_7_7 F i_X0 w_1 dX0_keepLeastRow_52 ?_
            refine g_iload_n F 2 dX0_keepLeastRow_55 rfl rfl ?_
            refine g_iload F 0 dX0_keepLeastRow_56 rfl ?_
            refine u_call0 (k := 0) (n := 0) (As := [.int r4]) (st := [.int x9_2]) F (fun sz => S_X0_feedOf l D r4 r4.toInt rfl sz) (va_cwS 1 hts gX0_keepLeastRow_X0_feedOf rfl rfl rfl (by decide +kernel) ⟨Nat.le_of_ble_eq_true rfl, Nat.le_of_ble_eq_true rfl⟩) rfl (Nat.le_of_ble_eq_true rfl) ⟨Nat.zero_le _, Nat.zero_le _⟩ dX0_keepLeastRow_58 (fun r10 _ hw11 => ?_)
            refine u0_isub F dX0_keepLeastRow_61 (fun y13 => ?_)
            refine g_istore_n F [(2, .int y13), (4, .int r4), (0, .ref (a 7)), (3, .int x9_3)] dX0_keepLeastRow_62 rfl (by decide) rfl ?_
            refine u_iinc F (fun v_ => [(3, .int v_), (2, .int y13), (4, .int r4), (0, .ref (a 7))]) dX0_keepLeastRow_63 (j := 3) rfl x9_3.toInt 1 rfl rfl (by omega) (by omega) (by decide) (fun _ => rfl) (fun y14 ey14 => ?_)
            refine g_goto F 9 dX0_keepLeastRow_66 (by decide) ?_
            refine g_locals [(0, .ref (a 7)), (2, .int y13), (3, .int y14)] [3, 1, 0] rfl ?_
            exact ih_9 y13 y14 (gu_up (gu_up Gj9 52 ((Gj9 7 7).toInt).toNat r4) 7 7 y9) (by omega) (by have h9 := ti_rng y14; omega) (gu_I.up (j := 7) (k := 7) (v := y9) (gu_I.up (j := 52) (k := ((Gj9 7 7).toInt).toNat) (v := r4) jI9 (ti_rng _).1 (ti_rng _).2) (show (0 : Int) ≤ Int32.toInt y9 by omega) (show Int32.toInt y9 ≤ 400 by omega)) (gu_un.up (j := 7) (k := 7) (v := y9) (gu_un.up (j := 52) (k := ((Gj9 7 7).toInt).toNat) (v := r4) (gu_un.tr gu_un.rf (gu_un.su jU9 rfl)) (show (5200 : Nat) ∈ ([708, 5200] : List Nat) by decide)) (show (708 : Nat) ∈ ([708, 5200] : List Nat) by decide)) (by have e9_7_7 : (gu_up (gu_up Gj9 52 ((Gj9 7 7).toInt).toNat r4) 7 7 y9) 7 7 = y9 := rfl; (try simp only [e9_7_7, true_and, and_true]) <;> (first | omega | (simp only [Int32.reduceToInt, true_and, and_true, ne_eq, not_true_eq_false, false_and, or_false, false_or, true_or, or_true, false_implies] <;> omega)))
          · exact u_vret F hA hQ hr Gj9 (⟨jI9, (gu_un.tr gu_un.rf (gu_un.su jU9 rfl))⟩) rfl rfl dX0_keepLeastRow_33
  refine g_aload_n F 0 dX0_keepLeastRow_0 rfl rfl ?_
  refine g_iconst F 0 dX0_keepLeastRow_1 (by decide) ?_
  refine xp_7_7 F i_X0 w_1 dX0_keepLeastRow_2 ?_
  refine g_iload_n F 1 dX0_keepLeastRow_5 rfl rfl ?_
  refine g_istore_n F [(2, .int p0), (0, .ref (a 7)), (1, .int p0)] dX0_keepLeastRow_6 rfl (by decide) rfl ?_
  refine g_iconst F 0 dX0_keepLeastRow_7 (by decide) ?_
  refine g_istore_n F [(3, .int 0), (2, .int p0), (0, .ref (a 7)), (1, .int p0)] dX0_keepLeastRow_8 rfl (by decide) rfl ?_
  refine g_locals [(0, .ref (a 7)), (2, .int p0), (3, .int 0)] [2, 1, 0] rfl ?_
  exact J_9 _ p0 0 (gu_up G 7 7 0) (Nat.lt_succ_self _) (by decide) (gu_I.up (j := 7) (k := 7) (v := 0) hI (show (0 : Int) ≤ (0 : Int32).toInt by decide) (show (0 : Int32).toInt ≤ 400 by decide)) (gu_un.up (j := 7) (k := 7) (v := 0) gu_un.rf (show (708 : Nat) ∈ ([708, 5200] : List Nat) by decide)) (by have e9_7_7 : (gu_up G 7 7 0) 7 7 = 0 := rfl; (try simp only [e9_7_7, true_and, and_true]) <;> (first | omega | (simp only [Int32.reduceToInt, true_and, and_true, ne_eq, not_true_eq_false, false_and, or_false, false_or, true_or, or_true, false_implies] <;> omega)))

theorem dX0_planTime_0 : decode cX0_planTime 0 = .ok (.aload_n 0, 1) := by decide +kernel
theorem dX0_planTime_1 : decode cX0_planTime 1 = .ok (.getfield 24, 3) := by decide +kernel
theorem dX0_planTime_4 : decode cX0_planTime 4 = .ok (.getfield 36, 3) := by decide +kernel
theorem dX0_planTime_7 : decode cX0_planTime 7 = .ok (.bipush 9, 2) := by decide +kernel
theorem dX0_planTime_9 : decode cX0_planTime 9 = .ok (.iaload, 1) := by decide +kernel
theorem dX0_planTime_10 : decode cX0_planTime 10 = .ok (.istore_n 3, 1) := by decide +kernel
theorem dX0_planTime_11 : decode cX0_planTime 11 = .ok (.iload_n 3, 1) := by decide +kernel
theorem dX0_planTime_12 : decode cX0_planTime 12 = .ok (.iconst 1, 1) := by decide +kernel
theorem dX0_planTime_13 : decode cX0_planTime 13 = .ok (.if_icmp .lt 16, 3) := by decide +kernel
theorem dX0_planTime_16 : decode cX0_planTime 16 = .ok (.iload_n 2, 1) := by decide +kernel
theorem dX0_planTime_17 : decode cX0_planTime 17 = .ok (.iload_n 3, 1) := by decide +kernel
theorem dX0_planTime_18 : decode cX0_planTime 18 = .ok (.irem, 1) := by decide +kernel
theorem dX0_planTime_19 : decode cX0_planTime 19 = .ok (.ifCond .ne 10, 3) := by decide +kernel
theorem dX0_planTime_22 : decode cX0_planTime 22 = .ok (.iload_n 2, 1) := by decide +kernel
theorem dX0_planTime_23 : decode cX0_planTime 23 = .ok (.sipush 400, 3) := by decide +kernel
theorem dX0_planTime_26 : decode cX0_planTime 26 = .ok (.if_icmp .le 5, 3) := by decide +kernel
theorem dX0_planTime_29 : decode cX0_planTime 29 = .ok (.iconst (-1), 1) := by decide +kernel
theorem dX0_planTime_30 : decode cX0_planTime 30 = .ok (.ireturn, 1) := by decide +kernel
theorem dX0_planTime_31 : decode cX0_planTime 31 = .ok (.iload_n 2, 1) := by decide +kernel
theorem dX0_planTime_32 : decode cX0_planTime 32 = .ok (.iload_n 3, 1) := by decide +kernel
theorem dX0_planTime_33 : decode cX0_planTime 33 = .ok (.idiv, 1) := by decide +kernel
theorem dX0_planTime_34 : decode cX0_planTime 34 = .ok (.istore 4, 2) := by decide +kernel
theorem dX0_planTime_36 : decode cX0_planTime 36 = .ok (.aload_n 0, 1) := by decide +kernel
theorem dX0_planTime_37 : decode cX0_planTime 37 = .ok (.iload_n 1, 1) := by decide +kernel
theorem dX0_planTime_38 : decode cX0_planTime 38 = .ok (.iload 4, 2) := by decide +kernel
theorem dX0_planTime_40 : decode cX0_planTime 40 = .ok (.bipush 20, 2) := by decide +kernel
theorem dX0_planTime_42 : decode cX0_planTime 42 = .ok (.invokestatic 82, 3) := by decide +kernel
theorem dX0_planTime_45 : decode cX0_planTime 45 = .ok (.invokevirtual 88, 3) := by decide +kernel
theorem dX0_planTime_48 : decode cX0_planTime 48 = .ok (.aload_n 0, 1) := by decide +kernel
theorem dX0_planTime_49 : decode cX0_planTime 49 = .ok (.iload 4, 2) := by decide +kernel
theorem dX0_planTime_51 : decode cX0_planTime 51 = .ok (.invokevirtual 92, 3) := by decide +kernel
theorem dX0_planTime_54 : decode cX0_planTime 54 = .ok (.aload_n 0, 1) := by decide +kernel
theorem dX0_planTime_55 : decode cX0_planTime 55 = .ok (.getfield 15, 3) := by decide +kernel
theorem dX0_planTime_58 : decode cX0_planTime 58 = .ok (.iload 4, 2) := by decide +kernel
theorem dX0_planTime_60 : decode cX0_planTime 60 = .ok (.iaload, 1) := by decide +kernel
theorem dX0_planTime_61 : decode cX0_planTime 61 = .ok (.iconst (-1), 1) := by decide +kernel
theorem dX0_planTime_62 : decode cX0_planTime 62 = .ok (.if_icmp .ne 5, 3) := by decide +kernel
theorem dX0_planTime_65 : decode cX0_planTime 65 = .ok (.iconst (-1), 1) := by decide +kernel
theorem dX0_planTime_66 : decode cX0_planTime 66 = .ok (.ireturn, 1) := by decide +kernel
theorem dX0_planTime_67 : decode cX0_planTime 67 = .ok (.aload_n 0, 1) := by decide +kernel
theorem dX0_planTime_68 : decode cX0_planTime 68 = .ok (.iload 4, 2) := by decide +kernel
theorem dX0_planTime_70 : decode cX0_planTime 70 = .ok (.invokevirtual 95, 3) := by decide +kernel
theorem dX0_planTime_73 : decode cX0_planTime 73 = .ok (.aload_n 0, 1) := by decide +kernel
theorem dX0_planTime_74 : decode cX0_planTime 74 = .ok (.getfield 15, 3) := by decide +kernel
theorem dX0_planTime_77 : decode cX0_planTime 77 = .ok (.iload 4, 2) := by decide +kernel
theorem dX0_planTime_79 : decode cX0_planTime 79 = .ok (.iaload, 1) := by decide +kernel
theorem dX0_planTime_80 : decode cX0_planTime 80 = .ok (.ireturn, 1) := by decide +kernel
set_option maxRecDepth 20000 in
theorem ggX0_planTime_X0_findLeastTimes : GoodIn wsX0_planTime wsX0_findLeastTimes := goodIn_r _ [135, 7, 136, 13, 1, 137, 138, 139, 39, 140, 41, 141, 121, 122, 123, 142, 129, 130, 131, 143, 144, 145, 11, 146, 147, 64, 5, 65, 161, 162, 163, 164, 165, 166, 167, 168, 169, 170, 171, 172] rfl (by decide +kernel)
set_option maxRecDepth 20000 in
theorem gX0_planTime_X0_findLeastTimes : GoodIn wsX0_planTime (wsV RX0 92 RX0 yX0_findLeastTimes wsX0_findLeastTimes) := goodIn_app (goodIn_of _ (by decide +kernel)) ggX0_planTime_X0_findLeastTimes
set_option maxRecDepth 20000 in
theorem ggX0_planTime_X0_findSpeeds : GoodIn wsX0_planTime wsX0_findSpeeds := goodIn_r _ [12, 13, 14, 15, 16, 17, 18, 19, 20, 11, 21, 22, 1, 2, 23, 24, 25, 26, 27, 28, 29, 30, 31, 32, 33, 34, 35, 36, 37, 38, 39, 40, 41, 42, 43, 44, 45, 46, 47, 48, 49, 50, 51, 52, 53, 54, 55, 56, 57, 58, 59, 60, 61, 62, 63, 64, 5, 65, 66, 67, 68, 69, 70, 4, 6, 71, 72, 73, 74, 75, 76, 77, 78, 79, 80, 81, 82, 83, 84, 85, 86, 87, 88, 89, 90, 91, 92, 93, 94, 95, 96, 97, 98, 99, 100, 101, 102, 103, 104, 105, 106, 107, 108, 109, 110, 111, 112, 113, 114, 115, 116, 117, 118, 119, 120, 121, 122, 123, 124, 125, 126, 127, 128, 129, 130, 131, 161, 162, 163, 164, 165, 166, 167, 168, 169, 170, 171, 172, 173, 174, 175, 176, 177, 178, 179, 180, 181, 182, 183, 184, 185, 186, 187, 188, 189, 190, 191, 192, 193, 194, 195, 196, 197, 198, 199, 200, 201, 202, 203, 204, 205, 206] rfl (by decide +kernel)
set_option maxRecDepth 20000 in
theorem gX0_planTime_X0_findSpeeds : GoodIn wsX0_planTime (wsV RX0 88 RX0 yX0_findSpeeds wsX0_findSpeeds) := goodIn_app (goodIn_of _ (by decide +kernel)) ggX0_planTime_X0_findSpeeds
set_option maxRecDepth 20000 in
theorem ggX0_planTime_X0_keepLeastRow : GoodIn wsX0_planTime wsX0_keepLeastRow := goodIn_r _ [151, 152, 153, 154, 155, 156, 11, 157, 13, 7, 1, 136, 137, 138, 139, 39, 140, 41, 141, 121, 122, 123, 142, 129, 130, 131, 158, 159, 160, 161, 162, 163, 164, 165, 166, 167, 168, 169, 170, 171, 172] rfl (by decide +kernel)
set_option maxRecDepth 20000 in
theorem gX0_planTime_X0_keepLeastRow : GoodIn wsX0_planTime (wsV RX0 95 RX0 yX0_keepLeastRow wsX0_keepLeastRow) := goodIn_app (goodIn_of _ (by decide +kernel)) ggX0_planTime_X0_keepLeastRow
set_option maxHeartbeats 4000000 in
set_option maxRecDepth 100000 in
theorem S_X0_planTime (l : Launch) (D : va_G) (K : Nat → ClassId) (a : Nat → Nat) (G : gS) (p0 : Int32) (s0 : Int) (p1 : Int32) (s1 : Int) (e0 : p0.toInt = s0) (e1 : p1.toInt = s1) (h1 : 1 ≤ s1 ∧ s1 ≤ 400) (hI : xI G) (sz : Nat) : Ki l yX0_planTime wsX0_planTime 7 197 0 0 D [.ref (a 7), .int p0, .int p1] (xW K a G) (tK K) sz (fun (r : Int32) (G' : gS) => (xI G') ∧ (gu_un xcd [602, 603, 604, 605, 608, 613, 614, 615, 616, 617, 618, 619, 620, 708, 2100, 2400, 2700, 4400, 4500, 4600, 4700, 4800, 4900, 5000, 5100, 5200] G G')) (fun (G' : gS) => (xW K a G')) (fun _ => (tK K)) := by
  unfold Ki
  refine g_ofW (cc := cX0_planTime) (lv := [(0, .ref (a 7)), (1, .int p0), (2, .int p1)]) (by decide) rfl (Nat.le_of_ble_eq_true rfl) rfl ?_
  intro p e s m args below meth c A Q hA hQ F hr hnm
  have hts := F.2.2.2.2.1
  have w_0 : (Cond.fieldLink RX0 24 "QuietCut$Chooser" "shop" "LQuietCut$Shop;").before args s = true := hts _ (List.mem_of_getElem? (i := 1) rfl)
  have i_X0 : ∀ w ∈ u_ws RX0 TX0 8, w ∈ wsX0_planTime := fun _ h => List.mem_cons_of_mem _ (List.mem_append_left _ (List.mem_append_left _ (List.mem_append_left _ (List.mem_append_left _ (List.mem_append_right _ h)))))
  have w_1 : (Cond.fieldLink RX0 36 "QuietCut$Shop" "numbers" "[I").before args s = true := hts _ (List.mem_of_getElem? (i := 2) rfl)
  have i_X7 : ∀ w ∈ u_ws RX7 TX7 4, w ∈ wsX0_planTime := fun _ h => List.mem_cons_of_mem _ (List.mem_append_left _ (List.mem_append_left _ (List.mem_append_left _ (List.mem_append_right _ h))))
  have w_2 : (Cond.methodLink RX0 82 Lib.Math.min.name).before args s = true := hts _ (List.mem_of_getElem? (i := 3) rfl)
  have w_3 : (Cond.static Lib.Math.min.name).before args s = true := hts _ (List.mem_of_getElem? (i := 4) rfl)
  have w_4 : (Cond.initialized "java/lang/Math").before args s = true := hts _ (List.mem_of_getElem? (i := 5) rfl)
  have w_5 : (Cond.code Lib.Math.min.name Lib.Math.min.code 2 (some .int)).before args s = true := hts _ (List.mem_of_getElem? (i := 6) rfl)
  have w_6 : (Cond.fieldLink RX0 15 "QuietCut$Chooser" "leastTime" "[I").before args s = true := hts _ (List.mem_of_getElem? (i := 7) rfl)
  have rg0 : -2147483648 ≤ s0 ∧ s0 ≤ 2147483647 := e0 ▸ ti_rng p0
  refine g_aload_n F 0 dX0_planTime_0 rfl rfl ?_
  refine xg_7_0 F i_X0 w_0 dX0_planTime_1 ?_
  refine xg_2_0 F i_X7 w_1 dX0_planTime_4 ?_
  refine g_bipush F 9 dX0_planTime_7 (by decide) ?_
  refine u1_iald F 18 0 xc_18 rfl 9 rfl (by decide) (by decide) dX0_planTime_9 (G 18 9) (rfl) ?_
  refine g_istore_n F [(3, .int (G 18 9)), (0, .ref (a 7)), (1, .int p0), (2, .int p1)] dX0_planTime_10 rfl (by decide) rfl ?_
  refine g_iload_n F 0 dX0_planTime_11 rfl rfl ?_
  refine g_iconst F 1 dX0_planTime_12 (by decide) ?_
  have b1 : (1 : Int) ≤ (G 18 9).toInt ∧ (G 18 9).toInt ≤ 12 := hI 18 9
  refine v_icmp_lt F 29 dX0_planTime_13 (by decide) (G 18 9).toInt 1 rfl rfl (fun c2 => absurd c2 (by omega)) (fun c2 => ?_)
  refine g_iload_n F 3 dX0_planTime_16 rfl rfl ?_
  refine g_iload_n F 0 dX0_planTime_17 rfl rfl ?_
  refine u_iremb F dX0_planTime_18 (ti_ne0 rfl (by omega)) s1 (G 18 9).toInt e1 rfl (by omega) (by omega) (fun y3 ey3 => ?_)
  refine v_if_ne F 29 dX0_planTime_19 (by decide) y3.toInt rfl (fun c4 => ?_) (fun c4 => ?_)
  · refine g_iconst F (-1) dX0_planTime_29 (by decide) ?_
    exact u_iret F hA hQ hr G (⟨hI, gu_un.rf⟩) rfl rfl dX0_planTime_30
  · refine g_iload_n F 3 dX0_planTime_22 rfl rfl ?_
    refine g_sipush F 400 dX0_planTime_23 (by decide) ?_
    refine v_icmp_le F 31 dX0_planTime_26 (by decide) s1 400 e1 rfl (fun c5 => ?_) (fun c5 => absurd c5 (by omega))
    refine g_iload_n F 3 dX0_planTime_31 rfl rfl ?_
    refine g_iload_n F 0 dX0_planTime_32 rfl rfl ?_
    refine u_idivb F dX0_planTime_33 (ti_ne0 rfl (by omega)) s1 (G 18 9).toInt e1 rfl (by omega) (by omega) (fun y6 ey6 => ?_)
    refine g_istore F [(4, .int y6), (3, .int (G 18 9)), (0, .ref (a 7)), (1, .int p0), (2, .int p1)] dX0_planTime_34 (by decide) rfl ?_
    refine g_aload_n F 2 dX0_planTime_36 rfl rfl ?_
    refine g_iload_n F 3 dX0_planTime_37 rfl rfl ?_
    refine g_iload F 0 dX0_planTime_38 rfl ?_
    refine g_bipush F 20 dX0_planTime_40 (by decide) ?_
    refine u_mmin F w_2 w_3 w_4 w_5 (Nat.le_of_ble_eq_true rfl) (Nat.le_of_ble_eq_true rfl) (Nat.le_of_ble_eq_true rfl) (Nat.le_of_ble_eq_true rfl) dX0_planTime_42 y6.toInt 20 rfl rfl (fun y7 ey7 => ?_)
    refine u_callVv (k := 0) (n := 0) (b := a 7) (As := [.int p0, .int y7]) (st := []) F (fun sz => S_X0_findSpeeds l D K a G p0 s0 y7 y7.toInt e0 rfl hI sz) (cwV 2 hts gX0_planTime_X0_findSpeeds rfl rfl rfl (by decide +kernel) ⟨Nat.le_of_ble_eq_true rfl, Nat.le_of_ble_eq_true rfl⟩) rfl 7 xc_7 rfl (Nat.le_of_ble_eq_true rfl) ⟨Nat.zero_le _, Nat.zero_le _⟩ dX0_planTime_45 (fun G10 hw9 => ?_)
    have hI11 : xI G10 := hw9.1
    have hU12 : gu_un xcd [602, 603, 604, 605, 608, 613, 614, 615, 616, 617, 618, 619, 620, 2100, 2400, 2700, 4400, 4500, 4600, 4700, 4800, 4900] G G10 := hw9.2
    refine g_aload_n F 2 dX0_planTime_48 rfl rfl ?_
    refine g_iload F 0 dX0_planTime_49 rfl ?_
    refine u_callVv (k := 0) (n := 0) (b := a 7) (As := [.int y6]) (st := []) F (fun sz => S_X0_findLeastTimes l D K a G10 y6 y6.toInt rfl (by omega) hI11 sz) (cwV 1 hts gX0_planTime_X0_findLeastTimes rfl rfl rfl (by decide +kernel) ⟨Nat.le_of_ble_eq_true rfl, Nat.le_of_ble_eq_true rfl⟩) rfl 7 xc_7 rfl (Nat.le_of_ble_eq_true rfl) ⟨Nat.zero_le _, Nat.zero_le _⟩ dX0_planTime_51 (fun G16 hw15 => ?_)
    have hI17 : xI G16 := hw15.1
    have hU18 : gu_un xcd [5000, 5100] G10 G16 := hw15.2
    refine g_aload_n F 2 dX0_planTime_54 rfl rfl ?_
    refine xg_7_4 F i_X0 w_6 dX0_planTime_55 ?_
    refine g_iload F 0 dX0_planTime_58 rfl ?_
    refine u_iald F 50 0 xc_50 rfl y6.toInt rfl (by omega) (by omega) dX0_planTime_60 (fun _ => True) (fun _ => trivial) (fun y20 by20 => ?_)
    refine g_iconst F (-1) dX0_planTime_61 (by decide) ?_
    refine v_icmp_ne F 67 dX0_planTime_62 (by decide) y20.toInt (-1) rfl rfl (fun c21 => ?_) (fun c21 => ?_)
    · refine g_aload_n F 2 dX0_planTime_67 rfl rfl ?_
      refine g_iload F 0 dX0_planTime_68 rfl ?_
      refine u_callVv (k := 0) (n := 0) (b := a 7) (As := [.int y6]) (st := []) F (fun sz => S_X0_keepLeastRow l D K a G16 y6 y6.toInt rfl hI17 sz) (cwV 1 hts gX0_planTime_X0_keepLeastRow rfl rfl rfl (by decide +kernel) ⟨Nat.le_of_ble_eq_true rfl, Nat.le_of_ble_eq_true rfl⟩) rfl 7 xc_7 rfl (Nat.le_of_ble_eq_true rfl) ⟨Nat.zero_le _, Nat.zero_le _⟩ dX0_planTime_70 (fun G24 hw23 => ?_)
      have hI25 : xI G24 := hw23.1
      have hU26 : gu_un xcd [708, 5200] G16 G24 := hw23.2
      refine g_aload_n F 2 dX0_planTime_73 rfl rfl ?_
      refine xg_7_4 F i_X0 w_6 dX0_planTime_74 ?_
      refine g_iload F 0 dX0_planTime_77 rfl ?_
      refine u_iald F 50 0 xc_50 rfl y6.toInt rfl (by omega) (by omega) dX0_planTime_79 (fun _ => True) (fun _ => trivial) (fun y28 by28 => ?_)
      exact u_iret F hA hQ hr G24 (⟨hI25, (gu_un.tr (gu_un.tr (gu_un.tr gu_un.rf (gu_un.su hU12 rfl)) (gu_un.su hU18 rfl)) (gu_un.su hU26 rfl))⟩) rfl rfl dX0_planTime_80
    · refine g_iconst F (-1) dX0_planTime_65 (by decide) ?_
      exact u_iret F hA hQ hr G16 (⟨hI17, (gu_un.tr (gu_un.tr gu_un.rf (gu_un.su hU12 rfl)) (gu_un.su hU18 rfl))⟩) rfl rfl dX0_planTime_66

theorem dX0_plannedPass_0 : decode cX0_plannedPass 0 = .ok (.aload_n 0, 1) := by decide +kernel
theorem dX0_plannedPass_1 : decode cX0_plannedPass 1 = .ok (.getfield 111, 3) := by decide +kernel
theorem dX0_plannedPass_4 : decode cX0_plannedPass 4 = .ok (.ifCond .ne 5, 3) := by decide +kernel
theorem dX0_plannedPass_7 : decode cX0_plannedPass 7 = .ok (.iconst (-1), 1) := by decide +kernel
theorem dX0_plannedPass_8 : decode cX0_plannedPass 8 = .ok (.ireturn, 1) := by decide +kernel
theorem dX0_plannedPass_9 : decode cX0_plannedPass 9 = .ok (.iload_n 1, 1) := by decide +kernel
theorem dX0_plannedPass_10 : decode cX0_plannedPass 10 = .ok (.ifCond .ne 8, 3) := by decide +kernel
theorem dX0_plannedPass_13 : decode cX0_plannedPass 13 = .ok (.aload_n 0, 1) := by decide +kernel
theorem dX0_plannedPass_14 : decode cX0_plannedPass 14 = .ok (.getfield 111, 3) := by decide +kernel
theorem dX0_plannedPass_17 : decode cX0_plannedPass 17 = .ok (.ireturn, 1) := by decide +kernel
theorem dX0_plannedPass_18 : decode cX0_plannedPass 18 = .ok (.iload_n 1, 1) := by decide +kernel
theorem dX0_plannedPass_19 : decode cX0_plannedPass 19 = .ok (.bipush 10, 2) := by decide +kernel
theorem dX0_plannedPass_21 : decode cX0_plannedPass 21 = .ok (.isub, 1) := by decide +kernel
theorem dX0_plannedPass_22 : decode cX0_plannedPass 22 = .ok (.istore_n 2, 1) := by decide +kernel
theorem dX0_plannedPass_23 : decode cX0_plannedPass 23 = .ok (.iload_n 1, 1) := by decide +kernel
theorem dX0_plannedPass_24 : decode cX0_plannedPass 24 = .ok (.bipush 10, 2) := by decide +kernel
theorem dX0_plannedPass_26 : decode cX0_plannedPass 26 = .ok (.if_icmp .lt 27, 3) := by decide +kernel
theorem dX0_plannedPass_29 : decode cX0_plannedPass 29 = .ok (.iload_n 2, 1) := by decide +kernel
theorem dX0_plannedPass_30 : decode cX0_plannedPass 30 = .ok (.aload_n 0, 1) := by decide +kernel
theorem dX0_plannedPass_31 : decode cX0_plannedPass 31 = .ok (.getfield 111, 3) := by decide +kernel
theorem dX0_plannedPass_34 : decode cX0_plannedPass 34 = .ok (.if_icmp .ge 19, 3) := by decide +kernel
theorem dX0_plannedPass_37 : decode cX0_plannedPass 37 = .ok (.iload_n 2, 1) := by decide +kernel
theorem dX0_plannedPass_38 : decode cX0_plannedPass 38 = .ok (.sipush 400, 3) := by decide +kernel
theorem dX0_plannedPass_41 : decode cX0_plannedPass 41 = .ok (.if_icmp .ge 12, 3) := by decide +kernel
theorem dX0_plannedPass_44 : decode cX0_plannedPass 44 = .ok (.aload_n 0, 1) := by decide +kernel
theorem dX0_plannedPass_45 : decode cX0_plannedPass 45 = .ok (.getfield 21, 3) := by decide +kernel
theorem dX0_plannedPass_48 : decode cX0_plannedPass 48 = .ok (.iload_n 2, 1) := by decide +kernel
theorem dX0_plannedPass_49 : decode cX0_plannedPass 49 = .ok (.iaload, 1) := by decide +kernel
theorem dX0_plannedPass_50 : decode cX0_plannedPass 50 = .ok (.goto 4, 3) := by decide +kernel
theorem dX0_plannedPass_53 : decode cX0_plannedPass 53 = .ok (.iconst (-1), 1) := by decide +kernel
theorem dX0_plannedPass_54 : decode cX0_plannedPass 54 = .ok (.ireturn, 1) := by decide +kernel
set_option maxHeartbeats 4000000 in
set_option maxRecDepth 100000 in
theorem S_X0_plannedPass (l : Launch) (D : va_G) (K : Nat → ClassId) (a : Nat → Nat) (G : gS) (p0 : Int32) (s0 : Int) (e0 : p0.toInt = s0) (hI : xI G) (sz : Nat) : Ki l yX0_plannedPass wsX0_plannedPass 1 40 0 0 D [.ref (a 7), .int p0] (xW K a G) (tK K) sz (fun (r : Int32) (_ : Unit) => True) (fun (_ : Unit) => (xW K a G)) (fun _ => (tK K)) := by
  unfold Ki
  refine g_ofW (cc := cX0_plannedPass) (lv := [(0, .ref (a 7)), (1, .int p0)]) (by decide) rfl (Nat.le_of_ble_eq_true rfl) rfl ?_
  intro p e s m args below meth c A Q hA hQ F hr hnm
  have hts := F.2.2.2.2.1
  have w_0 : (Cond.fieldLink RX0 111 "QuietCut$Chooser" "planMany" "I").before args s = true := hts _ (List.mem_of_getElem? (i := 1) rfl)
  have i_X0 : ∀ w ∈ u_ws RX0 TX0 8, w ∈ wsX0_plannedPass := fun _ h => List.mem_cons_of_mem _ (List.mem_append_right _ h)
  have w_1 : (Cond.fieldLink RX0 21 "QuietCut$Chooser" "planRow" "[I").before args s = true := hts _ (List.mem_of_getElem? (i := 2) rfl)
  have rg0 : -2147483648 ≤ s0 ∧ s0 ≤ 2147483647 := e0 ▸ ti_rng p0
  refine g_aload_n F 0 dX0_plannedPass_0 rfl rfl ?_
  refine xg_7_7 F i_X0 w_0 dX0_plannedPass_1 (G 7 7) (rfl) ?_
  have b1 : (0 : Int) ≤ (G 7 7).toInt ∧ (G 7 7).toInt ≤ 400 := hI 7 7
  refine v_if_ne F 9 dX0_plannedPass_4 (by decide) (G 7 7).toInt rfl (fun c2 => ?_) (fun c2 => ?_)
  · refine g_iload_n F 1 dX0_plannedPass_9 rfl rfl ?_
    refine v_if_ne F 18 dX0_plannedPass_10 (by decide) s0 e0 (fun c3 => ?_) (fun c3 => ?_)
    · refine g_iload_n F 1 dX0_plannedPass_18 rfl rfl ?_
      refine g_bipush F 10 dX0_plannedPass_19 (by decide) ?_
      refine u_isubc F dX0_plannedPass_21 s0 10 e0 rfl (fun y4 ey4 => ?_)
      refine g_istore_n F [(2, .int y4), (0, .ref (a 7)), (1, .int p0)] dX0_plannedPass_22 rfl (by decide) rfl ?_
      refine g_iload_n F 2 dX0_plannedPass_23 rfl rfl ?_
      refine g_bipush F 10 dX0_plannedPass_24 (by decide) ?_
      refine v_icmp_lt F 53 dX0_plannedPass_26 (by decide) s0 10 e0 rfl (fun c5 => ?_) (fun c5 => ?_)
      · refine g_iconst F (-1) dX0_plannedPass_53 (by decide) ?_
        exact u_iret F hA hQ hr () (trivial) rfl rfl dX0_plannedPass_54
      · refine g_iload_n F 0 dX0_plannedPass_29 rfl rfl ?_
        refine g_aload_n F 1 dX0_plannedPass_30 rfl rfl ?_
        refine xg_7_7 F i_X0 w_0 dX0_plannedPass_31 (G 7 7) (rfl) ?_
        have b6 := ti_rng y4
        refine v_icmp_ge F 53 dX0_plannedPass_34 (by decide) y4.toInt (G 7 7).toInt rfl rfl (fun c7 => ?_) (fun c7 => ?_)
        · refine g_iconst F (-1) dX0_plannedPass_53 (by decide) ?_
          exact u_iret F hA hQ hr () (trivial) rfl rfl dX0_plannedPass_54
        · refine g_iload_n F 0 dX0_plannedPass_37 rfl rfl ?_
          refine g_sipush F 400 dX0_plannedPass_38 (by decide) ?_
          refine v_icmp_ge F 53 dX0_plannedPass_41 (by decide) y4.toInt 400 rfl rfl (fun c8 => absurd c8 (by omega)) (fun c8 => ?_)
          refine g_aload_n F 1 dX0_plannedPass_44 rfl rfl ?_
          refine xg_7_6 F i_X0 w_1 dX0_plannedPass_45 ?_
          refine g_iload_n F 0 dX0_plannedPass_48 rfl rfl ?_
          refine u_iald F 52 0 xc_52 rfl y4.toInt rfl (by omega) (by omega) dX0_plannedPass_49 (fun _ => True) (fun _ => trivial) (fun y9 by9 => ?_)
          refine g_goto F 54 dX0_plannedPass_50 (by decide) ?_
          exact u_iret F hA hQ hr () (trivial) rfl rfl dX0_plannedPass_54
    · refine g_aload_n F 0 dX0_plannedPass_13 rfl rfl ?_
      refine xg_7_7 F i_X0 w_0 dX0_plannedPass_14 (G 7 7) (rfl) ?_
      exact u_iret F hA hQ hr () (trivial) rfl rfl dX0_plannedPass_17
  · refine g_iconst F (-1) dX0_plannedPass_7 (by decide) ?_
    exact u_iret F hA hQ hr () (trivial) rfl rfl dX0_plannedPass_8
