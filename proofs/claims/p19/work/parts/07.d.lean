theorem dX0_sureness_0 : decode cX0_sureness 0 = .ok (.iconst 0, 1) := by decide +kernel
theorem dX0_sureness_1 : decode cX0_sureness 1 = .ok (.istore_n 1, 1) := by decide +kernel
theorem dX0_sureness_2 : decode cX0_sureness 2 = .ok (.iconst 0, 1) := by decide +kernel
theorem dX0_sureness_3 : decode cX0_sureness 3 = .ok (.istore_n 2, 1) := by decide +kernel
theorem dX0_sureness_4 : decode cX0_sureness 4 = .ok (.aload_n 0, 1) := by decide +kernel
theorem dX0_sureness_5 : decode cX0_sureness 5 = .ok (.getfield 24, 3) := by decide +kernel
theorem dX0_sureness_8 : decode cX0_sureness 8 = .ok (.getfield 36, 3) := by decide +kernel
theorem dX0_sureness_11 : decode cX0_sureness 11 = .ok (.iconst 3, 1) := by decide +kernel
theorem dX0_sureness_12 : decode cX0_sureness 12 = .ok (.iaload, 1) := by decide +kernel
theorem dX0_sureness_13 : decode cX0_sureness 13 = .ok (.istore_n 3, 1) := by decide +kernel
theorem dX0_sureness_14 : decode cX0_sureness 14 = .ok (.iload_n 3, 1) := by decide +kernel
theorem dX0_sureness_15 : decode cX0_sureness 15 = .ok (.aload_n 0, 1) := by decide +kernel
theorem dX0_sureness_16 : decode cX0_sureness 16 = .ok (.getfield 24, 3) := by decide +kernel
theorem dX0_sureness_19 : decode cX0_sureness 19 = .ok (.getfield 36, 3) := by decide +kernel
theorem dX0_sureness_22 : decode cX0_sureness 22 = .ok (.iconst 4, 1) := by decide +kernel
theorem dX0_sureness_23 : decode cX0_sureness 23 = .ok (.iaload, 1) := by decide +kernel
theorem dX0_sureness_24 : decode cX0_sureness 24 = .ok (.if_icmp .gt 113, 3) := by decide +kernel
theorem dX0_sureness_27 : decode cX0_sureness 27 = .ok (.aload_n 0, 1) := by decide +kernel
theorem dX0_sureness_28 : decode cX0_sureness 28 = .ok (.getfield 24, 3) := by decide +kernel
theorem dX0_sureness_31 : decode cX0_sureness 31 = .ok (.getfield 36, 3) := by decide +kernel
theorem dX0_sureness_34 : decode cX0_sureness 34 = .ok (.iconst 5, 1) := by decide +kernel
theorem dX0_sureness_35 : decode cX0_sureness 35 = .ok (.iaload, 1) := by decide +kernel
theorem dX0_sureness_36 : decode cX0_sureness 36 = .ok (.istore 4, 2) := by decide +kernel
theorem dX0_sureness_38 : decode cX0_sureness 38 = .ok (.iload 4, 2) := by decide +kernel
theorem dX0_sureness_40 : decode cX0_sureness 40 = .ok (.aload_n 0, 1) := by decide +kernel
theorem dX0_sureness_41 : decode cX0_sureness 41 = .ok (.getfield 24, 3) := by decide +kernel
theorem dX0_sureness_44 : decode cX0_sureness 44 = .ok (.getfield 36, 3) := by decide +kernel
theorem dX0_sureness_47 : decode cX0_sureness 47 = .ok (.bipush 6, 2) := by decide +kernel
theorem dX0_sureness_49 : decode cX0_sureness 49 = .ok (.iaload, 1) := by decide +kernel
theorem dX0_sureness_50 : decode cX0_sureness 50 = .ok (.if_icmp .gt 81, 3) := by decide +kernel
theorem dX0_sureness_53 : decode cX0_sureness 53 = .ok (.aload_n 0, 1) := by decide +kernel
theorem dX0_sureness_54 : decode cX0_sureness 54 = .ok (.getfield 32, 3) := by decide +kernel
theorem dX0_sureness_57 : decode cX0_sureness 57 = .ok (.aload_n 0, 1) := by decide +kernel
theorem dX0_sureness_58 : decode cX0_sureness 58 = .ok (.getfield 28, 3) := by decide +kernel
theorem dX0_sureness_61 : decode cX0_sureness 61 = .ok (.getfield 41, 3) := by decide +kernel
theorem dX0_sureness_64 : decode cX0_sureness 64 = .ok (.aload_n 0, 1) := by decide +kernel
theorem dX0_sureness_65 : decode cX0_sureness 65 = .ok (.getfield 28, 3) := by decide +kernel
theorem dX0_sureness_68 : decode cX0_sureness 68 = .ok (.getfield 46, 3) := by decide +kernel
theorem dX0_sureness_71 : decode cX0_sureness 71 = .ok (.iload_n 3, 1) := by decide +kernel
theorem dX0_sureness_72 : decode cX0_sureness 72 = .ok (.iload 4, 2) := by decide +kernel
theorem dX0_sureness_74 : decode cX0_sureness 74 = .ok (.invokevirtual 50, 3) := by decide +kernel
theorem dX0_sureness_77 : decode cX0_sureness 77 = .ok (.istore 5, 2) := by decide +kernel
theorem dX0_sureness_79 : decode cX0_sureness 79 = .ok (.iload 5, 2) := by decide +kernel
theorem dX0_sureness_81 : decode cX0_sureness 81 = .ok (.bipush (-4), 2) := by decide +kernel
theorem dX0_sureness_83 : decode cX0_sureness 83 = .ok (.if_icmp .ne 6, 3) := by decide +kernel
theorem dX0_sureness_86 : decode cX0_sureness 86 = .ok (.bipush (-4), 2) := by decide +kernel
theorem dX0_sureness_88 : decode cX0_sureness 88 = .ok (.ireturn, 1) := by decide +kernel
theorem dX0_sureness_89 : decode cX0_sureness 89 = .ok (.iload_n 1, 1) := by decide +kernel
theorem dX0_sureness_90 : decode cX0_sureness 90 = .ok (.iload 5, 2) := by decide +kernel
theorem dX0_sureness_92 : decode cX0_sureness 92 = .ok (.ifCond .ne 7, 3) := by decide +kernel
theorem dX0_sureness_95 : decode cX0_sureness 95 = .ok (.iconst 1, 1) := by decide +kernel
theorem dX0_sureness_96 : decode cX0_sureness 96 = .ok (.goto 4, 3) := by decide +kernel
theorem dX0_sureness_99 : decode cX0_sureness 99 = .ok (.iconst 0, 1) := by decide +kernel
theorem dX0_sureness_100 : decode cX0_sureness 100 = .ok (.ior, 1) := by decide +kernel
theorem dX0_sureness_101 : decode cX0_sureness 101 = .ok (.istore_n 1, 1) := by decide +kernel
theorem dX0_sureness_102 : decode cX0_sureness 102 = .ok (.iload_n 2, 1) := by decide +kernel
theorem dX0_sureness_103 : decode cX0_sureness 103 = .ok (.iload 5, 2) := by decide +kernel
theorem dX0_sureness_105 : decode cX0_sureness 105 = .ok (.ifCond .eq 7, 3) := by decide +kernel
theorem dX0_sureness_108 : decode cX0_sureness 108 = .ok (.iconst 1, 1) := by decide +kernel
theorem dX0_sureness_109 : decode cX0_sureness 109 = .ok (.goto 4, 3) := by decide +kernel
theorem dX0_sureness_112 : decode cX0_sureness 112 = .ok (.iconst 0, 1) := by decide +kernel
theorem dX0_sureness_113 : decode cX0_sureness 113 = .ok (.ior, 1) := by decide +kernel
theorem dX0_sureness_114 : decode cX0_sureness 114 = .ok (.istore_n 2, 1) := by decide +kernel
theorem dX0_sureness_115 : decode cX0_sureness 115 = .ok (.iload_n 1, 1) := by decide +kernel
theorem dX0_sureness_116 : decode cX0_sureness 116 = .ok (.ifCond .eq 9, 3) := by decide +kernel
theorem dX0_sureness_119 : decode cX0_sureness 119 = .ok (.iload_n 2, 1) := by decide +kernel
theorem dX0_sureness_120 : decode cX0_sureness 120 = .ok (.ifCond .eq 5, 3) := by decide +kernel
theorem dX0_sureness_123 : decode cX0_sureness 123 = .ok (.iconst 2, 1) := by decide +kernel
theorem dX0_sureness_124 : decode cX0_sureness 124 = .ok (.ireturn, 1) := by decide +kernel
theorem dX0_sureness_125 : decode cX0_sureness 125 = .ok (.iinc 4 1, 3) := by decide +kernel
theorem dX0_sureness_128 : decode cX0_sureness 128 = .ok (.goto (-90), 3) := by decide +kernel
theorem dX0_sureness_131 : decode cX0_sureness 131 = .ok (.iinc 3 1, 3) := by decide +kernel
theorem dX0_sureness_134 : decode cX0_sureness 134 = .ok (.goto (-120), 3) := by decide +kernel
theorem dX0_sureness_137 : decode cX0_sureness 137 = .ok (.iload_n 1, 1) := by decide +kernel
theorem dX0_sureness_138 : decode cX0_sureness 138 = .ok (.ifCond .eq 7, 3) := by decide +kernel
theorem dX0_sureness_141 : decode cX0_sureness 141 = .ok (.iconst 1, 1) := by decide +kernel
theorem dX0_sureness_142 : decode cX0_sureness 142 = .ok (.goto 4, 3) := by decide +kernel
theorem dX0_sureness_145 : decode cX0_sureness 145 = .ok (.iconst 0, 1) := by decide +kernel
theorem dX0_sureness_146 : decode cX0_sureness 146 = .ok (.ireturn, 1) := by decide +kernel
set_option maxRecDepth 20000 in
theorem ggX0_sureness_X5_run : GoodIn wsX0_sureness wsX5_run := goodIn_r _ [11, 12, 13, 14, 15, 16, 17, 18, 19, 20, 21, 22, 23, 24, 25, 26, 27, 28, 29, 30, 31, 32, 33, 34, 35, 36, 37, 10, 38, 39, 40, 41, 42, 43, 44, 45, 46, 47, 48, 49, 50, 51, 52, 53, 54, 55, 56, 57, 58, 59, 60, 61, 62, 63, 64, 65, 66, 67, 68, 69, 70, 71, 72, 73, 74, 75, 76, 77, 78, 79, 80, 81, 82, 83, 84, 85, 86, 87, 88, 89, 90, 91, 92, 93, 94, 95, 96, 97, 98, 99, 100, 101, 102, 103, 104, 105, 106, 107, 108, 109, 110, 111, 112, 113, 114, 132, 133, 134, 135, 136, 137, 138, 139, 140, 141, 142, 143, 144, 145, 146, 147, 148, 149, 150, 151, 123, 124, 125, 126, 152, 153, 154, 155, 156, 157, 158, 159, 160] rfl (by decide +kernel)
set_option maxRecDepth 20000 in
theorem gX0_sureness_X5_run : GoodIn wsX0_sureness (wsV RX0 50 RX5 yX5_run wsX5_run) := goodIn_app (goodIn_of _ (by decide +kernel)) ggX0_sureness_X5_run
set_option maxHeartbeats 4000000 in
set_option maxRecDepth 100000 in
theorem S_X0_sureness (l : Launch) (D : va_G) (K : Nat → ClassId) (a : Nat → Nat) (G : gS) (fr : (0 ≤ (G 6 1).toInt ∧ (G 6 1).toInt < (G 18 1).toInt ∧ 1 ≤ (G 6 2).toInt ∧ (G 6 2).toInt ≤ 9 ∧ 1 ≤ (G 6 3).toInt ∧ (G 6 3).toInt ≤ 20 ∧ 1 ≤ (G 6 4).toInt ∧ (G 6 4).toInt ≤ 12)) (hI : xI G) (sz : Nat) : Ki l yX0_sureness wsX0_sureness 5 148 0 0 D [.ref (a 7)] (xW K a G) (tK K) sz (fun (r : Int32) (G' : gS) => (xI G') ∧ (gu_un xcd [608, 613, 614, 615, 616, 617, 618, 619, 620, 2100, 2400, 2700, 4400, 4500, 4600, 4700, 4800] G G') ∧ ((-4) ≤ r.toInt ∧ r.toInt ≤ 2) ∧ ((∀ (Q : gS) (C : Nat → List Int), xTok G → lSp G → xSq G Q C → suR Q C (G 38) (G 5 2) (G 6 1).toInt (G 6 2) (G 6 3) (G 6 4) r.toInt))) (fun (G' : gS) => (xW K a G')) (fun _ => (tK K)) := by
  unfold Ki
  refine g_ofW (cc := cX0_sureness) (lv := [(0, .ref (a 7))]) (by decide) rfl (Nat.le_of_ble_eq_true rfl) rfl ?_
  intro p e s m args below meth c A Q hA hQ F hr hnm
  have hts := F.2.2.2.2.1
  have w_0 : (Cond.fieldLink RX0 24 "QuietCut$Chooser" "shop" "LQuietCut$Shop;").before args s = true := hts _ (List.mem_of_getElem? (i := 1) rfl)
  have i_X0 : ∀ w ∈ u_ws RX0 TX0 8, w ∈ wsX0_sureness := fun _ h => List.mem_cons_of_mem _ (List.mem_append_left _ (List.mem_append_left _ (List.mem_append_left _ (List.mem_append_left _ (List.mem_append_right _ h)))))
  have w_1 : (Cond.fieldLink RX0 36 "QuietCut$Shop" "numbers" "[I").before args s = true := hts _ (List.mem_of_getElem? (i := 2) rfl)
  have i_X7 : ∀ w ∈ u_ws RX7 TX7 4, w ∈ wsX0_sureness := fun _ h => List.mem_cons_of_mem _ (List.mem_append_left _ (List.mem_append_left _ (List.mem_append_left _ (List.mem_append_right _ h))))
  have w_2 : (Cond.fieldLink RX0 32 "QuietCut$Chooser" "lathe" "LQuietCut$Lathe;").before args s = true := hts _ (List.mem_of_getElem? (i := 3) rfl)
  have w_3 : (Cond.fieldLink RX0 28 "QuietCut$Chooser" "piece" "LQuietCut$Piece;").before args s = true := hts _ (List.mem_of_getElem? (i := 4) rfl)
  have w_4 : (Cond.fieldLink RX0 41 "QuietCut$Piece" "heights" "[I").before args s = true := hts _ (List.mem_of_getElem? (i := 5) rfl)
  have i_X6 : ∀ w ∈ u_ws RX6 TX6 5, w ∈ wsX0_sureness := fun _ h => List.mem_cons_of_mem _ (List.mem_append_left _ (List.mem_append_left _ (List.mem_append_right _ h)))
  have w_5 : (Cond.fieldLink RX0 46 "QuietCut$Piece" "wear" "I").before args s = true := hts _ (List.mem_of_getElem? (i := 6) rfl)
  have b1 : (4 : Int) ≤ (G 18 0).toInt ∧ (G 18 0).toInt ≤ 16 := hI 18 0
  have b2 : (1 : Int) ≤ (G 18 1).toInt ∧ (G 18 1).toInt ≤ 6 := hI 18 1
  have b3 : (0 : Int) ≤ (G 18 3).toInt ∧ (G 18 3).toInt ≤ 200 := hI 18 3
  have b4 : (0 : Int) ≤ (G 18 4).toInt ∧ (G 18 4).toInt ≤ 200 := hI 18 4
  have b5 : (0 : Int) ≤ (G 18 5).toInt ∧ (G 18 5).toInt ≤ 200 := hI 18 5
  have b6 : (0 : Int) ≤ (G 18 6).toInt ∧ (G 18 6).toInt ≤ 200 := hI 18 6
  have J_14 : ∀ (fuel : Nat) (x14_1 : Int32) (x14_2 : Int32) (x14_3 : Int32) (Gj14 : gS), (2147483647 - x14_3.toInt).toNat < fuel → (0 ≤ x14_1.toInt ∧ x14_1.toInt ≤ 1) → (0 ≤ x14_2.toInt ∧ x14_2.toInt ≤ 1) → (0 ≤ x14_3.toInt ∧ x14_3.toInt ≤ 201) → (xI Gj14) → (gu_un xcd [608, 613, 614, 615, 616, 617, 618, 619, 620, 2100, 2400, 2700, 4400, 4500, 4600, 4700, 4800] G Gj14) → (∀ (Q : gS) (C : Nat → List Int), xTok G → lSp G → xSq G Q C → suI Q (pvB Q C (G 38) (G 5 2) (G 6 1).toInt (G 6 2) (G 6 3) (G 6 4)) x14_1.toInt x14_2.toInt x14_3.toInt (Q 0 5).toInt ∧ ((G 18 3).toInt < x14_3.toInt → pvOk Q (G 38) (G 6 1).toInt (G 6 3).toInt (G 6 4).toInt)) → (((G 18 3).toInt ≤ x14_3.toInt)) → ((x14_1.toInt + x14_2.toInt ≤ 1)) → gG p l e (gR 5 0 0 148) s m args below meth c D A 6 Q 0 0 (xW K a Gj14) (tK K) [(0, .ref (a 7)), (1, .int x14_1), (2, .int x14_2), (3, .int x14_3)] 14 [] := by
    intro fuel
    induction fuel with
    | zero => intro x14_1 x14_2 x14_3 Gj14 hm; exact absurd hm (Nat.not_lt_zero _)
    | succ fuel_14 ih_14 =>
      intro x14_1 x14_2 x14_3 Gj14 hm_14 h14_1 h14_2 h14_3 jI14 jU14 q1 b4 n2
      have J_38 : ∀ (fuel : Nat) (x38_1 : Int32) (x38_2 : Int32) (x38_4 : Int32) (Gj38 : gS), (2147483647 - x38_4.toInt).toNat < fuel → (0 ≤ x38_1.toInt ∧ x38_1.toInt ≤ 1) → (0 ≤ x38_2.toInt ∧ x38_2.toInt ≤ 1) → (0 ≤ x14_3.toInt ∧ x14_3.toInt ≤ 200) → (0 ≤ x38_4.toInt ∧ x38_4.toInt ≤ 201) → (xI Gj38) → (gu_un xcd [608, 613, 614, 615, 616, 617, 618, 619, 620, 2100, 2400, 2700, 4400, 4500, 4600, 4700, 4800] Gj14 Gj38) → (∀ (Q : gS) (C : Nat → List Int), xTok G → lSp G → xSq G Q C → suI Q (pvB Q C (G 38) (G 5 2) (G 6 1).toInt (G 6 2) (G 6 3) (G 6 4)) x38_1.toInt x38_2.toInt x14_3.toInt x38_4.toInt ∧ (((G 18 3).toInt < x14_3.toInt ∨ (G 18 5).toInt < x38_4.toInt) → pvOk Q (G 38) (G 6 1).toInt (G 6 3).toInt (G 6 4).toInt)) → (((G 18 5).toInt ≤ x38_4.toInt ∧ (G 18 3).toInt ≤ x14_3.toInt ∧ x14_3.toInt ≤ (G 18 4).toInt)) → ((x38_1.toInt + x38_2.toInt ≤ 1)) → gG p l e (gR 5 0 0 148) s m args below meth c D A 6 Q 0 0 (xW K a Gj38) (tK K) [(0, .ref (a 7)), (1, .int x38_1), (2, .int x38_2), (3, .int x14_3), (4, .int x38_4)] 38 [] := by
        intro fuel
        induction fuel with
        | zero => intro x38_1 x38_2 x38_4 Gj38 hm; exact absurd hm (Nat.not_lt_zero _)
        | succ fuel_38 ih_38 =>
          intro x38_1 x38_2 x38_4 Gj38 hm_38 h38_1 h38_2 k38_3 h38_4 jI38 jU38 q2 b5 n3
          refine g_iload F 4 dX0_sureness_38 rfl ?_
          refine g_aload_n F 0 dX0_sureness_40 rfl rfl ?_
          refine xg_7_0 F i_X0 w_0 dX0_sureness_41 ?_
          refine xg_2_0 F i_X7 w_1 dX0_sureness_44 ?_
          refine g_bipush F 6 dX0_sureness_47 (by decide) ?_
          refine u1_iald F 18 0 xc_18 rfl 6 rfl (by decide) (by decide) dX0_sureness_49 (G 18 6) ((jU38 18 6 (by decide)).trans (jU14 18 6 (by decide))) ?_
          refine v_icmp_gt F 131 dX0_sureness_50 (by decide) x38_4.toInt (G 18 6).toInt rfl rfl (fun c7 => ?_) (fun c7 => ?_)
          · refine u_iinc F (fun v_ => [(3, .int v_), (0, .ref (a 7)), (1, .int x38_1), (2, .int x38_2), (4, .int x38_4)]) dX0_sureness_131 (j := 3) rfl x14_3.toInt 1 rfl rfl (by omega) (by omega) (by decide) (fun _ => rfl) (fun y8 ey8 => ?_)
            refine g_goto F 14 dX0_sureness_134 (by decide) ?_
            refine g_locals [(0, .ref (a 7)), (1, .int x38_1), (2, .int x38_2), (3, .int y8)] [1, 2, 3, 0] rfl ?_
            exact ih_14 x38_1 x38_2 y8 Gj38 (by omega) (by have h9 := ti_rng x38_1; omega) (by have h9 := ti_rng x38_2; omega) (by have h9 := ti_rng y8; omega) jI38 (gu_un.tr (gu_un.tr gu_un.rf (gu_un.su jU14 rfl)) (gu_un.su jU38 rfl)) (fun Q C hk hl hq => by obtain ⟨g1, g2⟩ := q2 Q C hk hl hq; exact ⟨suI.row g1 (by rw [hq.1 6 (by decide) (by decide)]; omega) (by omega) rfl, fun _ => g2 (by have h6 := hl.2; omega)⟩) (by have e9_18_3 : Gj38 18 3 = (G 18 3) := (jU38 18 3 (by decide)).trans (jU14 18 3 (by decide)); (try simp only [e9_18_3, true_and, and_true]) <;> (first | omega | (simp only [Int32.reduceToInt, true_and, and_true, ne_eq, not_true_eq_false, false_and, or_false, false_or, true_or, or_true, false_implies] <;> omega))) (by (first | omega | (simp only [Int32.reduceToInt, true_and, and_true, ne_eq, not_true_eq_false, false_and, or_false, false_or, true_or, or_true, false_implies] <;> omega)))
          · refine g_aload_n F 0 dX0_sureness_53 rfl rfl ?_
            refine xg_7_2 F i_X0 w_2 dX0_sureness_54 ?_
            refine g_aload_n F 0 dX0_sureness_57 rfl rfl ?_
            refine xg_7_1 F i_X0 w_3 dX0_sureness_58 ?_
            refine xg_5_1 F i_X6 w_4 dX0_sureness_61 ?_
            refine g_aload_n F 0 dX0_sureness_64 rfl rfl ?_
            refine xg_7_1 F i_X0 w_3 dX0_sureness_65 ?_
            refine xg_5_2 F i_X6 w_5 dX0_sureness_68 (G 5 2) ((jU38 5 2 (by decide)).trans (jU14 5 2 (by decide))) ?_
            refine g_iload_n F 3 dX0_sureness_71 rfl rfl ?_
            refine g_iload F 4 dX0_sureness_72 rfl ?_
            have b9 : (0 : Int) ≤ (G 5 2).toInt ∧ (G 5 2).toInt ≤ 30000 := hI 5 2
            refine u_callVi (k := 0) (n := 0) (b := a 6) (As := [.ref (a 38), .int (G 5 2), .int x14_3, .int x38_4]) (st := []) F (fun sz => S_X5_run_38 l D K a Gj38 (G 5 2) (G 5 2).toInt x14_3 x14_3.toInt x38_4 x38_4.toInt rfl (by omega) rfl (by omega) rfl (by omega) (by have e9_6_1 : Gj38 6 1 = (G 6 1) := (jU38 6 1 (by decide)).trans (jU14 6 1 (by decide)); have e9_6_2 : Gj38 6 2 = (G 6 2) := (jU38 6 2 (by decide)).trans (jU14 6 2 (by decide)); have e9_6_3 : Gj38 6 3 = (G 6 3) := (jU38 6 3 (by decide)).trans (jU14 6 3 (by decide)); have e9_6_4 : Gj38 6 4 = (G 6 4) := (jU38 6 4 (by decide)).trans (jU14 6 4 (by decide)); have e9_18_1 : Gj38 18 1 = (G 18 1) := (jU38 18 1 (by decide)).trans (jU14 18 1 (by decide)); (try simp only [e9_6_1, e9_6_2, e9_6_3, e9_6_4, e9_18_1, true_and, and_true]) <;> (first | omega | (simp only [Int32.reduceToInt, true_and, and_true, ne_eq, not_true_eq_false, false_and, or_false, false_or, true_or, or_true, false_implies] <;> omega))) jI38 sz) (cwV 4 hts gX0_sureness_X5_run rfl rfl rfl (by decide +kernel) ⟨Nat.le_of_ble_eq_true rfl, Nat.le_of_ble_eq_true rfl⟩) rfl 6 xc_6 rfl (Nat.le_of_ble_eq_true rfl) ⟨Nat.zero_le _, Nat.zero_le _⟩ dX0_sureness_74 (fun r10 G12 hw11 => ?_)
            have hI13 : xI G12 := hw11.1
            have hU14 : gu_un xcd [608, 613, 614, 615, 616, 617, 618, 619, 620, 2100, 2400, 2700, 4400, 4500, 4600, 4700, 4800] Gj38 G12 := hw11.2.1
            have hp15 := hw11.2.2
            have q16 : (r10.toInt = -4 ∨ (0 ≤ r10.toInt ∧ r10.toInt ≤ 2)) := hp15.2.1
            have q17 : ((xTok Gj38 ∧ r10.toInt ≠ -4) → xOut Gj38 (Gj38 38) (G 5 2) x14_3 x38_4 G12 r10.toInt) := hp15.2.2.1
            have q18 : ((r10.toInt = -4 ∧ psMx (psHr (G 38) (G 6 1).toInt (G 18 0).toInt) ((G 18 0).toInt - 1).toNat - (G 6 3).toInt * (G 6 4).toInt < 1) ∨ (r10.toInt ≠ -4 ∧ 1 ≤ psMx (psHr (G 38) (G 6 1).toInt (G 18 0).toInt) ((G 18 0).toInt - 1).toNat - (G 6 3).toInt * (G 6 4).toInt)) := by have h9 := hp15.2.2.2; (try simp only [(show Gj38 6 1 = (G 6 1) from (jU38 6 1 (by decide)).trans (jU14 6 1 (by decide))), (show Gj38 18 0 = (G 18 0) from (jU38 18 0 (by decide)).trans (jU14 18 0 (by decide))), (show Gj38 18 0 = (G 18 0) from (jU38 18 0 (by decide)).trans (jU14 18 0 (by decide))), (show Gj38 6 3 = (G 6 3) from (jU38 6 3 (by decide)).trans (jU14 6 3 (by decide))), (show Gj38 6 4 = (G 6 4) from (jU38 6 4 (by decide)).trans (jU14 6 4 (by decide))), (show Gj38 6 1 = (G 6 1) from (jU38 6 1 (by decide)).trans (jU14 6 1 (by decide))), (show Gj38 18 0 = (G 18 0) from (jU38 18 0 (by decide)).trans (jU14 18 0 (by decide))), (show Gj38 18 0 = (G 18 0) from (jU38 18 0 (by decide)).trans (jU14 18 0 (by decide))), (show Gj38 6 3 = (G 6 3) from (jU38 6 3 (by decide)).trans (jU14 6 3 (by decide))), (show Gj38 6 4 = (G 6 4) from (jU38 6 4 (by decide)).trans (jU14 6 4 (by decide))), (show Gj38 38 = (G 38) from (show Gj38 38 = Gj14 38 from funext fun k_ => jU38 38 k_ (show (3800 : Nat) ∉ ([608, 613, 614, 615, 616, 617, 618, 619, 620, 2100, 2400, 2700, 4400, 4500, 4600, 4700, 4800] : List Nat) by decide)).trans ((show Gj14 38 = G 38 from funext fun k_ => jU14 38 k_ (show (3800 : Nat) ∉ ([608, 613, 614, 615, 616, 617, 618, 619, 620, 2100, 2400, 2700, 4400, 4500, 4600, 4700, 4800] : List Nat) by decide)))), (show Gj38 38 = (G 38) from (show Gj38 38 = Gj14 38 from funext fun k_ => jU38 38 k_ (show (3800 : Nat) ∉ ([608, 613, 614, 615, 616, 617, 618, 619, 620, 2100, 2400, 2700, 4400, 4500, 4600, 4700, 4800] : List Nat) by decide)).trans ((show Gj14 38 = G 38 from funext fun k_ => jU14 38 k_ (show (3800 : Nat) ∉ ([608, 613, 614, 615, 616, 617, 618, 619, 620, 2100, 2400, 2700, 4400, 4500, 4600, 4700, 4800] : List Nat) by decide))))] at h9); first | exact h9 | omega
            have rg19 := hp15.1
            clear hp15 hw11
            refine g_istore F [(5, .int r10), (0, .ref (a 7)), (1, .int x38_1), (2, .int x38_2), (3, .int x14_3), (4, .int x38_4)] dX0_sureness_77 (by decide) rfl ?_
            refine g_iload F 0 dX0_sureness_79 rfl ?_
            refine g_bipush F (-4) dX0_sureness_81 (by decide) ?_
            refine v_icmp_ne F 89 dX0_sureness_83 (by decide) r10.toInt (-4) rfl rfl (fun c20 => ?_) (fun c20 => ?_)
            · refine g_iload_n F 2 dX0_sureness_89 rfl rfl ?_
              refine g_iload F 0 dX0_sureness_90 rfl ?_
              refine v_if_ne F 99 dX0_sureness_92 (by decide) r10.toInt rfl (fun c21 => ?_) (fun c21 => ?_)
              · refine g_iconst F 0 dX0_sureness_99 (by decide) ?_
                refine g_ior F dX0_sureness_100 ?_
                refine g_fold x38_1 (by first | exact Int32.or_zero | simp) ?_
                refine g_istore_n F [(1, .int x38_1), (5, .int r10), (0, .ref (a 7)), (2, .int x38_2), (3, .int x14_3), (4, .int x38_4)] dX0_sureness_101 rfl (by decide) rfl ?_
                refine g_iload_n F 3 dX0_sureness_102 rfl rfl ?_
                refine g_iload F 1 dX0_sureness_103 rfl ?_
                refine v_if_eq F 112 dX0_sureness_105 (by decide) r10.toInt rfl (fun c22 => ?_) (fun c22 => ?_)
                · refine g_iconst F 0 dX0_sureness_112 (by decide) ?_
                  refine g_ior F dX0_sureness_113 ?_
                  refine g_fold x38_2 (by first | exact Int32.or_zero | simp) ?_
                  refine g_istore_n F [(2, .int x38_2), (1, .int x38_1), (5, .int r10), (0, .ref (a 7)), (3, .int x14_3), (4, .int x38_4)] dX0_sureness_114 rfl (by decide) rfl ?_
                  refine g_iload_n F 1 dX0_sureness_115 rfl rfl ?_
                  refine v_if_eq F 125 dX0_sureness_116 (by decide) x38_1.toInt rfl (fun c23 => ?_) (fun c23 => ?_)
                  · refine u_iinc F (fun v_ => [(4, .int v_), (2, .int x38_2), (1, .int x38_1), (5, .int r10), (0, .ref (a 7)), (3, .int x14_3)]) dX0_sureness_125 (j := 5) rfl x38_4.toInt 1 rfl rfl (by omega) (by omega) (by decide) (fun _ => rfl) (fun y24 ey24 => ?_)
                    refine g_goto F 38 dX0_sureness_128 (by decide) ?_
                    refine g_locals [(0, .ref (a 7)), (1, .int x38_1), (2, .int x38_2), (3, .int x14_3), (4, .int y24)] [4, 2, 1, 5, 0] rfl ?_
                    exact ih_38 x38_1 x38_2 y24 G12 (by omega) (by have h9 := ti_rng x38_1; omega) (by have h9 := ti_rng x38_2; omega) (by have h9 := ti_rng x14_3; omega) (by have h9 := ti_rng y24; omega) hI13 (gu_un.tr (gu_un.tr gu_un.rf (gu_un.su jU38 rfl)) (gu_un.su hU14 rfl)) (fun Q C hk hl hq => by obtain ⟨g1, g2⟩ := q2 Q C hk hl hq; have hp := xOut.pv (Q := Q) (C := C) (a0 := (G 6 1).toInt) (a1 := G 6 2) (a2 := G 6 3) (a3 := G 6 4) (h0 := G 38) (q17 ⟨xTok.un hk (show gu_un xcd [608, 613, 614, 615, 616, 617, 618, 619, 620, 2100, 2400, 2700, 4400, 4500, 4600, 4700, 4800] G Gj38 from (gu_un.tr (gu_un.tr gu_un.rf (gu_un.su jU14 rfl)) (gu_un.su jU38 rfl))) rfl, by omega⟩) (xSq.un hq (show gu_un xcd [608, 613, 614, 615, 616, 617, 618, 619, 620, 2100, 2400, 2700, 4400, 4500, 4600, 4700, 4800] G Gj38 from (gu_un.tr (gu_un.tr gu_un.rf (gu_un.su jU14 rfl)) (gu_un.su jU38 rfl))) rfl) (by rw [(show Gj38 6 4 = G 6 4 from (show gu_un xcd [608, 613, 614, 615, 616, 617, 618, 619, 620, 2100, 2400, 2700, 4400, 4500, 4600, 4700, 4800] G Gj38 from (gu_un.tr (gu_un.tr gu_un.rf (gu_un.su jU14 rfl)) (gu_un.su jU38 rfl))) 6 4 (by decide))]; omega) (by rw [(show Gj38 18 0 = G 18 0 from (show gu_un xcd [608, 613, 614, 615, 616, 617, 618, 619, 620, 2100, 2400, 2700, 4400, 4500, 4600, 4700, 4800] G Gj38 from (gu_un.tr (gu_un.tr gu_un.rf (gu_un.su jU14 rfl)) (gu_un.su jU38 rfl))) 18 0 (by decide))]; omega) (show Gj38 38 = G 38 from funext fun k_ => (show gu_un xcd [608, 613, 614, 615, 616, 617, 618, 619, 620, 2100, 2400, 2700, 4400, 4500, 4600, 4700, 4800] G Gj38 from (gu_un.tr (gu_un.tr gu_un.rf (gu_un.su jU14 rfl)) (gu_un.su jU38 rfl))) 38 k_ (by simp [xcd])) (congrArg Int32.toInt (show Gj38 6 1 = G 6 1 from (show gu_un xcd [608, 613, 614, 615, 616, 617, 618, 619, 620, 2100, 2400, 2700, 4400, 4500, 4600, 4700, 4800] G Gj38 from (gu_un.tr (gu_un.tr gu_un.rf (gu_un.su jU14 rfl)) (gu_un.su jU38 rfl))) 6 1 (by decide))) (show Gj38 6 2 = G 6 2 from (show gu_un xcd [608, 613, 614, 615, 616, 617, 618, 619, 620, 2100, 2400, 2700, 4400, 4500, 4600, 4700, 4800] G Gj38 from (gu_un.tr (gu_un.tr gu_un.rf (gu_un.su jU14 rfl)) (gu_un.su jU38 rfl))) 6 2 (by decide)) (show Gj38 6 3 = G 6 3 from (show gu_un xcd [608, 613, 614, 615, 616, 617, 618, 619, 620, 2100, 2400, 2700, 4400, 4500, 4600, 4700, 4800] G Gj38 from (gu_un.tr (gu_un.tr gu_un.rf (gu_un.su jU14 rfl)) (gu_un.su jU38 rfl))) 6 3 (by decide)) (show Gj38 6 4 = G 6 4 from (show gu_un xcd [608, 613, 614, 615, 616, 617, 618, 619, 620, 2100, 2400, 2700, 4400, 4500, 4600, 4700, 4800] G Gj38 from (gu_un.tr (gu_un.tr gu_un.rf (gu_un.su jU14 rfl)) (gu_un.su jU38 rfl))) 6 4 (by decide)); have hb := pvB_run hp.1; exact ⟨suI.step g1 (by unfold pvIn; rw [hq.1 3 (by decide) (by decide), hq.1 4 (by decide) (by decide), hq.1 5 (by decide) (by decide), hq.1 6 (by decide) (by decide)]; omega) (fun hb0 => by rw [hb] at hb0; first | (exfalso; omega) | exact ⟨by first | rfl | decide | omega, by first | rfl | decide | omega⟩) (fun hb0 => by rw [hb] at hb0; first | (exfalso; omega) | exact ⟨by first | rfl | decide | omega, by first | rfl | decide | omega⟩) (by omega), fun _ => (by unfold pvOk; rw [hq.1 0 (by decide) (by decide)]; show 1 ≤ psMx (psHr (G 38) (G 6 1).toInt (G 18 0).toInt) ((G 18 0).toInt - 1).toNat - (G 6 3).toInt * (G 6 4).toInt; have hsc := q18; omega)⟩) (by have e9_18_3 : G12 18 3 = (G 18 3) := (hU14 18 3 (by decide)).trans ((jU38 18 3 (by decide)).trans (jU14 18 3 (by decide))); have e9_18_4 : G12 18 4 = (G 18 4) := (hU14 18 4 (by decide)).trans ((jU38 18 4 (by decide)).trans (jU14 18 4 (by decide))); have e9_18_5 : G12 18 5 = (G 18 5) := (hU14 18 5 (by decide)).trans ((jU38 18 5 (by decide)).trans (jU14 18 5 (by decide))); (try simp only [e9_18_3, e9_18_4, e9_18_5, true_and, and_true]) <;> (first | omega | (simp only [Int32.reduceToInt, true_and, and_true, ne_eq, not_true_eq_false, false_and, or_false, false_or, true_or, or_true, false_implies] <;> omega))) (by (first | omega | (simp only [Int32.reduceToInt, true_and, and_true, ne_eq, not_true_eq_false, false_and, or_false, false_or, true_or, or_true, false_implies] <;> omega)))
                  · refine g_iload_n F 0 dX0_sureness_119 rfl rfl ?_
                    refine v_if_eq F 125 dX0_sureness_120 (by decide) x38_2.toInt rfl (fun c25 => ?_) (fun c25 => ?_)
                    · refine u_iinc F (fun v_ => [(4, .int v_), (2, .int x38_2), (1, .int x38_1), (5, .int r10), (0, .ref (a 7)), (3, .int x14_3)]) dX0_sureness_125 (j := 5) rfl x38_4.toInt 1 rfl rfl (by omega) (by omega) (by decide) (fun _ => rfl) (fun y26 ey26 => ?_)
                      refine g_goto F 38 dX0_sureness_128 (by decide) ?_
                      refine g_locals [(0, .ref (a 7)), (1, .int x38_1), (2, .int x38_2), (3, .int x14_3), (4, .int y26)] [4, 2, 1, 5, 0] rfl ?_
                      exact ih_38 x38_1 x38_2 y26 G12 (by omega) (by have h9 := ti_rng x38_1; omega) (by have h9 := ti_rng x38_2; omega) (by have h9 := ti_rng x14_3; omega) (by have h9 := ti_rng y26; omega) hI13 (gu_un.tr (gu_un.tr gu_un.rf (gu_un.su jU38 rfl)) (gu_un.su hU14 rfl)) (fun Q C hk hl hq => by obtain ⟨g1, g2⟩ := q2 Q C hk hl hq; have hp := xOut.pv (Q := Q) (C := C) (a0 := (G 6 1).toInt) (a1 := G 6 2) (a2 := G 6 3) (a3 := G 6 4) (h0 := G 38) (q17 ⟨xTok.un hk (show gu_un xcd [608, 613, 614, 615, 616, 617, 618, 619, 620, 2100, 2400, 2700, 4400, 4500, 4600, 4700, 4800] G Gj38 from (gu_un.tr (gu_un.tr gu_un.rf (gu_un.su jU14 rfl)) (gu_un.su jU38 rfl))) rfl, by omega⟩) (xSq.un hq (show gu_un xcd [608, 613, 614, 615, 616, 617, 618, 619, 620, 2100, 2400, 2700, 4400, 4500, 4600, 4700, 4800] G Gj38 from (gu_un.tr (gu_un.tr gu_un.rf (gu_un.su jU14 rfl)) (gu_un.su jU38 rfl))) rfl) (by rw [(show Gj38 6 4 = G 6 4 from (show gu_un xcd [608, 613, 614, 615, 616, 617, 618, 619, 620, 2100, 2400, 2700, 4400, 4500, 4600, 4700, 4800] G Gj38 from (gu_un.tr (gu_un.tr gu_un.rf (gu_un.su jU14 rfl)) (gu_un.su jU38 rfl))) 6 4 (by decide))]; omega) (by rw [(show Gj38 18 0 = G 18 0 from (show gu_un xcd [608, 613, 614, 615, 616, 617, 618, 619, 620, 2100, 2400, 2700, 4400, 4500, 4600, 4700, 4800] G Gj38 from (gu_un.tr (gu_un.tr gu_un.rf (gu_un.su jU14 rfl)) (gu_un.su jU38 rfl))) 18 0 (by decide))]; omega) (show Gj38 38 = G 38 from funext fun k_ => (show gu_un xcd [608, 613, 614, 615, 616, 617, 618, 619, 620, 2100, 2400, 2700, 4400, 4500, 4600, 4700, 4800] G Gj38 from (gu_un.tr (gu_un.tr gu_un.rf (gu_un.su jU14 rfl)) (gu_un.su jU38 rfl))) 38 k_ (by simp [xcd])) (congrArg Int32.toInt (show Gj38 6 1 = G 6 1 from (show gu_un xcd [608, 613, 614, 615, 616, 617, 618, 619, 620, 2100, 2400, 2700, 4400, 4500, 4600, 4700, 4800] G Gj38 from (gu_un.tr (gu_un.tr gu_un.rf (gu_un.su jU14 rfl)) (gu_un.su jU38 rfl))) 6 1 (by decide))) (show Gj38 6 2 = G 6 2 from (show gu_un xcd [608, 613, 614, 615, 616, 617, 618, 619, 620, 2100, 2400, 2700, 4400, 4500, 4600, 4700, 4800] G Gj38 from (gu_un.tr (gu_un.tr gu_un.rf (gu_un.su jU14 rfl)) (gu_un.su jU38 rfl))) 6 2 (by decide)) (show Gj38 6 3 = G 6 3 from (show gu_un xcd [608, 613, 614, 615, 616, 617, 618, 619, 620, 2100, 2400, 2700, 4400, 4500, 4600, 4700, 4800] G Gj38 from (gu_un.tr (gu_un.tr gu_un.rf (gu_un.su jU14 rfl)) (gu_un.su jU38 rfl))) 6 3 (by decide)) (show Gj38 6 4 = G 6 4 from (show gu_un xcd [608, 613, 614, 615, 616, 617, 618, 619, 620, 2100, 2400, 2700, 4400, 4500, 4600, 4700, 4800] G Gj38 from (gu_un.tr (gu_un.tr gu_un.rf (gu_un.su jU14 rfl)) (gu_un.su jU38 rfl))) 6 4 (by decide)); have hb := pvB_run hp.1; exact ⟨suI.step g1 (by unfold pvIn; rw [hq.1 3 (by decide) (by decide), hq.1 4 (by decide) (by decide), hq.1 5 (by decide) (by decide), hq.1 6 (by decide) (by decide)]; omega) (fun hb0 => by rw [hb] at hb0; first | (exfalso; omega) | exact ⟨by first | rfl | decide | omega, by first | rfl | decide | omega⟩) (fun hb0 => by rw [hb] at hb0; first | (exfalso; omega) | exact ⟨by first | rfl | decide | omega, by first | rfl | decide | omega⟩) (by omega), fun _ => (by unfold pvOk; rw [hq.1 0 (by decide) (by decide)]; show 1 ≤ psMx (psHr (G 38) (G 6 1).toInt (G 18 0).toInt) ((G 18 0).toInt - 1).toNat - (G 6 3).toInt * (G 6 4).toInt; have hsc := q18; omega)⟩) (by have e9_18_3 : G12 18 3 = (G 18 3) := (hU14 18 3 (by decide)).trans ((jU38 18 3 (by decide)).trans (jU14 18 3 (by decide))); have e9_18_4 : G12 18 4 = (G 18 4) := (hU14 18 4 (by decide)).trans ((jU38 18 4 (by decide)).trans (jU14 18 4 (by decide))); have e9_18_5 : G12 18 5 = (G 18 5) := (hU14 18 5 (by decide)).trans ((jU38 18 5 (by decide)).trans (jU14 18 5 (by decide))); (try simp only [e9_18_3, e9_18_4, e9_18_5, true_and, and_true]) <;> (first | omega | (simp only [Int32.reduceToInt, true_and, and_true, ne_eq, not_true_eq_false, false_and, or_false, false_or, true_or, or_true, false_implies] <;> omega))) (by (first | omega | (simp only [Int32.reduceToInt, true_and, and_true, ne_eq, not_true_eq_false, false_and, or_false, false_or, true_or, or_true, false_implies] <;> omega)))
                    · refine g_iconst F 2 dX0_sureness_123 (by decide) ?_
                      exact u_iret F hA hQ hr G12 (⟨hI13, (gu_un.tr (gu_un.tr (gu_un.tr gu_un.rf (gu_un.su jU14 rfl)) (gu_un.su jU38 rfl)) (gu_un.su hU14 rfl)), (by decide), (fun Q C hk hl hq => by obtain ⟨g1, g2⟩ := q2 Q C hk hl hq; have hp := xOut.pv (Q := Q) (C := C) (a0 := (G 6 1).toInt) (a1 := G 6 2) (a2 := G 6 3) (a3 := G 6 4) (h0 := G 38) (q17 ⟨xTok.un hk (show gu_un xcd [608, 613, 614, 615, 616, 617, 618, 619, 620, 2100, 2400, 2700, 4400, 4500, 4600, 4700, 4800] G Gj38 from (gu_un.tr (gu_un.tr gu_un.rf (gu_un.su jU14 rfl)) (gu_un.su jU38 rfl))) rfl, by omega⟩) (xSq.un hq (show gu_un xcd [608, 613, 614, 615, 616, 617, 618, 619, 620, 2100, 2400, 2700, 4400, 4500, 4600, 4700, 4800] G Gj38 from (gu_un.tr (gu_un.tr gu_un.rf (gu_un.su jU14 rfl)) (gu_un.su jU38 rfl))) rfl) (by rw [(show Gj38 6 4 = G 6 4 from (show gu_un xcd [608, 613, 614, 615, 616, 617, 618, 619, 620, 2100, 2400, 2700, 4400, 4500, 4600, 4700, 4800] G Gj38 from (gu_un.tr (gu_un.tr gu_un.rf (gu_un.su jU14 rfl)) (gu_un.su jU38 rfl))) 6 4 (by decide))]; omega) (by rw [(show Gj38 18 0 = G 18 0 from (show gu_un xcd [608, 613, 614, 615, 616, 617, 618, 619, 620, 2100, 2400, 2700, 4400, 4500, 4600, 4700, 4800] G Gj38 from (gu_un.tr (gu_un.tr gu_un.rf (gu_un.su jU14 rfl)) (gu_un.su jU38 rfl))) 18 0 (by decide))]; omega) (show Gj38 38 = G 38 from funext fun k_ => (show gu_un xcd [608, 613, 614, 615, 616, 617, 618, 619, 620, 2100, 2400, 2700, 4400, 4500, 4600, 4700, 4800] G Gj38 from (gu_un.tr (gu_un.tr gu_un.rf (gu_un.su jU14 rfl)) (gu_un.su jU38 rfl))) 38 k_ (by simp [xcd])) (congrArg Int32.toInt (show Gj38 6 1 = G 6 1 from (show gu_un xcd [608, 613, 614, 615, 616, 617, 618, 619, 620, 2100, 2400, 2700, 4400, 4500, 4600, 4700, 4800] G Gj38 from (gu_un.tr (gu_un.tr gu_un.rf (gu_un.su jU14 rfl)) (gu_un.su jU38 rfl))) 6 1 (by decide))) (show Gj38 6 2 = G 6 2 from (show gu_un xcd [608, 613, 614, 615, 616, 617, 618, 619, 620, 2100, 2400, 2700, 4400, 4500, 4600, 4700, 4800] G Gj38 from (gu_un.tr (gu_un.tr gu_un.rf (gu_un.su jU14 rfl)) (gu_un.su jU38 rfl))) 6 2 (by decide)) (show Gj38 6 3 = G 6 3 from (show gu_un xcd [608, 613, 614, 615, 616, 617, 618, 619, 620, 2100, 2400, 2700, 4400, 4500, 4600, 4700, 4800] G Gj38 from (gu_un.tr (gu_un.tr gu_un.rf (gu_un.su jU14 rfl)) (gu_un.su jU38 rfl))) 6 3 (by decide)) (show Gj38 6 4 = G 6 4 from (show gu_un xcd [608, 613, 614, 615, 616, 617, 618, 619, 620, 2100, 2400, 2700, 4400, 4500, 4600, 4700, 4800] G Gj38 from (gu_un.tr (gu_un.tr gu_un.rf (gu_un.su jU14 rfl)) (gu_un.su jU38 rfl))) 6 4 (by decide)); have hb := pvB_run hp.1; exact Or.inr ⟨(by unfold pvOk; rw [hq.1 0 (by decide) (by decide)]; show 1 ≤ psMx (psHr (G 38) (G 6 1).toInt (G 18 0).toInt) ((G 18 0).toInt - 1).toNat - (G 6 3).toInt * (G 6 4).toInt; have hsc := q18; omega), suI.two (suI.step g1 (by unfold pvIn; rw [hq.1 3 (by decide) (by decide), hq.1 4 (by decide) (by decide), hq.1 5 (by decide) (by decide), hq.1 6 (by decide) (by decide)]; omega) (y1 := x38_1.toInt) (y2 := x38_2.toInt) (fun hb0 => by rw [hb] at hb0; first | (exfalso; omega) | exact ⟨by first | rfl | decide | omega, by first | rfl | decide | omega⟩) (fun hb0 => by rw [hb] at hb0; first | (exfalso; omega) | exact ⟨by first | rfl | decide | omega, by first | rfl | decide | omega⟩) rfl) (by omega) (by omega) (by decide)⟩)⟩) rfl rfl dX0_sureness_124
                · refine g_iconst F 1 dX0_sureness_108 (by decide) ?_
                  refine g_goto F 113 dX0_sureness_109 (by decide) ?_
                  refine g_ior F dX0_sureness_113 ?_
                  refine g_fold 1 (by rcases ti_01 (v := x38_2) rfl (by omega) (by omega) with h9 | h9 <;> rw [h9] <;> decide) ?_
                  refine g_istore_n F [(2, .int 1), (1, .int x38_1), (5, .int r10), (0, .ref (a 7)), (3, .int x14_3), (4, .int x38_4)] dX0_sureness_114 rfl (by decide) rfl ?_
                  refine g_iload_n F 1 dX0_sureness_115 rfl rfl ?_
                  refine v_if_eq F 125 dX0_sureness_116 (by decide) x38_1.toInt rfl (fun c27 => ?_) (fun c27 => ?_)
                  · refine u_iinc F (fun v_ => [(4, .int v_), (2, .int 1), (1, .int x38_1), (5, .int r10), (0, .ref (a 7)), (3, .int x14_3)]) dX0_sureness_125 (j := 5) rfl x38_4.toInt 1 rfl rfl (by omega) (by omega) (by decide) (fun _ => rfl) (fun y28 ey28 => ?_)
                    refine g_goto F 38 dX0_sureness_128 (by decide) ?_
                    refine g_locals [(0, .ref (a 7)), (1, .int x38_1), (2, .int 1), (3, .int x14_3), (4, .int y28)] [4, 2, 1, 5, 0] rfl ?_
                    exact ih_38 x38_1 1 y28 G12 (by omega) (by have h9 := ti_rng x38_1; omega) (by decide) (by have h9 := ti_rng x14_3; omega) (by have h9 := ti_rng y28; omega) hI13 (gu_un.tr (gu_un.tr gu_un.rf (gu_un.su jU38 rfl)) (gu_un.su hU14 rfl)) (fun Q C hk hl hq => by obtain ⟨g1, g2⟩ := q2 Q C hk hl hq; have hp := xOut.pv (Q := Q) (C := C) (a0 := (G 6 1).toInt) (a1 := G 6 2) (a2 := G 6 3) (a3 := G 6 4) (h0 := G 38) (q17 ⟨xTok.un hk (show gu_un xcd [608, 613, 614, 615, 616, 617, 618, 619, 620, 2100, 2400, 2700, 4400, 4500, 4600, 4700, 4800] G Gj38 from (gu_un.tr (gu_un.tr gu_un.rf (gu_un.su jU14 rfl)) (gu_un.su jU38 rfl))) rfl, by omega⟩) (xSq.un hq (show gu_un xcd [608, 613, 614, 615, 616, 617, 618, 619, 620, 2100, 2400, 2700, 4400, 4500, 4600, 4700, 4800] G Gj38 from (gu_un.tr (gu_un.tr gu_un.rf (gu_un.su jU14 rfl)) (gu_un.su jU38 rfl))) rfl) (by rw [(show Gj38 6 4 = G 6 4 from (show gu_un xcd [608, 613, 614, 615, 616, 617, 618, 619, 620, 2100, 2400, 2700, 4400, 4500, 4600, 4700, 4800] G Gj38 from (gu_un.tr (gu_un.tr gu_un.rf (gu_un.su jU14 rfl)) (gu_un.su jU38 rfl))) 6 4 (by decide))]; omega) (by rw [(show Gj38 18 0 = G 18 0 from (show gu_un xcd [608, 613, 614, 615, 616, 617, 618, 619, 620, 2100, 2400, 2700, 4400, 4500, 4600, 4700, 4800] G Gj38 from (gu_un.tr (gu_un.tr gu_un.rf (gu_un.su jU14 rfl)) (gu_un.su jU38 rfl))) 18 0 (by decide))]; omega) (show Gj38 38 = G 38 from funext fun k_ => (show gu_un xcd [608, 613, 614, 615, 616, 617, 618, 619, 620, 2100, 2400, 2700, 4400, 4500, 4600, 4700, 4800] G Gj38 from (gu_un.tr (gu_un.tr gu_un.rf (gu_un.su jU14 rfl)) (gu_un.su jU38 rfl))) 38 k_ (by simp [xcd])) (congrArg Int32.toInt (show Gj38 6 1 = G 6 1 from (show gu_un xcd [608, 613, 614, 615, 616, 617, 618, 619, 620, 2100, 2400, 2700, 4400, 4500, 4600, 4700, 4800] G Gj38 from (gu_un.tr (gu_un.tr gu_un.rf (gu_un.su jU14 rfl)) (gu_un.su jU38 rfl))) 6 1 (by decide))) (show Gj38 6 2 = G 6 2 from (show gu_un xcd [608, 613, 614, 615, 616, 617, 618, 619, 620, 2100, 2400, 2700, 4400, 4500, 4600, 4700, 4800] G Gj38 from (gu_un.tr (gu_un.tr gu_un.rf (gu_un.su jU14 rfl)) (gu_un.su jU38 rfl))) 6 2 (by decide)) (show Gj38 6 3 = G 6 3 from (show gu_un xcd [608, 613, 614, 615, 616, 617, 618, 619, 620, 2100, 2400, 2700, 4400, 4500, 4600, 4700, 4800] G Gj38 from (gu_un.tr (gu_un.tr gu_un.rf (gu_un.su jU14 rfl)) (gu_un.su jU38 rfl))) 6 3 (by decide)) (show Gj38 6 4 = G 6 4 from (show gu_un xcd [608, 613, 614, 615, 616, 617, 618, 619, 620, 2100, 2400, 2700, 4400, 4500, 4600, 4700, 4800] G Gj38 from (gu_un.tr (gu_un.tr gu_un.rf (gu_un.su jU14 rfl)) (gu_un.su jU38 rfl))) 6 4 (by decide)); have hb := pvB_run hp.1; exact ⟨suI.step g1 (by unfold pvIn; rw [hq.1 3 (by decide) (by decide), hq.1 4 (by decide) (by decide), hq.1 5 (by decide) (by decide), hq.1 6 (by decide) (by decide)]; omega) (fun hb0 => by rw [hb] at hb0; first | (exfalso; omega) | exact ⟨by first | rfl | decide | omega, by first | rfl | decide | omega⟩) (fun hb0 => by rw [hb] at hb0; first | (exfalso; omega) | exact ⟨by first | rfl | decide | omega, by first | rfl | decide | omega⟩) (by omega), fun _ => (by unfold pvOk; rw [hq.1 0 (by decide) (by decide)]; show 1 ≤ psMx (psHr (G 38) (G 6 1).toInt (G 18 0).toInt) ((G 18 0).toInt - 1).toNat - (G 6 3).toInt * (G 6 4).toInt; have hsc := q18; omega)⟩) (by have e9_18_3 : G12 18 3 = (G 18 3) := (hU14 18 3 (by decide)).trans ((jU38 18 3 (by decide)).trans (jU14 18 3 (by decide))); have e9_18_4 : G12 18 4 = (G 18 4) := (hU14 18 4 (by decide)).trans ((jU38 18 4 (by decide)).trans (jU14 18 4 (by decide))); have e9_18_5 : G12 18 5 = (G 18 5) := (hU14 18 5 (by decide)).trans ((jU38 18 5 (by decide)).trans (jU14 18 5 (by decide))); (try simp only [e9_18_3, e9_18_4, e9_18_5, true_and, and_true]) <;> (first | omega | (simp only [Int32.reduceToInt, true_and, and_true, ne_eq, not_true_eq_false, false_and, or_false, false_or, true_or, or_true, false_implies] <;> omega))) (by (first | omega | (simp only [Int32.reduceToInt, true_and, and_true, ne_eq, not_true_eq_false, false_and, or_false, false_or, true_or, or_true, false_implies] <;> omega)))
                  · refine g_iload_n F 0 dX0_sureness_119 rfl rfl ?_
                    refine v_if_eq F 125 dX0_sureness_120 (by decide) 1 rfl (fun c29 => absurd c29 (by decide)) (fun c29 => ?_)
                    refine g_iconst F 2 dX0_sureness_123 (by decide) ?_
                    exact u_iret F hA hQ hr G12 (⟨hI13, (gu_un.tr (gu_un.tr (gu_un.tr gu_un.rf (gu_un.su jU14 rfl)) (gu_un.su jU38 rfl)) (gu_un.su hU14 rfl)), (by decide), (fun Q C hk hl hq => by obtain ⟨g1, g2⟩ := q2 Q C hk hl hq; have hp := xOut.pv (Q := Q) (C := C) (a0 := (G 6 1).toInt) (a1 := G 6 2) (a2 := G 6 3) (a3 := G 6 4) (h0 := G 38) (q17 ⟨xTok.un hk (show gu_un xcd [608, 613, 614, 615, 616, 617, 618, 619, 620, 2100, 2400, 2700, 4400, 4500, 4600, 4700, 4800] G Gj38 from (gu_un.tr (gu_un.tr gu_un.rf (gu_un.su jU14 rfl)) (gu_un.su jU38 rfl))) rfl, by omega⟩) (xSq.un hq (show gu_un xcd [608, 613, 614, 615, 616, 617, 618, 619, 620, 2100, 2400, 2700, 4400, 4500, 4600, 4700, 4800] G Gj38 from (gu_un.tr (gu_un.tr gu_un.rf (gu_un.su jU14 rfl)) (gu_un.su jU38 rfl))) rfl) (by rw [(show Gj38 6 4 = G 6 4 from (show gu_un xcd [608, 613, 614, 615, 616, 617, 618, 619, 620, 2100, 2400, 2700, 4400, 4500, 4600, 4700, 4800] G Gj38 from (gu_un.tr (gu_un.tr gu_un.rf (gu_un.su jU14 rfl)) (gu_un.su jU38 rfl))) 6 4 (by decide))]; omega) (by rw [(show Gj38 18 0 = G 18 0 from (show gu_un xcd [608, 613, 614, 615, 616, 617, 618, 619, 620, 2100, 2400, 2700, 4400, 4500, 4600, 4700, 4800] G Gj38 from (gu_un.tr (gu_un.tr gu_un.rf (gu_un.su jU14 rfl)) (gu_un.su jU38 rfl))) 18 0 (by decide))]; omega) (show Gj38 38 = G 38 from funext fun k_ => (show gu_un xcd [608, 613, 614, 615, 616, 617, 618, 619, 620, 2100, 2400, 2700, 4400, 4500, 4600, 4700, 4800] G Gj38 from (gu_un.tr (gu_un.tr gu_un.rf (gu_un.su jU14 rfl)) (gu_un.su jU38 rfl))) 38 k_ (by simp [xcd])) (congrArg Int32.toInt (show Gj38 6 1 = G 6 1 from (show gu_un xcd [608, 613, 614, 615, 616, 617, 618, 619, 620, 2100, 2400, 2700, 4400, 4500, 4600, 4700, 4800] G Gj38 from (gu_un.tr (gu_un.tr gu_un.rf (gu_un.su jU14 rfl)) (gu_un.su jU38 rfl))) 6 1 (by decide))) (show Gj38 6 2 = G 6 2 from (show gu_un xcd [608, 613, 614, 615, 616, 617, 618, 619, 620, 2100, 2400, 2700, 4400, 4500, 4600, 4700, 4800] G Gj38 from (gu_un.tr (gu_un.tr gu_un.rf (gu_un.su jU14 rfl)) (gu_un.su jU38 rfl))) 6 2 (by decide)) (show Gj38 6 3 = G 6 3 from (show gu_un xcd [608, 613, 614, 615, 616, 617, 618, 619, 620, 2100, 2400, 2700, 4400, 4500, 4600, 4700, 4800] G Gj38 from (gu_un.tr (gu_un.tr gu_un.rf (gu_un.su jU14 rfl)) (gu_un.su jU38 rfl))) 6 3 (by decide)) (show Gj38 6 4 = G 6 4 from (show gu_un xcd [608, 613, 614, 615, 616, 617, 618, 619, 620, 2100, 2400, 2700, 4400, 4500, 4600, 4700, 4800] G Gj38 from (gu_un.tr (gu_un.tr gu_un.rf (gu_un.su jU14 rfl)) (gu_un.su jU38 rfl))) 6 4 (by decide)); have hb := pvB_run hp.1; exact Or.inr ⟨(by unfold pvOk; rw [hq.1 0 (by decide) (by decide)]; show 1 ≤ psMx (psHr (G 38) (G 6 1).toInt (G 18 0).toInt) ((G 18 0).toInt - 1).toNat - (G 6 3).toInt * (G 6 4).toInt; have hsc := q18; omega), suI.two (suI.step g1 (by unfold pvIn; rw [hq.1 3 (by decide) (by decide), hq.1 4 (by decide) (by decide), hq.1 5 (by decide) (by decide), hq.1 6 (by decide) (by decide)]; omega) (y1 := x38_1.toInt) (y2 := 1) (fun hb0 => by rw [hb] at hb0; first | (exfalso; omega) | exact ⟨by first | rfl | decide | omega, by first | rfl | decide | omega⟩) (fun hb0 => by rw [hb] at hb0; first | (exfalso; omega) | exact ⟨by first | rfl | decide | omega, by first | rfl | decide | omega⟩) rfl) (by omega) (by omega) (by decide)⟩)⟩) rfl rfl dX0_sureness_124
              · refine g_iconst F 1 dX0_sureness_95 (by decide) ?_
                refine g_goto F 100 dX0_sureness_96 (by decide) ?_
                refine g_ior F dX0_sureness_100 ?_
                refine g_fold 1 (by rcases ti_01 (v := x38_1) rfl (by omega) (by omega) with h9 | h9 <;> rw [h9] <;> decide) ?_
                refine g_istore_n F [(1, .int 1), (5, .int r10), (0, .ref (a 7)), (2, .int x38_2), (3, .int x14_3), (4, .int x38_4)] dX0_sureness_101 rfl (by decide) rfl ?_
                refine g_iload_n F 3 dX0_sureness_102 rfl rfl ?_
                refine g_iload F 1 dX0_sureness_103 rfl ?_
                refine v_if_eq F 112 dX0_sureness_105 (by decide) r10.toInt rfl (fun c30 => ?_) (fun c30 => absurd c30 (by omega))
                refine g_iconst F 0 dX0_sureness_112 (by decide) ?_
                refine g_ior F dX0_sureness_113 ?_
                refine g_fold x38_2 (by first | exact Int32.or_zero | simp) ?_
                refine g_istore_n F [(2, .int x38_2), (1, .int 1), (5, .int r10), (0, .ref (a 7)), (3, .int x14_3), (4, .int x38_4)] dX0_sureness_114 rfl (by decide) rfl ?_
                refine g_iload_n F 1 dX0_sureness_115 rfl rfl ?_
                refine v_if_eq F 125 dX0_sureness_116 (by decide) 1 rfl (fun c31 => absurd c31 (by decide)) (fun c31 => ?_)
                refine g_iload_n F 0 dX0_sureness_119 rfl rfl ?_
                refine v_if_eq F 125 dX0_sureness_120 (by decide) x38_2.toInt rfl (fun c32 => ?_) (fun c32 => ?_)
                · refine u_iinc F (fun v_ => [(4, .int v_), (2, .int x38_2), (1, .int 1), (5, .int r10), (0, .ref (a 7)), (3, .int x14_3)]) dX0_sureness_125 (j := 5) rfl x38_4.toInt 1 rfl rfl (by omega) (by omega) (by decide) (fun _ => rfl) (fun y33 ey33 => ?_)
                  refine g_goto F 38 dX0_sureness_128 (by decide) ?_
                  refine g_locals [(0, .ref (a 7)), (1, .int 1), (2, .int x38_2), (3, .int x14_3), (4, .int y33)] [4, 2, 1, 5, 0] rfl ?_
                  exact ih_38 1 x38_2 y33 G12 (by omega) (by decide) (by have h9 := ti_rng x38_2; omega) (by have h9 := ti_rng x14_3; omega) (by have h9 := ti_rng y33; omega) hI13 (gu_un.tr (gu_un.tr gu_un.rf (gu_un.su jU38 rfl)) (gu_un.su hU14 rfl)) (fun Q C hk hl hq => by obtain ⟨g1, g2⟩ := q2 Q C hk hl hq; have hp := xOut.pv (Q := Q) (C := C) (a0 := (G 6 1).toInt) (a1 := G 6 2) (a2 := G 6 3) (a3 := G 6 4) (h0 := G 38) (q17 ⟨xTok.un hk (show gu_un xcd [608, 613, 614, 615, 616, 617, 618, 619, 620, 2100, 2400, 2700, 4400, 4500, 4600, 4700, 4800] G Gj38 from (gu_un.tr (gu_un.tr gu_un.rf (gu_un.su jU14 rfl)) (gu_un.su jU38 rfl))) rfl, by omega⟩) (xSq.un hq (show gu_un xcd [608, 613, 614, 615, 616, 617, 618, 619, 620, 2100, 2400, 2700, 4400, 4500, 4600, 4700, 4800] G Gj38 from (gu_un.tr (gu_un.tr gu_un.rf (gu_un.su jU14 rfl)) (gu_un.su jU38 rfl))) rfl) (by rw [(show Gj38 6 4 = G 6 4 from (show gu_un xcd [608, 613, 614, 615, 616, 617, 618, 619, 620, 2100, 2400, 2700, 4400, 4500, 4600, 4700, 4800] G Gj38 from (gu_un.tr (gu_un.tr gu_un.rf (gu_un.su jU14 rfl)) (gu_un.su jU38 rfl))) 6 4 (by decide))]; omega) (by rw [(show Gj38 18 0 = G 18 0 from (show gu_un xcd [608, 613, 614, 615, 616, 617, 618, 619, 620, 2100, 2400, 2700, 4400, 4500, 4600, 4700, 4800] G Gj38 from (gu_un.tr (gu_un.tr gu_un.rf (gu_un.su jU14 rfl)) (gu_un.su jU38 rfl))) 18 0 (by decide))]; omega) (show Gj38 38 = G 38 from funext fun k_ => (show gu_un xcd [608, 613, 614, 615, 616, 617, 618, 619, 620, 2100, 2400, 2700, 4400, 4500, 4600, 4700, 4800] G Gj38 from (gu_un.tr (gu_un.tr gu_un.rf (gu_un.su jU14 rfl)) (gu_un.su jU38 rfl))) 38 k_ (by simp [xcd])) (congrArg Int32.toInt (show Gj38 6 1 = G 6 1 from (show gu_un xcd [608, 613, 614, 615, 616, 617, 618, 619, 620, 2100, 2400, 2700, 4400, 4500, 4600, 4700, 4800] G Gj38 from (gu_un.tr (gu_un.tr gu_un.rf (gu_un.su jU14 rfl)) (gu_un.su jU38 rfl))) 6 1 (by decide))) (show Gj38 6 2 = G 6 2 from (show gu_un xcd [608, 613, 614, 615, 616, 617, 618, 619, 620, 2100, 2400, 2700, 4400, 4500, 4600, 4700, 4800] G Gj38 from (gu_un.tr (gu_un.tr gu_un.rf (gu_un.su jU14 rfl)) (gu_un.su jU38 rfl))) 6 2 (by decide)) (show Gj38 6 3 = G 6 3 from (show gu_un xcd [608, 613, 614, 615, 616, 617, 618, 619, 620, 2100, 2400, 2700, 4400, 4500, 4600, 4700, 4800] G Gj38 from (gu_un.tr (gu_un.tr gu_un.rf (gu_un.su jU14 rfl)) (gu_un.su jU38 rfl))) 6 3 (by decide)) (show Gj38 6 4 = G 6 4 from (show gu_un xcd [608, 613, 614, 615, 616, 617, 618, 619, 620, 2100, 2400, 2700, 4400, 4500, 4600, 4700, 4800] G Gj38 from (gu_un.tr (gu_un.tr gu_un.rf (gu_un.su jU14 rfl)) (gu_un.su jU38 rfl))) 6 4 (by decide)); have hb := pvB_run hp.1; exact ⟨suI.step g1 (by unfold pvIn; rw [hq.1 3 (by decide) (by decide), hq.1 4 (by decide) (by decide), hq.1 5 (by decide) (by decide), hq.1 6 (by decide) (by decide)]; omega) (fun hb0 => by rw [hb] at hb0; first | (exfalso; omega) | exact ⟨by first | rfl | decide | omega, by first | rfl | decide | omega⟩) (fun hb0 => by rw [hb] at hb0; first | (exfalso; omega) | exact ⟨by first | rfl | decide | omega, by first | rfl | decide | omega⟩) (by omega), fun _ => (by unfold pvOk; rw [hq.1 0 (by decide) (by decide)]; show 1 ≤ psMx (psHr (G 38) (G 6 1).toInt (G 18 0).toInt) ((G 18 0).toInt - 1).toNat - (G 6 3).toInt * (G 6 4).toInt; have hsc := q18; omega)⟩) (by have e9_18_3 : G12 18 3 = (G 18 3) := (hU14 18 3 (by decide)).trans ((jU38 18 3 (by decide)).trans (jU14 18 3 (by decide))); have e9_18_4 : G12 18 4 = (G 18 4) := (hU14 18 4 (by decide)).trans ((jU38 18 4 (by decide)).trans (jU14 18 4 (by decide))); have e9_18_5 : G12 18 5 = (G 18 5) := (hU14 18 5 (by decide)).trans ((jU38 18 5 (by decide)).trans (jU14 18 5 (by decide))); (try simp only [e9_18_3, e9_18_4, e9_18_5, true_and, and_true]) <;> (first | omega | (simp only [Int32.reduceToInt, true_and, and_true, ne_eq, not_true_eq_false, false_and, or_false, false_or, true_or, or_true, false_implies] <;> omega))) (by (first | omega | (simp only [Int32.reduceToInt, true_and, and_true, ne_eq, not_true_eq_false, false_and, or_false, false_or, true_or, or_true, false_implies] <;> omega)))
                · refine g_iconst F 2 dX0_sureness_123 (by decide) ?_
                  exact u_iret F hA hQ hr G12 (⟨hI13, (gu_un.tr (gu_un.tr (gu_un.tr gu_un.rf (gu_un.su jU14 rfl)) (gu_un.su jU38 rfl)) (gu_un.su hU14 rfl)), (by decide), (fun Q C hk hl hq => by obtain ⟨g1, g2⟩ := q2 Q C hk hl hq; have hp := xOut.pv (Q := Q) (C := C) (a0 := (G 6 1).toInt) (a1 := G 6 2) (a2 := G 6 3) (a3 := G 6 4) (h0 := G 38) (q17 ⟨xTok.un hk (show gu_un xcd [608, 613, 614, 615, 616, 617, 618, 619, 620, 2100, 2400, 2700, 4400, 4500, 4600, 4700, 4800] G Gj38 from (gu_un.tr (gu_un.tr gu_un.rf (gu_un.su jU14 rfl)) (gu_un.su jU38 rfl))) rfl, by omega⟩) (xSq.un hq (show gu_un xcd [608, 613, 614, 615, 616, 617, 618, 619, 620, 2100, 2400, 2700, 4400, 4500, 4600, 4700, 4800] G Gj38 from (gu_un.tr (gu_un.tr gu_un.rf (gu_un.su jU14 rfl)) (gu_un.su jU38 rfl))) rfl) (by rw [(show Gj38 6 4 = G 6 4 from (show gu_un xcd [608, 613, 614, 615, 616, 617, 618, 619, 620, 2100, 2400, 2700, 4400, 4500, 4600, 4700, 4800] G Gj38 from (gu_un.tr (gu_un.tr gu_un.rf (gu_un.su jU14 rfl)) (gu_un.su jU38 rfl))) 6 4 (by decide))]; omega) (by rw [(show Gj38 18 0 = G 18 0 from (show gu_un xcd [608, 613, 614, 615, 616, 617, 618, 619, 620, 2100, 2400, 2700, 4400, 4500, 4600, 4700, 4800] G Gj38 from (gu_un.tr (gu_un.tr gu_un.rf (gu_un.su jU14 rfl)) (gu_un.su jU38 rfl))) 18 0 (by decide))]; omega) (show Gj38 38 = G 38 from funext fun k_ => (show gu_un xcd [608, 613, 614, 615, 616, 617, 618, 619, 620, 2100, 2400, 2700, 4400, 4500, 4600, 4700, 4800] G Gj38 from (gu_un.tr (gu_un.tr gu_un.rf (gu_un.su jU14 rfl)) (gu_un.su jU38 rfl))) 38 k_ (by simp [xcd])) (congrArg Int32.toInt (show Gj38 6 1 = G 6 1 from (show gu_un xcd [608, 613, 614, 615, 616, 617, 618, 619, 620, 2100, 2400, 2700, 4400, 4500, 4600, 4700, 4800] G Gj38 from (gu_un.tr (gu_un.tr gu_un.rf (gu_un.su jU14 rfl)) (gu_un.su jU38 rfl))) 6 1 (by decide))) (show Gj38 6 2 = G 6 2 from (show gu_un xcd [608, 613, 614, 615, 616, 617, 618, 619, 620, 2100, 2400, 2700, 4400, 4500, 4600, 4700, 4800] G Gj38 from (gu_un.tr (gu_un.tr gu_un.rf (gu_un.su jU14 rfl)) (gu_un.su jU38 rfl))) 6 2 (by decide)) (show Gj38 6 3 = G 6 3 from (show gu_un xcd [608, 613, 614, 615, 616, 617, 618, 619, 620, 2100, 2400, 2700, 4400, 4500, 4600, 4700, 4800] G Gj38 from (gu_un.tr (gu_un.tr gu_un.rf (gu_un.su jU14 rfl)) (gu_un.su jU38 rfl))) 6 3 (by decide)) (show Gj38 6 4 = G 6 4 from (show gu_un xcd [608, 613, 614, 615, 616, 617, 618, 619, 620, 2100, 2400, 2700, 4400, 4500, 4600, 4700, 4800] G Gj38 from (gu_un.tr (gu_un.tr gu_un.rf (gu_un.su jU14 rfl)) (gu_un.su jU38 rfl))) 6 4 (by decide)); have hb := pvB_run hp.1; exact Or.inr ⟨(by unfold pvOk; rw [hq.1 0 (by decide) (by decide)]; show 1 ≤ psMx (psHr (G 38) (G 6 1).toInt (G 18 0).toInt) ((G 18 0).toInt - 1).toNat - (G 6 3).toInt * (G 6 4).toInt; have hsc := q18; omega), suI.two (suI.step g1 (by unfold pvIn; rw [hq.1 3 (by decide) (by decide), hq.1 4 (by decide) (by decide), hq.1 5 (by decide) (by decide), hq.1 6 (by decide) (by decide)]; omega) (y1 := 1) (y2 := x38_2.toInt) (fun hb0 => by rw [hb] at hb0; first | (exfalso; omega) | exact ⟨by first | rfl | decide | omega, by first | rfl | decide | omega⟩) (fun hb0 => by rw [hb] at hb0; first | (exfalso; omega) | exact ⟨by first | rfl | decide | omega, by first | rfl | decide | omega⟩) rfl) (by omega) (by omega) (by decide)⟩)⟩) rfl rfl dX0_sureness_124
            · refine g_bipush F (-4) dX0_sureness_86 (by decide) ?_
              exact u_iret F hA hQ hr G12 (⟨hI13, (gu_un.tr (gu_un.tr (gu_un.tr gu_un.rf (gu_un.su jU14 rfl)) (gu_un.su jU38 rfl)) (gu_un.su hU14 rfl)), (by decide), (fun Q C hk hl hq => Or.inl ⟨fun ho => by unfold pvOk at ho; rw [hq.1 0 (by decide) (by decide)] at ho; have ho2 : 1 ≤ psMx (psHr (G 38) (G 6 1).toInt (G 18 0).toInt) ((G 18 0).toInt - 1).toNat - (G 6 3).toInt * (G 6 4).toInt := ho; have hsc := q18; omega, by decide⟩)⟩) rfl rfl dX0_sureness_88
      refine g_iload_n F 3 dX0_sureness_14 rfl rfl ?_
      refine g_aload_n F 0 dX0_sureness_15 rfl rfl ?_
      refine xg_7_0 F i_X0 w_0 dX0_sureness_16 ?_
      refine xg_2_0 F i_X7 w_1 dX0_sureness_19 ?_
      refine g_iconst F 4 dX0_sureness_22 (by decide) ?_
      refine u1_iald F 18 0 xc_18 rfl 4 rfl (by decide) (by decide) dX0_sureness_23 (G 18 4) (jU14 18 4 (by decide)) ?_
      refine v_icmp_gt F 137 dX0_sureness_24 (by decide) x14_3.toInt (G 18 4).toInt rfl rfl (fun c34 => ?_) (fun c34 => ?_)
      · refine g_iload_n F 1 dX0_sureness_137 rfl rfl ?_
        refine v_if_eq F 145 dX0_sureness_138 (by decide) x14_1.toInt rfl (fun c35 => ?_) (fun c35 => ?_)
        · refine g_iconst F 0 dX0_sureness_145 (by decide) ?_
          exact u_iret F hA hQ hr Gj14 (⟨jI14, (gu_un.tr gu_un.rf (gu_un.su jU14 rfl)), (by decide), (fun Q C hk hl hq => by obtain ⟨g1, g2⟩ := q1 Q C hk hl hq; exact Or.inr ⟨g2 (by have h6 := hl.1; omega), suI.fin g1 (by rw [hq.1 4 (by decide) (by decide)]; omega) (by omega) (by omega) (by omega) (by first | omega | (simp only [Int32.reduceToInt, true_and, and_true, ne_eq, not_true_eq_false, false_and, or_false, false_or, true_or, or_true, false_implies] <;> omega))⟩)⟩) rfl rfl dX0_sureness_146
        · refine g_iconst F 1 dX0_sureness_141 (by decide) ?_
          refine g_goto F 146 dX0_sureness_142 (by decide) ?_
          exact u_iret F hA hQ hr Gj14 (⟨jI14, (gu_un.tr gu_un.rf (gu_un.su jU14 rfl)), (by decide), (fun Q C hk hl hq => by obtain ⟨g1, g2⟩ := q1 Q C hk hl hq; exact Or.inr ⟨g2 (by have h6 := hl.1; omega), suI.fin g1 (by rw [hq.1 4 (by decide) (by decide)]; omega) (by omega) (by omega) (by omega) (by first | omega | (simp only [Int32.reduceToInt, true_and, and_true, ne_eq, not_true_eq_false, false_and, or_false, false_or, true_or, or_true, false_implies] <;> omega))⟩)⟩) rfl rfl dX0_sureness_146
      · refine g_aload_n F 0 dX0_sureness_27 rfl rfl ?_
        refine xg_7_0 F i_X0 w_0 dX0_sureness_28 ?_
        refine xg_2_0 F i_X7 w_1 dX0_sureness_31 ?_
        refine g_iconst F 5 dX0_sureness_34 (by decide) ?_
        refine u1_iald F 18 0 xc_18 rfl 5 rfl (by decide) (by decide) dX0_sureness_35 (G 18 5) (jU14 18 5 (by decide)) ?_
        refine g_istore F [(4, .int (G 18 5)), (0, .ref (a 7)), (1, .int x14_1), (2, .int x14_2), (3, .int x14_3)] dX0_sureness_36 (by decide) rfl ?_
        refine g_locals [(0, .ref (a 7)), (1, .int x14_1), (2, .int x14_2), (3, .int x14_3), (4, .int (G 18 5))] [1, 2, 3, 4, 0] rfl ?_
        exact J_38 _ x14_1 x14_2 (G 18 5) Gj14 (Nat.lt_succ_self _) (by have h9 := ti_rng x14_1; omega) (by have h9 := ti_rng x14_2; omega) (by have h9 := ti_rng x14_3; omega) (by have h9 := ti_rng (G 18 5); omega) jI14 gu_un.rf (fun Q C hk hl hq => by obtain ⟨g1, g2⟩ := q1 Q C hk hl hq; exact ⟨by rw [hq.1 5 (by decide) (by decide)] at g1; exact g1, fun h => g2 (by omega)⟩) (by have e9_18_3 : Gj14 18 3 = (G 18 3) := jU14 18 3 (by decide); have e9_18_4 : Gj14 18 4 = (G 18 4) := jU14 18 4 (by decide); have e9_18_5 : Gj14 18 5 = (G 18 5) := jU14 18 5 (by decide); (try simp only [e9_18_3, e9_18_4, e9_18_5, true_and, and_true]) <;> (first | omega | (simp only [Int32.reduceToInt, true_and, and_true, ne_eq, not_true_eq_false, false_and, or_false, false_or, true_or, or_true, false_implies] <;> omega))) (by (first | omega | (simp only [Int32.reduceToInt, true_and, and_true, ne_eq, not_true_eq_false, false_and, or_false, false_or, true_or, or_true, false_implies] <;> omega)))
  refine g_iconst F 0 dX0_sureness_0 (by decide) ?_
  refine g_istore_n F [(1, .int 0), (0, .ref (a 7))] dX0_sureness_1 rfl (by decide) rfl ?_
  refine g_iconst F 0 dX0_sureness_2 (by decide) ?_
  refine g_istore_n F [(2, .int 0), (1, .int 0), (0, .ref (a 7))] dX0_sureness_3 rfl (by decide) rfl ?_
  refine g_aload_n F 2 dX0_sureness_4 rfl rfl ?_
  refine xg_7_0 F i_X0 w_0 dX0_sureness_5 ?_
  refine xg_2_0 F i_X7 w_1 dX0_sureness_8 ?_
  refine g_iconst F 3 dX0_sureness_11 (by decide) ?_
  refine u1_iald F 18 0 xc_18 rfl 3 rfl (by decide) (by decide) dX0_sureness_12 (G 18 3) (rfl) ?_
  refine g_istore_n F [(3, .int (G 18 3)), (2, .int 0), (1, .int 0), (0, .ref (a 7))] dX0_sureness_13 rfl (by decide) rfl ?_
  refine g_locals [(0, .ref (a 7)), (1, .int 0), (2, .int 0), (3, .int (G 18 3))] [3, 2, 1, 0] rfl ?_
  exact J_14 _ 0 0 (G 18 3) G (Nat.lt_succ_self _) (by decide) (by decide) (by have h9 := ti_rng (G 18 3); omega) hI gu_un.rf (fun Q C hk hl hq => ⟨suI.zero (by decide) (by decide) (by rw [hq.1 3 (by decide) (by decide)]; exact Int.le_refl _) (Int.le_refl _), fun h => absurd h (by omega)⟩) (by (first | omega | (simp only [Int32.reduceToInt, true_and, and_true, ne_eq, not_true_eq_false, false_and, or_false, false_or, true_or, or_true, false_implies] <;> omega))) (by (first | omega | (simp only [Int32.reduceToInt, true_and, and_true, ne_eq, not_true_eq_false, false_and, or_false, false_or, true_or, or_true, false_implies] <;> omega)))

theorem dX0_isQuietForAll_0 : decode cX0_isQuietForAll 0 = .ok (.aload_n 0, 1) := by decide +kernel
theorem dX0_isQuietForAll_1 : decode cX0_isQuietForAll 1 = .ok (.getfield 32, 3) := by decide +kernel
theorem dX0_isQuietForAll_4 : decode cX0_isQuietForAll 4 = .ok (.iload_n 1, 1) := by decide +kernel
theorem dX0_isQuietForAll_5 : decode cX0_isQuietForAll 5 = .ok (.iload_n 2, 1) := by decide +kernel
theorem dX0_isQuietForAll_6 : decode cX0_isQuietForAll 6 = .ok (.iload_n 3, 1) := by decide +kernel
theorem dX0_isQuietForAll_7 : decode cX0_isQuietForAll 7 = .ok (.aload_n 0, 1) := by decide +kernel
theorem dX0_isQuietForAll_8 : decode cX0_isQuietForAll 8 = .ok (.getfield 24, 3) := by decide +kernel
theorem dX0_isQuietForAll_11 : decode cX0_isQuietForAll 11 = .ok (.getfield 36, 3) := by decide +kernel
theorem dX0_isQuietForAll_14 : decode cX0_isQuietForAll 14 = .ok (.bipush 9, 2) := by decide +kernel
theorem dX0_isQuietForAll_16 : decode cX0_isQuietForAll 16 = .ok (.iaload, 1) := by decide +kernel
theorem dX0_isQuietForAll_17 : decode cX0_isQuietForAll 17 = .ok (.invokevirtual 56, 3) := by decide +kernel
theorem dX0_isQuietForAll_20 : decode cX0_isQuietForAll 20 = .ok (.ifCond .ne 5, 3) := by decide +kernel
theorem dX0_isQuietForAll_23 : decode cX0_isQuietForAll 23 = .ok (.iconst 0, 1) := by decide +kernel
theorem dX0_isQuietForAll_24 : decode cX0_isQuietForAll 24 = .ok (.ireturn, 1) := by decide +kernel
theorem dX0_isQuietForAll_25 : decode cX0_isQuietForAll 25 = .ok (.aload_n 0, 1) := by decide +kernel
theorem dX0_isQuietForAll_26 : decode cX0_isQuietForAll 26 = .ok (.getfield 24, 3) := by decide +kernel
theorem dX0_isQuietForAll_29 : decode cX0_isQuietForAll 29 = .ok (.getfield 36, 3) := by decide +kernel
theorem dX0_isQuietForAll_32 : decode cX0_isQuietForAll 32 = .ok (.iconst 3, 1) := by decide +kernel
theorem dX0_isQuietForAll_33 : decode cX0_isQuietForAll 33 = .ok (.iaload, 1) := by decide +kernel
theorem dX0_isQuietForAll_34 : decode cX0_isQuietForAll 34 = .ok (.istore 4, 2) := by decide +kernel
theorem dX0_isQuietForAll_36 : decode cX0_isQuietForAll 36 = .ok (.iload 4, 2) := by decide +kernel
theorem dX0_isQuietForAll_38 : decode cX0_isQuietForAll 38 = .ok (.aload_n 0, 1) := by decide +kernel
theorem dX0_isQuietForAll_39 : decode cX0_isQuietForAll 39 = .ok (.getfield 24, 3) := by decide +kernel
theorem dX0_isQuietForAll_42 : decode cX0_isQuietForAll 42 = .ok (.getfield 36, 3) := by decide +kernel
theorem dX0_isQuietForAll_45 : decode cX0_isQuietForAll 45 = .ok (.iconst 4, 1) := by decide +kernel
theorem dX0_isQuietForAll_46 : decode cX0_isQuietForAll 46 = .ok (.iaload, 1) := by decide +kernel
theorem dX0_isQuietForAll_47 : decode cX0_isQuietForAll 47 = .ok (.if_icmp .gt 71, 3) := by decide +kernel
theorem dX0_isQuietForAll_50 : decode cX0_isQuietForAll 50 = .ok (.aload_n 0, 1) := by decide +kernel
theorem dX0_isQuietForAll_51 : decode cX0_isQuietForAll 51 = .ok (.getfield 24, 3) := by decide +kernel
theorem dX0_isQuietForAll_54 : decode cX0_isQuietForAll 54 = .ok (.getfield 36, 3) := by decide +kernel
theorem dX0_isQuietForAll_57 : decode cX0_isQuietForAll 57 = .ok (.iconst 5, 1) := by decide +kernel
theorem dX0_isQuietForAll_58 : decode cX0_isQuietForAll 58 = .ok (.iaload, 1) := by decide +kernel
theorem dX0_isQuietForAll_59 : decode cX0_isQuietForAll 59 = .ok (.istore 5, 2) := by decide +kernel
theorem dX0_isQuietForAll_61 : decode cX0_isQuietForAll 61 = .ok (.iload 5, 2) := by decide +kernel
theorem dX0_isQuietForAll_63 : decode cX0_isQuietForAll 63 = .ok (.aload_n 0, 1) := by decide +kernel
theorem dX0_isQuietForAll_64 : decode cX0_isQuietForAll 64 = .ok (.getfield 24, 3) := by decide +kernel
theorem dX0_isQuietForAll_67 : decode cX0_isQuietForAll 67 = .ok (.getfield 36, 3) := by decide +kernel
theorem dX0_isQuietForAll_70 : decode cX0_isQuietForAll 70 = .ok (.bipush 6, 2) := by decide +kernel
theorem dX0_isQuietForAll_72 : decode cX0_isQuietForAll 72 = .ok (.iaload, 1) := by decide +kernel
theorem dX0_isQuietForAll_73 : decode cX0_isQuietForAll 73 = .ok (.if_icmp .gt 39, 3) := by decide +kernel
theorem dX0_isQuietForAll_76 : decode cX0_isQuietForAll 76 = .ok (.aload_n 0, 1) := by decide +kernel
theorem dX0_isQuietForAll_77 : decode cX0_isQuietForAll 77 = .ok (.getfield 32, 3) := by decide +kernel
theorem dX0_isQuietForAll_80 : decode cX0_isQuietForAll 80 = .ok (.aload_n 0, 1) := by decide +kernel
theorem dX0_isQuietForAll_81 : decode cX0_isQuietForAll 81 = .ok (.getfield 28, 3) := by decide +kernel
theorem dX0_isQuietForAll_84 : decode cX0_isQuietForAll 84 = .ok (.getfield 41, 3) := by decide +kernel
theorem dX0_isQuietForAll_87 : decode cX0_isQuietForAll 87 = .ok (.aload_n 0, 1) := by decide +kernel
theorem dX0_isQuietForAll_88 : decode cX0_isQuietForAll 88 = .ok (.getfield 28, 3) := by decide +kernel
theorem dX0_isQuietForAll_91 : decode cX0_isQuietForAll 91 = .ok (.getfield 46, 3) := by decide +kernel
theorem dX0_isQuietForAll_94 : decode cX0_isQuietForAll 94 = .ok (.iload 4, 2) := by decide +kernel
theorem dX0_isQuietForAll_96 : decode cX0_isQuietForAll 96 = .ok (.iload 5, 2) := by decide +kernel
theorem dX0_isQuietForAll_98 : decode cX0_isQuietForAll 98 = .ok (.invokevirtual 50, 3) := by decide +kernel
theorem dX0_isQuietForAll_101 : decode cX0_isQuietForAll 101 = .ok (.ifCond .eq 5, 3) := by decide +kernel
theorem dX0_isQuietForAll_104 : decode cX0_isQuietForAll 104 = .ok (.iconst 0, 1) := by decide +kernel
theorem dX0_isQuietForAll_105 : decode cX0_isQuietForAll 105 = .ok (.ireturn, 1) := by decide +kernel
theorem dX0_isQuietForAll_106 : decode cX0_isQuietForAll 106 = .ok (.iinc 5 1, 3) := by decide +kernel
theorem dX0_isQuietForAll_109 : decode cX0_isQuietForAll 109 = .ok (.goto (-48), 3) := by decide +kernel
theorem dX0_isQuietForAll_112 : decode cX0_isQuietForAll 112 = .ok (.iinc 4 1, 3) := by decide +kernel
theorem dX0_isQuietForAll_115 : decode cX0_isQuietForAll 115 = .ok (.goto (-79), 3) := by decide +kernel
theorem dX0_isQuietForAll_118 : decode cX0_isQuietForAll 118 = .ok (.iconst 1, 1) := by decide +kernel
theorem dX0_isQuietForAll_119 : decode cX0_isQuietForAll 119 = .ok (.ireturn, 1) := by decide +kernel
set_option maxRecDepth 20000 in
theorem ggX0_isQuietForAll_X5_run : GoodIn wsX0_isQuietForAll wsX5_run := goodIn_r _ [26, 16, 27, 12, 28, 29, 30, 31, 32, 14, 15, 33, 34, 13, 35, 17, 18, 19, 20, 21, 22, 36, 37, 38, 39, 40, 41, 10, 42, 43, 44, 45, 46, 47, 48, 49, 50, 51, 52, 53, 54, 55, 56, 57, 58, 59, 60, 61, 62, 63, 64, 65, 66, 67, 68, 69, 70, 71, 72, 73, 74, 75, 76, 77, 78, 79, 80, 81, 82, 83, 84, 85, 86, 87, 88, 89, 90, 91, 92, 93, 94, 95, 96, 97, 98, 99, 100, 101, 102, 103, 104, 105, 106, 107, 108, 109, 110, 111, 112, 113, 114, 115, 116, 117, 118, 136, 137, 138, 139, 140, 141, 142, 143, 144, 145, 146, 147, 148, 149, 150, 151, 152, 153, 154, 155, 127, 128, 129, 130, 156, 157, 158, 159, 160, 161, 162, 163, 164] rfl (by decide +kernel)
set_option maxRecDepth 20000 in
theorem gX0_isQuietForAll_X5_run : GoodIn wsX0_isQuietForAll (wsV RX0 50 RX5 yX5_run wsX5_run) := goodIn_app (goodIn_of _ (by decide +kernel)) ggX0_isQuietForAll_X5_run
set_option maxRecDepth 20000 in
theorem ggX0_isQuietForAll_X5_takes : GoodIn wsX0_isQuietForAll wsX5_takes := goodIn_r _ [11, 12, 13, 14, 15, 16, 17, 18, 19, 20, 21, 22, 136, 137, 138, 139, 140, 141, 142, 143, 144, 145, 146, 147, 148, 149, 150, 151, 152, 153, 154, 155, 127, 128, 129, 130] rfl (by decide +kernel)
set_option maxRecDepth 20000 in
theorem gX0_isQuietForAll_X5_takes : GoodIn wsX0_isQuietForAll (wsV RX0 56 RX5 yX5_takes wsX5_takes) := goodIn_app (goodIn_of _ (by decide +kernel)) ggX0_isQuietForAll_X5_takes
set_option maxHeartbeats 4000000 in
set_option maxRecDepth 100000 in
theorem S_X0_isQuietForAll (l : Launch) (D : va_G) (K : Nat → ClassId) (a : Nat → Nat) (G : gS) (p0 : Int32) (s0 : Int) (p1 : Int32) (s1 : Int) (p2 : Int32) (s2 : Int) (e0 : p0.toInt = s0) (e1 : p1.toInt = s1) (e2 : p2.toInt = s2) (hI : xI G) (sz : Nat) : Ki l yX0_isQuietForAll wsX0_isQuietForAll 5 148 0 0 D [.ref (a 7), .int p0, .int p1, .int p2] (xW K a G) (tK K) sz (fun (r : Int32) (G' : gS) => (xI G') ∧ (gu_un xcd [602, 603, 604, 605, 608, 613, 614, 615, 616, 617, 618, 619, 620, 2100, 2400, 2700, 4400, 4500, 4600, 4700, 4800] G G') ∧ (0 ≤ r.toInt ∧ r.toInt ≤ 1) ∧ ((∀ (Q : gS) (C : Nat → List Int), xTok G → lSp G → xSq G Q C → ((r.toInt = 1 ∧ (pvAr Q s0 s1 s2 ∧ pvA Q C (G 38) (G 5 2) s0 p1 p2 (Q 0 9))) ∨ (r.toInt = 0 ∧ ¬ (pvAr Q s0 s1 s2 ∧ pvA Q C (G 38) (G 5 2) s0 p1 p2 (Q 0 9))))))) (fun (G' : gS) => (xW K a G')) (fun _ => (tK K)) := by
  unfold Ki
  refine g_ofW (cc := cX0_isQuietForAll) (lv := [(0, .ref (a 7)), (1, .int p0), (2, .int p1), (3, .int p2)]) (by decide) rfl (Nat.le_of_ble_eq_true rfl) rfl ?_
  intro p e s m args below meth c A Q hA hQ F hr hnm
  have hts := F.2.2.2.2.1
  have w_0 : (Cond.fieldLink RX0 24 "QuietCut$Chooser" "shop" "LQuietCut$Shop;").before args s = true := hts _ (List.mem_of_getElem? (i := 2) rfl)
  have i_X0 : ∀ w ∈ u_ws RX0 TX0 8, w ∈ wsX0_isQuietForAll := fun _ h => List.mem_cons_of_mem _ (List.mem_append_left _ (List.mem_append_left _ (List.mem_append_left _ (List.mem_append_left _ (List.mem_append_right _ h)))))
  have w_1 : (Cond.fieldLink RX0 36 "QuietCut$Shop" "numbers" "[I").before args s = true := hts _ (List.mem_of_getElem? (i := 3) rfl)
  have i_X7 : ∀ w ∈ u_ws RX7 TX7 4, w ∈ wsX0_isQuietForAll := fun _ h => List.mem_cons_of_mem _ (List.mem_append_left _ (List.mem_append_left _ (List.mem_append_left _ (List.mem_append_right _ h))))
  have w_2 : (Cond.fieldLink RX0 32 "QuietCut$Chooser" "lathe" "LQuietCut$Lathe;").before args s = true := hts _ (List.mem_of_getElem? (i := 1) rfl)
  have w_3 : (Cond.fieldLink RX0 28 "QuietCut$Chooser" "piece" "LQuietCut$Piece;").before args s = true := hts _ (List.mem_of_getElem? (i := 4) rfl)
  have w_4 : (Cond.fieldLink RX0 41 "QuietCut$Piece" "heights" "[I").before args s = true := hts _ (List.mem_of_getElem? (i := 5) rfl)
  have i_X6 : ∀ w ∈ u_ws RX6 TX6 5, w ∈ wsX0_isQuietForAll := fun _ h => List.mem_cons_of_mem _ (List.mem_append_left _ (List.mem_append_left _ (List.mem_append_right _ h)))
  have w_5 : (Cond.fieldLink RX0 46 "QuietCut$Piece" "wear" "I").before args s = true := hts _ (List.mem_of_getElem? (i := 6) rfl)
  have rg0 : -2147483648 ≤ s0 ∧ s0 ≤ 2147483647 := e0 ▸ ti_rng p0
  have rg1 : -2147483648 ≤ s1 ∧ s1 ≤ 2147483647 := e1 ▸ ti_rng p1
  have rg2 : -2147483648 ≤ s2 ∧ s2 ≤ 2147483647 := e2 ▸ ti_rng p2
  have b1 : (4 : Int) ≤ (G 18 0).toInt ∧ (G 18 0).toInt ≤ 16 := hI 18 0
  have b2 : (1 : Int) ≤ (G 18 1).toInt ∧ (G 18 1).toInt ≤ 6 := hI 18 1
  have b3 : (0 : Int) ≤ (G 18 3).toInt ∧ (G 18 3).toInt ≤ 200 := hI 18 3
  have b4 : (0 : Int) ≤ (G 18 4).toInt ∧ (G 18 4).toInt ≤ 200 := hI 18 4
  have b5 : (0 : Int) ≤ (G 18 5).toInt ∧ (G 18 5).toInt ≤ 200 := hI 18 5
  have b6 : (0 : Int) ≤ (G 18 6).toInt ∧ (G 18 6).toInt ≤ 200 := hI 18 6
  have b7 : (1 : Int) ≤ (G 18 9).toInt ∧ (G 18 9).toInt ≤ 12 := hI 18 9
  have J_36 : ∀ (fuel : Nat) (x36_4 : Int32) (Gj36 : gS), (2147483647 - x36_4.toInt).toNat < fuel → (0 ≤ x36_4.toInt ∧ x36_4.toInt ≤ 201) → (xI Gj36) → (gu_un xcd [602, 603, 604, 605, 608, 613, 614, 615, 616, 617, 618, 619, 620, 2100, 2400, 2700, 4400, 4500, 4600, 4700, 4800] G Gj36) → (∀ (Q : gS) (C : Nat → List Int), xTok G → lSp G → xSq G Q C → (∀ st da : Int, pvIn Q st da → st < x36_4.toInt → pvB Q C (G 38) (G 5 2) s0 p1 p2 (G 18 9) st da = 0) ∧ ((G 18 3).toInt < x36_4.toInt → pvOk Q (G 38) s0 p2.toInt (G 18 9).toInt)) → (((G 18 3).toInt ≤ x36_4.toInt)) → ((0 ≤ (Gj36 6 1).toInt ∧ (Gj36 6 1).toInt < (G 18 1).toInt ∧ 1 ≤ (Gj36 6 2).toInt ∧ (Gj36 6 2).toInt ≤ 9 ∧ 1 ≤ (Gj36 6 3).toInt ∧ (Gj36 6 3).toInt ≤ 20 ∧ 1 ≤ (Gj36 6 4).toInt ∧ (Gj36 6 4).toInt ≤ 12)) → (((Gj36 6 1).toInt = s0 ∧ (Gj36 6 2).toInt = s1 ∧ (Gj36 6 3).toInt = s2 ∧ (Gj36 6 4).toInt = (G 18 9).toInt)) → gG p l e (gR 5 0 0 148) s m args below meth c D A 6 Q 0 0 (xW K a Gj36) (tK K) [(0, .ref (a 7)), (4, .int x36_4)] 36 [] := by
    intro fuel
    induction fuel with
    | zero => intro x36_4 Gj36 hm; exact absurd hm (Nat.not_lt_zero _)
    | succ fuel_36 ih_36 =>
      intro x36_4 Gj36 hm_36 h36_4 jI36 jU36 q1 b4 frc_36 twc_36
      have J_61 : ∀ (fuel : Nat) (x61_5 : Int32) (Gj61 : gS), (2147483647 - x61_5.toInt).toNat < fuel → (0 ≤ x36_4.toInt ∧ x36_4.toInt ≤ 200) → (0 ≤ x61_5.toInt ∧ x61_5.toInt ≤ 201) → (xI Gj61) → (gu_un xcd [608, 613, 614, 615, 616, 617, 618, 619, 620, 2100, 2400, 2700, 4400, 4500, 4600, 4700, 4800] Gj36 Gj61) → (∀ (Q : gS) (C : Nat → List Int), xTok G → lSp G → xSq G Q C → (∀ st da : Int, pvIn Q st da → (st < x36_4.toInt ∨ (st = x36_4.toInt ∧ da < x61_5.toInt)) → pvB Q C (G 38) (G 5 2) s0 p1 p2 (G 18 9) st da = 0) ∧ (((G 18 3).toInt < x36_4.toInt ∨ (G 18 5).toInt < x61_5.toInt) → pvOk Q (G 38) s0 p2.toInt (G 18 9).toInt)) → (((G 18 5).toInt ≤ x61_5.toInt ∧ (G 18 3).toInt ≤ x36_4.toInt ∧ x36_4.toInt ≤ (G 18 4).toInt)) → ((0 ≤ (Gj36 6 1).toInt ∧ (Gj36 6 1).toInt < (G 18 1).toInt ∧ 1 ≤ (Gj36 6 2).toInt ∧ (Gj36 6 2).toInt ≤ 9 ∧ 1 ≤ (Gj36 6 3).toInt ∧ (Gj36 6 3).toInt ≤ 20 ∧ 1 ≤ (Gj36 6 4).toInt ∧ (Gj36 6 4).toInt ≤ 12)) → (((Gj36 6 1).toInt = s0 ∧ (Gj36 6 2).toInt = s1 ∧ (Gj36 6 3).toInt = s2 ∧ (Gj36 6 4).toInt = (G 18 9).toInt)) → gG p l e (gR 5 0 0 148) s m args below meth c D A 6 Q 0 0 (xW K a Gj61) (tK K) [(0, .ref (a 7)), (4, .int x36_4), (5, .int x61_5)] 61 [] := by
        intro fuel
        induction fuel with
        | zero => intro x61_5 Gj61 hm; exact absurd hm (Nat.not_lt_zero _)
        | succ fuel_61 ih_61 =>
          intro x61_5 Gj61 hm_61 k61_4 h61_5 jI61 jU61 q2 b5 frc_61 twc_61
          refine g_iload F 2 dX0_isQuietForAll_61 rfl ?_
          refine g_aload_n F 0 dX0_isQuietForAll_63 rfl rfl ?_
          refine xg_7_0 F i_X0 w_0 dX0_isQuietForAll_64 ?_
          refine xg_2_0 F i_X7 w_1 dX0_isQuietForAll_67 ?_
          refine g_bipush F 6 dX0_isQuietForAll_70 (by decide) ?_
          refine u1_iald F 18 0 xc_18 rfl 6 rfl (by decide) (by decide) dX0_isQuietForAll_72 (G 18 6) ((jU61 18 6 (by decide)).trans (jU36 18 6 (by decide))) ?_
          refine v_icmp_gt F 112 dX0_isQuietForAll_73 (by decide) x61_5.toInt (G 18 6).toInt rfl rfl (fun c8 => ?_) (fun c8 => ?_)
          · refine u_iinc F (fun v_ => [(4, .int v_), (0, .ref (a 7)), (5, .int x61_5)]) dX0_isQuietForAll_112 (j := 1) rfl x36_4.toInt 1 rfl rfl (by omega) (by omega) (by decide) (fun _ => rfl) (fun y9 ey9 => ?_)
            refine g_goto F 36 dX0_isQuietForAll_115 (by decide) ?_
            refine g_locals [(0, .ref (a 7)), (4, .int y9)] [1, 0] rfl ?_
            exact ih_36 y9 Gj61 (by omega) (by have h9 := ti_rng y9; omega) jI61 (gu_un.tr (gu_un.tr gu_un.rf (gu_un.su jU36 rfl)) (gu_un.su jU61 rfl)) (fun Q C hk hl hq => by obtain ⟨g1, g2⟩ := q2 Q C hk hl hq; exact ⟨fun st da hd h => g1 st da hd (by have h5 := hd.2.2.2; rw [hq.1 6 (by decide) (by decide)] at h5; omega), fun _ => g2 (by have h6 := hl.2; omega)⟩) (by have e9_18_3 : Gj61 18 3 = (G 18 3) := (jU61 18 3 (by decide)).trans (jU36 18 3 (by decide)); (try simp only [e9_18_3, true_and, and_true]) <;> (first | omega | (simp only [Int32.reduceToInt, true_and, and_true, ne_eq, not_true_eq_false, false_and, or_false, false_or, true_or, or_true, false_implies] <;> omega))) (by have e9_6_1 : Gj61 6 1 = (Gj36 6 1) := jU61 6 1 (by decide); have e9_6_2 : Gj61 6 2 = (Gj36 6 2) := jU61 6 2 (by decide); have e9_6_3 : Gj61 6 3 = (Gj36 6 3) := jU61 6 3 (by decide); have e9_6_4 : Gj61 6 4 = (Gj36 6 4) := jU61 6 4 (by decide); have e9_18_1 : Gj61 18 1 = (G 18 1) := (jU61 18 1 (by decide)).trans (jU36 18 1 (by decide)); (try simp only [e9_6_1, e9_6_2, e9_6_3, e9_6_4, e9_18_1, true_and, and_true]) <;> (first | omega | (simp only [Int32.reduceToInt, true_and, and_true, ne_eq, not_true_eq_false, false_and, or_false, false_or, true_or, or_true, false_implies] <;> omega))) (by have e9_6_1 : Gj61 6 1 = (Gj36 6 1) := jU61 6 1 (by decide); have e9_6_2 : Gj61 6 2 = (Gj36 6 2) := jU61 6 2 (by decide); have e9_6_3 : Gj61 6 3 = (Gj36 6 3) := jU61 6 3 (by decide); have e9_6_4 : Gj61 6 4 = (Gj36 6 4) := jU61 6 4 (by decide); have e9_18_9 : Gj61 18 9 = (G 18 9) := (jU61 18 9 (by decide)).trans (jU36 18 9 (by decide)); (try simp only [e9_6_1, e9_6_2, e9_6_3, e9_6_4, e9_18_9, true_and, and_true]) <;> (first | omega | (simp only [Int32.reduceToInt, true_and, and_true, ne_eq, not_true_eq_false, false_and, or_false, false_or, true_or, or_true, false_implies] <;> omega)))
          · refine g_aload_n F 0 dX0_isQuietForAll_76 rfl rfl ?_
            refine xg_7_2 F i_X0 w_2 dX0_isQuietForAll_77 ?_
            refine g_aload_n F 0 dX0_isQuietForAll_80 rfl rfl ?_
            refine xg_7_1 F i_X0 w_3 dX0_isQuietForAll_81 ?_
            refine xg_5_1 F i_X6 w_4 dX0_isQuietForAll_84 ?_
            refine g_aload_n F 0 dX0_isQuietForAll_87 rfl rfl ?_
            refine xg_7_1 F i_X0 w_3 dX0_isQuietForAll_88 ?_
            refine xg_5_2 F i_X6 w_5 dX0_isQuietForAll_91 (G 5 2) ((jU61 5 2 (by decide)).trans (jU36 5 2 (by decide))) ?_
            refine g_iload F 1 dX0_isQuietForAll_94 rfl ?_
            refine g_iload F 2 dX0_isQuietForAll_96 rfl ?_
            have b10 : (0 : Int) ≤ (G 5 2).toInt ∧ (G 5 2).toInt ≤ 30000 := hI 5 2
            refine u_callVi (k := 0) (n := 0) (b := a 6) (As := [.ref (a 38), .int (G 5 2), .int x36_4, .int x61_5]) (st := []) F (fun sz => S_X5_run_38 l D K a Gj61 (G 5 2) (G 5 2).toInt x36_4 x36_4.toInt x61_5 x61_5.toInt rfl (by omega) rfl (by omega) rfl (by omega) (by have e9_6_1 : Gj61 6 1 = (Gj36 6 1) := jU61 6 1 (by decide); have e9_6_2 : Gj61 6 2 = (Gj36 6 2) := jU61 6 2 (by decide); have e9_6_3 : Gj61 6 3 = (Gj36 6 3) := jU61 6 3 (by decide); have e9_6_4 : Gj61 6 4 = (Gj36 6 4) := jU61 6 4 (by decide); have e9_18_1 : Gj61 18 1 = (G 18 1) := (jU61 18 1 (by decide)).trans (jU36 18 1 (by decide)); (try simp only [e9_6_1, e9_6_2, e9_6_3, e9_6_4, e9_18_1, true_and, and_true]) <;> (first | omega | (simp only [Int32.reduceToInt, true_and, and_true, ne_eq, not_true_eq_false, false_and, or_false, false_or, true_or, or_true, false_implies] <;> omega))) jI61 sz) (cwV 4 hts gX0_isQuietForAll_X5_run rfl rfl rfl (by decide +kernel) ⟨Nat.le_of_ble_eq_true rfl, Nat.le_of_ble_eq_true rfl⟩) rfl 6 xc_6 rfl (Nat.le_of_ble_eq_true rfl) ⟨Nat.zero_le _, Nat.zero_le _⟩ dX0_isQuietForAll_98 (fun r11 G13 hw12 => ?_)
            have hI14 : xI G13 := hw12.1
            have hU15 : gu_un xcd [608, 613, 614, 615, 616, 617, 618, 619, 620, 2100, 2400, 2700, 4400, 4500, 4600, 4700, 4800] Gj61 G13 := hw12.2.1
            have hp16 := hw12.2.2
            have q17 : (r11.toInt = -4 ∨ (0 ≤ r11.toInt ∧ r11.toInt ≤ 2)) := hp16.2.1
            have q18 : ((xTok Gj61 ∧ r11.toInt ≠ -4) → xOut Gj61 (Gj61 38) (G 5 2) x36_4 x61_5 G13 r11.toInt) := hp16.2.2.1
            have q19 : ((r11.toInt = -4 ∧ psMx (psHr (G 38) (Gj36 6 1).toInt (G 18 0).toInt) ((G 18 0).toInt - 1).toNat - (Gj36 6 3).toInt * (Gj36 6 4).toInt < 1) ∨ (r11.toInt ≠ -4 ∧ 1 ≤ psMx (psHr (G 38) (Gj36 6 1).toInt (G 18 0).toInt) ((G 18 0).toInt - 1).toNat - (Gj36 6 3).toInt * (Gj36 6 4).toInt)) := by have h9 := hp16.2.2.2; (try simp only [(show Gj61 6 1 = (Gj36 6 1) from jU61 6 1 (by decide)), (show Gj61 18 0 = (G 18 0) from (jU61 18 0 (by decide)).trans (jU36 18 0 (by decide))), (show Gj61 18 0 = (G 18 0) from (jU61 18 0 (by decide)).trans (jU36 18 0 (by decide))), (show Gj61 6 3 = (Gj36 6 3) from jU61 6 3 (by decide)), (show Gj61 6 4 = (Gj36 6 4) from jU61 6 4 (by decide)), (show Gj61 6 1 = (Gj36 6 1) from jU61 6 1 (by decide)), (show Gj61 18 0 = (G 18 0) from (jU61 18 0 (by decide)).trans (jU36 18 0 (by decide))), (show Gj61 18 0 = (G 18 0) from (jU61 18 0 (by decide)).trans (jU36 18 0 (by decide))), (show Gj61 6 3 = (Gj36 6 3) from jU61 6 3 (by decide)), (show Gj61 6 4 = (Gj36 6 4) from jU61 6 4 (by decide)), (show Gj61 38 = (G 38) from (show Gj61 38 = Gj36 38 from funext fun k_ => jU61 38 k_ (show (3800 : Nat) ∉ ([608, 613, 614, 615, 616, 617, 618, 619, 620, 2100, 2400, 2700, 4400, 4500, 4600, 4700, 4800] : List Nat) by decide)).trans ((show Gj36 38 = G 38 from funext fun k_ => jU36 38 k_ (show (3800 : Nat) ∉ ([602, 603, 604, 605, 608, 613, 614, 615, 616, 617, 618, 619, 620, 2100, 2400, 2700, 4400, 4500, 4600, 4700, 4800] : List Nat) by decide)))), (show Gj61 38 = (G 38) from (show Gj61 38 = Gj36 38 from funext fun k_ => jU61 38 k_ (show (3800 : Nat) ∉ ([608, 613, 614, 615, 616, 617, 618, 619, 620, 2100, 2400, 2700, 4400, 4500, 4600, 4700, 4800] : List Nat) by decide)).trans ((show Gj36 38 = G 38 from funext fun k_ => jU36 38 k_ (show (3800 : Nat) ∉ ([602, 603, 604, 605, 608, 613, 614, 615, 616, 617, 618, 619, 620, 2100, 2400, 2700, 4400, 4500, 4600, 4700, 4800] : List Nat) by decide))))] at h9); first | exact h9 | omega
            have rg20 := hp16.1
            clear hp16 hw12
            refine v_if_eq F 106 dX0_isQuietForAll_101 (by decide) r11.toInt rfl (fun c21 => ?_) (fun c21 => ?_)
            · refine u_iinc F (fun v_ => [(5, .int v_), (0, .ref (a 7)), (4, .int x36_4)]) dX0_isQuietForAll_106 (j := 2) rfl x61_5.toInt 1 rfl rfl (by omega) (by omega) (by decide) (fun _ => rfl) (fun y22 ey22 => ?_)
              refine g_goto F 61 dX0_isQuietForAll_109 (by decide) ?_
              refine g_locals [(0, .ref (a 7)), (4, .int x36_4), (5, .int y22)] [1, 2, 0] rfl ?_
              exact ih_61 y22 G13 (by omega) (by have h9 := ti_rng x36_4; omega) (by have h9 := ti_rng y22; omega) hI14 (gu_un.tr (gu_un.tr gu_un.rf (gu_un.su jU61 rfl)) (gu_un.su hU15 rfl)) (fun Q C hk hl hq => by obtain ⟨g1, g2⟩ := q2 Q C hk hl hq; have e6_1 : (Gj61 6 1).toInt = ((Gj36 6 1)).toInt := congrArg Int32.toInt (jU61 6 1 (by decide)); have e6_2 : (Gj61 6 2).toInt = ((Gj36 6 2)).toInt := congrArg Int32.toInt (jU61 6 2 (by decide)); have e6_3 : (Gj61 6 3).toInt = ((Gj36 6 3)).toInt := congrArg Int32.toInt (jU61 6 3 (by decide)); have e6_4 : (Gj61 6 4).toInt = ((Gj36 6 4)).toInt := congrArg Int32.toInt (jU61 6 4 (by decide)); have hp := xOut.pv (Q := Q) (C := C) (a0 := s0) (a1 := p1) (a2 := p2) (a3 := G 18 9) (h0 := G 38) (q18 ⟨xTok.un hk (show gu_un xcd [602, 603, 604, 605, 608, 613, 614, 615, 616, 617, 618, 619, 620, 2100, 2400, 2700, 4400, 4500, 4600, 4700, 4800] G Gj61 from (gu_un.tr (gu_un.tr gu_un.rf (gu_un.su jU36 rfl)) (gu_un.su jU61 rfl))) rfl, by omega⟩) (xSq.un hq (show gu_un xcd [602, 603, 604, 605, 608, 613, 614, 615, 616, 617, 618, 619, 620, 2100, 2400, 2700, 4400, 4500, 4600, 4700, 4800] G Gj61 from (gu_un.tr (gu_un.tr gu_un.rf (gu_un.su jU36 rfl)) (gu_un.su jU61 rfl))) rfl) (by omega) (by rw [(show Gj61 18 0 = G 18 0 from (show gu_un xcd [602, 603, 604, 605, 608, 613, 614, 615, 616, 617, 618, 619, 620, 2100, 2400, 2700, 4400, 4500, 4600, 4700, 4800] G Gj61 from (gu_un.tr (gu_un.tr gu_un.rf (gu_un.su jU36 rfl)) (gu_un.su jU61 rfl))) 18 0 (by decide))]; omega) (show Gj61 38 = G 38 from funext fun k_ => (show gu_un xcd [602, 603, 604, 605, 608, 613, 614, 615, 616, 617, 618, 619, 620, 2100, 2400, 2700, 4400, 4500, 4600, 4700, 4800] G Gj61 from (gu_un.tr (gu_un.tr gu_un.rf (gu_un.su jU36 rfl)) (gu_un.su jU61 rfl))) 38 k_ (by simp [xcd])) (by omega) (Int32.toInt_inj.mp (by omega)) (Int32.toInt_inj.mp (by omega)) (Int32.toInt_inj.mp (by omega)); have hb := pvB_run hp.1; exact ⟨fun st da hd h => by by_cases e9 : st = x36_4.toInt ∧ da = x61_5.toInt <;> first | (rw [e9.1, e9.2, hb]; omega) | exact g1 st da hd (by omega), fun _ => by unfold pvOk; rw [hq.1 0 (by decide) (by decide)]; show 1 ≤ psMx (psHr (G 38) s0 (G 18 0).toInt) ((G 18 0).toInt - 1).toNat - p2.toInt * (G 18 9).toInt; have hsc := q19; rw [show (Gj36 6 1).toInt = s0 by omega, show (Gj36 6 3).toInt = p2.toInt by omega, show (Gj36 6 4).toInt = (G 18 9).toInt by omega] at hsc; omega⟩) (by have e9_18_3 : G13 18 3 = (G 18 3) := (hU15 18 3 (by decide)).trans ((jU61 18 3 (by decide)).trans (jU36 18 3 (by decide))); have e9_18_4 : G13 18 4 = (G 18 4) := (hU15 18 4 (by decide)).trans ((jU61 18 4 (by decide)).trans (jU36 18 4 (by decide))); have e9_18_5 : G13 18 5 = (G 18 5) := (hU15 18 5 (by decide)).trans ((jU61 18 5 (by decide)).trans (jU36 18 5 (by decide))); (try simp only [e9_18_3, e9_18_4, e9_18_5, true_and, and_true]) <;> (first | omega | (simp only [Int32.reduceToInt, true_and, and_true, ne_eq, not_true_eq_false, false_and, or_false, false_or, true_or, or_true, false_implies] <;> omega))) (by have e9_6_1 : G13 6 1 = (Gj36 6 1) := (hU15 6 1 (by decide)).trans (jU61 6 1 (by decide)); have e9_6_2 : G13 6 2 = (Gj36 6 2) := (hU15 6 2 (by decide)).trans (jU61 6 2 (by decide)); have e9_6_3 : G13 6 3 = (Gj36 6 3) := (hU15 6 3 (by decide)).trans (jU61 6 3 (by decide)); have e9_6_4 : G13 6 4 = (Gj36 6 4) := (hU15 6 4 (by decide)).trans (jU61 6 4 (by decide)); have e9_18_1 : G13 18 1 = (G 18 1) := (hU15 18 1 (by decide)).trans ((jU61 18 1 (by decide)).trans (jU36 18 1 (by decide))); (try simp only [e9_6_1, e9_6_2, e9_6_3, e9_6_4, e9_18_1, true_and, and_true]) <;> (first | omega | (simp only [Int32.reduceToInt, true_and, and_true, ne_eq, not_true_eq_false, false_and, or_false, false_or, true_or, or_true, false_implies] <;> omega))) (by have e9_6_1 : G13 6 1 = (Gj36 6 1) := (hU15 6 1 (by decide)).trans (jU61 6 1 (by decide)); have e9_6_2 : G13 6 2 = (Gj36 6 2) := (hU15 6 2 (by decide)).trans (jU61 6 2 (by decide)); have e9_6_3 : G13 6 3 = (Gj36 6 3) := (hU15 6 3 (by decide)).trans (jU61 6 3 (by decide)); have e9_6_4 : G13 6 4 = (Gj36 6 4) := (hU15 6 4 (by decide)).trans (jU61 6 4 (by decide)); have e9_18_9 : G13 18 9 = (G 18 9) := (hU15 18 9 (by decide)).trans ((jU61 18 9 (by decide)).trans (jU36 18 9 (by decide))); (try simp only [e9_6_1, e9_6_2, e9_6_3, e9_6_4, e9_18_9, true_and, and_true]) <;> (first | omega | (simp only [Int32.reduceToInt, true_and, and_true, ne_eq, not_true_eq_false, false_and, or_false, false_or, true_or, or_true, false_implies] <;> omega)))
            · refine g_iconst F 0 dX0_isQuietForAll_104 (by decide) ?_
              exact u_zret F hA hQ hr rfl G13 (⟨hI14, (gu_un.tr (gu_un.tr (gu_un.tr gu_un.rf (gu_un.su jU36 rfl)) (gu_un.su jU61 rfl)) (gu_un.su hU15 rfl)), (by decide), (fun Q C hk hl hq => Or.inr ⟨by decide, fun h => by rw [hq.1 9 (by decide) (by decide)] at h; by_cases e8 : r11.toInt = -4 <;> first | (have ho := h.2.1; unfold pvOk at ho; rw [hq.1 0 (by decide) (by decide)] at ho; have ho2 : 1 ≤ psMx (psHr (G 38) s0 (G 18 0).toInt) ((G 18 0).toInt - 1).toNat - p2.toInt * (G 18 9).toInt := ho; have hsc := q19; rw [show (Gj36 6 1).toInt = s0 by omega, show (Gj36 6 3).toInt = p2.toInt by omega, show (Gj36 6 4).toInt = (G 18 9).toInt by omega] at hsc; omega) | (have e6_1 : (Gj61 6 1).toInt = ((Gj36 6 1)).toInt := congrArg Int32.toInt (jU61 6 1 (by decide)); have e6_2 : (Gj61 6 2).toInt = ((Gj36 6 2)).toInt := congrArg Int32.toInt (jU61 6 2 (by decide)); have e6_3 : (Gj61 6 3).toInt = ((Gj36 6 3)).toInt := congrArg Int32.toInt (jU61 6 3 (by decide)); have e6_4 : (Gj61 6 4).toInt = ((Gj36 6 4)).toInt := congrArg Int32.toInt (jU61 6 4 (by decide)); have hp := xOut.pv (Q := Q) (C := C) (a0 := s0) (a1 := p1) (a2 := p2) (a3 := G 18 9) (h0 := G 38) (q18 ⟨xTok.un hk (show gu_un xcd [602, 603, 604, 605, 608, 613, 614, 615, 616, 617, 618, 619, 620, 2100, 2400, 2700, 4400, 4500, 4600, 4700, 4800] G Gj61 from (gu_un.tr (gu_un.tr gu_un.rf (gu_un.su jU36 rfl)) (gu_un.su jU61 rfl))) rfl, by omega⟩) (xSq.un hq (show gu_un xcd [602, 603, 604, 605, 608, 613, 614, 615, 616, 617, 618, 619, 620, 2100, 2400, 2700, 4400, 4500, 4600, 4700, 4800] G Gj61 from (gu_un.tr (gu_un.tr gu_un.rf (gu_un.su jU36 rfl)) (gu_un.su jU61 rfl))) rfl) (by omega) (by rw [(show Gj61 18 0 = G 18 0 from (show gu_un xcd [602, 603, 604, 605, 608, 613, 614, 615, 616, 617, 618, 619, 620, 2100, 2400, 2700, 4400, 4500, 4600, 4700, 4800] G Gj61 from (gu_un.tr (gu_un.tr gu_un.rf (gu_un.su jU36 rfl)) (gu_un.su jU61 rfl))) 18 0 (by decide))]; omega) (show Gj61 38 = G 38 from funext fun k_ => (show gu_un xcd [602, 603, 604, 605, 608, 613, 614, 615, 616, 617, 618, 619, 620, 2100, 2400, 2700, 4400, 4500, 4600, 4700, 4800] G Gj61 from (gu_un.tr (gu_un.tr gu_un.rf (gu_un.su jU36 rfl)) (gu_un.su jU61 rfl))) 38 k_ (by simp [xcd])) (by omega) (Int32.toInt_inj.mp (by omega)) (Int32.toInt_inj.mp (by omega)) (Int32.toInt_inj.mp (by omega)); have hb := pvB_run hp.1; have h7 := h.2.2 x36_4.toInt x61_5.toInt (by unfold pvIn; rw [hq.1 3 (by decide) (by decide), hq.1 4 (by decide) (by decide), hq.1 5 (by decide) (by decide), hq.1 6 (by decide) (by decide)]; omega); rw [hb] at h7; omega)⟩)⟩) rfl rfl dX0_isQuietForAll_105
      refine g_iload F 1 dX0_isQuietForAll_36 rfl ?_
      refine g_aload_n F 0 dX0_isQuietForAll_38 rfl rfl ?_
      refine xg_7_0 F i_X0 w_0 dX0_isQuietForAll_39 ?_
      refine xg_2_0 F i_X7 w_1 dX0_isQuietForAll_42 ?_
      refine g_iconst F 4 dX0_isQuietForAll_45 (by decide) ?_
      refine u1_iald F 18 0 xc_18 rfl 4 rfl (by decide) (by decide) dX0_isQuietForAll_46 (G 18 4) (jU36 18 4 (by decide)) ?_
      refine v_icmp_gt F 118 dX0_isQuietForAll_47 (by decide) x36_4.toInt (G 18 4).toInt rfl rfl (fun c23 => ?_) (fun c23 => ?_)
      · refine g_iconst F 1 dX0_isQuietForAll_118 (by decide) ?_
        exact u_zret F hA hQ hr rfl Gj36 (⟨jI36, (gu_un.tr gu_un.rf (gu_un.su jU36 rfl)), (by decide), (fun Q C hk hl hq => by rw [hq.1 9 (by decide) (by decide)]; obtain ⟨g1, g2⟩ := q1 Q C hk hl hq; exact Or.inl ⟨by decide, (by unfold pvAr; rw [hq.1 1 (by decide) (by decide)]; omega), g2 (by have h6 := hl.1; omega), fun st da hd => g1 st da hd (by have h5 := hd.2.1; rw [hq.1 4 (by decide) (by decide)] at h5; omega)⟩)⟩) rfl rfl dX0_isQuietForAll_119
      · refine g_aload_n F 0 dX0_isQuietForAll_50 rfl rfl ?_
        refine xg_7_0 F i_X0 w_0 dX0_isQuietForAll_51 ?_
        refine xg_2_0 F i_X7 w_1 dX0_isQuietForAll_54 ?_
        refine g_iconst F 5 dX0_isQuietForAll_57 (by decide) ?_
        refine u1_iald F 18 0 xc_18 rfl 5 rfl (by decide) (by decide) dX0_isQuietForAll_58 (G 18 5) (jU36 18 5 (by decide)) ?_
        refine g_istore F [(5, .int (G 18 5)), (0, .ref (a 7)), (4, .int x36_4)] dX0_isQuietForAll_59 (by decide) rfl ?_
        refine g_locals [(0, .ref (a 7)), (4, .int x36_4), (5, .int (G 18 5))] [1, 2, 0] rfl ?_
        exact J_61 _ (G 18 5) Gj36 (Nat.lt_succ_self _) (by have h9 := ti_rng x36_4; omega) (by have h9 := ti_rng (G 18 5); omega) jI36 gu_un.rf (fun Q C hk hl hq => by obtain ⟨g1, g2⟩ := q1 Q C hk hl hq; exact ⟨fun st da hd h => g1 st da hd (by have h5 := hd.2.2.1; rw [hq.1 5 (by decide) (by decide)] at h5; omega), fun h => g2 (by omega)⟩) (by have e9_18_3 : Gj36 18 3 = (G 18 3) := jU36 18 3 (by decide); have e9_18_4 : Gj36 18 4 = (G 18 4) := jU36 18 4 (by decide); have e9_18_5 : Gj36 18 5 = (G 18 5) := jU36 18 5 (by decide); (try simp only [e9_18_3, e9_18_4, e9_18_5, true_and, and_true]) <;> (first | omega | (simp only [Int32.reduceToInt, true_and, and_true, ne_eq, not_true_eq_false, false_and, or_false, false_or, true_or, or_true, false_implies] <;> omega))) (by have e9_18_1 : Gj36 18 1 = (G 18 1) := jU36 18 1 (by decide); (try simp only [e9_18_1, true_and, and_true]) <;> (first | omega | (simp only [Int32.reduceToInt, true_and, and_true, ne_eq, not_true_eq_false, false_and, or_false, false_or, true_or, or_true, false_implies] <;> omega))) (by have e9_18_9 : Gj36 18 9 = (G 18 9) := jU36 18 9 (by decide); (try simp only [e9_18_9, true_and, and_true]) <;> (first | omega | (simp only [Int32.reduceToInt, true_and, and_true, ne_eq, not_true_eq_false, false_and, or_false, false_or, true_or, or_true, false_implies] <;> omega)))
  refine g_aload_n F 0 dX0_isQuietForAll_0 rfl rfl ?_
  refine xg_7_2 F i_X0 w_2 dX0_isQuietForAll_1 ?_
  refine g_iload_n F 1 dX0_isQuietForAll_4 rfl rfl ?_
  refine g_iload_n F 2 dX0_isQuietForAll_5 rfl rfl ?_
  refine g_iload_n F 3 dX0_isQuietForAll_6 rfl rfl ?_
  refine g_aload_n F 0 dX0_isQuietForAll_7 rfl rfl ?_
  refine xg_7_0 F i_X0 w_0 dX0_isQuietForAll_8 ?_
  refine xg_2_0 F i_X7 w_1 dX0_isQuietForAll_11 ?_
  refine g_bipush F 9 dX0_isQuietForAll_14 (by decide) ?_
  refine u1_iald F 18 0 xc_18 rfl 9 rfl (by decide) (by decide) dX0_isQuietForAll_16 (G 18 9) (rfl) ?_
  refine u_callVi (k := 0) (n := 0) (b := a 6) (As := [.int p0, .int p1, .int p2, .int (G 18 9)]) (st := []) F (fun sz => S_X5_takes l D K a G p0 s0 p1 s1 p2 s2 (G 18 9) (G 18 9).toInt e0 e1 e2 rfl hI sz) (cwV 4 hts gX0_isQuietForAll_X5_takes rfl rfl rfl (by decide +kernel) ⟨Nat.le_of_ble_eq_true rfl, Nat.le_of_ble_eq_true rfl⟩) rfl 6 xc_6 rfl (Nat.le_of_ble_eq_true rfl) ⟨Nat.zero_le _, Nat.zero_le _⟩ dX0_isQuietForAll_17 (fun r24 G26 hw25 => ?_)
  have hI27 : xI G26 := hw25.1
  have hU28 : gu_un xcd [602, 603, 604, 605] G G26 := hw25.2.1
  have hp29 := hw25.2.2
  have q30 : ((G26 6 1).toInt = s0 ∧ (G26 6 2).toInt = s1 ∧ (G26 6 3).toInt = s2 ∧ (G26 6 4).toInt = (G 18 9).toInt) := hp29.2
  rcases hp29.1 with ⟨rfl, q31⟩ | ⟨rfl, q32⟩
  · have q31 : (0 ≤ s0 ∧ s0 < (G 18 1).toInt ∧ 1 ≤ s1 ∧ s1 ≤ 9 ∧ 1 ≤ s2 ∧ s2 ≤ 20 ∧ 1 ≤ (G 18 9).toInt ∧ (G 18 9).toInt ≤ 12) := by have h9 := q31; (try simp only [(show G26 18 1 = (G 18 1) from hU28 18 1 (by decide))] at h9); exact h9
    refine v_if_ne F 25 dX0_isQuietForAll_20 (by decide) 1 rfl (fun c33 => ?_) (fun c33 => absurd c33 (by decide))
    refine g_aload_n F 0 dX0_isQuietForAll_25 rfl rfl ?_
    refine xg_7_0 F i_X0 w_0 dX0_isQuietForAll_26 ?_
    refine xg_2_0 F i_X7 w_1 dX0_isQuietForAll_29 ?_
    refine g_iconst F 3 dX0_isQuietForAll_32 (by decide) ?_
    refine u1_iald F 18 0 xc_18 rfl 3 rfl (by decide) (by decide) dX0_isQuietForAll_33 (G 18 3) (hU28 18 3 (by decide)) ?_
    refine g_istore F [(4, .int (G 18 3)), (0, .ref (a 7)), (1, .int p0), (2, .int p1), (3, .int p2)] dX0_isQuietForAll_34 (by decide) rfl ?_
    refine g_locals [(0, .ref (a 7)), (4, .int (G 18 3))] [1, 0] rfl ?_
    exact J_36 _ (G 18 3) G26 (Nat.lt_succ_self _) (by have h9 := ti_rng (G 18 3); omega) hI27 (gu_un.tr gu_un.rf (gu_un.su hU28 rfl)) (fun Q C hk hl hq => ⟨fun st da hd h => by have h5 := hd.1; rw [hq.1 3 (by decide) (by decide)] at h5; omega, fun h => absurd h (by omega)⟩) (by have e9_18_3 : G26 18 3 = (G 18 3) := hU28 18 3 (by decide); (try simp only [e9_18_3, true_and, and_true]) <;> (first | omega | (simp only [Int32.reduceToInt, true_and, and_true, ne_eq, not_true_eq_false, false_and, or_false, false_or, true_or, or_true, false_implies] <;> omega))) (by have e9_18_1 : G26 18 1 = (G 18 1) := hU28 18 1 (by decide); (try simp only [e9_18_1, true_and, and_true]) <;> (first | omega | (simp only [Int32.reduceToInt, true_and, and_true, ne_eq, not_true_eq_false, false_and, or_false, false_or, true_or, or_true, false_implies] <;> omega))) (by have e9_18_9 : G26 18 9 = (G 18 9) := hU28 18 9 (by decide); (try simp only [e9_18_9, true_and, and_true]) <;> (first | omega | (simp only [Int32.reduceToInt, true_and, and_true, ne_eq, not_true_eq_false, false_and, or_false, false_or, true_or, or_true, false_implies] <;> omega)))
  · have q32 : ¬ (0 ≤ s0 ∧ s0 < (G 18 1).toInt ∧ 1 ≤ s1 ∧ s1 ≤ 9 ∧ 1 ≤ s2 ∧ s2 ≤ 20 ∧ 1 ≤ (G 18 9).toInt ∧ (G 18 9).toInt ≤ 12) := by have h9 := q32; (try simp only [(show G26 18 1 = (G 18 1) from hU28 18 1 (by decide))] at h9); exact h9
    refine v_if_ne F 25 dX0_isQuietForAll_20 (by decide) 0 rfl (fun c34 => absurd c34 (by decide)) (fun c34 => ?_)
    refine g_iconst F 0 dX0_isQuietForAll_23 (by decide) ?_
    exact u_zret F hA hQ hr rfl G26 (⟨hI27, (gu_un.tr gu_un.rf (gu_un.su hU28 rfl)), (by decide), (fun Q C hk hl hq => Or.inr ⟨by decide, fun h => by obtain ⟨b0, b1, b2, b3, b4, b5⟩ := h.1; rw [hq.1 1 (by decide) (by decide)] at b1; omega⟩)⟩) rfl rfl dX0_isQuietForAll_24

theorem dX0_deepestFeed_0 : decode cX0_deepestFeed 0 = .ok (.bipush 20, 2) := by decide +kernel
theorem dX0_deepestFeed_2 : decode cX0_deepestFeed 2 = .ok (.istore 4, 2) := by decide +kernel
theorem dX0_deepestFeed_4 : decode cX0_deepestFeed 4 = .ok (.iload 4, 2) := by decide +kernel
theorem dX0_deepestFeed_6 : decode cX0_deepestFeed 6 = .ok (.iload_n 3, 1) := by decide +kernel
theorem dX0_deepestFeed_7 : decode cX0_deepestFeed 7 = .ok (.if_icmp .le 28, 3) := by decide +kernel
theorem dX0_deepestFeed_10 : decode cX0_deepestFeed 10 = .ok (.iload 4, 2) := by decide +kernel
theorem dX0_deepestFeed_12 : decode cX0_deepestFeed 12 = .ok (.ifCond .le 23, 3) := by decide +kernel
theorem dX0_deepestFeed_15 : decode cX0_deepestFeed 15 = .ok (.aload_n 0, 1) := by decide +kernel
theorem dX0_deepestFeed_16 : decode cX0_deepestFeed 16 = .ok (.iload_n 1, 1) := by decide +kernel
theorem dX0_deepestFeed_17 : decode cX0_deepestFeed 17 = .ok (.iload_n 2, 1) := by decide +kernel
theorem dX0_deepestFeed_18 : decode cX0_deepestFeed 18 = .ok (.iload 4, 2) := by decide +kernel
theorem dX0_deepestFeed_20 : decode cX0_deepestFeed 20 = .ok (.invokevirtual 60, 3) := by decide +kernel
theorem dX0_deepestFeed_23 : decode cX0_deepestFeed 23 = .ok (.ifCond .eq 6, 3) := by decide +kernel
theorem dX0_deepestFeed_26 : decode cX0_deepestFeed 26 = .ok (.iload 4, 2) := by decide +kernel
theorem dX0_deepestFeed_28 : decode cX0_deepestFeed 28 = .ok (.ireturn, 1) := by decide +kernel
theorem dX0_deepestFeed_29 : decode cX0_deepestFeed 29 = .ok (.iinc 4 (-1), 3) := by decide +kernel
theorem dX0_deepestFeed_32 : decode cX0_deepestFeed 32 = .ok (.goto (-28), 3) := by decide +kernel
theorem dX0_deepestFeed_35 : decode cX0_deepestFeed 35 = .ok (.iconst (-1), 1) := by decide +kernel
theorem dX0_deepestFeed_36 : decode cX0_deepestFeed 36 = .ok (.ireturn, 1) := by decide +kernel
set_option maxRecDepth 20000 in
theorem ggX0_deepestFeed_X0_isQuietForAll : GoodIn wsX0_deepestFeed wsX0_isQuietForAll := goodIn_r _ [5, 6, 7, 8, 9, 10, 11, 12, 13, 14, 15, 16, 17, 18, 19, 20, 21, 22, 23, 24, 25, 26, 27, 28, 29, 30, 31, 32, 33, 34, 35, 36, 37, 38, 39, 40, 41, 42, 43, 44, 45, 46, 47, 48, 49, 50, 51, 52, 53, 54, 55, 56, 57, 58, 59, 60, 61, 62, 63, 64, 65, 66, 67, 68, 69, 70, 71, 72, 73, 74, 75, 76, 77, 78, 79, 80, 81, 82, 83, 84, 85, 86, 87, 88, 89, 90, 91, 92, 93, 94, 95, 96, 97, 98, 99, 100, 101, 102, 103, 104, 105, 106, 107, 108, 109, 110, 111, 112, 113, 114, 115, 116, 117, 118, 119, 120, 121, 122, 123, 124, 125, 126, 127, 128, 129, 130, 131, 132, 133, 134, 135, 136, 137, 138, 139, 140, 141, 142, 143, 144, 145, 146, 147, 148, 149, 150, 151, 152, 153, 154, 155, 156, 157, 158, 159, 160, 161, 162, 163, 164, 165, 166, 167, 168, 169] rfl (by decide +kernel)
set_option maxRecDepth 20000 in
theorem gX0_deepestFeed_X0_isQuietForAll : GoodIn wsX0_deepestFeed (wsV RX0 60 RX0 yX0_isQuietForAll wsX0_isQuietForAll) := goodIn_app (goodIn_of _ (by decide +kernel)) ggX0_deepestFeed_X0_isQuietForAll
set_option maxHeartbeats 4000000 in
set_option maxRecDepth 100000 in
theorem S_X0_deepestFeed (l : Launch) (D : va_G) (K : Nat → ClassId) (a : Nat → Nat) (G : gS) (p0 : Int32) (s0 : Int) (p1 : Int32) (s1 : Int) (p2 : Int32) (s2 : Int) (e0 : p0.toInt = s0) (e1 : p1.toInt = s1) (e2 : p2.toInt = s2) (hI : xI G) (sz : Nat) : Ki l yX0_deepestFeed wsX0_deepestFeed 6 173 0 0 D [.ref (a 7), .int p0, .int p1, .int p2] (xW K a G) (tK K) sz (fun (r : Int32) (G' : gS) => (xI G') ∧ (gu_un xcd [602, 603, 604, 605, 608, 613, 614, 615, 616, 617, 618, 619, 620, 2100, 2400, 2700, 4400, 4500, 4600, 4700, 4800] G G') ∧ ((-1) ≤ r.toInt ∧ r.toInt ≤ 20) ∧ ((∀ (Q : gS) (C : Nat → List Int), xTok G → lSp G → xSq G Q C → dpR (fun f : Int => pvAr Q s0 s1 f ∧ pvA Q C (G 38) (G 5 2) s0 p1 (Int32.ofInt f) (Q 0 9)) s2 r.toInt))) (fun (G' : gS) => (xW K a G')) (fun _ => (tK K)) := by
  unfold Ki
  refine g_ofW (cc := cX0_deepestFeed) (lv := [(0, .ref (a 7)), (1, .int p0), (2, .int p1), (3, .int p2)]) (by decide) rfl (Nat.le_of_ble_eq_true rfl) rfl ?_
  intro p e s m args below meth c A Q hA hQ F hr hnm
  have hts := F.2.2.2.2.1
  have rg0 : -2147483648 ≤ s0 ∧ s0 ≤ 2147483647 := e0 ▸ ti_rng p0
  have rg1 : -2147483648 ≤ s1 ∧ s1 ≤ 2147483647 := e1 ▸ ti_rng p1
  have rg2 : -2147483648 ≤ s2 ∧ s2 ≤ 2147483647 := e2 ▸ ti_rng p2
  have J_4 : ∀ (fuel : Nat) (x4_4 : Int32) (Gj4 : gS), (x4_4.toInt + 2147483648).toNat < fuel → (0 ≤ x4_4.toInt ∧ x4_4.toInt ≤ 20) → (xI Gj4) → (gu_un xcd [602, 603, 604, 605, 608, 613, 614, 615, 616, 617, 618, 619, 620, 2100, 2400, 2700, 4400, 4500, 4600, 4700, 4800] G Gj4) → (∀ (Q : gS) (C : Nat → List Int), xTok G → lSp G → xSq G Q C → ∀ f : Int, x4_4.toInt < f → f ≤ 20 → ¬ (pvAr Q s0 s1 f ∧ pvA Q C (G 38) (G 5 2) s0 p1 (Int32.ofInt f) (Q 0 9))) → gG p l e (gR 6 0 0 173) s m args below meth c D A 5 Q 0 0 (xW K a Gj4) (tK K) [(0, .ref (a 7)), (1, .int p0), (2, .int p1), (3, .int p2), (4, .int x4_4)] 4 [] := by
    intro fuel
    induction fuel with
    | zero => intro x4_4 Gj4 hm; exact absurd hm (Nat.not_lt_zero _)
    | succ fuel_4 ih_4 =>
      intro x4_4 Gj4 hm_4 h4_4 jI4 jU4 dp4
      refine g_iload F 4 dX0_deepestFeed_4 rfl ?_
      refine g_iload_n F 3 dX0_deepestFeed_6 rfl rfl ?_
      refine v_icmp_le F 35 dX0_deepestFeed_7 (by decide) x4_4.toInt s2 rfl e2 (fun c1 => ?_) (fun c1 => ?_)
      · refine g_iconst F (-1) dX0_deepestFeed_35 (by decide) ?_
        exact u_iret F hA hQ hr Gj4 (⟨jI4, (gu_un.tr gu_un.rf (gu_un.su jU4 rfl)), (by decide), (fun Q C hk hl hq => Or.inl ⟨by decide, fun f h1 h2 h3 => dp4 Q C hk hl hq f (by omega) h3⟩)⟩) rfl rfl dX0_deepestFeed_36
      · refine g_iload F 4 dX0_deepestFeed_10 rfl ?_
        refine v_if_le F 35 dX0_deepestFeed_12 (by decide) x4_4.toInt rfl (fun c2 => ?_) (fun c2 => ?_)
        · refine g_iconst F (-1) dX0_deepestFeed_35 (by decide) ?_
          exact u_iret F hA hQ hr Gj4 (⟨jI4, (gu_un.tr gu_un.rf (gu_un.su jU4 rfl)), (by decide), (fun Q C hk hl hq => Or.inl ⟨by decide, fun f h1 h2 h3 => dp4 Q C hk hl hq f (by omega) h3⟩)⟩) rfl rfl dX0_deepestFeed_36
        · refine g_aload_n F 0 dX0_deepestFeed_15 rfl rfl ?_
          refine g_iload_n F 1 dX0_deepestFeed_16 rfl rfl ?_
          refine g_iload_n F 2 dX0_deepestFeed_17 rfl rfl ?_
          refine g_iload F 4 dX0_deepestFeed_18 rfl ?_
          refine u_callVi (k := 0) (n := 0) (b := a 7) (As := [.int p0, .int p1, .int x4_4]) (st := []) F (fun sz => S_X0_isQuietForAll l D K a Gj4 p0 s0 p1 s1 x4_4 x4_4.toInt e0 e1 rfl jI4 sz) (cwV 3 hts gX0_deepestFeed_X0_isQuietForAll rfl rfl rfl (by decide +kernel) ⟨Nat.le_of_ble_eq_true rfl, Nat.le_of_ble_eq_true rfl⟩) rfl 7 xc_7 rfl (Nat.le_of_ble_eq_true rfl) ⟨Nat.zero_le _, Nat.zero_le _⟩ dX0_deepestFeed_20 (fun r3 G5 hw4 => ?_)
          have hI6 : xI G5 := hw4.1
          have hU7 : gu_un xcd [602, 603, 604, 605, 608, 613, 614, 615, 616, 617, 618, 619, 620, 2100, 2400, 2700, 4400, 4500, 4600, 4700, 4800] Gj4 G5 := hw4.2.1
          have hp8 := hw4.2.2
          have q9 : (∀ (Q : gS) (C : Nat → List Int), xTok Gj4 → lSp Gj4 → xSq Gj4 Q C → ((r3.toInt = 1 ∧ (pvAr Q s0 s1 x4_4.toInt ∧ pvA Q C (G 38) (G 5 2) s0 p1 x4_4 (Q 0 9))) ∨ (r3.toInt = 0 ∧ ¬ (pvAr Q s0 s1 x4_4.toInt ∧ pvA Q C (G 38) (G 5 2) s0 p1 x4_4 (Q 0 9))))) := by have h9 := hp8.2; (try simp only [(show Gj4 38 = (G 38) from (show Gj4 38 = G 38 from funext fun k_ => jU4 38 k_ (show (3800 : Nat) ∉ ([602, 603, 604, 605, 608, 613, 614, 615, 616, 617, 618, 619, 620, 2100, 2400, 2700, 4400, 4500, 4600, 4700, 4800] : List Nat) by decide))), (show Gj4 38 = (G 38) from (show Gj4 38 = G 38 from funext fun k_ => jU4 38 k_ (show (3800 : Nat) ∉ ([602, 603, 604, 605, 608, 613, 614, 615, 616, 617, 618, 619, 620, 2100, 2400, 2700, 4400, 4500, 4600, 4700, 4800] : List Nat) by decide))), (show Gj4 5 2 = (G 5 2) from jU4 5 2 (by decide)), (show Gj4 5 2 = (G 5 2) from jU4 5 2 (by decide))] at h9); first | exact h9 | omega
          have rg10 := hp8.1
          clear hp8 hw4
          refine v_if_eq F 29 dX0_deepestFeed_23 (by decide) r3.toInt rfl (fun c11 => ?_) (fun c11 => ?_)
          · refine u_iinc F (fun v_ => [(4, .int v_), (0, .ref (a 7)), (1, .int p0), (2, .int p1), (3, .int p2)]) dX0_deepestFeed_29 (j := 4) rfl x4_4.toInt (-1) rfl rfl (by omega) (by omega) (by decide) (fun _ => rfl) (fun y12 ey12 => ?_)
            refine g_goto F 4 dX0_deepestFeed_32 (by decide) ?_
            refine g_locals [(0, .ref (a 7)), (1, .int p0), (2, .int p1), (3, .int p2), (4, .int y12)] [1, 2, 3, 4, 0] rfl ?_
            exact ih_4 y12 G5 (by omega) (by have h9 := ti_rng y12; omega) hI6 (gu_un.tr (gu_un.tr gu_un.rf (gu_un.su jU4 rfl)) (gu_un.su hU7 rfl)) (fun Q C hk hl hq f h1 h2 => by by_cases e9 : f = x4_4.toInt <;> first | (rcases q9 Q C (xTok.un hk (show gu_un xcd [602, 603, 604, 605, 608, 613, 614, 615, 616, 617, 618, 619, 620, 2100, 2400, 2700, 4400, 4500, 4600, 4700, 4800] G Gj4 from (gu_un.tr gu_un.rf (gu_un.su jU4 rfl))) rfl) (lSp.un hl (show gu_un xcd [602, 603, 604, 605, 608, 613, 614, 615, 616, 617, 618, 619, 620, 2100, 2400, 2700, 4400, 4500, 4600, 4700, 4800] G Gj4 from (gu_un.tr gu_un.rf (gu_un.su jU4 rfl))) rfl) (xSq.un hq (show gu_un xcd [602, 603, 604, 605, 608, 613, 614, 615, 616, 617, 618, 619, 620, 2100, 2400, 2700, 4400, 4500, 4600, 4700, 4800] G Gj4 from (gu_un.tr gu_un.rf (gu_un.su jU4 rfl))) rfl) with ⟨a1, a2⟩ | ⟨a1, a2⟩ <;> first | (exfalso; omega) | (rw [e9, Int32.ofInt_toInt]; exact a2)) | exact dp4 Q C hk hl hq f (by omega) h2)
          · refine g_iload F 4 dX0_deepestFeed_26 rfl ?_
            exact u_iret F hA hQ hr G5 (⟨hI6, (gu_un.tr (gu_un.tr gu_un.rf (gu_un.su jU4 rfl)) (gu_un.su hU7 rfl)), (by have h9 := ti_rng x4_4; omega), (fun Q C hk hl hq => Or.inr ⟨by omega, by omega, by omega, by rcases q9 Q C (xTok.un hk (show gu_un xcd [602, 603, 604, 605, 608, 613, 614, 615, 616, 617, 618, 619, 620, 2100, 2400, 2700, 4400, 4500, 4600, 4700, 4800] G Gj4 from (gu_un.tr gu_un.rf (gu_un.su jU4 rfl))) rfl) (lSp.un hl (show gu_un xcd [602, 603, 604, 605, 608, 613, 614, 615, 616, 617, 618, 619, 620, 2100, 2400, 2700, 4400, 4500, 4600, 4700, 4800] G Gj4 from (gu_un.tr gu_un.rf (gu_un.su jU4 rfl))) rfl) (xSq.un hq (show gu_un xcd [602, 603, 604, 605, 608, 613, 614, 615, 616, 617, 618, 619, 620, 2100, 2400, 2700, 4400, 4500, 4600, 4700, 4800] G Gj4 from (gu_un.tr gu_un.rf (gu_un.su jU4 rfl))) rfl) with ⟨a1, a2⟩ | ⟨a1, a2⟩ <;> first | (exfalso; omega) | (rw [Int32.ofInt_toInt]; exact a2), fun f h1 h2 => dp4 Q C hk hl hq f (by omega) h2⟩)⟩) rfl rfl dX0_deepestFeed_28
  refine g_bipush F 20 dX0_deepestFeed_0 (by decide) ?_
  refine g_istore F [(4, .int 20), (0, .ref (a 7)), (1, .int p0), (2, .int p1), (3, .int p2)] dX0_deepestFeed_2 (by decide) rfl ?_
  refine g_locals [(0, .ref (a 7)), (1, .int p0), (2, .int p1), (3, .int p2), (4, .int 20)] [1, 2, 3, 4, 0] rfl ?_
  exact J_4 _ 20 G (Nat.lt_succ_self _) (by decide) hI gu_un.rf (fun Q C hk hl hq f h1 h2 => by have h3 : (20 : Int) < f := h1; omega)

theorem dX0_bestSpeed_0 : decode cX0_bestSpeed 0 = .ok (.iconst (-1), 1) := by decide +kernel
theorem dX0_bestSpeed_1 : decode cX0_bestSpeed 1 = .ok (.istore_n 2, 1) := by decide +kernel
theorem dX0_bestSpeed_2 : decode cX0_bestSpeed 2 = .ok (.iconst 0, 1) := by decide +kernel
theorem dX0_bestSpeed_3 : decode cX0_bestSpeed 3 = .ok (.istore_n 3, 1) := by decide +kernel
theorem dX0_bestSpeed_4 : decode cX0_bestSpeed 4 = .ok (.iconst 1, 1) := by decide +kernel
theorem dX0_bestSpeed_5 : decode cX0_bestSpeed 5 = .ok (.istore 4, 2) := by decide +kernel
theorem dX0_bestSpeed_7 : decode cX0_bestSpeed 7 = .ok (.iconst 1, 1) := by decide +kernel
theorem dX0_bestSpeed_8 : decode cX0_bestSpeed 8 = .ok (.istore 5, 2) := by decide +kernel
theorem dX0_bestSpeed_10 : decode cX0_bestSpeed 10 = .ok (.iload 5, 2) := by decide +kernel
theorem dX0_bestSpeed_12 : decode cX0_bestSpeed 12 = .ok (.bipush 9, 2) := by decide +kernel
theorem dX0_bestSpeed_14 : decode cX0_bestSpeed 14 = .ok (.if_icmp .gt 65, 3) := by decide +kernel
theorem dX0_bestSpeed_17 : decode cX0_bestSpeed 17 = .ok (.aload_n 0, 1) := by decide +kernel
theorem dX0_bestSpeed_18 : decode cX0_bestSpeed 18 = .ok (.getfield 24, 3) := by decide +kernel
theorem dX0_bestSpeed_21 : decode cX0_bestSpeed 21 = .ok (.iload 5, 2) := by decide +kernel
theorem dX0_bestSpeed_23 : decode cX0_bestSpeed 23 = .ok (.invokevirtual 64, 3) := by decide +kernel
theorem dX0_bestSpeed_26 : decode cX0_bestSpeed 26 = .ok (.istore 6, 2) := by decide +kernel
theorem dX0_bestSpeed_28 : decode cX0_bestSpeed 28 = .ok (.iload 4, 2) := by decide +kernel
theorem dX0_bestSpeed_30 : decode cX0_bestSpeed 30 = .ok (.ifCond .le 13, 3) := by decide +kernel
theorem dX0_bestSpeed_33 : decode cX0_bestSpeed 33 = .ok (.iload_n 3, 1) := by decide +kernel
theorem dX0_bestSpeed_34 : decode cX0_bestSpeed 34 = .ok (.iload 6, 2) := by decide +kernel
theorem dX0_bestSpeed_36 : decode cX0_bestSpeed 36 = .ok (.imul, 1) := by decide +kernel
theorem dX0_bestSpeed_37 : decode cX0_bestSpeed 37 = .ok (.iload 4, 2) := by decide +kernel
theorem dX0_bestSpeed_39 : decode cX0_bestSpeed 39 = .ok (.idiv, 1) := by decide +kernel
theorem dX0_bestSpeed_40 : decode cX0_bestSpeed 40 = .ok (.goto 4, 3) := by decide +kernel
theorem dX0_bestSpeed_43 : decode cX0_bestSpeed 43 = .ok (.iconst 0, 1) := by decide +kernel
theorem dX0_bestSpeed_44 : decode cX0_bestSpeed 44 = .ok (.istore 7, 2) := by decide +kernel
theorem dX0_bestSpeed_46 : decode cX0_bestSpeed 46 = .ok (.aload_n 0, 1) := by decide +kernel
theorem dX0_bestSpeed_47 : decode cX0_bestSpeed 47 = .ok (.iload_n 1, 1) := by decide +kernel
theorem dX0_bestSpeed_48 : decode cX0_bestSpeed 48 = .ok (.iload 5, 2) := by decide +kernel
theorem dX0_bestSpeed_50 : decode cX0_bestSpeed 50 = .ok (.iload 7, 2) := by decide +kernel
theorem dX0_bestSpeed_52 : decode cX0_bestSpeed 52 = .ok (.invokevirtual 68, 3) := by decide +kernel
theorem dX0_bestSpeed_55 : decode cX0_bestSpeed 55 = .ok (.istore 8, 2) := by decide +kernel
theorem dX0_bestSpeed_57 : decode cX0_bestSpeed 57 = .ok (.iload 8, 2) := by decide +kernel
theorem dX0_bestSpeed_59 : decode cX0_bestSpeed 59 = .ok (.iconst (-1), 1) := by decide +kernel
theorem dX0_bestSpeed_60 : decode cX0_bestSpeed 60 = .ok (.if_icmp .eq 13, 3) := by decide +kernel
theorem dX0_bestSpeed_63 : decode cX0_bestSpeed 63 = .ok (.iload 5, 2) := by decide +kernel
theorem dX0_bestSpeed_65 : decode cX0_bestSpeed 65 = .ok (.istore_n 2, 1) := by decide +kernel
theorem dX0_bestSpeed_66 : decode cX0_bestSpeed 66 = .ok (.iload 8, 2) := by decide +kernel
theorem dX0_bestSpeed_68 : decode cX0_bestSpeed 68 = .ok (.istore_n 3, 1) := by decide +kernel
theorem dX0_bestSpeed_69 : decode cX0_bestSpeed 69 = .ok (.iload 6, 2) := by decide +kernel
theorem dX0_bestSpeed_71 : decode cX0_bestSpeed 71 = .ok (.istore 4, 2) := by decide +kernel
theorem dX0_bestSpeed_73 : decode cX0_bestSpeed 73 = .ok (.iinc 5 1, 3) := by decide +kernel
theorem dX0_bestSpeed_76 : decode cX0_bestSpeed 76 = .ok (.goto (-66), 3) := by decide +kernel
theorem dX0_bestSpeed_79 : decode cX0_bestSpeed 79 = .ok (.iload_n 2, 1) := by decide +kernel
theorem dX0_bestSpeed_80 : decode cX0_bestSpeed 80 = .ok (.ireturn, 1) := by decide +kernel
set_option maxRecDepth 20000 in
theorem ggX0_bestSpeed_X0_deepestFeed : GoodIn wsX0_bestSpeed wsX0_deepestFeed := goodIn_r _ [20, 21, 22, 23, 19, 24, 25, 1, 26, 27, 28, 29, 30, 31, 32, 33, 34, 35, 36, 37, 38, 39, 40, 41, 42, 5, 43, 7, 44, 45, 46, 47, 48, 49, 50, 51, 52, 53, 54, 55, 56, 57, 58, 59, 60, 61, 62, 63, 64, 65, 66, 67, 68, 69, 70, 71, 72, 73, 74, 75, 76, 77, 78, 79, 80, 81, 82, 83, 84, 85, 86, 87, 88, 89, 90, 91, 92, 93, 94, 95, 96, 97, 98, 99, 100, 101, 102, 103, 104, 105, 106, 107, 108, 109, 110, 111, 112, 113, 114, 115, 116, 117, 118, 119, 120, 121, 122, 123, 124, 125, 126, 127, 128, 9, 10, 11, 129, 130, 131, 132, 133, 13, 14, 15, 134, 135, 136, 137, 138, 139, 140, 141, 142, 143, 144, 145, 146, 147, 148, 149, 150, 151, 152, 153, 154, 155, 156, 157, 158, 159, 160, 161, 162, 163, 164, 165, 166, 167, 168, 169, 170, 171, 172, 173, 174, 175, 176, 177, 178, 179] rfl (by decide +kernel)
set_option maxRecDepth 20000 in
theorem gX0_bestSpeed_X0_deepestFeed : GoodIn wsX0_bestSpeed (wsV RX0 68 RX0 yX0_deepestFeed wsX0_deepestFeed) := goodIn_app (goodIn_of _ (by decide +kernel)) ggX0_bestSpeed_X0_deepestFeed
set_option maxRecDepth 20000 in
theorem ggX0_bestSpeed_X7_passTime : GoodIn wsX0_bestSpeed wsX7_passTime := goodIn_r _ [6, 7, 8, 9, 10, 5, 11, 12, 13, 14, 15, 142, 143, 144, 145] rfl (by decide +kernel)
set_option maxRecDepth 20000 in
theorem gX0_bestSpeed_X7_passTime : GoodIn wsX0_bestSpeed (wsV RX0 64 RX7 yX7_passTime wsX7_passTime) := goodIn_app (goodIn_of _ (by decide +kernel)) ggX0_bestSpeed_X7_passTime
set_option maxHeartbeats 4000000 in
set_option maxRecDepth 100000 in
theorem S_X0_bestSpeed (l : Launch) (D : va_G) (K : Nat → ClassId) (a : Nat → Nat) (G : gS) (p0 : Int32) (s0 : Int) (e0 : p0.toInt = s0) (hI : xI G) (sz : Nat) : Ki l yX0_bestSpeed wsX0_bestSpeed 7 197 0 0 D [.ref (a 7), .int p0] (xW K a G) (tK K) sz (fun (r : Int32) (G' : gS) => (xI G') ∧ (gu_un xcd [602, 603, 604, 605, 608, 613, 614, 615, 616, 617, 618, 619, 620, 2100, 2400, 2700, 4400, 4500, 4600, 4700, 4800] G G') ∧ ((-1) ≤ r.toInt ∧ r.toInt ≤ 9) ∧ ((∀ (Q : gS) (C : Nat → List Int), xTok G → lSp G → xSq G Q C → ∃ d : Int, bsR (bsP Q C (G 38) (G 5 2) s0) (tmT Q) 9 r.toInt d))) (fun (G' : gS) => (xW K a G')) (fun _ => (tK K)) := by
  unfold Ki
  refine g_ofW (cc := cX0_bestSpeed) (lv := [(0, .ref (a 7)), (1, .int p0)]) (by decide) rfl (Nat.le_of_ble_eq_true rfl) rfl ?_
  intro p e s m args below meth c A Q hA hQ F hr hnm
  have hts := F.2.2.2.2.1
  have w_0 : (Cond.fieldLink RX0 24 "QuietCut$Chooser" "shop" "LQuietCut$Shop;").before args s = true := hts _ (List.mem_of_getElem? (i := 1) rfl)
  have i_X0 : ∀ w ∈ u_ws RX0 TX0 8, w ∈ wsX0_bestSpeed := fun _ h => List.mem_cons_of_mem _ (List.mem_append_left _ (List.mem_append_left _ (List.mem_append_left _ (List.mem_append_left _ (List.mem_append_right _ h)))))
  have rg0 : -2147483648 ≤ s0 ∧ s0 ≤ 2147483647 := e0 ▸ ti_rng p0
  have J_10 : ∀ (fuel : Nat) (x10_2 : Int32) (x10_3 : Int32) (x10_4 : Int32) (x10_5 : Int32) (Gj10 : gS), (2147483647 - x10_5.toInt).toNat < fuel → ((-1) ≤ x10_2.toInt ∧ x10_2.toInt ≤ 9) → (0 ≤ x10_3.toInt ∧ x10_3.toInt ≤ 20) → (1 ≤ x10_4.toInt ∧ x10_4.toInt ≤ 3456) → (1 ≤ x10_5.toInt ∧ x10_5.toInt ≤ 10) → (xI Gj10) → (gu_un xcd [602, 603, 604, 605, 608, 613, 614, 615, 616, 617, 618, 619, 620, 2100, 2400, 2700, 4400, 4500, 4600, 4700, 4800] G Gj10) → (∀ (Q : gS) (C : Nat → List Int), xTok G → lSp G → xSq G Q C → bsR (bsP Q C (G 38) (G 5 2) s0) (tmT Q) (x10_5.toInt - 1).toNat x10_2.toInt x10_3.toInt ∧ ((x10_2.toInt = -1 ∧ x10_3.toInt = 0 ∧ x10_4.toInt = 1) ∨ (x10_2.toInt ≠ -1 ∧ x10_4.toInt = tmT Q x10_2.toInt))) → gG p l e (gR 7 0 0 197) s m args below meth c D A 9 Q 0 0 (xW K a Gj10) (tK K) [(0, .ref (a 7)), (1, .int p0), (2, .int x10_2), (3, .int x10_3), (4, .int x10_4), (5, .int x10_5)] 10 [] := by
    intro fuel
    induction fuel with
    | zero => intro x10_2 x10_3 x10_4 x10_5 Gj10 hm; exact absurd hm (Nat.not_lt_zero _)
    | succ fuel_10 ih_10 =>
      intro x10_2 x10_3 x10_4 x10_5 Gj10 hm_10 h10_2 h10_3 h10_4 h10_5 jI10 jU10 bs
      refine g_iload F 5 dX0_bestSpeed_10 rfl ?_
      refine g_bipush F 9 dX0_bestSpeed_12 (by decide) ?_
      refine v_icmp_gt F 79 dX0_bestSpeed_14 (by decide) x10_5.toInt 9 rfl rfl (fun c1 => ?_) (fun c1 => ?_)
      · refine g_iload_n F 2 dX0_bestSpeed_79 rfl rfl ?_
        exact u_iret F hA hQ hr Gj10 (⟨jI10, (gu_un.tr gu_un.rf (gu_un.su jU10 rfl)), (by have h9 := ti_rng x10_2; omega), (fun Q C hk hl hq => ⟨_, by have h9 := (bs Q C hk hl hq).1; rw [show (x10_5.toInt - 1).toNat = 9 by omega] at h9; exact h9⟩)⟩) rfl rfl dX0_bestSpeed_80
      · refine g_aload_n F 0 dX0_bestSpeed_17 rfl rfl ?_
        refine xg_7_0 F i_X0 w_0 dX0_bestSpeed_18 ?_
        refine g_iload F 5 dX0_bestSpeed_21 rfl ?_
        refine u_callVi (k := 0) (n := 0) (b := a 2) (As := [.int x10_5]) (st := []) F (fun sz => S_X7_passTime_2_b9 l D K a Gj10 x10_5 x10_5.toInt rfl (by omega) jI10 sz) (cwV 1 hts gX0_bestSpeed_X7_passTime rfl rfl rfl (by decide +kernel) ⟨Nat.le_of_ble_eq_true rfl, Nat.le_of_ble_eq_true rfl⟩) rfl 2 xc_2 rfl (Nat.le_of_ble_eq_true rfl) ⟨Nat.zero_le _, Nat.zero_le _⟩ dX0_bestSpeed_23 (fun r2 _ hw3 => ?_)
        have q5 : (∀ (Q : gS) (C : Nat → List Int), xSq Gj10 Q C → r2.toInt = tmT Q x10_5.toInt) := hw3.2
        have rg6 := hw3.1
        clear hw3
        refine g_istore F [(6, .int r2), (0, .ref (a 7)), (1, .int p0), (2, .int x10_2), (3, .int x10_3), (4, .int x10_4), (5, .int x10_5)] dX0_bestSpeed_26 (by decide) rfl ?_
        refine g_iload F 5 dX0_bestSpeed_28 rfl ?_
        refine v_if_le F 43 dX0_bestSpeed_30 (by decide) x10_4.toInt rfl (fun c7 => absurd c7 (by omega)) (fun c7 => ?_)
        refine g_iload_n F 4 dX0_bestSpeed_33 rfl rfl ?_
        refine g_iload F 0 dX0_bestSpeed_34 rfl ?_
        refine g_imul F dX0_bestSpeed_36 ?_
        have fm8a := Int.mul_nonneg (show (0 : Int) ≤ x10_3.toInt by omega) (show (0 : Int) ≤ r2.toInt by omega)
        have fm8b : x10_3.toInt * r2.toInt ≤ 20 * 3456 := Int.mul_le_mul (by omega) (by omega) (by omega) (by omega)
        have fm8 : ((x10_3 * r2) : Int32).toInt = x10_3.toInt * r2.toInt := ti_mul rfl rfl (by omega) (by omega)
        refine g_iload F 5 dX0_bestSpeed_37 rfl ?_
        refine u_idiv F dX0_bestSpeed_39 (ti_ne0 rfl (by omega)) (x10_3.toInt * r2.toInt) x10_4.toInt fm8 rfl (by omega) (by omega) (fun y9 ey9 => ?_)
        refine g_goto F 44 dX0_bestSpeed_40 (by decide) ?_
        refine g_istore F [(7, .int y9), (6, .int r2), (0, .ref (a 7)), (1, .int p0), (2, .int x10_2), (3, .int x10_3), (4, .int x10_4), (5, .int x10_5)] dX0_bestSpeed_44 (by decide) rfl ?_
        refine g_aload_n F 2 dX0_bestSpeed_46 rfl rfl ?_
        refine g_iload_n F 3 dX0_bestSpeed_47 rfl rfl ?_
        refine g_iload F 7 dX0_bestSpeed_48 rfl ?_
        refine g_iload F 0 dX0_bestSpeed_50 rfl ?_
        refine u_callVi (k := 0) (n := 0) (b := a 7) (As := [.int p0, .int x10_5, .int y9]) (st := []) F (fun sz => S_X0_deepestFeed l D K a Gj10 p0 s0 x10_5 x10_5.toInt y9 y9.toInt e0 rfl rfl jI10 sz) (cwV 3 hts gX0_bestSpeed_X0_deepestFeed rfl rfl rfl (by decide +kernel) ⟨Nat.le_of_ble_eq_true rfl, Nat.le_of_ble_eq_true rfl⟩) rfl 7 xc_7 rfl (Nat.le_of_ble_eq_true rfl) ⟨Nat.zero_le _, Nat.zero_le _⟩ dX0_bestSpeed_52 (fun r10 G12 hw11 => ?_)
        have hI13 : xI G12 := hw11.1
        have hU14 : gu_un xcd [602, 603, 604, 605, 608, 613, 614, 615, 616, 617, 618, 619, 620, 2100, 2400, 2700, 4400, 4500, 4600, 4700, 4800] Gj10 G12 := hw11.2.1
        have hp15 := hw11.2.2
        have q16 : (∀ (Q : gS) (C : Nat → List Int), xTok Gj10 → lSp Gj10 → xSq Gj10 Q C → dpR (fun f : Int => pvAr Q s0 x10_5.toInt f ∧ pvA Q C (G 38) (G 5 2) s0 x10_5 (Int32.ofInt f) (Q 0 9)) y9.toInt r10.toInt) := by have h9 := hp15.2; (try simp only [(show Gj10 38 = (G 38) from (show Gj10 38 = G 38 from funext fun k_ => jU10 38 k_ (show (3800 : Nat) ∉ ([602, 603, 604, 605, 608, 613, 614, 615, 616, 617, 618, 619, 620, 2100, 2400, 2700, 4400, 4500, 4600, 4700, 4800] : List Nat) by decide))), (show Gj10 5 2 = (G 5 2) from jU10 5 2 (by decide))] at h9); first | exact h9 | omega
        have rg17 := hp15.1
        clear hp15 hw11
        refine g_istore F [(8, .int r10), (7, .int y9), (6, .int r2), (0, .ref (a 7)), (1, .int p0), (2, .int x10_2), (3, .int x10_3), (4, .int x10_4), (5, .int x10_5)] dX0_bestSpeed_55 (by decide) rfl ?_
        refine g_iload F 0 dX0_bestSpeed_57 rfl ?_
        refine g_iconst F (-1) dX0_bestSpeed_59 (by decide) ?_
        refine v_icmp_eq F 73 dX0_bestSpeed_60 (by decide) r10.toInt (-1) rfl rfl (fun c18 => ?_) (fun c18 => ?_)
        · refine u_iinc F (fun v_ => [(5, .int v_), (8, .int r10), (7, .int y9), (6, .int r2), (0, .ref (a 7)), (1, .int p0), (2, .int x10_2), (3, .int x10_3), (4, .int x10_4)]) dX0_bestSpeed_73 (j := 8) rfl x10_5.toInt 1 rfl rfl (by omega) (by omega) (by decide) (fun _ => rfl) (fun y19 ey19 => ?_)
          refine g_goto F 10 dX0_bestSpeed_76 (by decide) ?_
          refine g_locals [(0, .ref (a 7)), (1, .int p0), (2, .int x10_2), (3, .int x10_3), (4, .int x10_4), (5, .int y19)] [4, 5, 6, 7, 8, 0] rfl ?_
          exact ih_10 x10_2 x10_3 x10_4 y19 G12 (by omega) (by have h9 := ti_rng x10_2; omega) (by have h9 := ti_rng x10_3; omega) (by have h9 := ti_rng x10_4; omega) (by have h9 := ti_rng y19; omega) hI13 (gu_un.tr (gu_un.tr gu_un.rf (gu_un.su jU10 rfl)) (gu_un.su hU14 rfl)) (fun Q C hk hl hq => by obtain ⟨g1, g2⟩ := bs Q C hk hl hq; have ht := q5 Q C (xSq.un hq (show gu_un xcd [602, 603, 604, 605, 608, 613, 614, 615, 616, 617, 618, 619, 620, 2100, 2400, 2700, 4400, 4500, 4600, 4700, 4800] G Gj10 from (gu_un.tr gu_un.rf (gu_un.su jU10 rfl))) rfl); have hd := q16 Q C (xTok.un hk (show gu_un xcd [602, 603, 604, 605, 608, 613, 614, 615, 616, 617, 618, 619, 620, 2100, 2400, 2700, 4400, 4500, 4600, 4700, 4800] G Gj10 from (gu_un.tr gu_un.rf (gu_un.su jU10 rfl))) rfl) (lSp.un hl (show gu_un xcd [602, 603, 604, 605, 608, 613, 614, 615, 616, 617, 618, 619, 620, 2100, 2400, 2700, 4400, 4500, 4600, 4700, 4800] G Gj10 from (gu_un.tr gu_un.rf (gu_un.su jU10 rfl))) rfl) (xSq.un hq (show gu_un xcd [602, 603, 604, 605, 608, 613, 614, 615, 616, 617, 618, 619, 620, 2100, 2400, 2700, 4400, 4500, 4600, 4700, 4800] G Gj10 from (gu_un.tr gu_un.rf (gu_un.su jU10 rfl))) rfl); have g3 := bsR.gox (fl := y9.toInt) (s := x10_5.toInt) (b' := x10_2.toInt) (d' := x10_3.toInt) (bt' := x10_4.toInt) g1 g2 (by omega) ht (by omega) (by omega) (by omega) (dpR.to (P' := bsP Q C (G 38) (G 5 2) s0 x10_5.toInt) (fun f => by unfold bsP; rw [Int32.ofInt_toInt] <;> exact Iff.rfl) hd) (by omega); rw [show (y19.toInt - 1).toNat = (x10_5.toInt - 1).toNat + 1 by omega]; exact g3)
        · refine g_iload F 8 dX0_bestSpeed_63 rfl ?_
          refine g_istore_n F [(2, .int x10_5), (8, .int r10), (7, .int y9), (6, .int r2), (0, .ref (a 7)), (1, .int p0), (3, .int x10_3), (4, .int x10_4), (5, .int x10_5)] dX0_bestSpeed_65 rfl (by decide) rfl ?_
          refine g_iload F 1 dX0_bestSpeed_66 rfl ?_
          refine g_istore_n F [(3, .int r10), (2, .int x10_5), (8, .int r10), (7, .int y9), (6, .int r2), (0, .ref (a 7)), (1, .int p0), (4, .int x10_4), (5, .int x10_5)] dX0_bestSpeed_68 rfl (by decide) rfl ?_
          refine g_iload F 4 dX0_bestSpeed_69 rfl ?_
          refine g_istore F [(4, .int r2), (3, .int r10), (2, .int x10_5), (8, .int r10), (7, .int y9), (6, .int r2), (0, .ref (a 7)), (1, .int p0), (5, .int x10_5)] dX0_bestSpeed_71 (by decide) rfl ?_
          refine u_iinc F (fun v_ => [(5, .int v_), (4, .int r2), (3, .int r10), (2, .int x10_5), (8, .int r10), (7, .int y9), (6, .int r2), (0, .ref (a 7)), (1, .int p0)]) dX0_bestSpeed_73 (j := 8) rfl x10_5.toInt 1 rfl rfl (by omega) (by omega) (by decide) (fun _ => rfl) (fun y20 ey20 => ?_)
          refine g_goto F 10 dX0_bestSpeed_76 (by decide) ?_
          refine g_locals [(0, .ref (a 7)), (1, .int p0), (2, .int x10_5), (3, .int r10), (4, .int r2), (5, .int y20)] [7, 8, 3, 2, 1, 0] rfl ?_
          exact ih_10 x10_5 r10 r2 y20 G12 (by omega) (by have h9 := ti_rng x10_5; omega) (by have h9 := ti_rng r10; omega) (by have h9 := ti_rng r2; omega) (by have h9 := ti_rng y20; omega) hI13 (gu_un.tr (gu_un.tr gu_un.rf (gu_un.su jU10 rfl)) (gu_un.su hU14 rfl)) (fun Q C hk hl hq => by obtain ⟨g1, g2⟩ := bs Q C hk hl hq; have ht := q5 Q C (xSq.un hq (show gu_un xcd [602, 603, 604, 605, 608, 613, 614, 615, 616, 617, 618, 619, 620, 2100, 2400, 2700, 4400, 4500, 4600, 4700, 4800] G Gj10 from (gu_un.tr gu_un.rf (gu_un.su jU10 rfl))) rfl); have hd := q16 Q C (xTok.un hk (show gu_un xcd [602, 603, 604, 605, 608, 613, 614, 615, 616, 617, 618, 619, 620, 2100, 2400, 2700, 4400, 4500, 4600, 4700, 4800] G Gj10 from (gu_un.tr gu_un.rf (gu_un.su jU10 rfl))) rfl) (lSp.un hl (show gu_un xcd [602, 603, 604, 605, 608, 613, 614, 615, 616, 617, 618, 619, 620, 2100, 2400, 2700, 4400, 4500, 4600, 4700, 4800] G Gj10 from (gu_un.tr gu_un.rf (gu_un.su jU10 rfl))) rfl) (xSq.un hq (show gu_un xcd [602, 603, 604, 605, 608, 613, 614, 615, 616, 617, 618, 619, 620, 2100, 2400, 2700, 4400, 4500, 4600, 4700, 4800] G Gj10 from (gu_un.tr gu_un.rf (gu_un.su jU10 rfl))) rfl); have g3 := bsR.gox (fl := y9.toInt) (s := x10_5.toInt) (b' := x10_5.toInt) (d' := r10.toInt) (bt' := r2.toInt) g1 g2 (by omega) ht (by omega) (by omega) (by omega) (dpR.to (P' := bsP Q C (G 38) (G 5 2) s0 x10_5.toInt) (fun f => by unfold bsP; rw [Int32.ofInt_toInt] <;> exact Iff.rfl) hd) (by omega); rw [show (y20.toInt - 1).toNat = (x10_5.toInt - 1).toNat + 1 by omega]; exact g3)
  refine g_iconst F (-1) dX0_bestSpeed_0 (by decide) ?_
  refine g_istore_n F [(2, .int (-1)), (0, .ref (a 7)), (1, .int p0)] dX0_bestSpeed_1 rfl (by decide) rfl ?_
  refine g_iconst F 0 dX0_bestSpeed_2 (by decide) ?_
  refine g_istore_n F [(3, .int 0), (2, .int (-1)), (0, .ref (a 7)), (1, .int p0)] dX0_bestSpeed_3 rfl (by decide) rfl ?_
  refine g_iconst F 1 dX0_bestSpeed_4 (by decide) ?_
  refine g_istore F [(4, .int 1), (3, .int 0), (2, .int (-1)), (0, .ref (a 7)), (1, .int p0)] dX0_bestSpeed_5 (by decide) rfl ?_
  refine g_iconst F 1 dX0_bestSpeed_7 (by decide) ?_
  refine g_istore F [(5, .int 1), (4, .int 1), (3, .int 0), (2, .int (-1)), (0, .ref (a 7)), (1, .int p0)] dX0_bestSpeed_8 (by decide) rfl ?_
  refine g_locals [(0, .ref (a 7)), (1, .int p0), (2, .int (-1)), (3, .int 0), (4, .int 1), (5, .int 1)] [4, 5, 3, 2, 1, 0] rfl ?_
  exact J_10 _ (-1) 0 1 1 G (Nat.lt_succ_self _) (by decide) (by decide) (by decide) (by decide) hI gu_un.rf (fun Q C hk hl hq => ⟨by rw [show (Int32.toInt 1 - 1).toNat = 0 by decide]; exact ⟨by decide, by decide⟩, Or.inl ⟨by decide, by decide, by decide⟩⟩)
