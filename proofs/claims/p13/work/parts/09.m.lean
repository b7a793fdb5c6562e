theorem dX9_read_0 : decode cX9_read 0 = .ok (.iconst 0, 1) := by decide +kernel
theorem dX9_read_1 : decode cX9_read 1 = .ok (.istore_n 2, 1) := by decide +kernel
theorem dX9_read_2 : decode cX9_read 2 = .ok (.iconst 0, 1) := by decide +kernel
theorem dX9_read_3 : decode cX9_read 3 = .ok (.istore_n 3, 1) := by decide +kernel
theorem dX9_read_4 : decode cX9_read 4 = .ok (.aload_n 1, 1) := by decide +kernel
theorem dX9_read_5 : decode cX9_read 5 = .ok (.invokevirtual 18, 3) := by decide +kernel
theorem dX9_read_8 : decode cX9_read 8 = .ok (.iconst 0, 1) := by decide +kernel
theorem dX9_read_9 : decode cX9_read 9 = .ok (.istore 4, 2) := by decide +kernel
theorem dX9_read_11 : decode cX9_read 11 = .ok (.iload 4, 2) := by decide +kernel
theorem dX9_read_13 : decode cX9_read 13 = .ok (.sipush 1000, 3) := by decide +kernel
theorem dX9_read_16 : decode cX9_read 16 = .ok (.if_icmp .gt 102, 3) := by decide +kernel
theorem dX9_read_19 : decode cX9_read 19 = .ok (.aload_n 1, 1) := by decide +kernel
theorem dX9_read_20 : decode cX9_read 20 = .ok (.invokevirtual 23, 3) := by decide +kernel
theorem dX9_read_23 : decode cX9_read 23 = .ok (.aload_n 1, 1) := by decide +kernel
theorem dX9_read_24 : decode cX9_read 24 = .ok (.getfield 26, 3) := by decide +kernel
theorem dX9_read_27 : decode cX9_read 27 = .ok (.iconst 2, 1) := by decide +kernel
theorem dX9_read_28 : decode cX9_read 28 = .ok (.if_icmp .ne 42, 3) := by decide +kernel
theorem dX9_read_31 : decode cX9_read 31 = .ok (.iload_n 2, 1) := by decide +kernel
theorem dX9_read_32 : decode cX9_read 32 = .ok (.sipush 150, 3) := by decide +kernel
theorem dX9_read_35 : decode cX9_read 35 = .ok (.if_icmp .lt 5, 3) := by decide +kernel
theorem dX9_read_38 : decode cX9_read 38 = .ok (.iconst 4, 1) := by decide +kernel
theorem dX9_read_39 : decode cX9_read 39 = .ok (.ireturn, 1) := by decide +kernel
theorem dX9_read_40 : decode cX9_read 40 = .ok (.aload_n 0, 1) := by decide +kernel
theorem dX9_read_41 : decode cX9_read 41 = .ok (.getfield 15, 3) := by decide +kernel
theorem dX9_read_44 : decode cX9_read 44 = .ok (.iload_n 2, 1) := by decide +kernel
theorem dX9_read_45 : decode cX9_read 45 = .ok (.iload_n 3, 1) := by decide +kernel
theorem dX9_read_46 : decode cX9_read 46 = .ok (.ifCond .eq 11, 3) := by decide +kernel
theorem dX9_read_49 : decode cX9_read 49 = .ok (.aload_n 1, 1) := by decide +kernel
theorem dX9_read_50 : decode cX9_read 50 = .ok (.getfield 30, 3) := by decide +kernel
theorem dX9_read_53 : decode cX9_read 53 = .ok (.ineg, 1) := by decide +kernel
theorem dX9_read_54 : decode cX9_read 54 = .ok (.goto 7, 3) := by decide +kernel
theorem dX9_read_57 : decode cX9_read 57 = .ok (.aload_n 1, 1) := by decide +kernel
theorem dX9_read_58 : decode cX9_read 58 = .ok (.getfield 30, 3) := by decide +kernel
theorem dX9_read_61 : decode cX9_read 61 = .ok (.iastore, 1) := by decide +kernel
theorem dX9_read_62 : decode cX9_read 62 = .ok (.iinc 2 1, 3) := by decide +kernel
theorem dX9_read_65 : decode cX9_read 65 = .ok (.iconst 0, 1) := by decide +kernel
theorem dX9_read_66 : decode cX9_read 66 = .ok (.istore_n 3, 1) := by decide +kernel
theorem dX9_read_67 : decode cX9_read 67 = .ok (.goto 45, 3) := by decide +kernel
theorem dX9_read_70 : decode cX9_read 70 = .ok (.aload_n 1, 1) := by decide +kernel
theorem dX9_read_71 : decode cX9_read 71 = .ok (.bipush 45, 2) := by decide +kernel
theorem dX9_read_73 : decode cX9_read 73 = .ok (.invokevirtual 33, 3) := by decide +kernel
theorem dX9_read_76 : decode cX9_read 76 = .ok (.ifCond .eq 12, 3) := by decide +kernel
theorem dX9_read_79 : decode cX9_read 79 = .ok (.iload_n 3, 1) := by decide +kernel
theorem dX9_read_80 : decode cX9_read 80 = .ok (.ifCond .ne 8, 3) := by decide +kernel
theorem dX9_read_83 : decode cX9_read 83 = .ok (.iconst 1, 1) := by decide +kernel
theorem dX9_read_84 : decode cX9_read 84 = .ok (.istore_n 3, 1) := by decide +kernel
theorem dX9_read_85 : decode cX9_read 85 = .ok (.goto 27, 3) := by decide +kernel
theorem dX9_read_88 : decode cX9_read 88 = .ok (.aload_n 1, 1) := by decide +kernel
theorem dX9_read_89 : decode cX9_read 89 = .ok (.getfield 26, 3) := by decide +kernel
theorem dX9_read_92 : decode cX9_read 92 = .ok (.ifCond .ne 18, 3) := by decide +kernel
theorem dX9_read_95 : decode cX9_read 95 = .ok (.iload_n 2, 1) := by decide +kernel
theorem dX9_read_96 : decode cX9_read 96 = .ok (.ifCond .le 14, 3) := by decide +kernel
theorem dX9_read_99 : decode cX9_read 99 = .ok (.iload_n 3, 1) := by decide +kernel
theorem dX9_read_100 : decode cX9_read 100 = .ok (.ifCond .ne 10, 3) := by decide +kernel
theorem dX9_read_103 : decode cX9_read 103 = .ok (.aload_n 0, 1) := by decide +kernel
theorem dX9_read_104 : decode cX9_read 104 = .ok (.iload_n 2, 1) := by decide +kernel
theorem dX9_read_105 : decode cX9_read 105 = .ok (.invokevirtual 37, 3) := by decide +kernel
theorem dX9_read_108 : decode cX9_read 108 = .ok (.iconst 0, 1) := by decide +kernel
theorem dX9_read_109 : decode cX9_read 109 = .ok (.ireturn, 1) := by decide +kernel
theorem dX9_read_110 : decode cX9_read 110 = .ok (.iconst 1, 1) := by decide +kernel
theorem dX9_read_111 : decode cX9_read 111 = .ok (.ireturn, 1) := by decide +kernel
theorem dX9_read_112 : decode cX9_read 112 = .ok (.iinc 4 1, 3) := by decide +kernel
theorem dX9_read_115 : decode cX9_read 115 = .ok (.goto (-104), 3) := by decide +kernel
theorem dX9_read_118 : decode cX9_read 118 = .ok (.iconst 1, 1) := by decide +kernel
theorem dX9_read_119 : decode cX9_read 119 = .ok (.ireturn, 1) := by decide +kernel
set_option maxRecDepth 20000 in
theorem ggX9_read_X10_isSign : GoodIn wsX9_read wsX10_isSign := goodIn_r _ [132, 17, 16, 144, 145, 146, 147, 148, 149] rfl (by decide +kernel)
set_option maxRecDepth 20000 in
theorem gX9_read_X10_isSign : GoodIn wsX9_read (wsV RX9 33 RX10 yX10_isSign wsX10_isSign) := goodIn_app (goodIn_of _ (by decide +kernel)) ggX9_read_X10_isSign
set_option maxRecDepth 20000 in
theorem ggX9_read_X10_readToken : GoodIn wsX9_read wsX10_readToken := goodIn_r _ [13, 9, 14, 15, 16, 17, 18, 19, 20, 7, 21, 22, 23, 24, 25, 26, 27, 28, 29, 30, 31, 32, 33, 34, 35, 36, 37, 38, 39, 40, 41, 42, 43, 44, 45, 46, 47, 48, 49, 50, 51, 52, 53, 54, 55, 56, 57, 58, 59, 60, 61, 62, 63, 64, 65, 66, 67, 68, 69, 70, 71, 72, 73, 74, 75, 76, 77, 78, 79, 80, 81, 82, 83, 84, 85, 86, 87, 88, 89, 90, 91, 92, 93, 94, 95, 96, 97, 98, 99, 100, 101, 102, 103, 104, 105, 106, 107, 108, 109, 110, 111, 112, 113, 114, 115, 116, 117, 118, 119, 120, 121, 122, 123, 124, 125, 126, 127, 128, 144, 145, 146, 147, 148, 149] rfl (by decide +kernel)
set_option maxRecDepth 20000 in
theorem gX9_read_X10_readToken : GoodIn wsX9_read (wsV RX9 23 RX10 yX10_readToken wsX10_readToken) := goodIn_app (goodIn_of _ (by decide +kernel)) ggX9_read_X10_readToken
set_option maxRecDepth 20000 in
theorem ggX9_read_X10_rewind : GoodIn wsX9_read wsX10_rewind := goodIn_r _ [8, 9, 144, 145, 146, 147, 148, 149] rfl (by decide +kernel)
set_option maxRecDepth 20000 in
theorem gX9_read_X10_rewind : GoodIn wsX9_read (wsV RX9 18 RX10 yX10_rewind wsX10_rewind) := goodIn_app (goodIn_of _ (by decide +kernel)) ggX9_read_X10_rewind
set_option maxRecDepth 20000 in
theorem ggX9_read_X9_keep : GoodIn wsX9_read wsX9_keep := goodIn_r _ [137, 138, 2, 139, 140, 141, 142, 143, 150, 151, 152] rfl (by decide +kernel)
set_option maxRecDepth 20000 in
theorem gX9_read_X9_keep : GoodIn wsX9_read (wsV RX9 37 RX9 yX9_keep wsX9_keep) := goodIn_app (goodIn_of _ (by decide +kernel)) ggX9_read_X9_keep
set_option maxHeartbeats 4000000 in
set_option maxRecDepth 100000 in
theorem S_X9_read_1 (l : Launch) (D : va_G) (K : Nat → ClassId) (a : Nat → Nat) (G : gS) (zf : Nat → Nat) (hI : xI G) (sz : Nat) : KiZ (xZ zf) l yX9_read wsX9_read 6 152 D [.ref (a 10), .ref (a 1)] (xW K a G) (tK K) sz (fun (r : Int32) (G' : gS) => (xI G') ∧ (gu_un xcd [103, 104, 105, 106, 1003, 8800, 8900] G G') ∧ (0 ≤ r.toInt ∧ r.toInt ≤ 4) ∧ ((∃ (m : Nat) (ct : Int) (f9 : Nat → Int32), sOut (G 17) (G 1 1).toInt m 0 0 0 (G 89) r.toInt (G' 1 4).toInt ct f9 ∧ (r.toInt = 0 → (G' 10 2).toInt = ct ∧ ∀ i : Nat, (i : Int) < ct → G' 88 i = f9 i) ∧ (r.toInt ≠ 0 → (G' 10 2).toInt = (G 10 2).toInt ∧ G' 88 = (G 88))))) (fun (G' : gS) => (xW K a G')) := by
  unfold KiZ
  refine gz_ofW (cc := cX9_read) (lv := [(0, .ref (a 10)), (1, .ref (a 1))]) (by decide) rfl (Nat.le_of_ble_eq_true rfl) rfl ?_
  intro p e s m args below meth c A Q hA hQ hZ F hr hnm
  have hts := F.2.2.2.2.1
  have w_0 : (Cond.fieldLink RX9 26 "QuietCut$Tape" "kind" "I").before args s = true := hts _ (List.mem_of_getElem? (i := 1) rfl)
  have i_X10 : ∀ w ∈ u_ws RX10 TX10 6, w ∈ wsX9_read := fun _ h => List.mem_cons_of_mem _ (List.mem_append_left _ (List.mem_append_right _ h))
  have w_1 : (Cond.fieldLink RX9 15 "QuietCut$Sound" "spare" "[I").before args s = true := hts _ (List.mem_of_getElem? (i := 2) rfl)
  have i_X9 : ∀ w ∈ u_ws RX9 TX9 3, w ∈ wsX9_read := fun _ h => List.mem_cons_of_mem _ (List.mem_append_right _ h)
  have w_2 : (Cond.fieldLink RX9 30 "QuietCut$Tape" "value" "I").before args s = true := hts _ (List.mem_of_getElem? (i := 3) rfl)
  have b1 : (0 : Int) ≤ (G 1 1).toInt ∧ (G 1 1).toInt ≤ 1000 := hI 1 1
  have J_11 : ∀ (fuel : Nat) (x11_2 : Int32) (x11_3 : Int32) (x11_4 : Int32) (Gj11 : gS), (2147483647 - x11_4.toInt).toNat < fuel → (0 ≤ x11_2.toInt ∧ x11_2.toInt ≤ 150) → (0 ≤ x11_3.toInt ∧ x11_3.toInt ≤ 1) → (0 ≤ x11_4.toInt ∧ x11_4.toInt ≤ 1001) → (xI Gj11) → (gu_un xcd [103, 104, 105, 106, 8900] G Gj11) → (∀ (kd pc ct : Int) (f9 : Nat → Int32), (∃ m : Nat, sOut (G 17) (G 1 1).toInt m (Gj11 1 2).toInt x11_2.toInt x11_3.toInt (Gj11 89) kd pc ct f9) → ∃ m : Nat, sOut (G 17) (G 1 1).toInt m 0 0 0 (G 89) kd pc ct f9) → ((x11_4.toInt ≤ (Gj11 1 2).toInt ∧ (Gj11 1 2).toInt ≤ (G 1 1).toInt)) → gG p l e (gR 6 0 0 152) s m args below meth c D A 5 Q 0 0 (xW K a Gj11) (tK K) [(0, .ref (a 10)), (1, .ref (a 1)), (2, .int x11_2), (3, .int x11_3), (4, .int x11_4)] 11 [] := by
    intro fuel
    induction fuel with
    | zero => intro x11_2 x11_3 x11_4 Gj11 hm; exact absurd hm (Nat.not_lt_zero _)
    | succ fuel_11 ih_11 =>
      intro x11_2 x11_3 x11_4 Gj11 hm_11 h11_2 h11_3 h11_4 jI11 jU11 sc nl
      refine g_iload F 4 dX9_read_11 rfl ?_
      refine g_sipush F 1000 dX9_read_13 (by decide) ?_
      refine v_icmp_gt F 118 dX9_read_16 (by decide) x11_4.toInt 1000 rfl rfl (fun c2 => ?_) (fun c2 => ?_)
      · refine g_iconst F 1 dX9_read_118 (by decide) ?_
        exact u_iret F hA hQ hr Gj11 (⟨jI11, (gu_un.tr gu_un.rf (gu_un.su jU11 rfl)), (by decide), (by exfalso; omega)⟩) rfl rfl dX9_read_119
      · refine g_aload_n F 1 dX9_read_19 rfl rfl ?_
        refine uz_callVv (k := 0) (n := 0) (b := a 1) (As := []) (st := []) F xZ_st hZ (fun sz => S_X10_readToken l D K a Gj11 zf  jI11 sz) (cwV 0 hts gX9_read_X10_readToken rfl rfl rfl (by decide +kernel) ⟨Nat.le_of_ble_eq_true rfl, Nat.le_of_ble_eq_true rfl⟩) rfl 1 xc_1 rfl (Nat.le_of_ble_eq_true rfl) ⟨Nat.zero_le _, Nat.zero_le _⟩ dX9_read_20 (fun G5 hw4 => ?_)
        have hI6 : xI G5 := hw4.1
        have hU7 : gu_un xcd [103, 104, 105, 106] Gj11 G5 := hw4.2.1
        have hp8 := hw4.2.2
        have b9 : (0 : Int) ≤ (Gj11 1 2).toInt ∧ (Gj11 1 2).toInt ≤ 1000 := jI11 1 2
        have b10 : (0 : Int) ≤ (G5 1 3).toInt ∧ (G5 1 3).toInt ≤ 4 := hI6 1 3
        have b11 : (0 : Int) ≤ (G5 1 4).toInt ∧ (G5 1 4).toInt ≤ 1000 := hI6 1 4
        have b12 : (0 : Int) ≤ (G5 1 2).toInt ∧ (G5 1 2).toInt ≤ 1000 := hI6 1 2
        have q13 : tTok (G 17) (G 1 1).toInt (Gj11 1 2).toInt (G5 1 3).toInt (G5 1 4).toInt (G5 1 5).toInt (G5 1 2).toInt := by have h9 := hp8.1; (try simp only [(show Gj11 1 1 = (G 1 1) from jU11 1 1 (by decide)), (show Gj11 17 = (G 17) from (show Gj11 17 = G 17 from funext fun k_ => jU11 17 k_ (show (1700 : Nat) ∉ ([103, 104, 105, 106, 8900] : List Nat) by decide)))] at h9); first | exact h9 | omega
        have q14 : tY (((G5 1 3).toInt = 1 → (((G5 1 2).toInt - (G5 1 4).toInt = 1 ∧ (G5 1 5).toInt = yBi (G 17) (G 1 1).toInt (G5 1 4).toInt) ∨ ((G5 1 2).toInt - (G5 1 4).toInt ≠ 1 ∧ (G5 1 5).toInt = 0)))) := by have h9 := hp8.2; (try simp only [(show Gj11 1 1 = (G 1 1) from jU11 1 1 (by decide)), (show Gj11 17 = (G 17) from (show Gj11 17 = G 17 from funext fun k_ => jU11 17 k_ (show (1700 : Nat) ∉ ([103, 104, 105, 106, 8900] : List Nat) by decide)))] at h9); first | exact h9 | (unfold tY; omega)
        have tl15 := q13.lt (by omega)
        clear hp8 hw4
        refine g_aload_n F 1 dX9_read_23 rfl rfl ?_
        refine xg_1_3 F i_X10 w_0 dX9_read_24 (G5 1 3) (rfl) ?_
        refine g_iconst F 2 dX9_read_27 (by decide) ?_
        refine v_icmp_ne F 70 dX9_read_28 (by decide) (G5 1 3).toInt 2 rfl rfl (fun c16 => ?_) (fun c16 => ?_)
        · refine g_aload_n F 1 dX9_read_70 rfl rfl ?_
          refine g_bipush F 45 dX9_read_71 (by decide) ?_
          refine u_callVi (k := 0) (n := 0) (b := a 1) (As := [.int 45]) (st := []) F (fun sz => S_X10_isSign l D K a G5 45 45 rfl hI6 sz) (cwV 1 hts gX9_read_X10_isSign rfl rfl rfl (by decide +kernel) ⟨Nat.le_of_ble_eq_true rfl, Nat.le_of_ble_eq_true rfl⟩) rfl 1 xc_1 rfl (Nat.le_of_ble_eq_true rfl) ⟨Nat.zero_le _, Nat.zero_le _⟩ dX9_read_73 (fun r17 _ hw18 => ?_)
          rcases hw18 with ⟨rfl, q20⟩ | ⟨rfl, q21⟩
          · have q20 : ((G5 1 3).toInt = 3 ∧ (G5 1 5).toInt = (45 : Int)) := q20
            refine v_if_eq F 88 dX9_read_76 (by decide) 1 rfl (fun c22 => absurd c22 (by decide)) (fun c22 => ?_)
            refine g_iload_n F 3 dX9_read_79 rfl rfl ?_
            refine v_if_ne F 88 dX9_read_80 (by decide) x11_3.toInt rfl (fun c23 => ?_) (fun c23 => ?_)
            · refine g_aload_n F 1 dX9_read_88 rfl rfl ?_
              refine xg_1_3 F i_X10 w_0 dX9_read_89 (G5 1 3) (rfl) ?_
              refine v_if_ne F 110 dX9_read_92 (by decide) (G5 1 3).toInt rfl (fun c24 => ?_) (fun c24 => ?_)
              · refine g_iconst F 1 dX9_read_110 (by decide) ?_
                have b25 : (0 : Int) ≤ (G 10 2).toInt ∧ (G 10 2).toInt ≤ 150 := hI 10 2
                exact u_iret F hA hQ hr G5 (⟨hI6, (gu_un.tr (gu_un.tr gu_un.rf (gu_un.su jU11 rfl)) (gu_un.su hU7 rfl)), (by decide), (by obtain ⟨m9, h9⟩ := sc 1 _ 0 (G 89) ⟨1, _, _, _, _, q13, Or.inr (Or.inr (Or.inr (Or.inr ⟨by omega, by omega, by omega, rfl, rfl⟩)))⟩; exact ⟨m9, 0, G 89, by rw [show (G5 1 4).toInt = (G5 1 4).toInt from congrArg Int32.toInt (show G5 1 4 = (G5 1 4) from rfl)]; exact h9, fun h => absurd h (by decide), fun _ => ⟨by have e9_10_2 : G5 10 2 = (G 10 2) := (hU7 10 2 (by decide)).trans (jU11 10 2 (by decide)); (try simp only [e9_10_2, true_and, and_true]) <;> first | rfl | omega, (show G5 88 = Gj11 88 from funext fun k_ => hU7 88 k_ (show (8800 : Nat) ∉ ([103, 104, 105, 106] : List Nat) by decide)).trans ((show Gj11 88 = G 88 from funext fun k_ => jU11 88 k_ (show (8800 : Nat) ∉ ([103, 104, 105, 106, 8900] : List Nat) by decide)))⟩⟩)⟩) rfl rfl dX9_read_111
              · refine g_iload_n F 2 dX9_read_95 rfl rfl ?_
                refine v_if_le F 110 dX9_read_96 (by decide) x11_2.toInt rfl (fun c26 => ?_) (fun c26 => ?_)
                · refine g_iconst F 1 dX9_read_110 (by decide) ?_
                  have b27 : (0 : Int) ≤ (G 10 2).toInt ∧ (G 10 2).toInt ≤ 150 := hI 10 2
                  exact u_iret F hA hQ hr G5 (⟨hI6, (gu_un.tr (gu_un.tr gu_un.rf (gu_un.su jU11 rfl)) (gu_un.su hU7 rfl)), (by decide), (by obtain ⟨m9, h9⟩ := sc 1 _ 0 (G 89) ⟨1, _, _, _, _, q13, Or.inr (Or.inr (Or.inr (Or.inr ⟨by omega, by omega, by omega, rfl, rfl⟩)))⟩; exact ⟨m9, 0, G 89, by rw [show (G5 1 4).toInt = (G5 1 4).toInt from congrArg Int32.toInt (show G5 1 4 = (G5 1 4) from rfl)]; exact h9, fun h => absurd h (by decide), fun _ => ⟨by have e9_10_2 : G5 10 2 = (G 10 2) := (hU7 10 2 (by decide)).trans (jU11 10 2 (by decide)); (try simp only [e9_10_2, true_and, and_true]) <;> first | rfl | omega, (show G5 88 = Gj11 88 from funext fun k_ => hU7 88 k_ (show (8800 : Nat) ∉ ([103, 104, 105, 106] : List Nat) by decide)).trans ((show Gj11 88 = G 88 from funext fun k_ => jU11 88 k_ (show (8800 : Nat) ∉ ([103, 104, 105, 106, 8900] : List Nat) by decide)))⟩⟩)⟩) rfl rfl dX9_read_111
                · refine g_iload_n F 3 dX9_read_99 rfl rfl ?_
                  refine v_if_ne F 110 dX9_read_100 (by decide) x11_3.toInt rfl (fun c28 => ?_) (fun c28 => absurd c28 (by omega))
                  refine g_iconst F 1 dX9_read_110 (by decide) ?_
                  have b29 : (0 : Int) ≤ (G 10 2).toInt ∧ (G 10 2).toInt ≤ 150 := hI 10 2
                  exact u_iret F hA hQ hr G5 (⟨hI6, (gu_un.tr (gu_un.tr gu_un.rf (gu_un.su jU11 rfl)) (gu_un.su hU7 rfl)), (by decide), (by obtain ⟨m9, h9⟩ := sc 1 _ 0 (G 89) ⟨1, _, _, _, _, q13, Or.inr (Or.inr (Or.inr (Or.inr ⟨by omega, by omega, by omega, rfl, rfl⟩)))⟩; exact ⟨m9, 0, G 89, by rw [show (G5 1 4).toInt = (G5 1 4).toInt from congrArg Int32.toInt (show G5 1 4 = (G5 1 4) from rfl)]; exact h9, fun h => absurd h (by decide), fun _ => ⟨by have e9_10_2 : G5 10 2 = (G 10 2) := (hU7 10 2 (by decide)).trans (jU11 10 2 (by decide)); (try simp only [e9_10_2, true_and, and_true]) <;> first | rfl | omega, (show G5 88 = Gj11 88 from funext fun k_ => hU7 88 k_ (show (8800 : Nat) ∉ ([103, 104, 105, 106] : List Nat) by decide)).trans ((show Gj11 88 = G 88 from funext fun k_ => jU11 88 k_ (show (8800 : Nat) ∉ ([103, 104, 105, 106, 8900] : List Nat) by decide)))⟩⟩)⟩) rfl rfl dX9_read_111
            · refine g_iconst F 1 dX9_read_83 (by decide) ?_
              refine g_istore_n F [(3, .int 1), (0, .ref (a 10)), (1, .ref (a 1)), (2, .int x11_2), (4, .int x11_4)] dX9_read_84 rfl (by decide) rfl ?_
              refine g_goto F 112 dX9_read_85 (by decide) ?_
              refine u_iinc F (fun v_ => [(4, .int v_), (3, .int 1), (0, .ref (a 10)), (1, .ref (a 1)), (2, .int x11_2)]) dX9_read_112 (j := 4) rfl x11_4.toInt 1 rfl rfl (by omega) (by omega) (by decide) (fun _ => rfl) (fun y30 ey30 => ?_)
              refine g_goto F 11 dX9_read_115 (by decide) ?_
              refine g_locals [(0, .ref (a 10)), (1, .ref (a 1)), (2, .int x11_2), (3, .int 1), (4, .int y30)] [2, 3, 4, 1, 0] rfl ?_
              exact ih_11 x11_2 1 y30 G5 (by omega) (by have h9 := ti_rng x11_2; omega) (by decide) (by have h9 := ti_rng y30; omega) hI6 (gu_un.tr (gu_un.tr gu_un.rf (gu_un.su jU11 rfl)) (gu_un.su hU7 rfl)) (fun kd pc ct f9 h => by obtain ⟨m9, h9⟩ := h; exact sc kd pc ct f9 ⟨m9 + 1, _, _, _, _, q13, Or.inr (Or.inr (Or.inl ⟨by omega, by omega, by omega, h9.cast rfl rfl (by decide) (show Gj11 89 = G5 89 from ((show G5 89 = Gj11 89 from funext fun k_ => hU7 89 k_ (show (8900 : Nat) ∉ ([103, 104, 105, 106] : List Nat) by decide))).symm)⟩))⟩) (by have e9_1_1 : G5 1 1 = (G 1 1) := (hU7 1 1 (by decide)).trans (jU11 1 1 (by decide)); (try simp only [e9_1_1, true_and, and_true]) <;> (first | omega | (simp only [Int32.reduceToInt, true_and, and_true, ne_eq, not_true_eq_false, false_and, or_false, false_or, true_or, or_true, false_implies] <;> omega)))
          · have q21 : ((G5 1 3).toInt ≠ 3 ∨ (G5 1 5).toInt ≠ (45 : Int)) := q21
            refine v_if_eq F 88 dX9_read_76 (by decide) 0 rfl (fun c31 => ?_) (fun c31 => absurd c31 (by decide))
            refine g_aload_n F 1 dX9_read_88 rfl rfl ?_
            refine xg_1_3 F i_X10 w_0 dX9_read_89 (G5 1 3) (rfl) ?_
            refine v_if_ne F 110 dX9_read_92 (by decide) (G5 1 3).toInt rfl (fun c32 => ?_) (fun c32 => ?_)
            · refine g_iconst F 1 dX9_read_110 (by decide) ?_
              have b33 : (0 : Int) ≤ (G 10 2).toInt ∧ (G 10 2).toInt ≤ 150 := hI 10 2
              exact u_iret F hA hQ hr G5 (⟨hI6, (gu_un.tr (gu_un.tr gu_un.rf (gu_un.su jU11 rfl)) (gu_un.su hU7 rfl)), (by decide), (by obtain ⟨m9, h9⟩ := sc 1 _ 0 (G 89) ⟨1, _, _, _, _, q13, Or.inr (Or.inr (Or.inr (Or.inr ⟨by omega, by omega, by omega, rfl, rfl⟩)))⟩; exact ⟨m9, 0, G 89, by rw [show (G5 1 4).toInt = (G5 1 4).toInt from congrArg Int32.toInt (show G5 1 4 = (G5 1 4) from rfl)]; exact h9, fun h => absurd h (by decide), fun _ => ⟨by have e9_10_2 : G5 10 2 = (G 10 2) := (hU7 10 2 (by decide)).trans (jU11 10 2 (by decide)); (try simp only [e9_10_2, true_and, and_true]) <;> first | rfl | omega, (show G5 88 = Gj11 88 from funext fun k_ => hU7 88 k_ (show (8800 : Nat) ∉ ([103, 104, 105, 106] : List Nat) by decide)).trans ((show Gj11 88 = G 88 from funext fun k_ => jU11 88 k_ (show (8800 : Nat) ∉ ([103, 104, 105, 106, 8900] : List Nat) by decide)))⟩⟩)⟩) rfl rfl dX9_read_111
            · refine g_iload_n F 2 dX9_read_95 rfl rfl ?_
              refine v_if_le F 110 dX9_read_96 (by decide) x11_2.toInt rfl (fun c34 => ?_) (fun c34 => ?_)
              · refine g_iconst F 1 dX9_read_110 (by decide) ?_
                have b35 : (0 : Int) ≤ (G 10 2).toInt ∧ (G 10 2).toInt ≤ 150 := hI 10 2
                exact u_iret F hA hQ hr G5 (⟨hI6, (gu_un.tr (gu_un.tr gu_un.rf (gu_un.su jU11 rfl)) (gu_un.su hU7 rfl)), (by decide), (by obtain ⟨m9, h9⟩ := sc 1 _ 0 (G 89) ⟨1, _, _, _, _, q13, Or.inr (Or.inr (Or.inr (Or.inr ⟨by omega, by omega, by omega, rfl, rfl⟩)))⟩; exact ⟨m9, 0, G 89, by rw [show (G5 1 4).toInt = (G5 1 4).toInt from congrArg Int32.toInt (show G5 1 4 = (G5 1 4) from rfl)]; exact h9, fun h => absurd h (by decide), fun _ => ⟨by have e9_10_2 : G5 10 2 = (G 10 2) := (hU7 10 2 (by decide)).trans (jU11 10 2 (by decide)); (try simp only [e9_10_2, true_and, and_true]) <;> first | rfl | omega, (show G5 88 = Gj11 88 from funext fun k_ => hU7 88 k_ (show (8800 : Nat) ∉ ([103, 104, 105, 106] : List Nat) by decide)).trans ((show Gj11 88 = G 88 from funext fun k_ => jU11 88 k_ (show (8800 : Nat) ∉ ([103, 104, 105, 106, 8900] : List Nat) by decide)))⟩⟩)⟩) rfl rfl dX9_read_111
              · refine g_iload_n F 3 dX9_read_99 rfl rfl ?_
                refine v_if_ne F 110 dX9_read_100 (by decide) x11_3.toInt rfl (fun c36 => ?_) (fun c36 => ?_)
                · refine g_iconst F 1 dX9_read_110 (by decide) ?_
                  have b37 : (0 : Int) ≤ (G 10 2).toInt ∧ (G 10 2).toInt ≤ 150 := hI 10 2
                  exact u_iret F hA hQ hr G5 (⟨hI6, (gu_un.tr (gu_un.tr gu_un.rf (gu_un.su jU11 rfl)) (gu_un.su hU7 rfl)), (by decide), (by obtain ⟨m9, h9⟩ := sc 1 _ 0 (G 89) ⟨1, _, _, _, _, q13, Or.inr (Or.inr (Or.inr (Or.inr ⟨by omega, by omega, by omega, rfl, rfl⟩)))⟩; exact ⟨m9, 0, G 89, by rw [show (G5 1 4).toInt = (G5 1 4).toInt from congrArg Int32.toInt (show G5 1 4 = (G5 1 4) from rfl)]; exact h9, fun h => absurd h (by decide), fun _ => ⟨by have e9_10_2 : G5 10 2 = (G 10 2) := (hU7 10 2 (by decide)).trans (jU11 10 2 (by decide)); (try simp only [e9_10_2, true_and, and_true]) <;> first | rfl | omega, (show G5 88 = Gj11 88 from funext fun k_ => hU7 88 k_ (show (8800 : Nat) ∉ ([103, 104, 105, 106] : List Nat) by decide)).trans ((show Gj11 88 = G 88 from funext fun k_ => jU11 88 k_ (show (8800 : Nat) ∉ ([103, 104, 105, 106, 8900] : List Nat) by decide)))⟩⟩)⟩) rfl rfl dX9_read_111
                · refine g_aload_n F 0 dX9_read_103 rfl rfl ?_
                  refine g_iload_n F 2 dX9_read_104 rfl rfl ?_
                  refine u_callVv (k := 0) (n := 0) (b := a 10) (As := [.int x11_2]) (st := []) F (fun sz => S_X9_keep l D K a G5 x11_2 x11_2.toInt rfl (by omega) hI6 sz) (cwV 1 hts gX9_read_X9_keep rfl rfl rfl (by decide +kernel) ⟨Nat.le_of_ble_eq_true rfl, Nat.le_of_ble_eq_true rfl⟩) rfl 10 xc_10 rfl (Nat.le_of_ble_eq_true rfl) ⟨Nat.zero_le _, Nat.zero_le _⟩ dX9_read_105 (fun G40 hw39 => ?_)
                  have hI41 : xI G40 := hw39.1
                  have hU42 : gu_un xcd [1003, 8800] G5 G40 := hw39.2.1
                  have hp43 := hw39.2.2
                  have b44 : (0 : Int) ≤ (G40 10 2).toInt ∧ (G40 10 2).toInt ≤ 150 := hI41 10 2
                  have q45 : ((G40 10 2).toInt = x11_2.toInt) := hp43.1
                  have q46 : (∀ i : Nat, (i : Int) < x11_2.toInt → G40 88 i = (Gj11 89) i) := by have h9 := hp43.2; (try simp only [(show G5 89 = (Gj11 89) from (show G5 89 = Gj11 89 from funext fun k_ => hU7 89 k_ (show (8900 : Nat) ∉ ([103, 104, 105, 106] : List Nat) by decide)))] at h9); first | exact h9 | omega
                  clear hp43 hw39
                  refine g_iconst F 0 dX9_read_108 (by decide) ?_
                  exact u_iret F hA hQ hr G40 (⟨hI41, (gu_un.tr (gu_un.tr (gu_un.tr gu_un.rf (gu_un.su jU11 rfl)) (gu_un.su hU7 rfl)) (gu_un.su hU42 rfl)), (by decide), (by obtain ⟨m9, h9⟩ := sc 0 (G5 1 4).toInt x11_2.toInt (Gj11 89) ⟨1, _, _, _, _, q13, Or.inr (Or.inr (Or.inr (Or.inl ⟨by omega, by omega, by omega, rfl, rfl, rfl⟩)))⟩; exact ⟨m9, x11_2.toInt, Gj11 89, by rw [show (G40 1 4).toInt = (G5 1 4).toInt from congrArg Int32.toInt (show G40 1 4 = (G5 1 4) from hU42 1 4 (by decide))]; exact h9, fun _ => ⟨by omega, fun i hi => q46 i hi⟩, fun h => absurd rfl h⟩)⟩) rfl rfl dX9_read_109
        · refine g_iload_n F 2 dX9_read_31 rfl rfl ?_
          refine g_sipush F 150 dX9_read_32 (by decide) ?_
          refine v_icmp_lt F 40 dX9_read_35 (by decide) x11_2.toInt 150 rfl rfl (fun c47 => ?_) (fun c47 => ?_)
          · refine g_aload_n F 0 dX9_read_40 rfl rfl ?_
            refine xg_10_1 F i_X9 w_1 dX9_read_41 ?_
            refine g_iload_n F 2 dX9_read_44 rfl rfl ?_
            refine g_iload_n F 3 dX9_read_45 rfl rfl ?_
            refine v_if_eq F 57 dX9_read_46 (by decide) x11_3.toInt rfl (fun c48 => ?_) (fun c48 => ?_)
            · refine g_aload_n F 1 dX9_read_57 rfl rfl ?_
              refine xg_1_5 F i_X10 w_2 dX9_read_58 (G5 1 5) (rfl) ?_
              refine u_iast F 89 0 xc_89 rfl x11_2.toInt rfl (by omega) (by omega) (xW K a (gu_up G5 89 (x11_2.toInt).toNat (G5 1 5))) (xs_89 _) dX9_read_61 ?_
              refine u_iinc F (fun v_ => [(2, .int v_), (0, .ref (a 10)), (1, .ref (a 1)), (3, .int x11_3), (4, .int x11_4)]) dX9_read_62 (j := 2) rfl x11_2.toInt 1 rfl rfl (by omega) (by omega) (by decide) (fun _ => rfl) (fun y49 ey49 => ?_)
              refine g_iconst F 0 dX9_read_65 (by decide) ?_
              refine g_istore_n F [(3, .int 0), (2, .int y49), (0, .ref (a 10)), (1, .ref (a 1)), (4, .int x11_4)] dX9_read_66 rfl (by decide) rfl ?_
              refine g_goto F 112 dX9_read_67 (by decide) ?_
              refine u_iinc F (fun v_ => [(4, .int v_), (3, .int 0), (2, .int y49), (0, .ref (a 10)), (1, .ref (a 1))]) dX9_read_112 (j := 4) rfl x11_4.toInt 1 rfl rfl (by omega) (by omega) (by decide) (fun _ => rfl) (fun y50 ey50 => ?_)
              refine g_goto F 11 dX9_read_115 (by decide) ?_
              refine g_locals [(0, .ref (a 10)), (1, .ref (a 1)), (2, .int y49), (3, .int 0), (4, .int y50)] [3, 4, 2, 1, 0] rfl ?_
              exact ih_11 y49 0 y50 (gu_up G5 89 (x11_2.toInt).toNat (G5 1 5)) (by omega) (by have h9 := ti_rng y49; omega) (by decide) (by have h9 := ti_rng y50; omega) (gu_I.up (j := 89) (k := (x11_2.toInt).toNat) (v := (G5 1 5)) hI6 (show ((-9999) : Int) ≤ Int32.toInt (G5 1 5) by omega) (show Int32.toInt (G5 1 5) ≤ 9999 by omega)) (gu_un.up (j := 89) (k := (x11_2.toInt).toNat) (v := (G5 1 5)) (gu_un.tr (gu_un.tr gu_un.rf (gu_un.su jU11 rfl)) (gu_un.su hU7 rfl)) (show (8900 : Nat) ∈ ([103, 104, 105, 106, 8900] : List Nat) by decide)) (fun kd pc ct f9 h => by obtain ⟨m9, h9⟩ := h; exact sc kd pc ct f9 ⟨m9 + 1, _, _, _, _, q13, Or.inl ⟨by omega, by omega, h9.cast rfl (by omega) (by decide) (by rw [if_pos (by omega), i32_pos rfl]; show _ = upd (G5 89) _ _; rw [show G5 89 = Gj11 89 from (show G5 89 = Gj11 89 from funext fun k_ => hU7 89 k_ (show (8900 : Nat) ∉ ([103, 104, 105, 106] : List Nat) by decide))])⟩⟩) (by have e9_1_1 : (gu_up G5 89 (x11_2.toInt).toNat (G5 1 5)) 1 1 = (G 1 1) := (hU7 1 1 (by decide)).trans (jU11 1 1 (by decide)); have e9_1_2 : (gu_up G5 89 (x11_2.toInt).toNat (G5 1 5)) 1 2 = (G5 1 2) := rfl; (try simp only [e9_1_1, e9_1_2, true_and, and_true]) <;> (first | omega | (simp only [Int32.reduceToInt, true_and, and_true, ne_eq, not_true_eq_false, false_and, or_false, false_or, true_or, or_true, false_implies] <;> omega)))
            · refine g_aload_n F 1 dX9_read_49 rfl rfl ?_
              refine xg_1_5 F i_X10 w_2 dX9_read_50 (G5 1 5) (rfl) ?_
              refine g_ineg F dX9_read_53 ?_
              have ng52 : -2147483648 < (G5 1 5).toInt → ((-(G5 1 5)) : Int32).toInt = -(G5 1 5).toInt := fun h9 => ti_neg rfl h9
              refine g_goto F 61 dX9_read_54 (by decide) ?_
              refine u_iast F 89 0 xc_89 rfl x11_2.toInt rfl (by omega) (by omega) (xW K a (gu_up G5 89 (x11_2.toInt).toNat (-(G5 1 5)))) (xs_89 _) dX9_read_61 ?_
              refine u_iinc F (fun v_ => [(2, .int v_), (0, .ref (a 10)), (1, .ref (a 1)), (3, .int x11_3), (4, .int x11_4)]) dX9_read_62 (j := 2) rfl x11_2.toInt 1 rfl rfl (by omega) (by omega) (by decide) (fun _ => rfl) (fun y53 ey53 => ?_)
              refine g_iconst F 0 dX9_read_65 (by decide) ?_
              refine g_istore_n F [(3, .int 0), (2, .int y53), (0, .ref (a 10)), (1, .ref (a 1)), (4, .int x11_4)] dX9_read_66 rfl (by decide) rfl ?_
              refine g_goto F 112 dX9_read_67 (by decide) ?_
              refine u_iinc F (fun v_ => [(4, .int v_), (3, .int 0), (2, .int y53), (0, .ref (a 10)), (1, .ref (a 1))]) dX9_read_112 (j := 4) rfl x11_4.toInt 1 rfl rfl (by omega) (by omega) (by decide) (fun _ => rfl) (fun y54 ey54 => ?_)
              refine g_goto F 11 dX9_read_115 (by decide) ?_
              refine g_locals [(0, .ref (a 10)), (1, .ref (a 1)), (2, .int y53), (3, .int 0), (4, .int y54)] [3, 4, 2, 1, 0] rfl ?_
              exact ih_11 y53 0 y54 (gu_up G5 89 (x11_2.toInt).toNat (-(G5 1 5))) (by omega) (by have h9 := ti_rng y53; omega) (by decide) (by have h9 := ti_rng y54; omega) (gu_I.up (j := 89) (k := (x11_2.toInt).toNat) (v := (-(G5 1 5))) hI6 (show ((-9999) : Int) ≤ Int32.toInt (-(G5 1 5)) by omega) (show Int32.toInt (-(G5 1 5)) ≤ 9999 by omega)) (gu_un.up (j := 89) (k := (x11_2.toInt).toNat) (v := (-(G5 1 5))) (gu_un.tr (gu_un.tr gu_un.rf (gu_un.su jU11 rfl)) (gu_un.su hU7 rfl)) (show (8900 : Nat) ∈ ([103, 104, 105, 106, 8900] : List Nat) by decide)) (fun kd pc ct f9 h => by obtain ⟨m9, h9⟩ := h; exact sc kd pc ct f9 ⟨m9 + 1, _, _, _, _, q13, Or.inl ⟨by omega, by omega, h9.cast rfl (by omega) (by decide) (by rw [if_neg (by omega), i32_neg rfl]; show _ = upd (G5 89) _ _; rw [show G5 89 = Gj11 89 from (show G5 89 = Gj11 89 from funext fun k_ => hU7 89 k_ (show (8900 : Nat) ∉ ([103, 104, 105, 106] : List Nat) by decide))])⟩⟩) (by have e9_1_1 : (gu_up G5 89 (x11_2.toInt).toNat (-(G5 1 5))) 1 1 = (G 1 1) := (hU7 1 1 (by decide)).trans (jU11 1 1 (by decide)); have e9_1_2 : (gu_up G5 89 (x11_2.toInt).toNat (-(G5 1 5))) 1 2 = (G5 1 2) := rfl; (try simp only [e9_1_1, e9_1_2, true_and, and_true]) <;> (first | omega | (simp only [Int32.reduceToInt, true_and, and_true, ne_eq, not_true_eq_false, false_and, or_false, false_or, true_or, or_true, false_implies] <;> omega)))
          · refine g_iconst F 4 dX9_read_38 (by decide) ?_
            have b55 : (0 : Int) ≤ (G 10 2).toInt ∧ (G 10 2).toInt ≤ 150 := hI 10 2
            exact u_iret F hA hQ hr G5 (⟨hI6, (gu_un.tr (gu_un.tr gu_un.rf (gu_un.su jU11 rfl)) (gu_un.su hU7 rfl)), (by decide), (by obtain ⟨m9, h9⟩ := sc 4 _ 0 (G 89) ⟨1, _, _, _, _, q13, Or.inr (Or.inl ⟨by omega, by omega, rfl, rfl⟩)⟩; exact ⟨m9, 0, G 89, by rw [show (G5 1 4).toInt = (G5 1 4).toInt from congrArg Int32.toInt (show G5 1 4 = (G5 1 4) from rfl)]; exact h9, fun h => absurd h (by decide), fun _ => ⟨by have e9_10_2 : G5 10 2 = (G 10 2) := (hU7 10 2 (by decide)).trans (jU11 10 2 (by decide)); (try simp only [e9_10_2, true_and, and_true]) <;> first | rfl | omega, (show G5 88 = Gj11 88 from funext fun k_ => hU7 88 k_ (show (8800 : Nat) ∉ ([103, 104, 105, 106] : List Nat) by decide)).trans ((show Gj11 88 = G 88 from funext fun k_ => jU11 88 k_ (show (8800 : Nat) ∉ ([103, 104, 105, 106, 8900] : List Nat) by decide)))⟩⟩)⟩) rfl rfl dX9_read_39
  refine g_iconst F 0 dX9_read_0 (by decide) ?_
  refine g_istore_n F [(2, .int 0), (0, .ref (a 10)), (1, .ref (a 1))] dX9_read_1 rfl (by decide) rfl ?_
  refine g_iconst F 0 dX9_read_2 (by decide) ?_
  refine g_istore_n F [(3, .int 0), (2, .int 0), (0, .ref (a 10)), (1, .ref (a 1))] dX9_read_3 rfl (by decide) rfl ?_
  refine g_aload_n F 3 dX9_read_4 rfl rfl ?_
  refine u_callVv (k := 0) (n := 0) (b := a 1) (As := []) (st := []) F (fun sz => S_X10_rewind l D K a G  hI sz) (cwV 0 hts gX9_read_X10_rewind rfl rfl rfl (by decide +kernel) ⟨Nat.le_of_ble_eq_true rfl, Nat.le_of_ble_eq_true rfl⟩) rfl 1 xc_1 rfl (Nat.le_of_ble_eq_true rfl) ⟨Nat.zero_le _, Nat.zero_le _⟩ dX9_read_5 (fun G58 hw57 => ?_)
  have hI59 : xI G58 := hw57.1
  have hU60 : gu_un xcd [103] G G58 := hw57.2.1
  have hp61 := hw57.2.2
  have b62 : (0 : Int) ≤ (G58 1 2).toInt ∧ (G58 1 2).toInt ≤ 1000 := hI59 1 2
  have q63 : ((G58 1 2).toInt = 0) := hp61
  clear hp61 hw57
  refine g_iconst F 0 dX9_read_8 (by decide) ?_
  refine g_istore F [(4, .int 0), (3, .int 0), (2, .int 0), (0, .ref (a 10)), (1, .ref (a 1))] dX9_read_9 (by decide) rfl ?_
  refine g_locals [(0, .ref (a 10)), (1, .ref (a 1)), (2, .int 0), (3, .int 0), (4, .int 0)] [3, 4, 2, 1, 0] rfl ?_
  exact J_11 _ 0 0 0 G58 (Nat.lt_succ_self _) (by decide) (by decide) (by decide) hI59 (gu_un.tr gu_un.rf (gu_un.su hU60 rfl)) (fun kd pc ct f9 h => by obtain ⟨m9, h9⟩ := h; exact ⟨m9, h9.cast (by omega) (by decide) (by decide) (show G 89 = G58 89 from ((show G58 89 = G 89 from funext fun k_ => hU60 89 k_ (show (8900 : Nat) ∉ ([103] : List Nat) by decide))).symm)⟩) (by have e9_1_1 : G58 1 1 = (G 1 1) := hU60 1 1 (by decide); (try simp only [e9_1_1, true_and, and_true]) <;> (first | omega | (simp only [Int32.reduceToInt, true_and, and_true, ne_eq, not_true_eq_false, false_and, or_false, false_or, true_or, or_true, false_implies] <;> omega)))

theorem dX11_sound_0 : decode cX11_sound 0 = .ok (.aload_n 0, 1) := by decide +kernel
theorem dX11_sound_1 : decode cX11_sound 1 = .ok (.aload_n 0, 1) := by decide +kernel
theorem dX11_sound_2 : decode cX11_sound 2 = .ok (.getfield 81, 3) := by decide +kernel
theorem dX11_sound_5 : decode cX11_sound 5 = .ok (.aload_n 0, 1) := by decide +kernel
theorem dX11_sound_6 : decode cX11_sound 6 = .ok (.getfield 12, 3) := by decide +kernel
theorem dX11_sound_9 : decode cX11_sound 9 = .ok (.invokevirtual 264, 3) := by decide +kernel
theorem dX11_sound_12 : decode cX11_sound 12 = .ok (.invokevirtual 108, 3) := by decide +kernel
theorem dX11_sound_15 : decode cX11_sound 15 = .ok (.aload_n 0, 1) := by decide +kernel
theorem dX11_sound_16 : decode cX11_sound 16 = .ok (.getfield 111, 3) := by decide +kernel
theorem dX11_sound_19 : decode cX11_sound 19 = .ok (.ifCond .ne 13, 3) := by decide +kernel
theorem dX11_sound_22 : decode cX11_sound 22 = .ok (.aload_n 0, 1) := by decide +kernel
theorem dX11_sound_23 : decode cX11_sound 23 = .ok (.getfield 81, 3) := by decide +kernel
theorem dX11_sound_26 : decode cX11_sound 26 = .ok (.getfield 267, 3) := by decide +kernel
theorem dX11_sound_29 : decode cX11_sound 29 = .ok (.goto 4, 3) := by decide +kernel
theorem dX11_sound_32 : decode cX11_sound 32 = .ok (.iconst (-1), 1) := by decide +kernel
theorem dX11_sound_33 : decode cX11_sound 33 = .ok (.ireturn, 1) := by decide +kernel
set_option maxRecDepth 20000 in
theorem ggX11_sound_X11_noteFault : GoodIn wsX11_sound wsX11_noteFault := goodIn_r _ [156, 3, 2, 157, 158, 159, 160, 161, 162, 163, 164, 165, 166, 167, 168, 169, 170, 171, 172, 173, 177, 178, 179, 180, 181, 182] rfl (by decide +kernel)
set_option maxRecDepth 20000 in
theorem gX11_sound_X11_noteFault : GoodIn wsX11_sound (wsV RX11 108 RX11 yX11_noteFault wsX11_noteFault) := goodIn_app (goodIn_of _ (by decide +kernel)) ggX11_sound_X11_noteFault
set_option maxRecDepth 20000 in
theorem ggX11_sound_X9_read : GoodIn wsX11_sound wsX9_read := goodIn_r _ [9, 10, 11, 12, 13, 14, 15, 16, 17, 18, 19, 20, 21, 22, 23, 24, 25, 26, 27, 28, 29, 30, 31, 32, 33, 34, 35, 36, 37, 38, 39, 40, 41, 42, 43, 44, 45, 46, 47, 48, 49, 50, 51, 52, 53, 54, 55, 56, 57, 58, 59, 60, 61, 62, 63, 64, 65, 66, 67, 68, 69, 70, 71, 72, 73, 74, 75, 76, 77, 78, 79, 80, 81, 82, 83, 84, 85, 86, 87, 88, 89, 90, 91, 92, 93, 94, 95, 96, 97, 98, 99, 100, 101, 102, 103, 104, 105, 106, 107, 108, 109, 110, 111, 112, 113, 114, 115, 116, 117, 118, 119, 120, 121, 122, 123, 124, 125, 126, 127, 128, 129, 130, 131, 132, 133, 134, 135, 136, 137, 138, 139, 140, 141, 142, 143, 144, 8, 145, 146, 147, 148, 149, 150, 151, 177, 178, 179, 180, 181, 182, 174, 175, 176] rfl (by decide +kernel)
set_option maxRecDepth 20000 in
theorem gX11_sound_X9_read : GoodIn wsX11_sound (wsV RX11 264 RX9 yX9_read wsX9_read) := goodIn_app (goodIn_of _ (by decide +kernel)) ggX11_sound_X9_read
set_option maxHeartbeats 4000000 in
set_option maxRecDepth 100000 in
theorem S_X11_sound (l : Launch) (D : va_G) (K : Nat → ClassId) (a : Nat → Nat) (G : gS) (zf : Nat → Nat) (hI : xI G) (sz : Nat) : KiZ (xZ zf) l yX11_sound wsX11_sound 7 176 D [.ref (a 0)] (xW K a G) (tK K) sz (fun (r : Int32) (G' : gS) => (xI G') ∧ (gu_un xcd [13, 14, 102, 103, 104, 105, 106, 1003, 8800, 8900] G G') ∧ ((-1) ≤ r.toInt ∧ r.toInt ≤ 150) ∧ (((G' 1 1).toInt = 0)) ∧ ((∃ (m : Nat) (kd pc ct : Int) (f9 : Nat → Int32), sOut (G 17) (G 1 1).toInt m 0 0 0 (G 89) kd pc ct f9 ∧ ((kd = 0 ∧ (G' 0 12).toInt = 0 ∧ (G' 0 13).toInt = -1 ∧ r.toInt = ct ∧ (G' 10 2).toInt = ct ∧ ∀ i : Nat, (i : Int) < ct → G' 88 i = f9 i) ∨ (kd ≠ 0 ∧ (G' 0 12).toInt = kd ∧ (G' 0 13).toInt = pc ∧ r.toInt = -1 ∧ (G' 10 2).toInt = (G 10 2).toInt ∧ G' 88 = (G 88)))))) (fun (G' : gS) => (xW K a G')) := by
  unfold KiZ
  refine gz_ofW (cc := cX11_sound) (lv := [(0, .ref (a 0))]) (by decide) rfl (Nat.le_of_ble_eq_true rfl) rfl ?_
  intro p e s m args below meth c A Q hA hQ hZ F hr hnm
  have hts := F.2.2.2.2.1
  have w_0 : (Cond.fieldLink RX11 81 "QuietCut" "sound" "LQuietCut$Sound;").before args s = true := hts _ (List.mem_of_getElem? (i := 1) rfl)
  have i_X11 : ∀ w ∈ u_ws RX11 TX11 14, w ∈ wsX11_sound := fun _ h => List.mem_cons_of_mem _ (List.mem_append_left _ (List.mem_append_left _ (List.mem_append_right _ h)))
  have w_1 : (Cond.fieldLink RX11 12 "QuietCut" "tape" "LQuietCut$Tape;").before args s = true := hts _ (List.mem_of_getElem? (i := 2) rfl)
  have w_2 : (Cond.fieldLink RX11 111 "QuietCut" "faultKind" "I").before args s = true := hts _ (List.mem_of_getElem? (i := 3) rfl)
  have w_3 : (Cond.fieldLink RX11 267 "QuietCut$Sound" "many" "I").before args s = true := hts _ (List.mem_of_getElem? (i := 4) rfl)
  have i_X9 : ∀ w ∈ u_ws RX9 TX9 3, w ∈ wsX11_sound := fun _ h => List.mem_cons_of_mem _ (List.mem_append_left _ (List.mem_append_right _ h))
  refine g_aload_n F 0 dX11_sound_0 rfl rfl ?_
  refine g_aload_n F 0 dX11_sound_1 rfl rfl ?_
  refine xg_0_9 F i_X11 w_0 dX11_sound_2 ?_
  refine g_aload_n F 0 dX11_sound_5 rfl rfl ?_
  refine xg_0_0 F i_X11 w_1 dX11_sound_6 ?_
  refine uz_callVi (k := 0) (n := 0) (b := a 10) (As := [.ref (a 1)]) (st := [.ref (a 0)]) F xZ_st hZ (fun sz => S_X9_read_1 l D K a G zf  hI sz) (cwV 1 hts gX11_sound_X9_read rfl rfl rfl (by decide +kernel) ⟨Nat.le_of_ble_eq_true rfl, Nat.le_of_ble_eq_true rfl⟩) rfl 10 xc_10 rfl (Nat.le_of_ble_eq_true rfl) ⟨Nat.zero_le _, Nat.zero_le _⟩ dX11_sound_9 (fun r1 G3 hw2 => ?_)
  have hI4 : xI G3 := hw2.1
  have hU5 : gu_un xcd [103, 104, 105, 106, 1003, 8800, 8900] G G3 := hw2.2.1
  have hp6 := hw2.2.2
  have b7 : (0 : Int) ≤ (G 1 1).toInt ∧ (G 1 1).toInt ≤ 1000 := hI 1 1
  have b8 : (0 : Int) ≤ (G 10 2).toInt ∧ (G 10 2).toInt ≤ 150 := hI 10 2
  have b9 : (0 : Int) ≤ (G3 1 4).toInt ∧ (G3 1 4).toInt ≤ 1000 := hI4 1 4
  have b10 : (0 : Int) ≤ (G3 10 2).toInt ∧ (G3 10 2).toInt ≤ 150 := hI4 10 2
  have q11 : (∃ (m : Nat) (ct : Int) (f9 : Nat → Int32), sOut (G 17) (G 1 1).toInt m 0 0 0 (G 89) r1.toInt (G3 1 4).toInt ct f9 ∧ (r1.toInt = 0 → (G3 10 2).toInt = ct ∧ ∀ i : Nat, (i : Int) < ct → G3 88 i = f9 i) ∧ (r1.toInt ≠ 0 → (G3 10 2).toInt = (G 10 2).toInt ∧ G3 88 = (G 88))) := hp6.2
  have rg12 := hp6.1
  clear hp6 hw2
  refine u_callVv (k := 0) (n := 0) (b := a 0) (As := [.int r1]) (st := []) F (fun sz => S_X11_noteFault l D K a G3 r1 r1.toInt rfl hI4 sz) (cwV 1 hts gX11_sound_X11_noteFault rfl rfl rfl (by decide +kernel) ⟨Nat.le_of_ble_eq_true rfl, Nat.le_of_ble_eq_true rfl⟩) rfl 0 xc_0 rfl (Nat.le_of_ble_eq_true rfl) ⟨Nat.zero_le _, Nat.zero_le _⟩ dX11_sound_12 (fun G15 hw14 => ?_)
  have hI16 : xI G15 := hw14.1
  have hU17 : gu_un xcd [13, 14, 102] G3 G15 := hw14.2.1
  have hp18 := hw14.2.2
  have b19 : (0 : Int) ≤ (G15 1 1).toInt ∧ (G15 1 1).toInt ≤ 1000 := hI16 1 1
  have q20 : ((G15 1 1).toInt = 0) := hp18.1
  have q21 : ((G15 0 12).toInt = r1.toInt) := hp18.2.1
  have q22 : ((r1.toInt = 0 ∧ (G15 0 13).toInt = -1) ∨ (r1.toInt ≠ 0 ∧ (G15 0 13).toInt = (G3 1 4).toInt)) := hp18.2.2
  clear hp18 hw14
  refine g_aload_n F 0 dX11_sound_15 rfl rfl ?_
  refine xg_0_12 F i_X11 w_2 dX11_sound_16 (G15 0 12) (rfl) ?_
  refine v_if_ne F 32 dX11_sound_19 (by decide) (G15 0 12).toInt rfl (fun c23 => ?_) (fun c23 => ?_)
  · refine g_iconst F (-1) dX11_sound_32 (by decide) ?_
    exact u_iret F hA hQ hr G15 (⟨hI16, (gu_un.tr (gu_un.tr gu_un.rf (gu_un.su hU5 rfl)) (gu_un.su hU17 rfl)), (by decide), (by show ((G15 1 1).toInt = 0); (first | omega | (simp only [Int32.reduceToInt, true_and, and_true, ne_eq, not_true_eq_false, false_and, or_false, false_or, true_or, or_true, false_implies] <;> omega))), (by obtain ⟨m9, ct9, f9, h9, s9, n9⟩ := q11; first | exact ⟨m9, _, _, ct9, f9, h9, Or.inl ⟨by omega, by omega, by omega, by (try rw [show G15 10 2 = (G3 10 2) from hU17 10 2 (by decide)]); have h8 := (s9 (by omega)).1; omega, by (try rw [show G15 10 2 = (G3 10 2) from hU17 10 2 (by decide)]); have h8 := (s9 (by omega)).1; omega, fun i hi => by rw [show G15 88 = G3 88 from funext fun k_ => (show gu_un xcd [13, 14, 102] G3 G15 from (gu_un.tr gu_un.rf (gu_un.su hU17 rfl))) 88 k_ (by simp [xcd])]; exact (s9 (by omega)).2 i hi⟩⟩ | exact ⟨m9, _, _, ct9, f9, h9, Or.inr ⟨by omega, by omega, by omega, by decide, by (try rw [show G15 10 2 = (G3 10 2) from hU17 10 2 (by decide)]); exact (n9 (by omega)).1, by rw [show G15 88 = G3 88 from funext fun k_ => (show gu_un xcd [13, 14, 102] G3 G15 from (gu_un.tr gu_un.rf (gu_un.su hU17 rfl))) 88 k_ (by simp [xcd])]; exact (n9 (by omega)).2⟩⟩)⟩) rfl rfl dX11_sound_33
  · refine g_aload_n F 0 dX11_sound_22 rfl rfl ?_
    refine xg_0_9 F i_X11 w_0 dX11_sound_23 ?_
    refine xg_10_2 F i_X9 w_3 dX11_sound_26 (G3 10 2) (hU17 10 2 (by decide)) ?_
    refine g_goto F 33 dX11_sound_29 (by decide) ?_
    exact u_iret F hA hQ hr G15 (⟨hI16, (gu_un.tr (gu_un.tr gu_un.rf (gu_un.su hU5 rfl)) (gu_un.su hU17 rfl)), (by have h9 := ti_rng (G3 10 2); omega), (by show ((G15 1 1).toInt = 0); (first | omega | (simp only [Int32.reduceToInt, true_and, and_true, ne_eq, not_true_eq_false, false_and, or_false, false_or, true_or, or_true, false_implies] <;> omega))), (by obtain ⟨m9, ct9, f9, h9, s9, n9⟩ := q11; first | exact ⟨m9, _, _, ct9, f9, h9, Or.inl ⟨by omega, by omega, by omega, by (try rw [show G15 10 2 = (G3 10 2) from hU17 10 2 (by decide)]); have h8 := (s9 (by omega)).1; omega, by (try rw [show G15 10 2 = (G3 10 2) from hU17 10 2 (by decide)]); have h8 := (s9 (by omega)).1; omega, fun i hi => by rw [show G15 88 = G3 88 from funext fun k_ => (show gu_un xcd [13, 14, 102] G3 G15 from (gu_un.tr gu_un.rf (gu_un.su hU17 rfl))) 88 k_ (by simp [xcd])]; exact (s9 (by omega)).2 i hi⟩⟩ | exact ⟨m9, _, _, ct9, f9, h9, Or.inr ⟨by omega, by omega, by omega, by decide, by (try rw [show G15 10 2 = (G3 10 2) from hU17 10 2 (by decide)]); exact (n9 (by omega)).1, by rw [show G15 88 = G3 88 from funext fun k_ => (show gu_un xcd [13, 14, 102] G3 G15 from (gu_un.tr gu_un.rf (gu_un.su hU17 rfl))) 88 k_ (by simp [xcd])]; exact (n9 (by omega)).2⟩⟩)⟩) rfl rfl dX11_sound_33

theorem dX11_shop_0 : decode cX11_shop 0 = .ok (.aload_n 0, 1) := by decide +kernel
theorem dX11_shop_1 : decode cX11_shop 1 = .ok (.aload_n 0, 1) := by decide +kernel
theorem dX11_shop_2 : decode cX11_shop 2 = .ok (.getfield 31, 3) := by decide +kernel
theorem dX11_shop_5 : decode cX11_shop 5 = .ok (.invokevirtual 104, 3) := by decide +kernel
theorem dX11_shop_8 : decode cX11_shop 8 = .ok (.invokevirtual 108, 3) := by decide +kernel
theorem dX11_shop_11 : decode cX11_shop 11 = .ok (.aload_n 0, 1) := by decide +kernel
theorem dX11_shop_12 : decode cX11_shop 12 = .ok (.getfield 111, 3) := by decide +kernel
theorem dX11_shop_15 : decode cX11_shop 15 = .ok (.ifCond .eq 5, 3) := by decide +kernel
theorem dX11_shop_18 : decode cX11_shop 18 = .ok (.iconst (-1), 1) := by decide +kernel
theorem dX11_shop_19 : decode cX11_shop 19 = .ok (.ireturn, 1) := by decide +kernel
theorem dX11_shop_20 : decode cX11_shop 20 = .ok (.aload_n 0, 1) := by decide +kernel
theorem dX11_shop_21 : decode cX11_shop 21 = .ok (.getfield 19, 3) := by decide +kernel
theorem dX11_shop_24 : decode cX11_shop 24 = .ok (.aload_n 0, 1) := by decide +kernel
theorem dX11_shop_25 : decode cX11_shop 25 = .ok (.getfield 23, 3) := by decide +kernel
theorem dX11_shop_28 : decode cX11_shop 28 = .ok (.invokevirtual 114, 3) := by decide +kernel
theorem dX11_shop_31 : decode cX11_shop 31 = .ok (.aload_n 0, 1) := by decide +kernel
theorem dX11_shop_32 : decode cX11_shop 32 = .ok (.getfield 40, 3) := by decide +kernel
theorem dX11_shop_35 : decode cX11_shop 35 = .ok (.sipush 1000, 3) := by decide +kernel
theorem dX11_shop_38 : decode cX11_shop 38 = .ok (.invokevirtual 117, 3) := by decide +kernel
theorem dX11_shop_41 : decode cX11_shop 41 = .ok (.aload_n 0, 1) := by decide +kernel
theorem dX11_shop_42 : decode cX11_shop 42 = .ok (.getfield 65, 3) := by decide +kernel
theorem dX11_shop_45 : decode cX11_shop 45 = .ok (.invokevirtual 120, 3) := by decide +kernel
theorem dX11_shop_48 : decode cX11_shop 48 = .ok (.aload_n 0, 1) := by decide +kernel
theorem dX11_shop_49 : decode cX11_shop 49 = .ok (.getfield 74, 3) := by decide +kernel
theorem dX11_shop_52 : decode cX11_shop 52 = .ok (.invokevirtual 123, 3) := by decide +kernel
theorem dX11_shop_55 : decode cX11_shop 55 = .ok (.aload_n 0, 1) := by decide +kernel
theorem dX11_shop_56 : decode cX11_shop 56 = .ok (.getfield 31, 3) := by decide +kernel
theorem dX11_shop_59 : decode cX11_shop 59 = .ok (.getfield 124, 3) := by decide +kernel
theorem dX11_shop_62 : decode cX11_shop 62 = .ok (.ireturn, 1) := by decide +kernel
set_option maxRecDepth 20000 in
theorem ggX11_shop_X11_noteFault : GoodIn wsX11_shop wsX11_noteFault := goodIn_r _ [324, 2, 325, 326, 327, 328, 364, 365, 366, 367, 368, 369, 370, 371, 372, 373, 374, 375, 376, 377, 385, 386, 387, 388, 389, 390] rfl (by decide +kernel)
set_option maxRecDepth 20000 in
theorem gX11_shop_X11_noteFault : GoodIn wsX11_shop (wsV RX11 108 RX11 yX11_noteFault wsX11_noteFault) := goodIn_app (goodIn_of _ (by decide +kernel)) ggX11_shop_X11_noteFault
set_option maxRecDepth 20000 in
theorem ggX11_shop_X2_forget : GoodIn wsX11_shop wsX2_forget := goodIn_r _ [359, 360, 361, 362, 363, 421, 422, 423, 424, 425, 426, 427, 428, 429, 430] rfl (by decide +kernel)
set_option maxRecDepth 20000 in
theorem gX11_shop_X2_forget : GoodIn wsX11_shop (wsV RX11 123 RX2 yX2_forget wsX2_forget) := goodIn_app (goodIn_of _ (by decide +kernel)) ggX11_shop_X2_forget
set_option maxRecDepth 20000 in
theorem ggX11_shop_X4_forget : GoodIn wsX11_shop wsX4_forget := goodIn_r _ [352, 353, 354, 409, 410, 411, 412, 413, 414, 415, 416, 417, 418, 419, 420] rfl (by decide +kernel)
set_option maxRecDepth 20000 in
theorem gX11_shop_X4_forget : GoodIn wsX11_shop (wsV RX11 120 RX4 yX4_forget wsX4_forget) := goodIn_app (goodIn_of _ (by decide +kernel)) ggX11_shop_X4_forget
set_option maxRecDepth 20000 in
theorem ggX11_shop_X6_makeFresh : GoodIn wsX11_shop wsX6_makeFresh := goodIn_r _ [342, 343, 344, 345, 346, 347, 35, 36, 37, 404, 405, 406, 407, 408] rfl (by decide +kernel)
set_option maxRecDepth 20000 in
theorem gX11_shop_X6_makeFresh : GoodIn wsX11_shop (wsV RX11 117 RX6 yX6_makeFresh wsX6_makeFresh) := goodIn_app (goodIn_of _ (by decide +kernel)) ggX11_shop_X6_makeFresh
set_option maxRecDepth 20000 in
theorem ggX11_shop_X7_copyFrom : GoodIn wsX11_shop wsX7_copyFrom := goodIn_r _ [332, 25, 27, 28, 29, 30, 31, 32, 33, 333, 334, 335, 41, 336, 43, 48, 337, 391, 392, 393, 394, 395, 396, 397, 398, 399, 400, 401, 402, 403] rfl (by decide +kernel)
set_option maxRecDepth 20000 in
theorem gX11_shop_X7_copyFrom : GoodIn wsX11_shop (wsV RX11 114 RX7 yX7_copyFrom wsX7_copyFrom) := goodIn_app (goodIn_of _ (by decide +kernel)) ggX11_shop_X7_copyFrom
set_option maxRecDepth 20000 in
theorem ggX11_shop_X8_read : GoodIn wsX11_shop wsX8_read := goodIn_r _ [13, 14, 15, 16, 17, 18, 19, 20, 21, 22, 23, 24, 25, 26, 27, 28, 29, 30, 31, 32, 33, 34, 35, 36, 37, 38, 39, 40, 41, 42, 43, 44, 45, 46, 47, 48, 49, 50, 51, 52, 53, 54, 55, 56, 57, 58, 59, 60, 61, 62, 63, 64, 65, 66, 67, 68, 69, 70, 71, 72, 73, 74, 75, 76, 77, 78, 79, 80, 81, 82, 83, 84, 85, 86, 87, 88, 89, 90, 91, 92, 93, 94, 95, 96, 97, 98, 99, 100, 101, 102, 103, 104, 105, 106, 107, 108, 109, 110, 111, 112, 113, 114, 115, 116, 117, 118, 119, 120, 121, 122, 123, 124, 125, 126, 127, 128, 129, 130, 131, 132, 133, 134, 135, 136, 137, 138, 139, 140, 141, 142, 143, 144, 145, 146, 147, 148, 149, 150, 151, 152, 153, 154, 155, 156, 157, 158, 159, 160, 161, 162, 163, 164, 165, 166, 167, 168, 169, 170, 171, 172, 173, 174, 175, 176, 177, 178, 179, 180, 12, 181, 182, 183, 184, 185, 186, 187, 188, 189, 190, 191, 192, 193, 194, 195, 196, 197, 198, 199, 200, 201, 202, 203, 204, 205, 206, 207, 208, 209, 210, 211, 212, 213, 214, 215, 216, 217, 218, 219, 220, 221, 222, 223, 224, 225, 226, 227, 228, 229, 230, 231, 232, 233, 234, 235, 236, 237, 238, 239, 240, 241, 242, 243, 244, 245, 246, 247, 248, 249, 250, 251, 252, 253, 254, 255, 256, 257, 258, 259, 260, 261, 262, 263, 264, 265, 266, 267, 268, 269, 270, 271, 272, 273, 274, 275, 276, 277, 278, 279, 280, 281, 282, 283, 284, 285, 286, 287, 288, 289, 290, 291, 292, 293, 294, 295, 296, 297, 298, 299, 300, 301, 302, 303, 304, 305, 306, 307, 308, 309, 310, 311, 312, 313, 314, 315, 316, 317, 318, 319, 378, 379, 380, 381, 382, 383, 384, 385, 386, 387, 388, 389, 390, 391, 392, 393, 394, 395, 396, 397, 398, 399, 400, 401, 402, 403] rfl (by decide +kernel)
set_option maxRecDepth 20000 in
theorem gX11_shop_X8_read : GoodIn wsX11_shop (wsV RX11 104 RX8 yX8_read wsX8_read) := goodIn_app (goodIn_of _ (by decide +kernel)) ggX11_shop_X8_read
set_option maxHeartbeats 4000000 in
set_option maxRecDepth 100000 in
theorem S_X11_shop (l : Launch) (D : va_G) (K : Nat → ClassId) (a : Nat → Nat) (G : gS) (zf : Nat → Nat) (f3 : xF3 G) (hI : xI G) (sz : Nat) : KiZ (xZ zf) l yX11_shop wsX11_shop 9 219 D [.ref (a 0)] (xW K a G) (tK K) sz (fun (r : Int32) (G' : gS) => (xI G') ∧ (gu_un xcd [13, 14, 102, 103, 104, 105, 106, 403, 404, 405, 406, 407, 503, 504, 804, 809, 905, 907, 909, 910, 1102, 1202, 1302, 1402, 1405, 1406, 1407, 1408, 1409, 1502, 1505, 1506, 1507, 1508, 1509, 1602, 1605, 1606, 1607, 1608, 1609, 1800, 1900, 2000, 2300, 2600, 2900, 3100, 3200, 3400, 3500, 3700, 3800, 4000] G G') ∧ ((-1) ≤ r.toInt ∧ r.toInt ≤ 1001) ∧ (((G' 1 1).toInt = 0)) ∧ (xF3 G') ∧ ((∃ (ts : List hTk) (X : gS), tL (G 17) (G 1 1).toInt 0 ts ∧ xIn X ∧ ((r.toInt = -1 ∧ (G' 0 12).toInt ≠ 0 ∧ xH ts X = hBad (G' 0 12).toInt (G' 0 13).toInt ∧ (G' 18 = (G 18)) ∧ (G' 20 = (G 20) ∧ (G' 11 1).toInt = (G 11 1).toInt) ∧ (G' 23 = (G 23) ∧ (G' 12 1).toInt = (G 12 1).toInt) ∧ (G' 26 = (G 26) ∧ (G' 13 1).toInt = (G 13 1).toInt)) ∨ ((G' 0 12).toInt = 0 ∧ (G' 0 13).toInt = -1 ∧ ∃ nu : Nat → Int32, xH ts X = (0, -1, r.toInt, nu, tkr (G' 20) ((G' 11 1).toInt).toNat, tkr (G' 23) ((G' 12 1).toInt).toNat, tkr (G' 26) ((G' 13 1).toInt).toNat) ∧ ∀ q : Nat, q < 36 → G' 18 q = nu q)))) ∧ ((((G' 0 12).toInt ≠ 0 ∧ (G' 8 3).toInt = (G 8 3).toInt) ∨ ((G' 0 12).toInt = 0 ∧ (G' 8 3).toInt = 0))) ∧ ((((G' 0 12).toInt = 0 ∧ pcF 1000 (xPc G')) ∨ ((G' 0 12).toInt ≠ 0 ∧ pcB (xPc G) (xPc G'))))) (fun (G' : gS) => (xW K a G')) := by
  unfold KiZ
  refine gz_ofW (cc := cX11_shop) (lv := [(0, .ref (a 0))]) (by decide) rfl (Nat.le_of_ble_eq_true rfl) rfl ?_
  intro p e s m args below meth c A Q hA hQ hZ F hr hnm
  have hts := F.2.2.2.2.1
  have w_0 : (Cond.fieldLink RX11 31 "QuietCut" "reader" "LQuietCut$ShopReader;").before args s = true := hts _ (List.mem_of_getElem? (i := 1) rfl)
  have i_X11 : ∀ w ∈ u_ws RX11 TX11 14, w ∈ wsX11_shop := fun _ h => List.mem_cons_of_mem _ (List.mem_append_left _ (List.mem_append_left _ (List.mem_append_left _ (List.mem_append_left _ (List.mem_append_left _ (List.mem_append_left _ (List.mem_append_left _ (List.mem_append_right _ h))))))))
  have w_1 : (Cond.fieldLink RX11 111 "QuietCut" "faultKind" "I").before args s = true := hts _ (List.mem_of_getElem? (i := 2) rfl)
  have w_2 : (Cond.fieldLink RX11 19 "QuietCut" "shop" "LQuietCut$Shop;").before args s = true := hts _ (List.mem_of_getElem? (i := 3) rfl)
  have w_3 : (Cond.fieldLink RX11 23 "QuietCut" "spareShop" "LQuietCut$Shop;").before args s = true := hts _ (List.mem_of_getElem? (i := 4) rfl)
  have w_4 : (Cond.fieldLink RX11 40 "QuietCut" "piece" "LQuietCut$Piece;").before args s = true := hts _ (List.mem_of_getElem? (i := 5) rfl)
  have w_5 : (Cond.fieldLink RX11 65 "QuietCut" "jobs" "LQuietCut$Jobs;").before args s = true := hts _ (List.mem_of_getElem? (i := 6) rfl)
  have w_6 : (Cond.fieldLink RX11 74 "QuietCut" "ear" "LQuietCut$Ear;").before args s = true := hts _ (List.mem_of_getElem? (i := 7) rfl)
  have w_7 : (Cond.fieldLink RX11 124 "QuietCut$ShopReader" "clauses" "I").before args s = true := hts _ (List.mem_of_getElem? (i := 8) rfl)
  have i_X8 : ∀ w ∈ u_ws RX8 TX8 7, w ∈ wsX11_shop := fun _ h => List.mem_cons_of_mem _ (List.mem_append_left _ (List.mem_append_left _ (List.mem_append_left _ (List.mem_append_left _ (List.mem_append_left _ (List.mem_append_left _ (List.mem_append_right _ h)))))))
  refine g_aload_n F 0 dX11_shop_0 rfl rfl ?_
  refine g_aload_n F 0 dX11_shop_1 rfl rfl ?_
  refine xg_0_3 F i_X11 w_0 dX11_shop_2 ?_
  refine uz_callVi (k := 0) (n := 0) (b := a 4) (As := []) (st := [.ref (a 0)]) F xZ_st hZ (fun sz => S_X8_read l D K a G zf  (f3) hI sz) (cwV 0 hts gX11_shop_X8_read rfl rfl rfl (by decide +kernel) ⟨Nat.le_of_ble_eq_true rfl, Nat.le_of_ble_eq_true rfl⟩) rfl 4 xc_4 rfl (Nat.le_of_ble_eq_true rfl) ⟨Nat.zero_le _, Nat.zero_le _⟩ dX11_shop_5 (fun r1 G3 hw2 => ?_)
  have hI4 : xI G3 := hw2.1
  have hU5 : gu_un xcd [103, 104, 105, 106, 403, 404, 405, 406, 407, 1402, 1405, 1406, 1407, 1408, 1409, 1502, 1505, 1506, 1507, 1508, 1509, 1602, 1605, 1606, 1607, 1608, 1609, 1900, 2900, 3100, 3200, 3400, 3500, 3700] G G3 := hw2.2.1
  have hp6 := hw2.2.2
  have q7 : xF3 G3 := hp6.2.1
  have q8 : xNb (G3 19) := hp6.2.2.1
  have b9 : (0 : Int) ≤ (G 1 1).toInt ∧ (G 1 1).toInt ≤ 1000 := hI 1 1
  have b10 : (0 : Int) ≤ (G3 4 2).toInt ∧ (G3 4 2).toInt ≤ 1001 := hI4 4 2
  have b11 : (0 : Int) ≤ (G3 14 1).toInt ∧ (G3 14 1).toInt ≤ 80 := hI4 14 1
  have b12 : (0 : Int) ≤ (G3 15 1).toInt ∧ (G3 15 1).toInt ≤ 80 := hI4 15 1
  have b13 : (0 : Int) ≤ (G3 16 1).toInt ∧ (G3 16 1).toInt ≤ 80 := hI4 16 1
  have b14 : (0 : Int) ≤ (G3 1 4).toInt ∧ (G3 1 4).toInt ≤ 1000 := hI4 1 4
  have q15 : (∃ (ts : List hTk) (X : gS), tL (G 17) (G 1 1).toInt 0 ts ∧ xIn X ∧ ((r1.toInt = 0 ∧ xH ts X = (0, -1, (G3 4 2).toInt, G3 19, tkr (G3 29) ((G3 14 1).toInt).toNat, tkr (G3 32) ((G3 15 1).toInt).toNat, tkr (G3 35) ((G3 16 1).toInt).toNat)) ∨ (r1.toInt ≠ 0 ∧ xH ts X = hBad r1.toInt (G3 1 4).toInt))) := hp6.2.2.2
  have rg16 := hp6.1
  clear hp6 hw2
  refine u_callVv (k := 0) (n := 0) (b := a 0) (As := [.int r1]) (st := []) F (fun sz => S_X11_noteFault l D K a G3 r1 r1.toInt rfl hI4 sz) (cwV 1 hts gX11_shop_X11_noteFault rfl rfl rfl (by decide +kernel) ⟨Nat.le_of_ble_eq_true rfl, Nat.le_of_ble_eq_true rfl⟩) rfl 0 xc_0 rfl (Nat.le_of_ble_eq_true rfl) ⟨Nat.zero_le _, Nat.zero_le _⟩ dX11_shop_8 (fun G19 hw18 => ?_)
  have hI20 : xI G19 := hw18.1
  have hU21 : gu_un xcd [13, 14, 102] G3 G19 := hw18.2.1
  have hp22 := hw18.2.2
  have b23 : (0 : Int) ≤ (G19 1 1).toInt ∧ (G19 1 1).toInt ≤ 1000 := hI20 1 1
  have q24 : ((G19 1 1).toInt = 0) := hp22.1
  have q25 : ((G19 0 12).toInt = r1.toInt) := hp22.2.1
  have q26 : ((r1.toInt = 0 ∧ (G19 0 13).toInt = -1) ∨ (r1.toInt ≠ 0 ∧ (G19 0 13).toInt = (G3 1 4).toInt)) := hp22.2.2
  clear hp22 hw18
  refine g_aload_n F 0 dX11_shop_11 rfl rfl ?_
  refine xg_0_12 F i_X11 w_1 dX11_shop_12 (G19 0 12) (rfl) ?_
  refine v_if_eq F 20 dX11_shop_15 (by decide) (G19 0 12).toInt rfl (fun c27 => ?_) (fun c27 => ?_)
  · refine g_aload_n F 0 dX11_shop_20 rfl rfl ?_
    refine xg_0_1 F i_X11 w_2 dX11_shop_21 ?_
    refine g_aload_n F 0 dX11_shop_24 rfl rfl ?_
    refine xg_0_2 F i_X11 w_3 dX11_shop_25 ?_
    refine u_callVv (k := 0) (n := 0) (b := a 2) (As := [.ref (a 3)]) (st := []) F (fun sz => S_X7_copyFrom_2_3 l D K a G19  ((xNb.un q8 (show gu_un xcd [13, 14, 102] G3 G19 from (gu_un.tr gu_un.rf (gu_un.su hU21 rfl))) rfl)) hI20 sz) (cwV 1 hts gX11_shop_X7_copyFrom rfl rfl rfl (by decide +kernel) ⟨Nat.le_of_ble_eq_true rfl, Nat.le_of_ble_eq_true rfl⟩) rfl 2 xc_2 rfl (Nat.le_of_ble_eq_true rfl) ⟨Nat.zero_le _, Nat.zero_le _⟩ dX11_shop_28 (fun G30 hw29 => ?_)
    have hI31 : xI G30 := hw29.1
    have hU32 : gu_un xcd [1102, 1202, 1302, 1800, 2000, 2300, 2600] G19 G30 := hw29.2.1
    have hp33 := hw29.2.2
    have q34 : (∀ q : Nat, q < 36 → G30 18 q = (G3 19) q) := by have h9 := hp33.1; (try simp only [(show G19 19 = (G3 19) from (show G19 19 = G3 19 from funext fun k_ => hU21 19 k_ (show (1900 : Nat) ∉ ([13, 14, 102] : List Nat) by decide)))] at h9); first | exact h9 | omega
    have b35 : (0 : Int) ≤ (G30 11 1).toInt ∧ (G30 11 1).toInt ≤ 80 := hI31 11 1
    have q36 : (tkr (G30 20) ((G30 11 1).toInt).toNat = tkr (G3 29) ((G3 14 1).toInt).toNat) := by have h9 := hp33.2.1; (try simp only [(show G19 14 1 = (G3 14 1) from hU21 14 1 (by decide)), (show G19 29 = (G3 29) from (show G19 29 = G3 29 from funext fun k_ => hU21 29 k_ (show (2900 : Nat) ∉ ([13, 14, 102] : List Nat) by decide)))] at h9); first | exact h9 | omega
    have b37 : (0 : Int) ≤ (G30 12 1).toInt ∧ (G30 12 1).toInt ≤ 80 := hI31 12 1
    have q38 : (tkr (G30 23) ((G30 12 1).toInt).toNat = tkr (G3 32) ((G3 15 1).toInt).toNat) := by have h9 := hp33.2.2.1; (try simp only [(show G19 15 1 = (G3 15 1) from hU21 15 1 (by decide)), (show G19 32 = (G3 32) from (show G19 32 = G3 32 from funext fun k_ => hU21 32 k_ (show (3200 : Nat) ∉ ([13, 14, 102] : List Nat) by decide)))] at h9); first | exact h9 | omega
    have b39 : (0 : Int) ≤ (G30 13 1).toInt ∧ (G30 13 1).toInt ≤ 80 := hI31 13 1
    have q40 : (tkr (G30 26) ((G30 13 1).toInt).toNat = tkr (G3 35) ((G3 16 1).toInt).toNat) := by have h9 := hp33.2.2.2; (try simp only [(show G19 16 1 = (G3 16 1) from hU21 16 1 (by decide)), (show G19 35 = (G3 35) from (show G19 35 = G3 35 from funext fun k_ => hU21 35 k_ (show (3500 : Nat) ∉ ([13, 14, 102] : List Nat) by decide)))] at h9); first | exact h9 | omega
    clear hp33 hw29
    refine g_aload_n F 0 dX11_shop_31 rfl rfl ?_
    refine xg_0_4 F i_X11 w_4 dX11_shop_32 ?_
    refine g_sipush F 1000 dX11_shop_35 (by decide) ?_
    refine u_callVv (k := 0) (n := 0) (b := a 5) (As := [.int 1000]) (st := []) F (fun sz => S_X6_makeFresh l D K a G30 1000 1000 rfl (by decide) hI31 sz) (cwV 1 hts gX11_shop_X6_makeFresh rfl rfl rfl (by decide +kernel) ⟨Nat.le_of_ble_eq_true rfl, Nat.le_of_ble_eq_true rfl⟩) rfl 5 xc_5 rfl (Nat.le_of_ble_eq_true rfl) ⟨Nat.zero_le _, Nat.zero_le _⟩ dX11_shop_38 (fun G43 hw42 => ?_)
    have hI44 : xI G43 := hw42.1
    have hU45 : gu_un xcd [503, 504, 3800, 4000] G30 G43 := hw42.2.1
    have hp46 := hw42.2.2
    have q47 : pcF 1000 (xPc G43) := hp46
    clear hp46 hw42
    refine g_aload_n F 0 dX11_shop_41 rfl rfl ?_
    refine xg_0_7 F i_X11 w_5 dX11_shop_42 ?_
    refine u_callVv (k := 0) (n := 0) (b := a 8) (As := []) (st := []) F (fun sz => S_X4_forget l D K a G43  hI44 sz) (cwV 0 hts gX11_shop_X4_forget rfl rfl rfl (by decide +kernel) ⟨Nat.le_of_ble_eq_true rfl, Nat.le_of_ble_eq_true rfl⟩) rfl 8 xc_8 rfl (Nat.le_of_ble_eq_true rfl) ⟨Nat.zero_le _, Nat.zero_le _⟩ dX11_shop_45 (fun G50 hw49 => ?_)
    have hI51 : xI G50 := hw49.1
    have hU52 : gu_un xcd [804, 809] G43 G50 := hw49.2.1
    have hp53 := hw49.2.2
    have b54 : (0 : Int) ≤ (G50 8 3).toInt ∧ (G50 8 3).toInt ≤ 5 := hI51 8 3
    have q55 : ((G50 8 3).toInt = 0) := hp53
    clear hp53 hw49
    refine g_aload_n F 0 dX11_shop_48 rfl rfl ?_
    refine xg_0_8 F i_X11 w_6 dX11_shop_49 ?_
    refine u_callVv (k := 0) (n := 0) (b := a 9) (As := []) (st := []) F (fun sz => S_X2_forget l D K a G50  hI51 sz) (cwV 0 hts gX11_shop_X2_forget rfl rfl rfl (by decide +kernel) ⟨Nat.le_of_ble_eq_true rfl, Nat.le_of_ble_eq_true rfl⟩) rfl 9 xc_9 rfl (Nat.le_of_ble_eq_true rfl) ⟨Nat.zero_le _, Nat.zero_le _⟩ dX11_shop_52 (fun G58 hw57 => ?_)
    have hI59 : xI G58 := hw57.1
    have hU60 : gu_un xcd [905, 907, 909, 910] G50 G58 := hw57.2
    refine g_aload_n F 0 dX11_shop_55 rfl rfl ?_
    refine xg_0_3 F i_X11 w_0 dX11_shop_56 ?_
    refine xg_4_2 F i_X8 w_7 dX11_shop_59 (G3 4 2) ((hU60 4 2 (by decide)).trans ((hU52 4 2 (by decide)).trans ((hU45 4 2 (by decide)).trans ((hU32 4 2 (by decide)).trans (hU21 4 2 (by decide)))))) ?_
    exact u_iret F hA hQ hr G58 (⟨hI59, (gu_un.tr (gu_un.tr (gu_un.tr (gu_un.tr (gu_un.tr (gu_un.tr gu_un.rf (gu_un.su hU5 rfl)) (gu_un.su hU21 rfl)) (gu_un.su hU32 rfl)) (gu_un.su hU45 rfl)) (gu_un.su hU52 rfl)) (gu_un.su hU60 rfl)), (by have h9 := ti_rng (G3 4 2); omega), (by show ((G58 1 1).toInt = 0); have e9_1_1 : G58 1 1 = (G19 1 1) := (hU60 1 1 (by decide)).trans ((hU52 1 1 (by decide)).trans ((hU45 1 1 (by decide)).trans (hU32 1 1 (by decide)))); (try simp only [e9_1_1, true_and, and_true]) <;> (first | omega | (simp only [Int32.reduceToInt, true_and, and_true, ne_eq, not_true_eq_false, false_and, or_false, false_or, true_or, or_true, false_implies] <;> omega))), ((xF3.un q7 (show gu_un xcd [13, 14, 102, 503, 504, 804, 809, 905, 907, 909, 910, 1102, 1202, 1302, 1800, 2000, 2300, 2600, 3800, 4000] G3 G58 from (gu_un.tr (gu_un.tr (gu_un.tr (gu_un.tr (gu_un.tr gu_un.rf (gu_un.su hU21 rfl)) (gu_un.su hU32 rfl)) (gu_un.su hU45 rfl)) (gu_un.su hU52 rfl)) (gu_un.su hU60 rfl))) rfl rfl rfl)), (by obtain ⟨ts, X, h1, h2, h3⟩ := q15; rcases h3 with ⟨h4, h5⟩ | ⟨h4, h5⟩ <;> first | (exfalso; omega) | exact ⟨ts, X, h1, h2, Or.inr ⟨by have e9_0_12 : G58 0 12 = (G19 0 12) := (hU60 0 12 (by decide)).trans ((hU52 0 12 (by decide)).trans ((hU45 0 12 (by decide)).trans (hU32 0 12 (by decide)))); (try simp only [e9_0_12, true_and, and_true]) <;> omega, by have e9_0_13 : G58 0 13 = (G19 0 13) := (hU60 0 13 (by decide)).trans ((hU52 0 13 (by decide)).trans ((hU45 0 13 (by decide)).trans (hU32 0 13 (by decide)))); (try simp only [e9_0_13, true_and, and_true]) <;> omega, G3 19, by rw [h5, show tkr (G58 20) (G58 11 1).toInt.toNat = tkr (G3 29) (G3 14 1).toInt.toNat by rw [show G58 20 = G30 20 from funext fun k_ => (show gu_un xcd [503, 504, 804, 809, 905, 907, 909, 910, 3800, 4000] G30 G58 from (gu_un.tr (gu_un.tr (gu_un.tr gu_un.rf (gu_un.su hU45 rfl)) (gu_un.su hU52 rfl)) (gu_un.su hU60 rfl))) 20 k_ (by simp [xcd]), show G58 11 1 = G30 11 1 from (show gu_un xcd [503, 504, 804, 809, 905, 907, 909, 910, 3800, 4000] G30 G58 from (gu_un.tr (gu_un.tr (gu_un.tr gu_un.rf (gu_un.su hU45 rfl)) (gu_un.su hU52 rfl)) (gu_un.su hU60 rfl))) 11 1 (by decide)]; exact q36, show tkr (G58 23) (G58 12 1).toInt.toNat = tkr (G3 32) (G3 15 1).toInt.toNat by rw [show G58 23 = G30 23 from funext fun k_ => (show gu_un xcd [503, 504, 804, 809, 905, 907, 909, 910, 3800, 4000] G30 G58 from (gu_un.tr (gu_un.tr (gu_un.tr gu_un.rf (gu_un.su hU45 rfl)) (gu_un.su hU52 rfl)) (gu_un.su hU60 rfl))) 23 k_ (by simp [xcd]), show G58 12 1 = G30 12 1 from (show gu_un xcd [503, 504, 804, 809, 905, 907, 909, 910, 3800, 4000] G30 G58 from (gu_un.tr (gu_un.tr (gu_un.tr gu_un.rf (gu_un.su hU45 rfl)) (gu_un.su hU52 rfl)) (gu_un.su hU60 rfl))) 12 1 (by decide)]; exact q38, show tkr (G58 26) (G58 13 1).toInt.toNat = tkr (G3 35) (G3 16 1).toInt.toNat by rw [show G58 26 = G30 26 from funext fun k_ => (show gu_un xcd [503, 504, 804, 809, 905, 907, 909, 910, 3800, 4000] G30 G58 from (gu_un.tr (gu_un.tr (gu_un.tr gu_un.rf (gu_un.su hU45 rfl)) (gu_un.su hU52 rfl)) (gu_un.su hU60 rfl))) 26 k_ (by simp [xcd]), show G58 13 1 = G30 13 1 from (show gu_un xcd [503, 504, 804, 809, 905, 907, 909, 910, 3800, 4000] G30 G58 from (gu_un.tr (gu_un.tr (gu_un.tr gu_un.rf (gu_un.su hU45 rfl)) (gu_un.su hU52 rfl)) (gu_un.su hU60 rfl))) 13 1 (by decide)]; exact q40], fun q hq => by rw [show G58 18 q = G30 18 q from (show gu_un xcd [503, 504, 804, 809, 905, 907, 909, 910, 3800, 4000] G30 G58 from (gu_un.tr (gu_un.tr (gu_un.tr gu_un.rf (gu_un.su hU45 rfl)) (gu_un.su hU52 rfl)) (gu_un.su hU60 rfl))) 18 q (by simp [xcd])]; exact q34 q hq⟩⟩), (by show (((G58 0 12).toInt ≠ 0 ∧ (G58 8 3).toInt = (G 8 3).toInt) ∨ ((G58 0 12).toInt = 0 ∧ (G58 8 3).toInt = 0)); have e9_0_12 : G58 0 12 = (G19 0 12) := (hU60 0 12 (by decide)).trans ((hU52 0 12 (by decide)).trans ((hU45 0 12 (by decide)).trans (hU32 0 12 (by decide)))); have e9_8_3 : G58 8 3 = (G50 8 3) := hU60 8 3 (by decide); (try simp only [e9_0_12, e9_8_3, true_and, and_true]) <;> (first | omega | (simp only [Int32.reduceToInt, true_and, and_true, ne_eq, not_true_eq_false, false_and, or_false, false_or, true_or, or_true, false_implies] <;> omega))), (Or.inl ⟨by have e9_0_12 : G58 0 12 = (G19 0 12) := (hU60 0 12 (by decide)).trans ((hU52 0 12 (by decide)).trans ((hU45 0 12 (by decide)).trans (hU32 0 12 (by decide)))); (try simp only [e9_0_12, true_and, and_true]) <;> omega, pcF.xun q47 (show gu_un xcd [804, 809, 905, 907, 909, 910] G43 G58 from (gu_un.tr (gu_un.tr gu_un.rf (gu_un.su hU52 rfl)) (gu_un.su hU60 rfl))) rfl⟩)⟩) rfl rfl dX11_shop_62
  · refine g_iconst F (-1) dX11_shop_18 (by decide) ?_
    have b62 : (0 : Int) ≤ (G 8 3).toInt ∧ (G 8 3).toInt ≤ 5 := hI 8 3
    exact u_iret F hA hQ hr G19 (⟨hI20, (gu_un.tr (gu_un.tr gu_un.rf (gu_un.su hU5 rfl)) (gu_un.su hU21 rfl)), (by decide), (by show ((G19 1 1).toInt = 0); (first | omega | (simp only [Int32.reduceToInt, true_and, and_true, ne_eq, not_true_eq_false, false_and, or_false, false_or, true_or, or_true, false_implies] <;> omega))), ((xF3.un q7 (show gu_un xcd [13, 14, 102] G3 G19 from (gu_un.tr gu_un.rf (gu_un.su hU21 rfl))) rfl rfl rfl)), (by obtain ⟨ts, X, h1, h2, h3⟩ := q15; refine ⟨ts, X, h1, h2, Or.inl ⟨by decide, by omega, ?_, ⟨funext fun k_ => (show gu_un xcd [13, 14, 102, 103, 104, 105, 106, 403, 404, 405, 406, 407, 1402, 1405, 1406, 1407, 1408, 1409, 1502, 1505, 1506, 1507, 1508, 1509, 1602, 1605, 1606, 1607, 1608, 1609, 1900, 2900, 3100, 3200, 3400, 3500, 3700] G G19 from (gu_un.tr (gu_un.tr gu_un.rf (gu_un.su hU5 rfl)) (gu_un.su hU21 rfl))) 18 k_ (by simp [xcd]), ⟨funext fun k_ => (show gu_un xcd [13, 14, 102, 103, 104, 105, 106, 403, 404, 405, 406, 407, 1402, 1405, 1406, 1407, 1408, 1409, 1502, 1505, 1506, 1507, 1508, 1509, 1602, 1605, 1606, 1607, 1608, 1609, 1900, 2900, 3100, 3200, 3400, 3500, 3700] G G19 from (gu_un.tr (gu_un.tr gu_un.rf (gu_un.su hU5 rfl)) (gu_un.su hU21 rfl))) 20 k_ (by simp [xcd]), congrArg Int32.toInt ((show gu_un xcd [13, 14, 102, 103, 104, 105, 106, 403, 404, 405, 406, 407, 1402, 1405, 1406, 1407, 1408, 1409, 1502, 1505, 1506, 1507, 1508, 1509, 1602, 1605, 1606, 1607, 1608, 1609, 1900, 2900, 3100, 3200, 3400, 3500, 3700] G G19 from (gu_un.tr (gu_un.tr gu_un.rf (gu_un.su hU5 rfl)) (gu_un.su hU21 rfl))) 11 1 (by decide))⟩, ⟨funext fun k_ => (show gu_un xcd [13, 14, 102, 103, 104, 105, 106, 403, 404, 405, 406, 407, 1402, 1405, 1406, 1407, 1408, 1409, 1502, 1505, 1506, 1507, 1508, 1509, 1602, 1605, 1606, 1607, 1608, 1609, 1900, 2900, 3100, 3200, 3400, 3500, 3700] G G19 from (gu_un.tr (gu_un.tr gu_un.rf (gu_un.su hU5 rfl)) (gu_un.su hU21 rfl))) 23 k_ (by simp [xcd]), congrArg Int32.toInt ((show gu_un xcd [13, 14, 102, 103, 104, 105, 106, 403, 404, 405, 406, 407, 1402, 1405, 1406, 1407, 1408, 1409, 1502, 1505, 1506, 1507, 1508, 1509, 1602, 1605, 1606, 1607, 1608, 1609, 1900, 2900, 3100, 3200, 3400, 3500, 3700] G G19 from (gu_un.tr (gu_un.tr gu_un.rf (gu_un.su hU5 rfl)) (gu_un.su hU21 rfl))) 12 1 (by decide))⟩, ⟨funext fun k_ => (show gu_un xcd [13, 14, 102, 103, 104, 105, 106, 403, 404, 405, 406, 407, 1402, 1405, 1406, 1407, 1408, 1409, 1502, 1505, 1506, 1507, 1508, 1509, 1602, 1605, 1606, 1607, 1608, 1609, 1900, 2900, 3100, 3200, 3400, 3500, 3700] G G19 from (gu_un.tr (gu_un.tr gu_un.rf (gu_un.su hU5 rfl)) (gu_un.su hU21 rfl))) 26 k_ (by simp [xcd]), congrArg Int32.toInt ((show gu_un xcd [13, 14, 102, 103, 104, 105, 106, 403, 404, 405, 406, 407, 1402, 1405, 1406, 1407, 1408, 1409, 1502, 1505, 1506, 1507, 1508, 1509, 1602, 1605, 1606, 1607, 1608, 1609, 1900, 2900, 3100, 3200, 3400, 3500, 3700] G G19 from (gu_un.tr (gu_un.tr gu_un.rf (gu_un.su hU5 rfl)) (gu_un.su hU21 rfl))) 13 1 (by decide))⟩⟩⟩⟩; rcases h3 with ⟨h4, h5⟩ | ⟨h4, h5⟩ <;> first | (exfalso; omega) | (rw [h5]; congr 1 <;> (omega))), (by show (((G19 0 12).toInt ≠ 0 ∧ (G19 8 3).toInt = (G 8 3).toInt) ∨ ((G19 0 12).toInt = 0 ∧ (G19 8 3).toInt = 0)); have e9_8_3 : G19 8 3 = (G 8 3) := (hU21 8 3 (by decide)).trans (hU5 8 3 (by decide)); (try simp only [e9_8_3, true_and, and_true]) <;> (first | omega | (simp only [Int32.reduceToInt, true_and, and_true, ne_eq, not_true_eq_false, false_and, or_false, false_or, true_or, or_true, false_implies] <;> omega))), (Or.inr ⟨by omega, pcB.xun (show gu_un xcd [13, 14, 102, 103, 104, 105, 106, 403, 404, 405, 406, 407, 1402, 1405, 1406, 1407, 1408, 1409, 1502, 1505, 1506, 1507, 1508, 1509, 1602, 1605, 1606, 1607, 1608, 1609, 1900, 2900, 3100, 3200, 3400, 3500, 3700] G G19 from (gu_un.tr (gu_un.tr gu_un.rf (gu_un.su hU5 rfl)) (gu_un.su hU21 rfl))) rfl⟩)⟩) rfl rfl dX11_shop_19
