theorem dX13_readFactor_0 : decode cX13_readFactor 0 = .ok (.aload_n 0, 1) := by decide +kernel
theorem dX13_readFactor_1 : decode cX13_readFactor 1 = .ok (.bipush 45, 2) := by decide +kernel
theorem dX13_readFactor_3 : decode cX13_readFactor 3 = .ok (.invokevirtual 110, 3) := by decide +kernel
theorem dX13_readFactor_6 : decode cX13_readFactor 6 = .ok (.istore_n 2, 1) := by decide +kernel
theorem dX13_readFactor_7 : decode cX13_readFactor 7 = .ok (.iload_n 2, 1) := by decide +kernel
theorem dX13_readFactor_8 : decode cX13_readFactor 8 = .ok (.ifCond .ne 12, 3) := by decide +kernel
theorem dX13_readFactor_11 : decode cX13_readFactor 11 = .ok (.aload_n 0, 1) := by decide +kernel
theorem dX13_readFactor_12 : decode cX13_readFactor 12 = .ok (.bipush 40, 2) := by decide +kernel
theorem dX13_readFactor_14 : decode cX13_readFactor 14 = .ok (.invokevirtual 110, 3) := by decide +kernel
theorem dX13_readFactor_17 : decode cX13_readFactor 17 = .ok (.ifCond .eq 66, 3) := by decide +kernel
theorem dX13_readFactor_20 : decode cX13_readFactor 20 = .ok (.aload_n 0, 1) := by decide +kernel
theorem dX13_readFactor_21 : decode cX13_readFactor 21 = .ok (.iload_n 1, 1) := by decide +kernel
theorem dX13_readFactor_22 : decode cX13_readFactor 22 = .ok (.iconst 4, 1) := by decide +kernel
theorem dX13_readFactor_23 : decode cX13_readFactor 23 = .ok (.if_icmp .ge 7, 3) := by decide +kernel
theorem dX13_readFactor_26 : decode cX13_readFactor 26 = .ok (.iconst 1, 1) := by decide +kernel
theorem dX13_readFactor_27 : decode cX13_readFactor 27 = .ok (.goto 4, 3) := by decide +kernel
theorem dX13_readFactor_30 : decode cX13_readFactor 30 = .ok (.iconst 0, 1) := by decide +kernel
theorem dX13_readFactor_31 : decode cX13_readFactor 31 = .ok (.iconst 4, 1) := by decide +kernel
theorem dX13_readFactor_32 : decode cX13_readFactor 32 = .ok (.invokevirtual 57, 3) := by decide +kernel
theorem dX13_readFactor_35 : decode cX13_readFactor 35 = .ok (.aload_n 0, 1) := by decide +kernel
theorem dX13_readFactor_36 : decode cX13_readFactor 36 = .ok (.invokevirtual 69, 3) := by decide +kernel
theorem dX13_readFactor_39 : decode cX13_readFactor 39 = .ok (.iload_n 2, 1) := by decide +kernel
theorem dX13_readFactor_40 : decode cX13_readFactor 40 = .ok (.ifCond .eq 20, 3) := by decide +kernel
theorem dX13_readFactor_43 : decode cX13_readFactor 43 = .ok (.aload_n 0, 1) := by decide +kernel
theorem dX13_readFactor_44 : decode cX13_readFactor 44 = .ok (.iload_n 1, 1) := by decide +kernel
theorem dX13_readFactor_45 : decode cX13_readFactor 45 = .ok (.iconst 1, 1) := by decide +kernel
theorem dX13_readFactor_46 : decode cX13_readFactor 46 = .ok (.iadd, 1) := by decide +kernel
theorem dX13_readFactor_47 : decode cX13_readFactor 47 = .ok (.invokevirtual 113, 3) := by decide +kernel
theorem dX13_readFactor_50 : decode cX13_readFactor 50 = .ok (.aload_n 0, 1) := by decide +kernel
theorem dX13_readFactor_51 : decode cX13_readFactor 51 = .ok (.iconst 2, 1) := by decide +kernel
theorem dX13_readFactor_52 : decode cX13_readFactor 52 = .ok (.bipush 33, 2) := by decide +kernel
theorem dX13_readFactor_54 : decode cX13_readFactor 54 = .ok (.invokevirtual 92, 3) := by decide +kernel
theorem dX13_readFactor_57 : decode cX13_readFactor 57 = .ok (.goto 25, 3) := by decide +kernel
theorem dX13_readFactor_60 : decode cX13_readFactor 60 = .ok (.aload_n 0, 1) := by decide +kernel
theorem dX13_readFactor_61 : decode cX13_readFactor 61 = .ok (.iload_n 1, 1) := by decide +kernel
theorem dX13_readFactor_62 : decode cX13_readFactor 62 = .ok (.iconst 1, 1) := by decide +kernel
theorem dX13_readFactor_63 : decode cX13_readFactor 63 = .ok (.iadd, 1) := by decide +kernel
theorem dX13_readFactor_64 : decode cX13_readFactor 64 = .ok (.invokevirtual 128, 3) := by decide +kernel
theorem dX13_readFactor_67 : decode cX13_readFactor 67 = .ok (.aload_n 0, 1) := by decide +kernel
theorem dX13_readFactor_68 : decode cX13_readFactor 68 = .ok (.aload_n 0, 1) := by decide +kernel
theorem dX13_readFactor_69 : decode cX13_readFactor 69 = .ok (.bipush 41, 2) := by decide +kernel
theorem dX13_readFactor_71 : decode cX13_readFactor 71 = .ok (.invokevirtual 110, 3) := by decide +kernel
theorem dX13_readFactor_74 : decode cX13_readFactor 74 = .ok (.iconst 1, 1) := by decide +kernel
theorem dX13_readFactor_75 : decode cX13_readFactor 75 = .ok (.invokevirtual 57, 3) := by decide +kernel
theorem dX13_readFactor_78 : decode cX13_readFactor 78 = .ok (.aload_n 0, 1) := by decide +kernel
theorem dX13_readFactor_79 : decode cX13_readFactor 79 = .ok (.invokevirtual 69, 3) := by decide +kernel
theorem dX13_readFactor_82 : decode cX13_readFactor 82 = .ok (.return_, 1) := by decide +kernel
theorem dX13_readFactor_83 : decode cX13_readFactor 83 = .ok (.aload_n 0, 1) := by decide +kernel
theorem dX13_readFactor_84 : decode cX13_readFactor 84 = .ok (.invokevirtual 131, 3) := by decide +kernel
theorem dX13_readFactor_87 : decode cX13_readFactor 87 = .ok (.istore_n 3, 1) := by decide +kernel
theorem dX13_readFactor_88 : decode cX13_readFactor 88 = .ok (.aload_n 0, 1) := by decide +kernel
theorem dX13_readFactor_89 : decode cX13_readFactor 89 = .ok (.iload_n 3, 1) := by decide +kernel
theorem dX13_readFactor_90 : decode cX13_readFactor 90 = .ok (.iconst (-1), 1) := by decide +kernel
theorem dX13_readFactor_91 : decode cX13_readFactor 91 = .ok (.if_icmp .ne 11, 3) := by decide +kernel
theorem dX13_readFactor_94 : decode cX13_readFactor 94 = .ok (.aload_n 0, 1) := by decide +kernel
theorem dX13_readFactor_95 : decode cX13_readFactor 95 = .ok (.getfield 31, 3) := by decide +kernel
theorem dX13_readFactor_98 : decode cX13_readFactor 98 = .ok (.iconst 2, 1) := by decide +kernel
theorem dX13_readFactor_99 : decode cX13_readFactor 99 = .ok (.if_icmp .ne 7, 3) := by decide +kernel
theorem dX13_readFactor_102 : decode cX13_readFactor 102 = .ok (.iconst 1, 1) := by decide +kernel
theorem dX13_readFactor_103 : decode cX13_readFactor 103 = .ok (.goto 4, 3) := by decide +kernel
theorem dX13_readFactor_106 : decode cX13_readFactor 106 = .ok (.iconst 0, 1) := by decide +kernel
theorem dX13_readFactor_107 : decode cX13_readFactor 107 = .ok (.iconst 1, 1) := by decide +kernel
theorem dX13_readFactor_108 : decode cX13_readFactor 108 = .ok (.invokevirtual 57, 3) := by decide +kernel
theorem dX13_readFactor_111 : decode cX13_readFactor 111 = .ok (.aload_n 0, 1) := by decide +kernel
theorem dX13_readFactor_112 : decode cX13_readFactor 112 = .ok (.aload_n 0, 1) := by decide +kernel
theorem dX13_readFactor_113 : decode cX13_readFactor 113 = .ok (.getfield 134, 3) := by decide +kernel
theorem dX13_readFactor_116 : decode cX13_readFactor 116 = .ok (.bipush 12, 2) := by decide +kernel
theorem dX13_readFactor_118 : decode cX13_readFactor 118 = .ok (.if_icmp .ge 7, 3) := by decide +kernel
theorem dX13_readFactor_121 : decode cX13_readFactor 121 = .ok (.iconst 1, 1) := by decide +kernel
theorem dX13_readFactor_122 : decode cX13_readFactor 122 = .ok (.goto 4, 3) := by decide +kernel
theorem dX13_readFactor_125 : decode cX13_readFactor 125 = .ok (.iconst 0, 1) := by decide +kernel
theorem dX13_readFactor_126 : decode cX13_readFactor 126 = .ok (.iconst 4, 1) := by decide +kernel
theorem dX13_readFactor_127 : decode cX13_readFactor 127 = .ok (.invokevirtual 57, 3) := by decide +kernel
theorem dX13_readFactor_130 : decode cX13_readFactor 130 = .ok (.aload_n 0, 1) := by decide +kernel
theorem dX13_readFactor_131 : decode cX13_readFactor 131 = .ok (.dup, 1) := by decide +kernel
theorem dX13_readFactor_132 : decode cX13_readFactor 132 = .ok (.getfield 134, 3) := by decide +kernel
theorem dX13_readFactor_135 : decode cX13_readFactor 135 = .ok (.iconst 1, 1) := by decide +kernel
theorem dX13_readFactor_136 : decode cX13_readFactor 136 = .ok (.iadd, 1) := by decide +kernel
theorem dX13_readFactor_137 : decode cX13_readFactor 137 = .ok (.putfield 134, 3) := by decide +kernel
theorem dX13_readFactor_140 : decode cX13_readFactor 140 = .ok (.aload_n 0, 1) := by decide +kernel
theorem dX13_readFactor_141 : decode cX13_readFactor 141 = .ok (.iload_n 3, 1) := by decide +kernel
theorem dX13_readFactor_142 : decode cX13_readFactor 142 = .ok (.iconst (-1), 1) := by decide +kernel
theorem dX13_readFactor_143 : decode cX13_readFactor 143 = .ok (.if_icmp .ne 7, 3) := by decide +kernel
theorem dX13_readFactor_146 : decode cX13_readFactor 146 = .ok (.iconst 0, 1) := by decide +kernel
theorem dX13_readFactor_147 : decode cX13_readFactor 147 = .ok (.goto 4, 3) := by decide +kernel
theorem dX13_readFactor_150 : decode cX13_readFactor 150 = .ok (.iconst 1, 1) := by decide +kernel
theorem dX13_readFactor_151 : decode cX13_readFactor 151 = .ok (.iload_n 3, 1) := by decide +kernel
theorem dX13_readFactor_152 : decode cX13_readFactor 152 = .ok (.iconst (-1), 1) := by decide +kernel
theorem dX13_readFactor_153 : decode cX13_readFactor 153 = .ok (.if_icmp .ne 10, 3) := by decide +kernel
theorem dX13_readFactor_156 : decode cX13_readFactor 156 = .ok (.aload_n 0, 1) := by decide +kernel
theorem dX13_readFactor_157 : decode cX13_readFactor 157 = .ok (.getfield 41, 3) := by decide +kernel
theorem dX13_readFactor_160 : decode cX13_readFactor 160 = .ok (.goto 4, 3) := by decide +kernel
theorem dX13_readFactor_163 : decode cX13_readFactor 163 = .ok (.iload_n 3, 1) := by decide +kernel
theorem dX13_readFactor_164 : decode cX13_readFactor 164 = .ok (.invokevirtual 92, 3) := by decide +kernel
theorem dX13_readFactor_167 : decode cX13_readFactor 167 = .ok (.aload_n 0, 1) := by decide +kernel
theorem dX13_readFactor_168 : decode cX13_readFactor 168 = .ok (.invokevirtual 69, 3) := by decide +kernel
theorem dX13_readFactor_171 : decode cX13_readFactor 171 = .ok (.return_, 1) := by decide +kernel
set_option maxRecDepth 20000 in
theorem ggX13_readFactor_X13_isSign : GoodIn wsX13_readFactor wsX13_isSign := goodIn_r _ [8, 1, 3, 107, 108, 109, 110, 111, 112, 113, 114, 115, 116, 117, 118, 119, 120, 121, 122, 123, 124, 125, 126, 127, 128, 129, 130, 131, 132, 133, 134, 135, 136, 137, 138, 139, 140, 141, 142, 143, 144, 145, 146, 147, 148, 149, 150, 151, 152, 153, 154, 155, 156, 157, 158, 159, 160, 161, 162, 163, 164, 165, 166, 167, 168, 169, 170, 171, 172, 173, 174, 175, 176, 177, 178, 179] rfl (by decide +kernel)
set_option maxRecDepth 20000 in
theorem gX13_readFactor_X13_isSign : GoodIn wsX13_readFactor (wsV RX13 110 RX13 yX13_isSign wsX13_isSign) := goodIn_app (goodIn_of _ (by decide +kernel)) ggX13_readFactor_X13_isSign
set_option maxRecDepth 20000 in
theorem ggX13_readFactor_X13_letterAtHand : GoodIn wsX13_readFactor wsX13_letterAtHand := goodIn_r _ [48, 39, 49, 50, 51, 7, 52, 1, 17, 20, 19, 53, 54, 55, 56, 57, 58, 59, 60, 61, 62, 63, 64, 65, 66, 67, 68, 69, 70, 71, 72, 73, 74, 75, 76, 77, 78, 79, 80, 81, 82, 83, 84, 85, 86, 87, 88, 89, 90, 91, 92, 93, 94, 95, 96, 97, 98, 99, 100, 101, 107, 108, 109, 110, 111, 112, 113, 114, 115, 116, 117, 118, 119, 120, 121, 122, 123, 124, 125, 126, 127, 128, 129, 130, 131, 132, 133, 134, 135, 136, 137, 138, 139, 140, 141, 142, 143, 144, 145, 146, 147, 148, 149, 150, 151, 152, 153, 154, 155, 156, 157, 158, 159, 160, 161, 162, 163, 164, 165, 166, 167, 168, 169, 170, 171, 172, 173, 174, 175, 176, 177, 178, 179] rfl (by decide +kernel)
set_option maxRecDepth 20000 in
theorem gX13_readFactor_X13_letterAtHand : GoodIn wsX13_readFactor (wsV RX13 131 RX13 yX13_letterAtHand wsX13_letterAtHand) := goodIn_app (goodIn_of _ (by decide +kernel)) ggX13_readFactor_X13_letterAtHand
set_option maxRecDepth 20000 in
theorem ggX13_readFactor_X13_mark : GoodIn wsX13_readFactor wsX13_mark := goodIn_r _ [37, 38, 39, 40, 41, 107, 108, 109, 110, 111, 112, 113, 114, 115, 116, 117, 118, 119, 120, 121, 122, 123, 124, 125, 126, 127, 128, 129, 130, 131, 132, 133, 134, 135, 136, 137, 138, 139, 140, 141, 142, 143, 144, 145, 146, 147, 148, 149, 150, 151, 152, 153, 154, 155, 156, 157, 158, 159, 160, 161, 162, 163, 164, 165, 166, 167, 168, 169, 170, 171, 172, 173, 174, 175, 176, 177, 178, 179] rfl (by decide +kernel)
set_option maxRecDepth 20000 in
theorem gX13_readFactor_X13_mark : GoodIn wsX13_readFactor (wsV RX13 92 RX13 yX13_mark wsX13_mark) := goodIn_app (goodIn_of _ (by decide +kernel)) ggX13_readFactor_X13_mark
set_option maxRecDepth 20000 in
theorem ggX13_readFactor_X13_need : GoodIn wsX13_readFactor wsX13_need := goodIn_r _ [12] rfl (by decide +kernel)
set_option maxRecDepth 20000 in
theorem gX13_readFactor_X13_need : GoodIn wsX13_readFactor (wsV RX13 57 RX13 yX13_need wsX13_need) := goodIn_app (goodIn_of _ (by decide +kernel)) ggX13_readFactor_X13_need
set_option maxRecDepth 20000 in
theorem ggX13_readFactor_X13_scan : GoodIn wsX13_readFactor wsX13_scan := goodIn_r _ [16, 17, 18, 19, 20, 1, 3, 21, 22, 23, 7, 24, 25, 26, 27, 28, 29, 30, 107, 108, 109, 110, 111, 112, 113, 114, 115, 116, 117, 118, 119, 120, 121, 122, 123, 124, 125, 126, 127, 128, 129, 130, 131, 132, 133, 134, 135, 136, 137, 138, 139, 140, 141, 142, 143, 144, 145, 146, 147, 148, 149, 150, 151, 152, 153, 154, 155, 156, 157, 158, 159, 160, 161, 162, 163, 164, 165, 166, 167, 168, 169, 170, 171, 172, 173, 174, 175, 176, 177, 178, 179] rfl (by decide +kernel)
set_option maxRecDepth 20000 in
theorem gX13_readFactor_X13_scan : GoodIn wsX13_readFactor (wsV RX13 69 RX13 yX13_scan wsX13_scan) := goodIn_app (goodIn_of _ (by decide +kernel)) ggX13_readFactor_X13_scan
def wsT_X13_readFactor : List Cond := wsX13_readFactor ++ wsT_nx
theorem gT_X13_readFactor_X13_need : GoodIn wsT_X13_readFactor (wsV RX13 57 RX13 yX13_need wsT_X13_need) := gT_call gX13_readFactor_X13_need gT_nx
set_option maxHeartbeats 4000000 in
set_option maxRecDepth 100000 in
theorem S_X13_readFactor_v4 (l : Launch) (D : va_G) (K : Nat → ClassId) (a : Nat → Nat) (G : gS) (qs vs : Nat → Nat) (pb : ((G 0 5).toInt ≤ (G 0 3).toInt)) (s35 : (3 ≤ (G 0 20).toInt)) (m6 : ((G 12 ((G 0 20).toInt).toNat).toInt ≤ 6 * (G 0 21).toInt)) (hI : yI G) (sz : Nat) : KxvZ (yZ qs vs) l yX13_readFactor wsT_X13_readFactor 7 169 D [.ref (a 0), .int 4] (yW K a G) (tK K) sz (fun (G' : gS) => (yI G') ∧ (gu_un ycd [5, 6, 7, 8, 9, 10, 22, 1000, 1100, 1200] G G') ∧ (((G' 0 5).toInt ≤ (G 0 3).toInt ∧ (G 0 5).toInt ≤ (G' 0 5).toInt ∧ ((G' 0 6).toInt = 0 ∨ (G 0 5).toInt < (G' 0 5).toInt))) ∧ (ySg 2 (G 0 20).toInt G G') ∧ (yKp G G') ∧ (ySim cA ((G 0 20).toInt - 3).toNat (qW 4 (G 0 21).toInt (mL (G 0 20).toInt G)) (qF 4 (G' 0 21).toInt (mL (G 0 20).toInt G')) G G')) (fun (G' : gS) => (yI G') ∧ (gu_un ycd [5, 6, 7, 8, 9, 10, 22, 1000, 1100, 1200] G G') ∧ (yKp G G') ∧ (yThr cA ((G 0 20).toInt - 3).toNat (qW 4 (G 0 21).toInt (mL (G 0 20).toInt G)) G G') ∧ (((G' 0 8).toInt ≠ 0))) (a 1) (fun (G' : gS) => (yW K a G')) := by
  unfold KxvZ
  refine gxz_ofW (cc := cX13_readFactor) (lv := [(0, .ref (a 0)), (1, .int 4)]) (by decide) rfl (Nat.le_of_ble_eq_true rfl) rfl ?_
  intro p e s m args below meth c A Q hA hQ hZ F hr hex
  have hts := F.2.2.2.2.1
  have w_0 : (Cond.fieldLink RX13 134 "QuietCutModel" "parts" "I").before args s = true := hts _ (List.mem_of_getElem? (i := 2) rfl)
  have i_X13 : ∀ w ∈ u_ws RX13 TX13 73, w ∈ wsT_X13_readFactor := fun w h => List.mem_append_left _ ((show ∀ w ∈ u_ws RX13 TX13 73, w ∈ wsX13_readFactor from fun _ h => List.mem_cons_of_mem _ (List.mem_append_right _ h)) w h)
  have w_1 : (Cond.fieldLink RX13 31 "QuietCutModel" "hand" "I").before args s = true := hts _ (List.mem_of_getElem? (i := 1) rfl)
  have w_2 : (Cond.fieldLink RX13 41 "QuietCutModel" "value" "I").before args s = true := hts _ (List.mem_of_getElem? (i := 3) rfl)
  have b1 : (0 : Int) ≤ (G 0 3).toInt ∧ (G 0 3).toInt ≤ 1000 := hI 0 3
  have b2 : (0 : Int) ≤ (G 0 5).toInt ∧ (G 0 5).toInt ≤ 1000 := hI 0 5
  have b3 : (0 : Int) ≤ (G 0 6).toInt ∧ (G 0 6).toInt ≤ 4 := hI 0 6
  have b4 : (0 : Int) ≤ (G 0 20).toInt ∧ (G 0 20).toInt ≤ 5 := hI 0 20
  have b5 : (0 : Int) ≤ (G 0 21).toInt ∧ (G 0 21).toInt ≤ 12 := hI 0 21
  refine g_aload_n F 0 dX13_readFactor_0 rfl rfl ?_
  refine g_bipush F 45 dX13_readFactor_1 (by decide) ?_
  refine u_callVi (k := 0) (n := 0) (b := a 0) (As := [.int 45]) (st := []) F (fun sz => S_X13_isSign l D K a G 45 45 rfl hI sz) (cwV 1 hts (gT_left gX13_readFactor_X13_isSign) rfl rfl rfl (by decide +kernel) ⟨Nat.le_of_ble_eq_true rfl, Nat.le_of_ble_eq_true rfl⟩) rfl 0 yc_0 rfl (Nat.le_of_ble_eq_true rfl) ⟨Nat.zero_le _, Nat.zero_le _⟩ dX13_readFactor_3 (fun r6 _ hw7 => ?_)
  rcases hw7 with ⟨rfl, q9⟩ | ⟨rfl, q10⟩
  · have b11 : (0 : Int) ≤ (G 0 7).toInt ∧ (G 0 7).toInt ≤ 9999 := hI 0 7
    have q9 : ((G 0 6).toInt = 3 ∧ (G 0 7).toInt = (45 : Int)) := q9
    refine g_istore_n F [(2, .int 1), (0, .ref (a 0)), (1, .int 4)] dX13_readFactor_6 rfl (by decide) rfl ?_
    refine g_iload_n F 0 dX13_readFactor_7 rfl rfl ?_
    refine v_if_ne F 20 dX13_readFactor_8 (by decide) 1 rfl (fun c12 => ?_) (fun c12 => absurd c12 (by decide))
    refine g_aload_n F 1 dX13_readFactor_20 rfl rfl ?_
    refine g_iload_n F 2 dX13_readFactor_21 rfl rfl ?_
    refine g_iconst F 4 dX13_readFactor_22 (by decide) ?_
    refine v_icmp_ge F 30 dX13_readFactor_23 (by decide) 4 4 rfl rfl (fun c13 => ?_) (fun c13 => absurd c13 (by decide))
    refine g_iconst F 0 dX13_readFactor_30 (by decide) ?_
    refine g_iconst F 4 dX13_readFactor_31 (by decide) ?_
    refine ux_callvv (k := 0) (n := 0) (b := a 0) (As := [.int 0, .int 4]) (st := []) F (fun sz => S_X13_need l D K a G 0 0 4 4 rfl (by decide) rfl hI sz) (cwV 2 hts gT_X13_readFactor_X13_need rfl rfl rfl (by decide +kernel) ⟨Nat.le_of_ble_eq_true rfl, Nat.le_of_ble_eq_true rfl⟩) rfl 0 yc_0 rfl (Nat.le_of_ble_eq_true rfl) ⟨Nat.zero_le _, Nat.zero_le _⟩ dX13_readFactor_32 hex hA hQ (fun u9 h9 => ⟨h9.1, gu_un.tr gu_un.rf (gu_un.su h9.2.1 rfl), (yKp.un yKp.rf h9.2.1 rfl), (yF_deep (show gu_un ycd [] G G from gu_un.rf) rfl (by omega) (by omega) (by decide) h9.2.2.2.1 h9.2.2.2.2), (by have h9 := h9.2.2.2.1; omega)⟩) (fun G16 hw15 => ?_)
    have hI17 : yI G16 := hw15.1
    have hU18 : gu_un ycd [9, 10] G G16 := hw15.2.1
    have hp19 := hw15.2.2
    have q20 : ((0 : Int) ≠ 0) := hp19
    exfalso; omega
  · have b21 : (0 : Int) ≤ (G 0 7).toInt ∧ (G 0 7).toInt ≤ 9999 := hI 0 7
    have q10 : ((G 0 6).toInt ≠ 3 ∨ (G 0 7).toInt ≠ (45 : Int)) := q10
    refine g_istore_n F [(2, .int 0), (0, .ref (a 0)), (1, .int 4)] dX13_readFactor_6 rfl (by decide) rfl ?_
    refine g_iload_n F 0 dX13_readFactor_7 rfl rfl ?_
    refine v_if_ne F 20 dX13_readFactor_8 (by decide) 0 rfl (fun c22 => absurd c22 (by decide)) (fun c22 => ?_)
    refine g_aload_n F 1 dX13_readFactor_11 rfl rfl ?_
    refine g_bipush F 40 dX13_readFactor_12 (by decide) ?_
    refine u_callVi (k := 0) (n := 0) (b := a 0) (As := [.int 40]) (st := []) F (fun sz => S_X13_isSign l D K a G 40 40 rfl hI sz) (cwV 1 hts (gT_left gX13_readFactor_X13_isSign) rfl rfl rfl (by decide +kernel) ⟨Nat.le_of_ble_eq_true rfl, Nat.le_of_ble_eq_true rfl⟩) rfl 0 yc_0 rfl (Nat.le_of_ble_eq_true rfl) ⟨Nat.zero_le _, Nat.zero_le _⟩ dX13_readFactor_14 (fun r23 _ hw24 => ?_)
    rcases hw24 with ⟨rfl, q26⟩ | ⟨rfl, q27⟩
    · have q26 : ((G 0 6).toInt = 3 ∧ (G 0 7).toInt = (40 : Int)) := q26
      refine v_if_eq F 83 dX13_readFactor_17 (by decide) 1 rfl (fun c28 => absurd c28 (by decide)) (fun c28 => ?_)
      refine g_aload_n F 1 dX13_readFactor_20 rfl rfl ?_
      refine g_iload_n F 2 dX13_readFactor_21 rfl rfl ?_
      refine g_iconst F 4 dX13_readFactor_22 (by decide) ?_
      refine v_icmp_ge F 30 dX13_readFactor_23 (by decide) 4 4 rfl rfl (fun c29 => ?_) (fun c29 => absurd c29 (by decide))
      refine g_iconst F 0 dX13_readFactor_30 (by decide) ?_
      refine g_iconst F 4 dX13_readFactor_31 (by decide) ?_
      refine ux_callvv (k := 0) (n := 0) (b := a 0) (As := [.int 0, .int 4]) (st := []) F (fun sz => S_X13_need l D K a G 0 0 4 4 rfl (by decide) rfl hI sz) (cwV 2 hts gT_X13_readFactor_X13_need rfl rfl rfl (by decide +kernel) ⟨Nat.le_of_ble_eq_true rfl, Nat.le_of_ble_eq_true rfl⟩) rfl 0 yc_0 rfl (Nat.le_of_ble_eq_true rfl) ⟨Nat.zero_le _, Nat.zero_le _⟩ dX13_readFactor_32 hex hA hQ (fun u9 h9 => ⟨h9.1, gu_un.tr gu_un.rf (gu_un.su h9.2.1 rfl), (yKp.un yKp.rf h9.2.1 rfl), (yF_deep (show gu_un ycd [] G G from gu_un.rf) rfl (by omega) (by omega) (by decide) h9.2.2.2.1 h9.2.2.2.2), (by have h9 := h9.2.2.2.1; omega)⟩) (fun G32 hw31 => ?_)
      have hI33 : yI G32 := hw31.1
      have hU34 : gu_un ycd [9, 10] G G32 := hw31.2.1
      have hp35 := hw31.2.2
      have q36 : ((0 : Int) ≠ 0) := hp35
      exfalso; omega
    · have q27 : ((G 0 6).toInt ≠ 3 ∨ (G 0 7).toInt ≠ (40 : Int)) := q27
      refine v_if_eq F 83 dX13_readFactor_17 (by decide) 0 rfl (fun c37 => ?_) (fun c37 => absurd c37 (by decide))
      refine g_aload_n F 1 dX13_readFactor_83 rfl rfl ?_
      refine uz_callVi (k := 0) (n := 0) (b := a 0) (As := []) (st := []) F yZ_st hZ (fun sz => S_X13_letterAtHand l D K a G qs vs  (by (first | omega | (simp only [Int32.reduceToInt, true_and, and_true, ne_eq, not_true_eq_false, false_and, or_false, false_or, true_or, or_true, false_implies] <;> omega))) hI sz) (cwV 0 hts (gT_left gX13_readFactor_X13_letterAtHand) rfl rfl rfl (by decide +kernel) ⟨Nat.le_of_ble_eq_true rfl, Nat.le_of_ble_eq_true rfl⟩) rfl 0 yc_0 rfl (Nat.le_of_ble_eq_true rfl) ⟨Nat.zero_le _, Nat.zero_le _⟩ dX13_readFactor_84 (fun r38 _ hw39 => ?_)
      have q41 : (r38.toInt = yLt ((G 0 20).toInt - 3) G) := hw39.2
      have rg42 := hw39.1
      clear hw39
      refine g_istore_n F [(3, .int r38), (2, .int 0), (0, .ref (a 0)), (1, .int 4)] dX13_readFactor_87 rfl (by decide) rfl ?_
      refine g_aload_n F 2 dX13_readFactor_88 rfl rfl ?_
      refine g_iload_n F 0 dX13_readFactor_89 rfl rfl ?_
      refine g_iconst F (-1) dX13_readFactor_90 (by decide) ?_
      refine v_icmp_ne F 102 dX13_readFactor_91 (by decide) r38.toInt (-1) rfl rfl (fun c43 => ?_) (fun c43 => ?_)
      · refine g_iconst F 1 dX13_readFactor_102 (by decide) ?_
        refine g_goto F 107 dX13_readFactor_103 (by decide) ?_
        refine g_iconst F 1 dX13_readFactor_107 (by decide) ?_
        refine ux_callvv (k := 0) (n := 0) (b := a 0) (As := [.int 1, .int 1]) (st := []) F (fun sz => S_X13_need l D K a G 1 1 1 1 rfl (by decide) rfl hI sz) (cwV 2 hts gT_X13_readFactor_X13_need rfl rfl rfl (by decide +kernel) ⟨Nat.le_of_ble_eq_true rfl, Nat.le_of_ble_eq_true rfl⟩) rfl 0 yc_0 rfl (Nat.le_of_ble_eq_true rfl) ⟨Nat.zero_le _, Nat.zero_le _⟩ dX13_readFactor_108 hex hA hQ (fun u9 h9 => ⟨h9.1, gu_un.tr gu_un.rf (gu_un.su h9.2.1 rfl), (yKp.un yKp.rf h9.2.1 rfl), (absurd h9.2.2.1 (by decide)), (absurd h9.2.2.1 (by decide))⟩) (fun G46 hw45 => ?_)
        have hI47 : yI G46 := hw45.1
        have hU48 : gu_un ycd [9, 10] G G46 := hw45.2.1
        have hp49 := hw45.2.2
        have q50 : ((1 : Int) ≠ 0) := hp49
        clear hp49 hw45
        refine g_aload_n F 2 dX13_readFactor_111 rfl rfl ?_
        refine g_aload_n F 2 dX13_readFactor_112 rfl rfl ?_
        refine yg_0_21 F i_X13 w_0 dX13_readFactor_113 (G 0 21) (hU48 0 21 (by decide)) ?_
        refine g_bipush F 12 dX13_readFactor_116 (by decide) ?_
        refine v_icmp_ge F 125 dX13_readFactor_118 (by decide) (G 0 21).toInt 12 rfl rfl (fun c51 => ?_) (fun c51 => ?_)
        · refine g_iconst F 0 dX13_readFactor_125 (by decide) ?_
          refine g_iconst F 4 dX13_readFactor_126 (by decide) ?_
          refine ux_callvv (k := 0) (n := 0) (b := a 0) (As := [.int 0, .int 4]) (st := []) F (fun sz => S_X13_need l D K a G46 0 0 4 4 rfl (by decide) rfl hI47 sz) (cwV 2 hts gT_X13_readFactor_X13_need rfl rfl rfl (by decide +kernel) ⟨Nat.le_of_ble_eq_true rfl, Nat.le_of_ble_eq_true rfl⟩) rfl 0 yc_0 rfl (Nat.le_of_ble_eq_true rfl) ⟨Nat.zero_le _, Nat.zero_le _⟩ dX13_readFactor_127 hex hA hQ (fun u9 h9 => ⟨h9.1, gu_un.tr (gu_un.tr gu_un.rf (gu_un.su hU48 rfl)) (gu_un.su h9.2.1 rfl), (yKp.un (yKp.un yKp.rf (show gu_un ycd [9, 10] G G46 from (gu_un.tr gu_un.rf (gu_un.su hU48 rfl))) rfl) h9.2.1 rfl), (by have h8 := q41; exact yF_many (show (((((G 0 20).toInt - 3).toNat : Nat)) : Int) = (G 0 20).toInt - 3 by omega) (show gu_un ycd [9, 10] G G46 from (gu_un.tr gu_un.rf (gu_un.su hU48 rfl))) rfl (by first | exact Or.inl (by omega) | exact Or.inr ⟨by unfold yLt at h8; split at h8 <;> omega, by rw [← q41]; omega⟩) (by omega) h9.2.2.2.1 h9.2.2.2.2), (by have h9 := h9.2.2.2.1; omega)⟩) (fun G54 hw53 => ?_)
          have hI55 : yI G54 := hw53.1
          have hU56 : gu_un ycd [9, 10] G46 G54 := hw53.2.1
          have hp57 := hw53.2.2
          have q58 : ((0 : Int) ≠ 0) := hp57
          exfalso; omega
        · refine g_iconst F 1 dX13_readFactor_121 (by decide) ?_
          refine g_goto F 126 dX13_readFactor_122 (by decide) ?_
          refine g_iconst F 4 dX13_readFactor_126 (by decide) ?_
          refine ux_callvv (k := 0) (n := 0) (b := a 0) (As := [.int 1, .int 4]) (st := []) F (fun sz => S_X13_need l D K a G46 1 1 4 4 rfl (by decide) rfl hI47 sz) (cwV 2 hts gT_X13_readFactor_X13_need rfl rfl rfl (by decide +kernel) ⟨Nat.le_of_ble_eq_true rfl, Nat.le_of_ble_eq_true rfl⟩) rfl 0 yc_0 rfl (Nat.le_of_ble_eq_true rfl) ⟨Nat.zero_le _, Nat.zero_le _⟩ dX13_readFactor_127 hex hA hQ (fun u9 h9 => ⟨h9.1, gu_un.tr (gu_un.tr gu_un.rf (gu_un.su hU48 rfl)) (gu_un.su h9.2.1 rfl), (yKp.un (yKp.un yKp.rf (show gu_un ycd [9, 10] G G46 from (gu_un.tr gu_un.rf (gu_un.su hU48 rfl))) rfl) h9.2.1 rfl), (absurd h9.2.2.1 (by decide)), (absurd h9.2.2.1 (by decide))⟩) (fun G61 hw60 => ?_)
          have hI62 : yI G61 := hw60.1
          have hU63 : gu_un ycd [9, 10] G46 G61 := hw60.2.1
          have hp64 := hw60.2.2
          have q65 : ((1 : Int) ≠ 0) := hp64
          clear hp64 hw60
          refine g_aload_n F 2 dX13_readFactor_130 rfl rfl ?_
          refine g_dup F dX13_readFactor_131 rfl ?_
          refine yg_0_21 F i_X13 w_0 dX13_readFactor_132 (G 0 21) ((hU63 0 21 (by decide)).trans (hU48 0 21 (by decide))) ?_
          refine g_iconst F 1 dX13_readFactor_135 (by decide) ?_
          refine u_iadd F dX13_readFactor_136 (G 0 21).toInt 1 rfl rfl (by omega) (by omega) (fun y66 ey66 => ?_)
          refine yp_0_21 F i_X13 w_0 dX13_readFactor_137 ?_
          refine g_aload_n F 2 dX13_readFactor_140 rfl rfl ?_
          refine g_iload_n F 0 dX13_readFactor_141 rfl rfl ?_
          refine g_iconst F (-1) dX13_readFactor_142 (by decide) ?_
          refine v_icmp_ne F 150 dX13_readFactor_143 (by decide) r38.toInt (-1) rfl rfl (fun c67 => ?_) (fun c67 => absurd c67 (by omega))
          refine g_iconst F 1 dX13_readFactor_150 (by decide) ?_
          refine g_iload_n F 0 dX13_readFactor_151 rfl rfl ?_
          refine g_iconst F (-1) dX13_readFactor_152 (by decide) ?_
          refine v_icmp_ne F 163 dX13_readFactor_153 (by decide) r38.toInt (-1) rfl rfl (fun c68 => ?_) (fun c68 => absurd c68 (by omega))
          refine g_iload_n F 0 dX13_readFactor_163 rfl rfl ?_
          refine u_callVv (k := 0) (n := 0) (b := a 0) (As := [.int 1, .int r38]) (st := []) F (fun sz => S_X13_mark l D K a (gu_up G61 0 21 y66) 1 1 r38 r38.toInt rfl (by decide) rfl (by omega) (by rw [show (gu_up G61 0 21 y66) 0 20 = G 0 20 from (hU63 0 20 (by decide)).trans (hU48 0 20 (by decide))]; have h9 : (G61 12 ((G 0 20).toInt).toNat).toInt ≤ 6 * (G61 0 21).toInt := (y_m6 m6 (show gu_un ycd [9, 10] G G61 from (gu_un.tr (gu_un.tr gu_un.rf (gu_un.su hU48 rfl)) (gu_un.su hU63 rfl))) rfl rfl); have h8 : (0 : Int) ≤ (G61 0 21).toInt ∧ (G61 0 21).toInt ≤ 12 := hI62 0 21; show (G61 12 ((G 0 20).toInt).toNat).toInt ≤ 79; omega) (gu_I.up (j := 0) (k := 21) (v := y66) hI62 (show (0 : Int) ≤ Int32.toInt y66 by omega) (show Int32.toInt y66 ≤ 12 by omega)) sz) (cwV 2 hts (gT_left gX13_readFactor_X13_mark) rfl rfl rfl (by decide +kernel) ⟨Nat.le_of_ble_eq_true rfl, Nat.le_of_ble_eq_true rfl⟩) rfl 0 yc_0 rfl (Nat.le_of_ble_eq_true rfl) ⟨Nat.zero_le _, Nat.zero_le _⟩ dX13_readFactor_164 (fun G71 hw70 => ?_)
          have hI72 : yI G71 := hw70.1
          have hU73 : gu_un ycd [1000, 1100, 1200] (gu_up G61 0 21 y66) G71 := hw70.2.1
          have hp74 := hw70.2.2
          have q75 : yMk 1 r38 (G 0 20).toInt (gu_up G61 0 21 y66) G71 := by have h9 := hp74; (try simp only [(show (gu_up G61 0 21 y66) 0 20 = (G 0 20) from (hU63 0 20 (by decide)).trans (hU48 0 20 (by decide)))] at h9); first | exact h9 | omega
          have m0 : 0 ≤ (G 12 ((G 0 20).toInt).toNat).toInt := (show (0 : Int) ≤ (G 12 ((G 0 20).toInt).toNat).toInt ∧ (G 12 ((G 0 20).toInt).toNat).toInt ≤ 80 from hI 12 _).1
          have m1 : 0 ≤ ((gu_up G61 0 21 y66) 12 ((G 0 20).toInt).toNat).toInt := (show (0 : Int) ≤ (G61 12 ((G 0 20).toInt).toNat).toInt ∧ (G61 12 ((G 0 20).toInt).toNat).toInt ≤ 80 from hI62 12 _).1
          have kp76 : yKp G G71 := yKp.tr (yKp.un yKp.rf (show gu_un ycd [9, 10, 22] G (gu_up G61 0 21 y66) from (gu_un.up (j := 0) (k := 21) (v := y66) (gu_un.tr (gu_un.tr gu_un.rf (gu_un.su hU48 rfl)) (gu_un.su hU63 rfl)) (show (22 : Nat) ∈ ([9, 10, 22] : List Nat) by decide))) rfl) (q75.kp (by omega) m1)
          have sg77 : ySg 2 (G 0 20).toInt G G71 := yMk.leaf q75 (by first | decide | omega) (by decide) (by omega) (show (gu_up G61 0 21 y66) 10 = G 10 from (show G61 10 = G46 10 from funext fun k_ => hU63 10 k_ (show (1000 : Nat) ∉ ([9, 10] : List Nat) by decide)).trans ((show G46 10 = G 10 from funext fun k_ => hU48 10 k_ (show (1000 : Nat) ∉ ([9, 10] : List Nat) by decide)))) (show (gu_up G61 0 21 y66) 11 = G 11 from (show G61 11 = G46 11 from funext fun k_ => hU63 11 k_ (show (1100 : Nat) ∉ ([9, 10] : List Nat) by decide)).trans ((show G46 11 = G 11 from funext fun k_ => hU48 11 k_ (show (1100 : Nat) ∉ ([9, 10] : List Nat) by decide)))) (show (gu_up G61 0 21 y66) 12 = G 12 from (show G61 12 = G46 12 from funext fun k_ => hU63 12 k_ (show (1200 : Nat) ∉ ([9, 10] : List Nat) by decide)).trans ((show G46 12 = G 12 from funext fun k_ => hU48 12 k_ (show (1200 : Nat) ∉ ([9, 10] : List Nat) by decide)))) m0 (by omega) (show (y66 : Int32).toInt = _ by omega)
          clear hp74 hw70
          refine g_aload_n F 2 dX13_readFactor_167 rfl rfl ?_
          refine u_callVv (k := 0) (n := 0) (b := a 0) (As := []) (st := []) F (fun sz => S_X13_scan l D K a G71  (by have e9_0_3 : G71 0 3 = (G 0 3) := (hU73 0 3 (by decide)).trans ((hU63 0 3 (by decide)).trans (hU48 0 3 (by decide))); have e9_0_5 : G71 0 5 = (G 0 5) := (hU73 0 5 (by decide)).trans ((hU63 0 5 (by decide)).trans (hU48 0 5 (by decide))); (try simp only [e9_0_3, e9_0_5, true_and, and_true]) <;> (first | omega | (simp only [Int32.reduceToInt, true_and, and_true, ne_eq, not_true_eq_false, false_and, or_false, false_or, true_or, or_true, false_implies] <;> omega))) hI72 sz) (cwV 0 hts (gT_left gX13_readFactor_X13_scan) rfl rfl rfl (by decide +kernel) ⟨Nat.le_of_ble_eq_true rfl, Nat.le_of_ble_eq_true rfl⟩) rfl 0 yc_0 rfl (Nat.le_of_ble_eq_true rfl) ⟨Nat.zero_le _, Nat.zero_le _⟩ dX13_readFactor_168 (fun G80 hw79 => ?_)
          have hI81 : yI G80 := hw79.1
          have hU82 : gu_un ycd [5, 6, 7, 8] G71 G80 := hw79.2.1
          have hp83 := hw79.2.2
          have b84 : (0 : Int) ≤ (G80 0 5).toInt ∧ (G80 0 5).toInt ≤ 1000 := hI81 0 5
          have b85 : (0 : Int) ≤ (G80 0 4).toInt ∧ (G80 0 4).toInt ≤ 1000 := hI81 0 4
          have q86 : ((G80 0 5).toInt ≤ (G 0 3).toInt ∧ (G 0 5).toInt ≤ (G80 0 4).toInt ∧ (G80 0 4).toInt ≤ (G80 0 5).toInt) := by have h9 := hp83.1; (try simp only [(show G71 0 3 = (G 0 3) from (hU73 0 3 (by decide)).trans ((hU63 0 3 (by decide)).trans (hU48 0 3 (by decide)))), (show G71 0 5 = (G 0 5) from (hU73 0 5 (by decide)).trans ((hU63 0 5 (by decide)).trans (hU48 0 5 (by decide))))] at h9); first | exact h9 | omega
          have b87 : (0 : Int) ≤ (G80 0 6).toInt ∧ (G80 0 6).toInt ≤ 4 := hI81 0 6
          have q88 : (((G80 0 6).toInt = 0 ∧ (G80 0 4).toInt = (G 0 3).toInt) ∨ ((G80 0 6).toInt ≠ 0 ∧ (G80 0 4).toInt < (G80 0 5).toInt)) := by have h9 := hp83.2.1; (try simp only [(show G71 0 3 = (G 0 3) from (hU73 0 3 (by decide)).trans ((hU63 0 3 (by decide)).trans (hU48 0 3 (by decide))))] at h9); first | exact h9 | omega
          have b89 : (0 : Int) ≤ (G80 0 7).toInt ∧ (G80 0 7).toInt ≤ 9999 := hI81 0 7
          have q90 : tTok (G 2) (G 0 3).toInt (G 0 5).toInt (G80 0 6).toInt (G80 0 4).toInt (G80 0 7).toInt (G80 0 5).toInt := by have h9 := hp83.2.2; (try simp only [(show G71 0 3 = (G 0 3) from (hU73 0 3 (by decide)).trans ((hU63 0 3 (by decide)).trans (hU48 0 3 (by decide)))), (show G71 0 5 = (G 0 5) from (hU73 0 5 (by decide)).trans ((hU63 0 5 (by decide)).trans (hU48 0 5 (by decide)))), (show G71 2 = (G 2) from (show G71 2 = (gu_up G61 0 21 y66) 2 from funext fun k_ => hU73 2 k_ (show (200 : Nat) ∉ ([1000, 1100, 1200] : List Nat) by decide)).trans ((show G61 2 = G46 2 from funext fun k_ => hU63 2 k_ (show (200 : Nat) ∉ ([9, 10] : List Nat) by decide)).trans ((show G46 2 = G 2 from funext fun k_ => hU48 2 k_ (show (200 : Nat) ∉ ([9, 10] : List Nat) by decide)))))] at h9); first | exact h9 | omega
          clear hp83 hw79
          exact ux_vret F hA hQ hr G80 (⟨hI81, (gu_un.tr (gu_un.tr (gu_un.up (j := 0) (k := 21) (v := y66) (gu_un.tr (gu_un.tr gu_un.rf (gu_un.su hU48 rfl)) (gu_un.su hU63 rfl)) (show (22 : Nat) ∈ ([5, 6, 7, 8, 9, 10, 22, 1000, 1100, 1200] : List Nat) by decide)) (gu_un.su hU73 rfl)) (gu_un.su hU82 rfl)), (by show ((G80 0 5).toInt ≤ (G 0 3).toInt ∧ (G 0 5).toInt ≤ (G80 0 5).toInt ∧ ((G80 0 6).toInt = 0 ∨ (G 0 5).toInt < (G80 0 5).toInt)); (first | omega | (simp only [Int32.reduceToInt, true_and, and_true, ne_eq, not_true_eq_false, false_and, or_false, false_or, true_or, or_true, false_implies] <;> omega))), ((sg77.un (show gu_un ycd [5, 6, 7, 8] G71 G80 from (gu_un.tr gu_un.rf (gu_un.su hU82 rfl))) rfl rfl)), ((yKp.un kp76 (show gu_un ycd [5, 6, 7, 8] G71 G80 from (gu_un.tr gu_un.rf (gu_un.su hU82 rfl))) rfl)), (by have h8 := q41; first | exact yF_num (show yStp [9, 10, 22, 1000, 1100, 1200] G G71 G80 from ⟨(show gu_un ycd [9, 10, 22, 1000, 1100, 1200] G G71 from (gu_un.tr (gu_un.up (j := 0) (k := 21) (v := y66) (gu_un.tr (gu_un.tr gu_un.rf (gu_un.su hU48 rfl)) (gu_un.su hU63 rfl)) (show (22 : Nat) ∈ ([9, 10, 22, 1000, 1100, 1200] : List Nat) by decide)) (gu_un.su hU73 rfl))), rfl, by (try rw [show G71 2 = (G 2) from (show G71 2 = (gu_up G61 0 21 y66) 2 from funext fun k_ => hU73 2 k_ (show (200 : Nat) ∉ ([1000, 1100, 1200] : List Nat) by decide)).trans ((show G61 2 = G46 2 from funext fun k_ => hU63 2 k_ (show (200 : Nat) ∉ ([9, 10] : List Nat) by decide)).trans ((show G46 2 = G 2 from funext fun k_ => hU48 2 k_ (show (200 : Nat) ∉ ([9, 10] : List Nat) by decide))))]); (try rw [show G71 0 3 = (G 0 3) from (hU73 0 3 (by decide)).trans ((hU63 0 3 (by decide)).trans (hU48 0 3 (by decide)))]); (try rw [show G71 0 5 = (G 0 5) from (hU73 0 5 (by decide)).trans ((hU63 0 5 (by decide)).trans (hU48 0 5 (by decide)))]); exact q90, funext fun k_ => hU82 2 k_ (by simp [ycd]), hU82 0 3 (by decide)⟩) (by omega) (by omega) (show (G80 0 21).toInt = (G 0 21).toInt + 1 by rw [show G80 0 21 = y66 from (hU82 0 21 (by decide)).trans (hU73 0 21 (by decide))]; omega) (by rw [show mL (G 0 20).toInt G80 = mL (G 0 20).toInt G71 from (mL_un (show gu_un ycd [5, 6, 7, 8] G71 G80 from (gu_un.tr gu_un.rf (gu_un.su hU82 rfl))) rfl)]; rw [q75.ml (by omega) (show (0 : Int) ≤ (G61 12 ((G 0 20).toInt).toNat).toInt from (hI62 12 _).1), mEn_0 (by decide)] <;> (rw [show mL (G 0 20).toInt (gu_up G61 0 21 y66) = mL (G 0 20).toInt G from (mL_un (show gu_un ycd [9, 10, 22] G (gu_up G61 0 21 y66) from (gu_un.up (j := 0) (k := 21) (v := y66) (gu_un.tr (gu_un.tr gu_un.rf (gu_un.su hU48 rfl)) (gu_un.su hU63 rfl)) (show (22 : Nat) ∈ ([9, 10, 22] : List Nat) by decide))) rfl)])) | exact yF_let (show (((((G 0 20).toInt - 3).toNat : Nat)) : Int) = (G 0 20).toInt - 3 by omega) (show yStp [9, 10, 22, 1000, 1100, 1200] G G71 G80 from ⟨(show gu_un ycd [9, 10, 22, 1000, 1100, 1200] G G71 from (gu_un.tr (gu_un.up (j := 0) (k := 21) (v := y66) (gu_un.tr (gu_un.tr gu_un.rf (gu_un.su hU48 rfl)) (gu_un.su hU63 rfl)) (show (22 : Nat) ∈ ([9, 10, 22, 1000, 1100, 1200] : List Nat) by decide)) (gu_un.su hU73 rfl))), rfl, by (try rw [show G71 2 = (G 2) from (show G71 2 = (gu_up G61 0 21 y66) 2 from funext fun k_ => hU73 2 k_ (show (200 : Nat) ∉ ([1000, 1100, 1200] : List Nat) by decide)).trans ((show G61 2 = G46 2 from funext fun k_ => hU63 2 k_ (show (200 : Nat) ∉ ([9, 10] : List Nat) by decide)).trans ((show G46 2 = G 2 from funext fun k_ => hU48 2 k_ (show (200 : Nat) ∉ ([9, 10] : List Nat) by decide))))]); (try rw [show G71 0 3 = (G 0 3) from (hU73 0 3 (by decide)).trans ((hU63 0 3 (by decide)).trans (hU48 0 3 (by decide)))]); (try rw [show G71 0 5 = (G 0 5) from (hU73 0 5 (by decide)).trans ((hU63 0 5 (by decide)).trans (hU48 0 5 (by decide)))]); exact q90, funext fun k_ => hU82 2 k_ (by simp [ycd]), hU82 0 3 (by decide)⟩) (by unfold yLt at h8; split at h8 <;> omega) (by rw [← q41]; omega) (by omega) (show (G80 0 21).toInt = (G 0 21).toInt + 1 by rw [show G80 0 21 = y66 from (hU82 0 21 (by decide)).trans (hU73 0 21 (by decide))]; omega) (by rw [← q41]; exact (by rw [show mL (G 0 20).toInt G80 = mL (G 0 20).toInt G71 from (mL_un (show gu_un ycd [5, 6, 7, 8] G71 G80 from (gu_un.tr gu_un.rf (gu_un.su hU82 rfl))) rfl)]; rw [q75.ml (by omega) (show (0 : Int) ≤ (G61 12 ((G 0 20).toInt).toNat).toInt from (hI62 12 _).1), mEn_1 (by decide) (by omega)] <;> (rw [show mL (G 0 20).toInt (gu_up G61 0 21 y66) = mL (G 0 20).toInt G from (mL_un (show gu_un ycd [9, 10, 22] G (gu_up G61 0 21 y66) from (gu_un.up (j := 0) (k := 21) (v := y66) (gu_un.tr (gu_un.tr gu_un.rf (gu_un.su hU48 rfl)) (gu_un.su hU63 rfl)) (show (22 : Nat) ∈ ([9, 10, 22] : List Nat) by decide))) rfl)]))))⟩) rfl rfl dX13_readFactor_171
      · refine g_aload_n F 2 dX13_readFactor_94 rfl rfl ?_
        refine yg_0_6 F i_X13 w_1 dX13_readFactor_95 (G 0 6) (rfl) ?_
        refine g_iconst F 2 dX13_readFactor_98 (by decide) ?_
        refine v_icmp_ne F 106 dX13_readFactor_99 (by decide) (G 0 6).toInt 2 rfl rfl (fun c91 => ?_) (fun c91 => ?_)
        · refine g_iconst F 0 dX13_readFactor_106 (by decide) ?_
          refine g_iconst F 1 dX13_readFactor_107 (by decide) ?_
          refine ux_callvv (k := 0) (n := 0) (b := a 0) (As := [.int 0, .int 1]) (st := []) F (fun sz => S_X13_need l D K a G 0 0 1 1 rfl (by decide) rfl hI sz) (cwV 2 hts gT_X13_readFactor_X13_need rfl rfl rfl (by decide +kernel) ⟨Nat.le_of_ble_eq_true rfl, Nat.le_of_ble_eq_true rfl⟩) rfl 0 yc_0 rfl (Nat.le_of_ble_eq_true rfl) ⟨Nat.zero_le _, Nat.zero_le _⟩ dX13_readFactor_108 hex hA hQ (fun u9 h9 => ⟨h9.1, gu_un.tr gu_un.rf (gu_un.su h9.2.1 rfl), (yKp.un yKp.rf h9.2.1 rfl), (yF_none (show (((((G 0 20).toInt - 3).toNat : Nat)) : Int) = (G 0 20).toInt - 3 by omega) (show gu_un ycd [] G G from gu_un.rf) rfl (by omega) (by omega) (fun h7 => by rw [← q41]; omega) h9.2.2.2.1 h9.2.2.2.2), (by have h9 := h9.2.2.2.1; omega)⟩) (fun G94 hw93 => ?_)
          have hI95 : yI G94 := hw93.1
          have hU96 : gu_un ycd [9, 10] G G94 := hw93.2.1
          have hp97 := hw93.2.2
          have q98 : ((0 : Int) ≠ 0) := hp97
          exfalso; omega
        · refine g_iconst F 1 dX13_readFactor_102 (by decide) ?_
          refine g_goto F 107 dX13_readFactor_103 (by decide) ?_
          refine g_iconst F 1 dX13_readFactor_107 (by decide) ?_
          refine ux_callvv (k := 0) (n := 0) (b := a 0) (As := [.int 1, .int 1]) (st := []) F (fun sz => S_X13_need l D K a G 1 1 1 1 rfl (by decide) rfl hI sz) (cwV 2 hts gT_X13_readFactor_X13_need rfl rfl rfl (by decide +kernel) ⟨Nat.le_of_ble_eq_true rfl, Nat.le_of_ble_eq_true rfl⟩) rfl 0 yc_0 rfl (Nat.le_of_ble_eq_true rfl) ⟨Nat.zero_le _, Nat.zero_le _⟩ dX13_readFactor_108 hex hA hQ (fun u9 h9 => ⟨h9.1, gu_un.tr gu_un.rf (gu_un.su h9.2.1 rfl), (yKp.un yKp.rf h9.2.1 rfl), (absurd h9.2.2.1 (by decide)), (absurd h9.2.2.1 (by decide))⟩) (fun G101 hw100 => ?_)
          have hI102 : yI G101 := hw100.1
          have hU103 : gu_un ycd [9, 10] G G101 := hw100.2.1
          have hp104 := hw100.2.2
          have q105 : ((1 : Int) ≠ 0) := hp104
          clear hp104 hw100
          refine g_aload_n F 2 dX13_readFactor_111 rfl rfl ?_
          refine g_aload_n F 2 dX13_readFactor_112 rfl rfl ?_
          refine yg_0_21 F i_X13 w_0 dX13_readFactor_113 (G 0 21) (hU103 0 21 (by decide)) ?_
          refine g_bipush F 12 dX13_readFactor_116 (by decide) ?_
          refine v_icmp_ge F 125 dX13_readFactor_118 (by decide) (G 0 21).toInt 12 rfl rfl (fun c106 => ?_) (fun c106 => ?_)
          · refine g_iconst F 0 dX13_readFactor_125 (by decide) ?_
            refine g_iconst F 4 dX13_readFactor_126 (by decide) ?_
            refine ux_callvv (k := 0) (n := 0) (b := a 0) (As := [.int 0, .int 4]) (st := []) F (fun sz => S_X13_need l D K a G101 0 0 4 4 rfl (by decide) rfl hI102 sz) (cwV 2 hts gT_X13_readFactor_X13_need rfl rfl rfl (by decide +kernel) ⟨Nat.le_of_ble_eq_true rfl, Nat.le_of_ble_eq_true rfl⟩) rfl 0 yc_0 rfl (Nat.le_of_ble_eq_true rfl) ⟨Nat.zero_le _, Nat.zero_le _⟩ dX13_readFactor_127 hex hA hQ (fun u9 h9 => ⟨h9.1, gu_un.tr (gu_un.tr gu_un.rf (gu_un.su hU103 rfl)) (gu_un.su h9.2.1 rfl), (yKp.un (yKp.un yKp.rf (show gu_un ycd [9, 10] G G101 from (gu_un.tr gu_un.rf (gu_un.su hU103 rfl))) rfl) h9.2.1 rfl), (by have h8 := q41; exact yF_many (show (((((G 0 20).toInt - 3).toNat : Nat)) : Int) = (G 0 20).toInt - 3 by omega) (show gu_un ycd [9, 10] G G101 from (gu_un.tr gu_un.rf (gu_un.su hU103 rfl))) rfl (by first | exact Or.inl (by omega) | exact Or.inr ⟨by unfold yLt at h8; split at h8 <;> omega, by rw [← q41]; omega⟩) (by omega) h9.2.2.2.1 h9.2.2.2.2), (by have h9 := h9.2.2.2.1; omega)⟩) (fun G109 hw108 => ?_)
            have hI110 : yI G109 := hw108.1
            have hU111 : gu_un ycd [9, 10] G101 G109 := hw108.2.1
            have hp112 := hw108.2.2
            have q113 : ((0 : Int) ≠ 0) := hp112
            exfalso; omega
          · refine g_iconst F 1 dX13_readFactor_121 (by decide) ?_
            refine g_goto F 126 dX13_readFactor_122 (by decide) ?_
            refine g_iconst F 4 dX13_readFactor_126 (by decide) ?_
            refine ux_callvv (k := 0) (n := 0) (b := a 0) (As := [.int 1, .int 4]) (st := []) F (fun sz => S_X13_need l D K a G101 1 1 4 4 rfl (by decide) rfl hI102 sz) (cwV 2 hts gT_X13_readFactor_X13_need rfl rfl rfl (by decide +kernel) ⟨Nat.le_of_ble_eq_true rfl, Nat.le_of_ble_eq_true rfl⟩) rfl 0 yc_0 rfl (Nat.le_of_ble_eq_true rfl) ⟨Nat.zero_le _, Nat.zero_le _⟩ dX13_readFactor_127 hex hA hQ (fun u9 h9 => ⟨h9.1, gu_un.tr (gu_un.tr gu_un.rf (gu_un.su hU103 rfl)) (gu_un.su h9.2.1 rfl), (yKp.un (yKp.un yKp.rf (show gu_un ycd [9, 10] G G101 from (gu_un.tr gu_un.rf (gu_un.su hU103 rfl))) rfl) h9.2.1 rfl), (absurd h9.2.2.1 (by decide)), (absurd h9.2.2.1 (by decide))⟩) (fun G116 hw115 => ?_)
            have hI117 : yI G116 := hw115.1
            have hU118 : gu_un ycd [9, 10] G101 G116 := hw115.2.1
            have hp119 := hw115.2.2
            have q120 : ((1 : Int) ≠ 0) := hp119
            clear hp119 hw115
            refine g_aload_n F 2 dX13_readFactor_130 rfl rfl ?_
            refine g_dup F dX13_readFactor_131 rfl ?_
            refine yg_0_21 F i_X13 w_0 dX13_readFactor_132 (G 0 21) ((hU118 0 21 (by decide)).trans (hU103 0 21 (by decide))) ?_
            refine g_iconst F 1 dX13_readFactor_135 (by decide) ?_
            refine u_iadd F dX13_readFactor_136 (G 0 21).toInt 1 rfl rfl (by omega) (by omega) (fun y121 ey121 => ?_)
            refine yp_0_21 F i_X13 w_0 dX13_readFactor_137 ?_
            refine g_aload_n F 2 dX13_readFactor_140 rfl rfl ?_
            refine g_iload_n F 0 dX13_readFactor_141 rfl rfl ?_
            refine g_iconst F (-1) dX13_readFactor_142 (by decide) ?_
            refine v_icmp_ne F 150 dX13_readFactor_143 (by decide) r38.toInt (-1) rfl rfl (fun c122 => absurd c122 (by omega)) (fun c122 => ?_)
            refine g_iconst F 0 dX13_readFactor_146 (by decide) ?_
            refine g_goto F 151 dX13_readFactor_147 (by decide) ?_
            refine g_iload_n F 0 dX13_readFactor_151 rfl rfl ?_
            refine g_iconst F (-1) dX13_readFactor_152 (by decide) ?_
            refine v_icmp_ne F 163 dX13_readFactor_153 (by decide) r38.toInt (-1) rfl rfl (fun c123 => absurd c123 (by omega)) (fun c123 => ?_)
            refine g_aload_n F 2 dX13_readFactor_156 rfl rfl ?_
            refine yg_0_7 F i_X13 w_2 dX13_readFactor_157 (G 0 7) ((hU118 0 7 (by decide)).trans (hU103 0 7 (by decide))) ?_
            refine g_goto F 164 dX13_readFactor_160 (by decide) ?_
            refine u_callVv (k := 0) (n := 0) (b := a 0) (As := [.int 0, .int (G 0 7)]) (st := []) F (fun sz => S_X13_mark l D K a (gu_up G116 0 21 y121) 0 0 (G 0 7) (G 0 7).toInt rfl (by decide) rfl (by omega) (by rw [show (gu_up G116 0 21 y121) 0 20 = G 0 20 from (hU118 0 20 (by decide)).trans (hU103 0 20 (by decide))]; have h9 : (G116 12 ((G 0 20).toInt).toNat).toInt ≤ 6 * (G116 0 21).toInt := (y_m6 m6 (show gu_un ycd [9, 10] G G116 from (gu_un.tr (gu_un.tr gu_un.rf (gu_un.su hU103 rfl)) (gu_un.su hU118 rfl))) rfl rfl); have h8 : (0 : Int) ≤ (G116 0 21).toInt ∧ (G116 0 21).toInt ≤ 12 := hI117 0 21; show (G116 12 ((G 0 20).toInt).toNat).toInt ≤ 79; omega) (gu_I.up (j := 0) (k := 21) (v := y121) hI117 (show (0 : Int) ≤ Int32.toInt y121 by omega) (show Int32.toInt y121 ≤ 12 by omega)) sz) (cwV 2 hts (gT_left gX13_readFactor_X13_mark) rfl rfl rfl (by decide +kernel) ⟨Nat.le_of_ble_eq_true rfl, Nat.le_of_ble_eq_true rfl⟩) rfl 0 yc_0 rfl (Nat.le_of_ble_eq_true rfl) ⟨Nat.zero_le _, Nat.zero_le _⟩ dX13_readFactor_164 (fun G126 hw125 => ?_)
            have hI127 : yI G126 := hw125.1
            have hU128 : gu_un ycd [1000, 1100, 1200] (gu_up G116 0 21 y121) G126 := hw125.2.1
            have hp129 := hw125.2.2
            have q130 : yMk 0 (G 0 7) (G 0 20).toInt (gu_up G116 0 21 y121) G126 := by have h9 := hp129; (try simp only [(show (gu_up G116 0 21 y121) 0 20 = (G 0 20) from (hU118 0 20 (by decide)).trans (hU103 0 20 (by decide)))] at h9); first | exact h9 | omega
            have m0 : 0 ≤ (G 12 ((G 0 20).toInt).toNat).toInt := (show (0 : Int) ≤ (G 12 ((G 0 20).toInt).toNat).toInt ∧ (G 12 ((G 0 20).toInt).toNat).toInt ≤ 80 from hI 12 _).1
            have m1 : 0 ≤ ((gu_up G116 0 21 y121) 12 ((G 0 20).toInt).toNat).toInt := (show (0 : Int) ≤ (G116 12 ((G 0 20).toInt).toNat).toInt ∧ (G116 12 ((G 0 20).toInt).toNat).toInt ≤ 80 from hI117 12 _).1
            have kp131 : yKp G G126 := yKp.tr (yKp.un yKp.rf (show gu_un ycd [9, 10, 22] G (gu_up G116 0 21 y121) from (gu_un.up (j := 0) (k := 21) (v := y121) (gu_un.tr (gu_un.tr gu_un.rf (gu_un.su hU103 rfl)) (gu_un.su hU118 rfl)) (show (22 : Nat) ∈ ([9, 10, 22] : List Nat) by decide))) rfl) (q130.kp (by omega) m1)
            have sg132 : ySg 2 (G 0 20).toInt G G126 := yMk.leaf q130 (by first | decide | omega) (by decide) (by omega) (show (gu_up G116 0 21 y121) 10 = G 10 from (show G116 10 = G101 10 from funext fun k_ => hU118 10 k_ (show (1000 : Nat) ∉ ([9, 10] : List Nat) by decide)).trans ((show G101 10 = G 10 from funext fun k_ => hU103 10 k_ (show (1000 : Nat) ∉ ([9, 10] : List Nat) by decide)))) (show (gu_up G116 0 21 y121) 11 = G 11 from (show G116 11 = G101 11 from funext fun k_ => hU118 11 k_ (show (1100 : Nat) ∉ ([9, 10] : List Nat) by decide)).trans ((show G101 11 = G 11 from funext fun k_ => hU103 11 k_ (show (1100 : Nat) ∉ ([9, 10] : List Nat) by decide)))) (show (gu_up G116 0 21 y121) 12 = G 12 from (show G116 12 = G101 12 from funext fun k_ => hU118 12 k_ (show (1200 : Nat) ∉ ([9, 10] : List Nat) by decide)).trans ((show G101 12 = G 12 from funext fun k_ => hU103 12 k_ (show (1200 : Nat) ∉ ([9, 10] : List Nat) by decide)))) m0 (by omega) (show (y121 : Int32).toInt = _ by omega)
            clear hp129 hw125
            refine g_aload_n F 2 dX13_readFactor_167 rfl rfl ?_
            refine u_callVv (k := 0) (n := 0) (b := a 0) (As := []) (st := []) F (fun sz => S_X13_scan l D K a G126  (by have e9_0_3 : G126 0 3 = (G 0 3) := (hU128 0 3 (by decide)).trans ((hU118 0 3 (by decide)).trans (hU103 0 3 (by decide))); have e9_0_5 : G126 0 5 = (G 0 5) := (hU128 0 5 (by decide)).trans ((hU118 0 5 (by decide)).trans (hU103 0 5 (by decide))); (try simp only [e9_0_3, e9_0_5, true_and, and_true]) <;> (first | omega | (simp only [Int32.reduceToInt, true_and, and_true, ne_eq, not_true_eq_false, false_and, or_false, false_or, true_or, or_true, false_implies] <;> omega))) hI127 sz) (cwV 0 hts (gT_left gX13_readFactor_X13_scan) rfl rfl rfl (by decide +kernel) ⟨Nat.le_of_ble_eq_true rfl, Nat.le_of_ble_eq_true rfl⟩) rfl 0 yc_0 rfl (Nat.le_of_ble_eq_true rfl) ⟨Nat.zero_le _, Nat.zero_le _⟩ dX13_readFactor_168 (fun G135 hw134 => ?_)
            have hI136 : yI G135 := hw134.1
            have hU137 : gu_un ycd [5, 6, 7, 8] G126 G135 := hw134.2.1
            have hp138 := hw134.2.2
            have b139 : (0 : Int) ≤ (G135 0 5).toInt ∧ (G135 0 5).toInt ≤ 1000 := hI136 0 5
            have b140 : (0 : Int) ≤ (G135 0 4).toInt ∧ (G135 0 4).toInt ≤ 1000 := hI136 0 4
            have q141 : ((G135 0 5).toInt ≤ (G 0 3).toInt ∧ (G 0 5).toInt ≤ (G135 0 4).toInt ∧ (G135 0 4).toInt ≤ (G135 0 5).toInt) := by have h9 := hp138.1; (try simp only [(show G126 0 3 = (G 0 3) from (hU128 0 3 (by decide)).trans ((hU118 0 3 (by decide)).trans (hU103 0 3 (by decide)))), (show G126 0 5 = (G 0 5) from (hU128 0 5 (by decide)).trans ((hU118 0 5 (by decide)).trans (hU103 0 5 (by decide))))] at h9); first | exact h9 | omega
            have b142 : (0 : Int) ≤ (G135 0 6).toInt ∧ (G135 0 6).toInt ≤ 4 := hI136 0 6
            have q143 : (((G135 0 6).toInt = 0 ∧ (G135 0 4).toInt = (G 0 3).toInt) ∨ ((G135 0 6).toInt ≠ 0 ∧ (G135 0 4).toInt < (G135 0 5).toInt)) := by have h9 := hp138.2.1; (try simp only [(show G126 0 3 = (G 0 3) from (hU128 0 3 (by decide)).trans ((hU118 0 3 (by decide)).trans (hU103 0 3 (by decide))))] at h9); first | exact h9 | omega
            have b144 : (0 : Int) ≤ (G135 0 7).toInt ∧ (G135 0 7).toInt ≤ 9999 := hI136 0 7
            have q145 : tTok (G 2) (G 0 3).toInt (G 0 5).toInt (G135 0 6).toInt (G135 0 4).toInt (G135 0 7).toInt (G135 0 5).toInt := by have h9 := hp138.2.2; (try simp only [(show G126 0 3 = (G 0 3) from (hU128 0 3 (by decide)).trans ((hU118 0 3 (by decide)).trans (hU103 0 3 (by decide)))), (show G126 0 5 = (G 0 5) from (hU128 0 5 (by decide)).trans ((hU118 0 5 (by decide)).trans (hU103 0 5 (by decide)))), (show G126 2 = (G 2) from (show G126 2 = (gu_up G116 0 21 y121) 2 from funext fun k_ => hU128 2 k_ (show (200 : Nat) ∉ ([1000, 1100, 1200] : List Nat) by decide)).trans ((show G116 2 = G101 2 from funext fun k_ => hU118 2 k_ (show (200 : Nat) ∉ ([9, 10] : List Nat) by decide)).trans ((show G101 2 = G 2 from funext fun k_ => hU103 2 k_ (show (200 : Nat) ∉ ([9, 10] : List Nat) by decide)))))] at h9); first | exact h9 | omega
            clear hp138 hw134
            exact ux_vret F hA hQ hr G135 (⟨hI136, (gu_un.tr (gu_un.tr (gu_un.up (j := 0) (k := 21) (v := y121) (gu_un.tr (gu_un.tr gu_un.rf (gu_un.su hU103 rfl)) (gu_un.su hU118 rfl)) (show (22 : Nat) ∈ ([5, 6, 7, 8, 9, 10, 22, 1000, 1100, 1200] : List Nat) by decide)) (gu_un.su hU128 rfl)) (gu_un.su hU137 rfl)), (by show ((G135 0 5).toInt ≤ (G 0 3).toInt ∧ (G 0 5).toInt ≤ (G135 0 5).toInt ∧ ((G135 0 6).toInt = 0 ∨ (G 0 5).toInt < (G135 0 5).toInt)); (first | omega | (simp only [Int32.reduceToInt, true_and, and_true, ne_eq, not_true_eq_false, false_and, or_false, false_or, true_or, or_true, false_implies] <;> omega))), ((sg132.un (show gu_un ycd [5, 6, 7, 8] G126 G135 from (gu_un.tr gu_un.rf (gu_un.su hU137 rfl))) rfl rfl)), ((yKp.un kp131 (show gu_un ycd [5, 6, 7, 8] G126 G135 from (gu_un.tr gu_un.rf (gu_un.su hU137 rfl))) rfl)), (by have h8 := q41; first | exact yF_num (show yStp [9, 10, 22, 1000, 1100, 1200] G G126 G135 from ⟨(show gu_un ycd [9, 10, 22, 1000, 1100, 1200] G G126 from (gu_un.tr (gu_un.up (j := 0) (k := 21) (v := y121) (gu_un.tr (gu_un.tr gu_un.rf (gu_un.su hU103 rfl)) (gu_un.su hU118 rfl)) (show (22 : Nat) ∈ ([9, 10, 22, 1000, 1100, 1200] : List Nat) by decide)) (gu_un.su hU128 rfl))), rfl, by (try rw [show G126 2 = (G 2) from (show G126 2 = (gu_up G116 0 21 y121) 2 from funext fun k_ => hU128 2 k_ (show (200 : Nat) ∉ ([1000, 1100, 1200] : List Nat) by decide)).trans ((show G116 2 = G101 2 from funext fun k_ => hU118 2 k_ (show (200 : Nat) ∉ ([9, 10] : List Nat) by decide)).trans ((show G101 2 = G 2 from funext fun k_ => hU103 2 k_ (show (200 : Nat) ∉ ([9, 10] : List Nat) by decide))))]); (try rw [show G126 0 3 = (G 0 3) from (hU128 0 3 (by decide)).trans ((hU118 0 3 (by decide)).trans (hU103 0 3 (by decide)))]); (try rw [show G126 0 5 = (G 0 5) from (hU128 0 5 (by decide)).trans ((hU118 0 5 (by decide)).trans (hU103 0 5 (by decide)))]); exact q145, funext fun k_ => hU137 2 k_ (by simp [ycd]), hU137 0 3 (by decide)⟩) (by omega) (by omega) (show (G135 0 21).toInt = (G 0 21).toInt + 1 by rw [show G135 0 21 = y121 from (hU137 0 21 (by decide)).trans (hU128 0 21 (by decide))]; omega) (by rw [show mL (G 0 20).toInt G135 = mL (G 0 20).toInt G126 from (mL_un (show gu_un ycd [5, 6, 7, 8] G126 G135 from (gu_un.tr gu_un.rf (gu_un.su hU137 rfl))) rfl)]; rw [q130.ml (by omega) (show (0 : Int) ≤ (G116 12 ((G 0 20).toInt).toNat).toInt from (hI117 12 _).1), mEn_0 (by decide)] <;> (rw [show mL (G 0 20).toInt (gu_up G116 0 21 y121) = mL (G 0 20).toInt G from (mL_un (show gu_un ycd [9, 10, 22] G (gu_up G116 0 21 y121) from (gu_un.up (j := 0) (k := 21) (v := y121) (gu_un.tr (gu_un.tr gu_un.rf (gu_un.su hU103 rfl)) (gu_un.su hU118 rfl)) (show (22 : Nat) ∈ ([9, 10, 22] : List Nat) by decide))) rfl)])) | exact yF_let (show (((((G 0 20).toInt - 3).toNat : Nat)) : Int) = (G 0 20).toInt - 3 by omega) (show yStp [9, 10, 22, 1000, 1100, 1200] G G126 G135 from ⟨(show gu_un ycd [9, 10, 22, 1000, 1100, 1200] G G126 from (gu_un.tr (gu_un.up (j := 0) (k := 21) (v := y121) (gu_un.tr (gu_un.tr gu_un.rf (gu_un.su hU103 rfl)) (gu_un.su hU118 rfl)) (show (22 : Nat) ∈ ([9, 10, 22, 1000, 1100, 1200] : List Nat) by decide)) (gu_un.su hU128 rfl))), rfl, by (try rw [show G126 2 = (G 2) from (show G126 2 = (gu_up G116 0 21 y121) 2 from funext fun k_ => hU128 2 k_ (show (200 : Nat) ∉ ([1000, 1100, 1200] : List Nat) by decide)).trans ((show G116 2 = G101 2 from funext fun k_ => hU118 2 k_ (show (200 : Nat) ∉ ([9, 10] : List Nat) by decide)).trans ((show G101 2 = G 2 from funext fun k_ => hU103 2 k_ (show (200 : Nat) ∉ ([9, 10] : List Nat) by decide))))]); (try rw [show G126 0 3 = (G 0 3) from (hU128 0 3 (by decide)).trans ((hU118 0 3 (by decide)).trans (hU103 0 3 (by decide)))]); (try rw [show G126 0 5 = (G 0 5) from (hU128 0 5 (by decide)).trans ((hU118 0 5 (by decide)).trans (hU103 0 5 (by decide)))]); exact q145, funext fun k_ => hU137 2 k_ (by simp [ycd]), hU137 0 3 (by decide)⟩) (by unfold yLt at h8; split at h8 <;> omega) (by rw [← q41]; omega) (by omega) (show (G135 0 21).toInt = (G 0 21).toInt + 1 by rw [show G135 0 21 = y121 from (hU137 0 21 (by decide)).trans (hU128 0 21 (by decide))]; omega) (by rw [← q41]; exact (by rw [show mL (G 0 20).toInt G135 = mL (G 0 20).toInt G126 from (mL_un (show gu_un ycd [5, 6, 7, 8] G126 G135 from (gu_un.tr gu_un.rf (gu_un.su hU137 rfl))) rfl)]; rw [q130.ml (by omega) (show (0 : Int) ≤ (G116 12 ((G 0 20).toInt).toNat).toInt from (hI117 12 _).1), mEn_1 (by decide) (by omega)] <;> (rw [show mL (G 0 20).toInt (gu_up G116 0 21 y121) = mL (G 0 20).toInt G from (mL_un (show gu_un ycd [9, 10, 22] G (gu_up G116 0 21 y121) from (gu_un.up (j := 0) (k := 21) (v := y121) (gu_un.tr (gu_un.tr gu_un.rf (gu_un.su hU103 rfl)) (gu_un.su hU118 rfl)) (show (22 : Nat) ∈ ([9, 10, 22] : List Nat) by decide))) rfl)]))))⟩) rfl rfl dX13_readFactor_171

theorem dX13_readProduct_0 : decode cX13_readProduct 0 = .ok (.aload_n 0, 1) := by decide +kernel
theorem dX13_readProduct_1 : decode cX13_readProduct 1 = .ok (.iload_n 1, 1) := by decide +kernel
theorem dX13_readProduct_2 : decode cX13_readProduct 2 = .ok (.invokevirtual 113, 3) := by decide +kernel
theorem dX13_readProduct_5 : decode cX13_readProduct 5 = .ok (.aload_n 0, 1) := by decide +kernel
theorem dX13_readProduct_6 : decode cX13_readProduct 6 = .ok (.bipush 42, 2) := by decide +kernel
theorem dX13_readProduct_8 : decode cX13_readProduct 8 = .ok (.invokevirtual 110, 3) := by decide +kernel
theorem dX13_readProduct_11 : decode cX13_readProduct 11 = .ok (.ifCond .ne 21, 3) := by decide +kernel
theorem dX13_readProduct_14 : decode cX13_readProduct 14 = .ok (.aload_n 0, 1) := by decide +kernel
theorem dX13_readProduct_15 : decode cX13_readProduct 15 = .ok (.bipush 47, 2) := by decide +kernel
theorem dX13_readProduct_17 : decode cX13_readProduct 17 = .ok (.invokevirtual 110, 3) := by decide +kernel
theorem dX13_readProduct_20 : decode cX13_readProduct 20 = .ok (.ifCond .ne 12, 3) := by decide +kernel
theorem dX13_readProduct_23 : decode cX13_readProduct 23 = .ok (.aload_n 0, 1) := by decide +kernel
theorem dX13_readProduct_24 : decode cX13_readProduct 24 = .ok (.bipush 37, 2) := by decide +kernel
theorem dX13_readProduct_26 : decode cX13_readProduct 26 = .ok (.invokevirtual 110, 3) := by decide +kernel
theorem dX13_readProduct_29 : decode cX13_readProduct 29 = .ok (.ifCond .eq 26, 3) := by decide +kernel
theorem dX13_readProduct_32 : decode cX13_readProduct 32 = .ok (.aload_n 0, 1) := by decide +kernel
theorem dX13_readProduct_33 : decode cX13_readProduct 33 = .ok (.getfield 41, 3) := by decide +kernel
theorem dX13_readProduct_36 : decode cX13_readProduct 36 = .ok (.istore_n 2, 1) := by decide +kernel
theorem dX13_readProduct_37 : decode cX13_readProduct 37 = .ok (.aload_n 0, 1) := by decide +kernel
theorem dX13_readProduct_38 : decode cX13_readProduct 38 = .ok (.invokevirtual 69, 3) := by decide +kernel
theorem dX13_readProduct_41 : decode cX13_readProduct 41 = .ok (.aload_n 0, 1) := by decide +kernel
theorem dX13_readProduct_42 : decode cX13_readProduct 42 = .ok (.iload_n 1, 1) := by decide +kernel
theorem dX13_readProduct_43 : decode cX13_readProduct 43 = .ok (.invokevirtual 113, 3) := by decide +kernel
theorem dX13_readProduct_46 : decode cX13_readProduct 46 = .ok (.aload_n 0, 1) := by decide +kernel
theorem dX13_readProduct_47 : decode cX13_readProduct 47 = .ok (.iconst 2, 1) := by decide +kernel
theorem dX13_readProduct_48 : decode cX13_readProduct 48 = .ok (.iload_n 2, 1) := by decide +kernel
theorem dX13_readProduct_49 : decode cX13_readProduct 49 = .ok (.invokevirtual 92, 3) := by decide +kernel
theorem dX13_readProduct_52 : decode cX13_readProduct 52 = .ok (.goto (-47), 3) := by decide +kernel
theorem dX13_readProduct_55 : decode cX13_readProduct 55 = .ok (.return_, 1) := by decide +kernel
set_option maxRecDepth 20000 in
theorem ggX13_readProduct_X13_isSign : GoodIn wsX13_readProduct wsX13_isSign := goodIn_r _ [9, 10, 1, 107, 108, 109, 110, 111, 112, 113, 114, 115, 116, 117, 118, 119, 120, 121, 122, 123, 124, 125, 126, 127, 128, 129, 130, 131, 132, 133, 134, 135, 136, 137, 138, 139, 140, 141, 142, 143, 144, 145, 146, 147, 148, 149, 150, 151, 152, 153, 154, 155, 156, 157, 158, 159, 160, 161, 162, 163, 164, 165, 166, 167, 168, 169, 170, 171, 172, 173, 174, 175, 176, 177, 178, 179] rfl (by decide +kernel)
set_option maxRecDepth 20000 in
theorem gX13_readProduct_X13_isSign : GoodIn wsX13_readProduct (wsV RX13 110 RX13 yX13_isSign wsX13_isSign) := goodIn_app (goodIn_of _ (by decide +kernel)) ggX13_readProduct_X13_isSign
set_option maxRecDepth 20000 in
theorem ggX13_readProduct_X13_mark : GoodIn wsX13_readProduct wsX13_mark := goodIn_r _ [32, 33, 34, 35, 36, 107, 108, 109, 110, 111, 112, 113, 114, 115, 116, 117, 118, 119, 120, 121, 122, 123, 124, 125, 126, 127, 128, 129, 130, 131, 132, 133, 134, 135, 136, 137, 138, 139, 140, 141, 142, 143, 144, 145, 146, 147, 148, 149, 150, 151, 152, 153, 154, 155, 156, 157, 158, 159, 160, 161, 162, 163, 164, 165, 166, 167, 168, 169, 170, 171, 172, 173, 174, 175, 176, 177, 178, 179] rfl (by decide +kernel)
set_option maxRecDepth 20000 in
theorem gX13_readProduct_X13_mark : GoodIn wsX13_readProduct (wsV RX13 92 RX13 yX13_mark wsX13_mark) := goodIn_app (goodIn_of _ (by decide +kernel)) ggX13_readProduct_X13_mark
set_option maxRecDepth 20000 in
theorem ggX13_readProduct_X13_readFactor : GoodIn wsX13_readProduct wsX13_readFactor := goodIn_r _ [37, 10, 38, 1, 6, 7, 8, 5, 9, 39, 40, 41, 42, 11, 12, 13, 14, 15, 16, 17, 18, 19, 20, 21, 22, 23, 24, 25, 26, 27, 28, 2, 3, 4, 29, 30, 31, 32, 33, 34, 35, 36, 43, 44, 45, 46, 47, 48, 49, 50, 51, 52, 53, 54, 55, 56, 57, 58, 59, 60, 61, 62, 63, 64, 65, 66, 67, 68, 69, 70, 71, 72, 73, 74, 75, 76, 77, 78, 79, 80, 81, 82, 83, 84, 85, 86, 87, 88, 89, 90, 91, 92, 93, 94, 95, 96, 97, 98, 99, 100, 101, 102, 0, 103, 104, 105, 106, 107, 108, 109, 110, 111, 112, 113, 114, 115, 116, 117, 118, 119, 120, 121, 122, 123, 124, 125, 126, 127, 128, 129, 130, 131, 132, 133, 134, 135, 136, 137, 138, 139, 140, 141, 142, 143, 144, 145, 146, 147, 148, 149, 150, 151, 152, 153, 154, 155, 156, 157, 158, 159, 160, 161, 162, 163, 164, 165, 166, 167, 168, 169, 170, 171, 172, 173, 174, 175, 176, 177, 178, 179] rfl (by decide +kernel)
set_option maxRecDepth 20000 in
theorem gX13_readProduct_X13_readFactor : GoodIn wsX13_readProduct (wsV RX13 113 RX13 yX13_readFactor wsX13_readFactor) := goodIn_app (goodIn_of _ (by decide +kernel)) ggX13_readProduct_X13_readFactor
set_option maxRecDepth 20000 in
theorem ggX13_readProduct_X13_scan : GoodIn wsX13_readProduct wsX13_scan := goodIn_r _ [14, 15, 16, 17, 18, 10, 1, 19, 20, 21, 5, 22, 23, 24, 25, 26, 27, 28, 107, 108, 109, 110, 111, 112, 113, 114, 115, 116, 117, 118, 119, 120, 121, 122, 123, 124, 125, 126, 127, 128, 129, 130, 131, 132, 133, 134, 135, 136, 137, 138, 139, 140, 141, 142, 143, 144, 145, 146, 147, 148, 149, 150, 151, 152, 153, 154, 155, 156, 157, 158, 159, 160, 161, 162, 163, 164, 165, 166, 167, 168, 169, 170, 171, 172, 173, 174, 175, 176, 177, 178, 179] rfl (by decide +kernel)
set_option maxRecDepth 20000 in
theorem gX13_readProduct_X13_scan : GoodIn wsX13_readProduct (wsV RX13 69 RX13 yX13_scan wsX13_scan) := goodIn_app (goodIn_of _ (by decide +kernel)) ggX13_readProduct_X13_scan
def wsT_X13_readProduct : List Cond := wsX13_readProduct ++ wsT_nx
theorem gT_X13_readProduct_X13_readFactor : GoodIn wsT_X13_readProduct (wsV RX13 113 RX13 yX13_readFactor wsT_X13_readFactor) := gT_call gX13_readProduct_X13_readFactor gT_nx
set_option maxHeartbeats 4000000 in
set_option maxRecDepth 100000 in
theorem S_X13_readProduct_v4 (l : Launch) (D : va_G) (K : Nat → ClassId) (a : Nat → Nat) (G : gS) (qs vs : Nat → Nat) (pb : ((G 0 5).toInt ≤ (G 0 3).toInt)) (s35 : (3 ≤ (G 0 20).toInt)) (m6 : ((G 12 ((G 0 20).toInt).toNat).toInt ≤ 6 * (G 0 21).toInt)) (hI : yI G) (sz : Nat) : KxvZ (yZ qs vs) l yX13_readProduct wsT_X13_readProduct 8 192 D [.ref (a 0), .int 4] (yW K a G) (tK K) sz (fun (G' : gS) => (yI G') ∧ (gu_un ycd [5, 6, 7, 8, 9, 10, 22, 1000, 1100, 1200] G G') ∧ (((G' 0 5).toInt ≤ (G 0 3).toInt ∧ (G 0 5).toInt ≤ (G' 0 5).toInt ∧ ((G' 0 6).toInt = 0 ∨ (G 0 5).toInt < (G' 0 5).toInt))) ∧ (ySg 2 (G 0 20).toInt G G') ∧ (yKp G G') ∧ (ySim cP ((G 0 20).toInt - 3).toNat (qW 4 (G 0 21).toInt (mL (G 0 20).toInt G)) (qD 4 (G' 0 21).toInt (mL (G 0 20).toInt G')) G G') ∧ ((¬ ((G' 0 6).toInt = 3 ∧ xsg (G' 0 7).toInt = 2)))) (fun (G' : gS) => (yI G') ∧ (gu_un ycd [5, 6, 7, 8, 9, 10, 22, 1000, 1100, 1200] G G') ∧ (yKp G G') ∧ (yThr cP ((G 0 20).toInt - 3).toNat (qW 4 (G 0 21).toInt (mL (G 0 20).toInt G)) G G') ∧ (((G' 0 8).toInt ≠ 0))) (a 1) (fun (G' : gS) => (yW K a G')) := by
  unfold KxvZ
  refine gxz_ofW (cc := cX13_readProduct) (lv := [(0, .ref (a 0)), (1, .int 4)]) (by decide) rfl (Nat.le_of_ble_eq_true rfl) rfl ?_
  intro p e s m args below meth c A Q hA hQ hZ F hr hex
  have hts := F.2.2.2.2.1
  have w_0 : (Cond.fieldLink RX13 41 "QuietCutModel" "value" "I").before args s = true := hts _ (List.mem_of_getElem? (i := 1) rfl)
  have i_X13 : ∀ w ∈ u_ws RX13 TX13 73, w ∈ wsT_X13_readProduct := fun w h => List.mem_append_left _ ((show ∀ w ∈ u_ws RX13 TX13 73, w ∈ wsX13_readProduct from fun _ h => List.mem_cons_of_mem _ (List.mem_append_right _ h)) w h)
  have b1 : (0 : Int) ≤ (G 0 3).toInt ∧ (G 0 3).toInt ≤ 1000 := hI 0 3
  have b2 : (0 : Int) ≤ (G 0 5).toInt ∧ (G 0 5).toInt ≤ 1000 := hI 0 5
  have b3 : (0 : Int) ≤ (G 0 6).toInt ∧ (G 0 6).toInt ≤ 4 := hI 0 6
  have b4 : (0 : Int) ≤ (G 0 20).toInt ∧ (G 0 20).toInt ≤ 5 := hI 0 20
  have b5 : (0 : Int) ≤ (G 0 21).toInt ∧ (G 0 21).toInt ≤ 12 := hI 0 21
  have J_5 : ∀ (fuel : Nat) (Gj5 : gS), (8 * (1000 - (Gj5 0 5).toInt) + (Gj5 0 6).toInt).toNat < fuel → (yI Gj5) → (gu_un ycd [5, 6, 7, 8, 9, 10, 22, 1000, 1100, 1200] G Gj5) → (ySg 2 (G 0 20).toInt G Gj5) → (yKp G Gj5) → (ySim cP ((G 0 20).toInt - 3).toNat (qW 4 (G 0 21).toInt (mL (G 0 20).toInt G)) (qD 4 (Gj5 0 21).toInt (mL (G 0 20).toInt Gj5)) G Gj5) → (((Gj5 0 5).toInt ≤ (G 0 3).toInt)) → (((G 0 5).toInt ≤ (Gj5 0 5).toInt ∧ ((Gj5 0 6).toInt = 0 ∨ (G 0 5).toInt < (Gj5 0 5).toInt))) → gG p l e (gR 8 0 0 192) s m args below meth c D A 3 Q 0 0 (yW K a Gj5) (tK K) [(0, .ref (a 0)), (1, .int 4)] 5 [] := by
    intro fuel
    induction fuel with
    | zero => intro Gj5 hm; exact absurd hm (Nat.not_lt_zero _)
    | succ fuel_5 ih_5 =>
      intro Gj5 hm_5 jI5 jU5 sg5 kp5 pf5 bl_5 bm_5
      have J_32 : ∀ (_ : Unit), (((Gj5 0 6).toInt = 3 ∧ (Gj5 0 7).toInt ≠ 33 ∧ xsg (Gj5 0 7).toInt = 2)) → (((Gj5 0 5).toInt ≤ (G 0 3).toInt)) → (((G 0 5).toInt ≤ (Gj5 0 5).toInt ∧ ((Gj5 0 6).toInt = 0 ∨ (G 0 5).toInt < (Gj5 0 5).toInt))) → gG p l e (gR 8 0 0 192) s m args below meth c D A 3 Q 0 0 (yW K a Gj5) (tK K) [(0, .ref (a 0)), (1, .int 4)] 32 [] := by
        intro _ sn bl_32 bm_32
        refine g_aload_n F 0 dX13_readProduct_32 rfl rfl ?_
        refine yg_0_7 F i_X13 w_0 dX13_readProduct_33 (Gj5 0 7) (rfl) ?_
        refine g_istore_n F [(2, .int (Gj5 0 7)), (0, .ref (a 0)), (1, .int 4)] dX13_readProduct_36 rfl (by decide) rfl ?_
        refine g_aload_n F 1 dX13_readProduct_37 rfl rfl ?_
        have b6 : (0 : Int) ≤ (Gj5 0 5).toInt ∧ (Gj5 0 5).toInt ≤ 1000 := jI5 0 5
        refine u_callVv (k := 0) (n := 0) (b := a 0) (As := []) (st := []) F (fun sz => S_X13_scan l D K a Gj5  (by have e9_0_3 : Gj5 0 3 = (G 0 3) := jU5 0 3 (by decide); (try simp only [e9_0_3, true_and, and_true]) <;> (first | omega | (simp only [Int32.reduceToInt, true_and, and_true, ne_eq, not_true_eq_false, false_and, or_false, false_or, true_or, or_true, false_implies] <;> omega))) jI5 sz) (cwV 0 hts (gT_left gX13_readProduct_X13_scan) rfl rfl rfl (by decide +kernel) ⟨Nat.le_of_ble_eq_true rfl, Nat.le_of_ble_eq_true rfl⟩) rfl 0 yc_0 rfl (Nat.le_of_ble_eq_true rfl) ⟨Nat.zero_le _, Nat.zero_le _⟩ dX13_readProduct_38 (fun G9 hw8 => ?_)
        have hI10 : yI G9 := hw8.1
        have hU11 : gu_un ycd [5, 6, 7, 8] Gj5 G9 := hw8.2.1
        have hp12 := hw8.2.2
        have b13 : (0 : Int) ≤ (G9 0 5).toInt ∧ (G9 0 5).toInt ≤ 1000 := hI10 0 5
        have b14 : (0 : Int) ≤ (G9 0 4).toInt ∧ (G9 0 4).toInt ≤ 1000 := hI10 0 4
        have q15 : ((G9 0 5).toInt ≤ (G 0 3).toInt ∧ (Gj5 0 5).toInt ≤ (G9 0 4).toInt ∧ (G9 0 4).toInt ≤ (G9 0 5).toInt) := by have h9 := hp12.1; (try simp only [(show Gj5 0 3 = (G 0 3) from jU5 0 3 (by decide))] at h9); first | exact h9 | omega
        have b16 : (0 : Int) ≤ (G9 0 6).toInt ∧ (G9 0 6).toInt ≤ 4 := hI10 0 6
        have q17 : (((G9 0 6).toInt = 0 ∧ (G9 0 4).toInt = (G 0 3).toInt) ∨ ((G9 0 6).toInt ≠ 0 ∧ (G9 0 4).toInt < (G9 0 5).toInt)) := by have h9 := hp12.2.1; (try simp only [(show Gj5 0 3 = (G 0 3) from jU5 0 3 (by decide))] at h9); first | exact h9 | omega
        have b18 : (0 : Int) ≤ (G9 0 7).toInt ∧ (G9 0 7).toInt ≤ 9999 := hI10 0 7
        have q19 : tTok (G 2) (G 0 3).toInt (Gj5 0 5).toInt (G9 0 6).toInt (G9 0 4).toInt (G9 0 7).toInt (G9 0 5).toInt := by have h9 := hp12.2.2; (try simp only [(show Gj5 0 3 = (G 0 3) from jU5 0 3 (by decide)), (show Gj5 2 = (G 2) from (show Gj5 2 = G 2 from funext fun k_ => jU5 2 k_ (show (200 : Nat) ∉ ([5, 6, 7, 8, 9, 10, 22, 1000, 1100, 1200] : List Nat) by decide)))] at h9); first | exact h9 | omega
        clear hp12 hw8
        refine g_aload_n F 1 dX13_readProduct_41 rfl rfl ?_
        refine g_iload_n F 2 dX13_readProduct_42 rfl rfl ?_
        refine uxz_callvv (k := 0) (n := 0) (b := a 0) (As := [.int 4]) (st := []) F yZ_st hZ (fun sz => S_X13_readFactor_v4 l D K a G9 qs vs  (by have e9_0_3 : G9 0 3 = (G 0 3) := (hU11 0 3 (by decide)).trans (jU5 0 3 (by decide)); (try simp only [e9_0_3, true_and, and_true]) <;> (first | omega | (simp only [Int32.reduceToInt, true_and, and_true, ne_eq, not_true_eq_false, false_and, or_false, false_or, true_or, or_true, false_implies] <;> omega))) (by have e9_0_20 : G9 0 20 = (G 0 20) := (hU11 0 20 (by decide)).trans (jU5 0 20 (by decide)); (try simp only [e9_0_20, true_and, and_true]) <;> (first | omega | (simp only [Int32.reduceToInt, true_and, and_true, ne_eq, not_true_eq_false, false_and, or_false, false_or, true_or, or_true, false_implies] <;> omega))) (by rw [show G9 0 20 = G 0 20 from (hU11 0 20 (by decide)).trans (jU5 0 20 (by decide))]; exact (ySg.m6 (c := 2) (sg5.un (show gu_un ycd [5, 6, 7, 8] Gj5 G9 from (gu_un.tr gu_un.rf (gu_un.su hU11 rfl))) rfl rfl) (by decide) (by decide) m6)) hI10 sz) (cwV 1 hts gT_X13_readProduct_X13_readFactor rfl rfl rfl (by decide +kernel) ⟨Nat.le_of_ble_eq_true rfl, Nat.le_of_ble_eq_true rfl⟩) rfl 0 yc_0 rfl (Nat.le_of_ble_eq_true rfl) ⟨Nat.zero_le _, Nat.zero_le _⟩ dX13_readProduct_43 hex hA hQ (fun u9 h9 => ⟨h9.1, gu_un.tr (gu_un.tr (gu_un.tr gu_un.rf (gu_un.su jU5 rfl)) (gu_un.su hU11 rfl)) (gu_un.su h9.2.1 rfl), (yKp.tr (yKp.un kp5 (show gu_un ycd [5, 6, 7, 8] Gj5 G9 from (gu_un.tr gu_un.rf (gu_un.su hU11 rfl))) rfl) h9.2.2.1), (by have h9 := h9.2.2.2.1; (try rw [show G9 0 20 = (G 0 20) from (hU11 0 20 (by decide)).trans (jU5 0 20 (by decide))] at h9); (try rw [show G9 0 21 = (Gj5 0 21) from hU11 0 21 (by decide)] at h9); exact yP_nextT (yP_sign (v := (Gj5 0 7).toInt) pf5 (show yStp [] Gj5 Gj5 G9 from ⟨(show gu_un ycd [] Gj5 Gj5 from gu_un.rf), rfl, by (try rw [show Gj5 2 = (G 2) from (show Gj5 2 = G 2 from funext fun k_ => jU5 2 k_ (show (200 : Nat) ∉ ([5, 6, 7, 8, 9, 10, 22, 1000, 1100, 1200] : List Nat) by decide))]); (try rw [show Gj5 0 3 = (G 0 3) from jU5 0 3 (by decide)]); exact q19, funext fun k_ => hU11 2 k_ (by simp [ycd]), hU11 0 3 (by decide)⟩) (by omega) rfl sn.2.2) h9 rfl (mL_un (show gu_un ycd [5, 6, 7, 8] Gj5 G9 from (gu_un.tr gu_un.rf (gu_un.su hU11 rfl))) rfl)), (h9.2.2.2.2)⟩) (fun G22 hw21 => ?_)
        have hI23 : yI G22 := hw21.1
        have hU24 : gu_un ycd [5, 6, 7, 8, 9, 10, 22, 1000, 1100, 1200] G9 G22 := hw21.2.1
        have hp25 := hw21.2.2
        have b26 : (0 : Int) ≤ (G22 0 5).toInt ∧ (G22 0 5).toInt ≤ 1000 := hI23 0 5
        have b27 : (0 : Int) ≤ (G22 0 6).toInt ∧ (G22 0 6).toInt ≤ 4 := hI23 0 6
        have q28 : ((G22 0 5).toInt ≤ (G 0 3).toInt ∧ (G9 0 5).toInt ≤ (G22 0 5).toInt ∧ ((G22 0 6).toInt = 0 ∨ (G9 0 5).toInt < (G22 0 5).toInt)) := by have h9 := hp25.1; (try simp only [(show G9 0 3 = (G 0 3) from (hU11 0 3 (by decide)).trans (jU5 0 3 (by decide)))] at h9); first | exact h9 | omega
        have q29 : ySg 2 (G 0 20).toInt G9 G22 := by have h9 := hp25.2.1; (try simp only [(show G9 0 20 = (G 0 20) from (hU11 0 20 (by decide)).trans (jU5 0 20 (by decide)))] at h9); first | exact h9 | omega
        have q30 : yKp G9 G22 := hp25.2.2.1
        have b31 : (0 : Int) ≤ (Gj5 0 21).toInt ∧ (Gj5 0 21).toInt ≤ 12 := jI5 0 21
        have b32 : (0 : Int) ≤ (G22 0 21).toInt ∧ (G22 0 21).toInt ≤ 12 := hI23 0 21
        have q33 : ySim cA ((G 0 20).toInt - 3).toNat (qW 4 (Gj5 0 21).toInt (mL (G 0 20).toInt G9)) (qF 4 (G22 0 21).toInt (mL (G 0 20).toInt G22)) G9 G22 := by have h9 := hp25.2.2.2; (try simp only [(show G9 0 20 = (G 0 20) from (hU11 0 20 (by decide)).trans (jU5 0 20 (by decide))), (show G9 0 21 = (Gj5 0 21) from hU11 0 21 (by decide)), (show G9 0 20 = (G 0 20) from (hU11 0 20 (by decide)).trans (jU5 0 20 (by decide))), (show G9 0 20 = (G 0 20) from (hU11 0 20 (by decide)).trans (jU5 0 20 (by decide)))] at h9); first | exact h9 | omega
        have kp34 : yKp G G22 := yKp.tr (yKp.un kp5 (show gu_un ycd [5, 6, 7, 8] Gj5 G9 from (gu_un.tr gu_un.rf (gu_un.su hU11 rfl))) rfl) q30
        clear hp25 hw21
        refine g_aload_n F 1 dX13_readProduct_46 rfl rfl ?_
        refine g_iconst F 2 dX13_readProduct_47 (by decide) ?_
        refine g_iload_n F 0 dX13_readProduct_48 rfl rfl ?_
        have b35 : (0 : Int) ≤ (Gj5 0 7).toInt ∧ (Gj5 0 7).toInt ≤ 9999 := jI5 0 7
        refine u_callVv (k := 0) (n := 0) (b := a 0) (As := [.int 2, .int (Gj5 0 7)]) (st := []) F (fun sz => S_X13_mark l D K a G22 2 2 (Gj5 0 7) (Gj5 0 7).toInt rfl (by decide) rfl (by omega) (by rw [show G22 0 20 = G 0 20 from (hU24 0 20 (by decide)).trans ((hU11 0 20 (by decide)).trans (jU5 0 20 (by decide)))]; have h9 : (G22 12 ((G 0 20).toInt).toNat).toInt ≤ 6 * (G22 0 21).toInt := (ySg.m6 (c := 2) q29 (by decide) (by decide) (ySg.m6 (c := 2) (sg5.un (show gu_un ycd [5, 6, 7, 8] Gj5 G9 from (gu_un.tr gu_un.rf (gu_un.su hU11 rfl))) rfl rfl) (by decide) (by decide) m6)); have h8 : (0 : Int) ≤ (G22 0 21).toInt ∧ (G22 0 21).toInt ≤ 12 := hI23 0 21; show (G22 12 ((G 0 20).toInt).toNat).toInt ≤ 79; omega) hI23 sz) (cwV 2 hts (gT_left gX13_readProduct_X13_mark) rfl rfl rfl (by decide +kernel) ⟨Nat.le_of_ble_eq_true rfl, Nat.le_of_ble_eq_true rfl⟩) rfl 0 yc_0 rfl (Nat.le_of_ble_eq_true rfl) ⟨Nat.zero_le _, Nat.zero_le _⟩ dX13_readProduct_49 (fun G38 hw37 => ?_)
        have hI39 : yI G38 := hw37.1
        have hU40 : gu_un ycd [1000, 1100, 1200] G22 G38 := hw37.2.1
        have hp41 := hw37.2.2
        have q42 : yMk 2 (Gj5 0 7) (G 0 20).toInt G22 G38 := by have h9 := hp41; (try simp only [(show G22 0 20 = (G 0 20) from (hU24 0 20 (by decide)).trans ((hU11 0 20 (by decide)).trans (jU5 0 20 (by decide))))] at h9); first | exact h9 | omega
        have m0 : 0 ≤ (G 12 ((G 0 20).toInt).toNat).toInt := (show (0 : Int) ≤ (G 12 ((G 0 20).toInt).toNat).toInt ∧ (G 12 ((G 0 20).toInt).toNat).toInt ≤ 80 from hI 12 _).1
        have m1 : 0 ≤ (G22 12 ((G 0 20).toInt).toNat).toInt := (show (0 : Int) ≤ (G22 12 ((G 0 20).toInt).toNat).toInt ∧ (G22 12 ((G 0 20).toInt).toNat).toInt ≤ 80 from hI23 12 _).1
        have kp43 : yKp G G38 := yKp.tr kp34 (q42.kp (by omega) m1)
        have sg44 : ySg 2 (G 0 20).toInt G G38 := ySg.join (sg5.un (show gu_un ycd [5, 6, 7, 8] Gj5 G9 from (gu_un.tr gu_un.rf (gu_un.su hU11 rfl))) rfl rfl) q29 q42 (by decide) (by omega) (by omega) m0 (by have h9 : (G22 12 ((G 0 20).toInt).toNat).toInt ≤ 6 * (G22 0 21).toInt := (ySg.m6 (c := 2) q29 (by decide) (by decide) (ySg.m6 (c := 2) (sg5.un (show gu_un ycd [5, 6, 7, 8] Gj5 G9 from (gu_un.tr gu_un.rf (gu_un.su hU11 rfl))) rfl rfl) (by decide) (by decide) m6)); have h8 : (0 : Int) ≤ (G22 0 21).toInt ∧ (G22 0 21).toInt ≤ 12 := hI23 0 21; omega)
        clear hp41 hw37
        refine g_goto F 5 dX13_readProduct_52 (by decide) ?_
        refine g_locals [(0, .ref (a 0)), (1, .int 4)] [1, 2] rfl ?_
        exact ih_5 G38 (by have e9_0_5 : G38 0 5 = (G22 0 5) := hU40 0 5 (by decide); have e9_0_6 : G38 0 6 = (G22 0 6) := hU40 0 6 (by decide); (try simp only [e9_0_5, e9_0_6, true_and, and_true]) <;> omega) hI39 (gu_un.tr (gu_un.tr (gu_un.tr (gu_un.tr gu_un.rf (gu_un.su jU5 rfl)) (gu_un.su hU11 rfl)) (gu_un.su hU24 rfl)) (gu_un.su hU40 rfl)) (sg44) (kp43) (yP_next (yP_sign (v := (Gj5 0 7).toInt) pf5 (show yStp [] Gj5 Gj5 G9 from ⟨(show gu_un ycd [] Gj5 Gj5 from gu_un.rf), rfl, by (try rw [show Gj5 2 = (G 2) from (show Gj5 2 = G 2 from funext fun k_ => jU5 2 k_ (show (200 : Nat) ∉ ([5, 6, 7, 8, 9, 10, 22, 1000, 1100, 1200] : List Nat) by decide))]); (try rw [show Gj5 0 3 = (G 0 3) from jU5 0 3 (by decide)]); exact q19, funext fun k_ => hU11 2 k_ (by simp [ycd]), hU11 0 3 (by decide)⟩) (by omega) rfl sn.2.2) sn.2.2 q33 rfl (mL_un (show gu_un ycd [5, 6, 7, 8] Gj5 G9 from (gu_un.tr gu_un.rf (gu_un.su hU11 rfl))) rfl) (show gu_un ycd _ _ G38 from (show gu_un ycd [1000, 1100, 1200] G22 G38 from (gu_un.tr gu_un.rf (gu_un.su hU40 rfl)))) rfl (by rw [q42.ml (by omega) (show (0 : Int) ≤ (G22 12 ((G 0 20).toInt).toNat).toInt from (hI23 12 _).1), mEn_2 (by decide) sn.2.1 sn.2.2 (by decide)])) (by have e9_0_3 : G38 0 3 = (G 0 3) := (hU40 0 3 (by decide)).trans ((hU24 0 3 (by decide)).trans ((hU11 0 3 (by decide)).trans (jU5 0 3 (by decide)))); have e9_0_5 : G38 0 5 = (G22 0 5) := hU40 0 5 (by decide); (try simp only [e9_0_3, e9_0_5, true_and, and_true]) <;> (first | omega | (simp only [Int32.reduceToInt, true_and, and_true, ne_eq, not_true_eq_false, false_and, or_false, false_or, true_or, or_true, false_implies] <;> omega))) (by have e9_0_5 : G38 0 5 = (G22 0 5) := hU40 0 5 (by decide); have e9_0_6 : G38 0 6 = (G22 0 6) := hU40 0 6 (by decide); (try simp only [e9_0_5, e9_0_6, true_and, and_true]) <;> (first | omega | (simp only [Int32.reduceToInt, true_and, and_true, ne_eq, not_true_eq_false, false_and, or_false, false_or, true_or, or_true, false_implies] <;> omega)))
      refine g_aload_n F 0 dX13_readProduct_5 rfl rfl ?_
      refine g_bipush F 42 dX13_readProduct_6 (by decide) ?_
      refine u_callVi (k := 0) (n := 0) (b := a 0) (As := [.int 42]) (st := []) F (fun sz => S_X13_isSign l D K a Gj5 42 42 rfl jI5 sz) (cwV 1 hts (gT_left gX13_readProduct_X13_isSign) rfl rfl rfl (by decide +kernel) ⟨Nat.le_of_ble_eq_true rfl, Nat.le_of_ble_eq_true rfl⟩) rfl 0 yc_0 rfl (Nat.le_of_ble_eq_true rfl) ⟨Nat.zero_le _, Nat.zero_le _⟩ dX13_readProduct_8 (fun r45 _ hw46 => ?_)
      rcases hw46 with ⟨rfl, q48⟩ | ⟨rfl, q49⟩
      · have b50 : (0 : Int) ≤ (Gj5 0 6).toInt ∧ (Gj5 0 6).toInt ≤ 4 := jI5 0 6
        have b51 : (0 : Int) ≤ (Gj5 0 7).toInt ∧ (Gj5 0 7).toInt ≤ 9999 := jI5 0 7
        have q48 : ((Gj5 0 6).toInt = 3 ∧ (Gj5 0 7).toInt = (42 : Int)) := q48
        refine v_if_ne F 32 dX13_readProduct_11 (by decide) 1 rfl (fun c52 => ?_) (fun c52 => absurd c52 (by decide))
        have b53 : (0 : Int) ≤ (Gj5 0 5).toInt ∧ (Gj5 0 5).toInt ≤ 1000 := jI5 0 5
        exact J_32 () (⟨by omega, by omega, xsg_2.mpr (by omega)⟩) (by have e9_0_3 : Gj5 0 3 = (G 0 3) := jU5 0 3 (by decide); (try simp only [e9_0_3, true_and, and_true]) <;> (first | omega | (simp only [Int32.reduceToInt, true_and, and_true, ne_eq, not_true_eq_false, false_and, or_false, false_or, true_or, or_true, false_implies] <;> omega))) (by (first | omega | (simp only [Int32.reduceToInt, true_and, and_true, ne_eq, not_true_eq_false, false_and, or_false, false_or, true_or, or_true, false_implies] <;> omega)))
      · have b54 : (0 : Int) ≤ (Gj5 0 6).toInt ∧ (Gj5 0 6).toInt ≤ 4 := jI5 0 6
        have b55 : (0 : Int) ≤ (Gj5 0 7).toInt ∧ (Gj5 0 7).toInt ≤ 9999 := jI5 0 7
        have q49 : ((Gj5 0 6).toInt ≠ 3 ∨ (Gj5 0 7).toInt ≠ (42 : Int)) := q49
        refine v_if_ne F 32 dX13_readProduct_11 (by decide) 0 rfl (fun c56 => absurd c56 (by decide)) (fun c56 => ?_)
        refine g_aload_n F 0 dX13_readProduct_14 rfl rfl ?_
        refine g_bipush F 47 dX13_readProduct_15 (by decide) ?_
        refine u_callVi (k := 0) (n := 0) (b := a 0) (As := [.int 47]) (st := []) F (fun sz => S_X13_isSign l D K a Gj5 47 47 rfl jI5 sz) (cwV 1 hts (gT_left gX13_readProduct_X13_isSign) rfl rfl rfl (by decide +kernel) ⟨Nat.le_of_ble_eq_true rfl, Nat.le_of_ble_eq_true rfl⟩) rfl 0 yc_0 rfl (Nat.le_of_ble_eq_true rfl) ⟨Nat.zero_le _, Nat.zero_le _⟩ dX13_readProduct_17 (fun r57 _ hw58 => ?_)
        rcases hw58 with ⟨rfl, q60⟩ | ⟨rfl, q61⟩
        · have q60 : ((Gj5 0 6).toInt = 3 ∧ (Gj5 0 7).toInt = (47 : Int)) := q60
          refine v_if_ne F 32 dX13_readProduct_20 (by decide) 1 rfl (fun c62 => ?_) (fun c62 => absurd c62 (by decide))
          have b63 : (0 : Int) ≤ (Gj5 0 5).toInt ∧ (Gj5 0 5).toInt ≤ 1000 := jI5 0 5
          exact J_32 () (⟨by omega, by omega, xsg_2.mpr (by omega)⟩) (by have e9_0_3 : Gj5 0 3 = (G 0 3) := jU5 0 3 (by decide); (try simp only [e9_0_3, true_and, and_true]) <;> (first | omega | (simp only [Int32.reduceToInt, true_and, and_true, ne_eq, not_true_eq_false, false_and, or_false, false_or, true_or, or_true, false_implies] <;> omega))) (by (first | omega | (simp only [Int32.reduceToInt, true_and, and_true, ne_eq, not_true_eq_false, false_and, or_false, false_or, true_or, or_true, false_implies] <;> omega)))
        · have q61 : ((Gj5 0 6).toInt ≠ 3 ∨ (Gj5 0 7).toInt ≠ (47 : Int)) := q61
          refine v_if_ne F 32 dX13_readProduct_20 (by decide) 0 rfl (fun c64 => absurd c64 (by decide)) (fun c64 => ?_)
          refine g_aload_n F 0 dX13_readProduct_23 rfl rfl ?_
          refine g_bipush F 37 dX13_readProduct_24 (by decide) ?_
          refine u_callVi (k := 0) (n := 0) (b := a 0) (As := [.int 37]) (st := []) F (fun sz => S_X13_isSign l D K a Gj5 37 37 rfl jI5 sz) (cwV 1 hts (gT_left gX13_readProduct_X13_isSign) rfl rfl rfl (by decide +kernel) ⟨Nat.le_of_ble_eq_true rfl, Nat.le_of_ble_eq_true rfl⟩) rfl 0 yc_0 rfl (Nat.le_of_ble_eq_true rfl) ⟨Nat.zero_le _, Nat.zero_le _⟩ dX13_readProduct_26 (fun r65 _ hw66 => ?_)
          rcases hw66 with ⟨rfl, q68⟩ | ⟨rfl, q69⟩
          · have q68 : ((Gj5 0 6).toInt = 3 ∧ (Gj5 0 7).toInt = (37 : Int)) := q68
            refine v_if_eq F 55 dX13_readProduct_29 (by decide) 1 rfl (fun c70 => absurd c70 (by decide)) (fun c70 => ?_)
            have b71 : (0 : Int) ≤ (Gj5 0 5).toInt ∧ (Gj5 0 5).toInt ≤ 1000 := jI5 0 5
            exact J_32 () (⟨by omega, by omega, xsg_2.mpr (by omega)⟩) (by have e9_0_3 : Gj5 0 3 = (G 0 3) := jU5 0 3 (by decide); (try simp only [e9_0_3, true_and, and_true]) <;> (first | omega | (simp only [Int32.reduceToInt, true_and, and_true, ne_eq, not_true_eq_false, false_and, or_false, false_or, true_or, or_true, false_implies] <;> omega))) (by (first | omega | (simp only [Int32.reduceToInt, true_and, and_true, ne_eq, not_true_eq_false, false_and, or_false, false_or, true_or, or_true, false_implies] <;> omega)))
          · have q69 : ((Gj5 0 6).toInt ≠ 3 ∨ (Gj5 0 7).toInt ≠ (37 : Int)) := q69
            refine v_if_eq F 55 dX13_readProduct_29 (by decide) 0 rfl (fun c72 => ?_) (fun c72 => absurd c72 (by decide))
            have b73 : (0 : Int) ≤ (Gj5 0 5).toInt ∧ (Gj5 0 5).toInt ≤ 1000 := jI5 0 5
            exact ux_vret F hA hQ hr Gj5 (⟨jI5, (gu_un.tr gu_un.rf (gu_un.su jU5 rfl)), (by show ((Gj5 0 5).toInt ≤ (G 0 3).toInt ∧ (G 0 5).toInt ≤ (Gj5 0 5).toInt ∧ ((Gj5 0 6).toInt = 0 ∨ (G 0 5).toInt < (Gj5 0 5).toInt)); (first | omega | (simp only [Int32.reduceToInt, true_and, and_true, ne_eq, not_true_eq_false, false_and, or_false, false_or, true_or, or_true, false_implies] <;> omega))), (sg5), (kp5), (pf5), (fun h7 => by have h6 := xsg_2.mp h7.2; omega)⟩) rfl rfl dX13_readProduct_55
  refine g_aload_n F 0 dX13_readProduct_0 rfl rfl ?_
  refine g_iload_n F 1 dX13_readProduct_1 rfl rfl ?_
  refine uxz_callvv (k := 0) (n := 0) (b := a 0) (As := [.int 4]) (st := []) F yZ_st hZ (fun sz => S_X13_readFactor_v4 l D K a G qs vs  (by (first | omega | (simp only [Int32.reduceToInt, true_and, and_true, ne_eq, not_true_eq_false, false_and, or_false, false_or, true_or, or_true, false_implies] <;> omega))) (by (first | omega | (simp only [Int32.reduceToInt, true_and, and_true, ne_eq, not_true_eq_false, false_and, or_false, false_or, true_or, or_true, false_implies] <;> omega))) (m6) hI sz) (cwV 1 hts gT_X13_readProduct_X13_readFactor rfl rfl rfl (by decide +kernel) ⟨Nat.le_of_ble_eq_true rfl, Nat.le_of_ble_eq_true rfl⟩) rfl 0 yc_0 rfl (Nat.le_of_ble_eq_true rfl) ⟨Nat.zero_le _, Nat.zero_le _⟩ dX13_readProduct_2 hex hA hQ (fun u9 h9 => ⟨h9.1, gu_un.tr gu_un.rf (gu_un.su h9.2.1 rfl), (yKp.tr yKp.rf h9.2.2.1), (by have h9 := h9.2.2.2.1; exact h9.weak), (h9.2.2.2.2)⟩) (fun G76 hw75 => ?_)
  have hI77 : yI G76 := hw75.1
  have hU78 : gu_un ycd [5, 6, 7, 8, 9, 10, 22, 1000, 1100, 1200] G G76 := hw75.2.1
  have hp79 := hw75.2.2
  have b80 : (0 : Int) ≤ (G76 0 5).toInt ∧ (G76 0 5).toInt ≤ 1000 := hI77 0 5
  have b81 : (0 : Int) ≤ (G76 0 6).toInt ∧ (G76 0 6).toInt ≤ 4 := hI77 0 6
  have q82 : ((G76 0 5).toInt ≤ (G 0 3).toInt ∧ (G 0 5).toInt ≤ (G76 0 5).toInt ∧ ((G76 0 6).toInt = 0 ∨ (G 0 5).toInt < (G76 0 5).toInt)) := hp79.1
  have q83 : ySg 2 (G 0 20).toInt G G76 := hp79.2.1
  have q84 : yKp G G76 := hp79.2.2.1
  have b85 : (0 : Int) ≤ (G76 0 21).toInt ∧ (G76 0 21).toInt ≤ 12 := hI77 0 21
  have q86 : ySim cA ((G 0 20).toInt - 3).toNat (qW 4 (G 0 21).toInt (mL (G 0 20).toInt G)) (qF 4 (G76 0 21).toInt (mL (G 0 20).toInt G76)) G G76 := hp79.2.2.2
  have kp87 : yKp G G76 := yKp.tr yKp.rf q84
  have sg88 : ySg 2 (G 0 20).toInt G G76 := q83
  clear hp79 hw75
  exact J_5 _ G76 (Nat.lt_succ_self _) hI77 (gu_un.tr gu_un.rf (gu_un.su hU78 rfl)) (sg88) (kp87) (yP_first q86) (by have e9_0_3 : G76 0 3 = (G 0 3) := hU78 0 3 (by decide); (try simp only [e9_0_3, true_and, and_true]) <;> (first | omega | (simp only [Int32.reduceToInt, true_and, and_true, ne_eq, not_true_eq_false, false_and, or_false, false_or, true_or, or_true, false_implies] <;> omega))) (by (first | omega | (simp only [Int32.reduceToInt, true_and, and_true, ne_eq, not_true_eq_false, false_and, or_false, false_or, true_or, or_true, false_implies] <;> omega)))

theorem dX13_readSum_0 : decode cX13_readSum 0 = .ok (.aload_n 0, 1) := by decide +kernel
theorem dX13_readSum_1 : decode cX13_readSum 1 = .ok (.iload_n 1, 1) := by decide +kernel
theorem dX13_readSum_2 : decode cX13_readSum 2 = .ok (.invokevirtual 106, 3) := by decide +kernel
theorem dX13_readSum_5 : decode cX13_readSum 5 = .ok (.aload_n 0, 1) := by decide +kernel
theorem dX13_readSum_6 : decode cX13_readSum 6 = .ok (.bipush 43, 2) := by decide +kernel
theorem dX13_readSum_8 : decode cX13_readSum 8 = .ok (.invokevirtual 110, 3) := by decide +kernel
theorem dX13_readSum_11 : decode cX13_readSum 11 = .ok (.ifCond .ne 12, 3) := by decide +kernel
theorem dX13_readSum_14 : decode cX13_readSum 14 = .ok (.aload_n 0, 1) := by decide +kernel
theorem dX13_readSum_15 : decode cX13_readSum 15 = .ok (.bipush 45, 2) := by decide +kernel
theorem dX13_readSum_17 : decode cX13_readSum 17 = .ok (.invokevirtual 110, 3) := by decide +kernel
theorem dX13_readSum_20 : decode cX13_readSum 20 = .ok (.ifCond .eq 26, 3) := by decide +kernel
theorem dX13_readSum_23 : decode cX13_readSum 23 = .ok (.aload_n 0, 1) := by decide +kernel
theorem dX13_readSum_24 : decode cX13_readSum 24 = .ok (.getfield 41, 3) := by decide +kernel
theorem dX13_readSum_27 : decode cX13_readSum 27 = .ok (.istore_n 2, 1) := by decide +kernel
theorem dX13_readSum_28 : decode cX13_readSum 28 = .ok (.aload_n 0, 1) := by decide +kernel
theorem dX13_readSum_29 : decode cX13_readSum 29 = .ok (.invokevirtual 69, 3) := by decide +kernel
theorem dX13_readSum_32 : decode cX13_readSum 32 = .ok (.aload_n 0, 1) := by decide +kernel
theorem dX13_readSum_33 : decode cX13_readSum 33 = .ok (.iload_n 1, 1) := by decide +kernel
theorem dX13_readSum_34 : decode cX13_readSum 34 = .ok (.invokevirtual 106, 3) := by decide +kernel
theorem dX13_readSum_37 : decode cX13_readSum 37 = .ok (.aload_n 0, 1) := by decide +kernel
theorem dX13_readSum_38 : decode cX13_readSum 38 = .ok (.iconst 2, 1) := by decide +kernel
theorem dX13_readSum_39 : decode cX13_readSum 39 = .ok (.iload_n 2, 1) := by decide +kernel
theorem dX13_readSum_40 : decode cX13_readSum 40 = .ok (.invokevirtual 92, 3) := by decide +kernel
theorem dX13_readSum_43 : decode cX13_readSum 43 = .ok (.goto (-38), 3) := by decide +kernel
theorem dX13_readSum_46 : decode cX13_readSum 46 = .ok (.return_, 1) := by decide +kernel
set_option maxRecDepth 20000 in
theorem ggX13_readSum_X13_isSign : GoodIn wsX13_readSum wsX13_isSign := goodIn_r _ [9, 10, 1, 107, 108, 109, 110, 111, 112, 113, 114, 115, 116, 117, 118, 119, 120, 121, 122, 123, 124, 125, 126, 127, 128, 129, 130, 131, 132, 133, 134, 135, 136, 137, 138, 139, 140, 141, 142, 143, 144, 145, 146, 147, 148, 149, 150, 151, 152, 153, 154, 155, 156, 157, 158, 159, 160, 161, 162, 163, 164, 165, 166, 167, 168, 169, 170, 171, 172, 173, 174, 175, 176, 177, 178, 179] rfl (by decide +kernel)
set_option maxRecDepth 20000 in
theorem gX13_readSum_X13_isSign : GoodIn wsX13_readSum (wsV RX13 110 RX13 yX13_isSign wsX13_isSign) := goodIn_app (goodIn_of _ (by decide +kernel)) ggX13_readSum_X13_isSign
set_option maxRecDepth 20000 in
theorem ggX13_readSum_X13_mark : GoodIn wsX13_readSum wsX13_mark := goodIn_r _ [32, 33, 34, 35, 36, 107, 108, 109, 110, 111, 112, 113, 114, 115, 116, 117, 118, 119, 120, 121, 122, 123, 124, 125, 126, 127, 128, 129, 130, 131, 132, 133, 134, 135, 136, 137, 138, 139, 140, 141, 142, 143, 144, 145, 146, 147, 148, 149, 150, 151, 152, 153, 154, 155, 156, 157, 158, 159, 160, 161, 162, 163, 164, 165, 166, 167, 168, 169, 170, 171, 172, 173, 174, 175, 176, 177, 178, 179] rfl (by decide +kernel)
set_option maxRecDepth 20000 in
theorem gX13_readSum_X13_mark : GoodIn wsX13_readSum (wsV RX13 92 RX13 yX13_mark wsX13_mark) := goodIn_app (goodIn_of _ (by decide +kernel)) ggX13_readSum_X13_mark
set_option maxRecDepth 20000 in
theorem ggX13_readSum_X13_readProduct : GoodIn wsX13_readSum wsX13_readProduct := goodIn_r _ [106, 1, 43, 44, 45, 5, 6, 7, 8, 9, 10, 11, 12, 13, 14, 15, 16, 17, 18, 19, 20, 21, 22, 23, 24, 25, 26, 27, 28, 29, 30, 31, 32, 33, 34, 35, 36, 37, 38, 39, 40, 41, 42, 46, 47, 48, 49, 50, 51, 52, 53, 54, 55, 56, 57, 58, 59, 60, 61, 62, 63, 64, 65, 66, 67, 68, 69, 70, 71, 72, 73, 74, 75, 76, 77, 78, 79, 80, 81, 82, 83, 84, 85, 86, 87, 88, 89, 90, 91, 92, 93, 94, 95, 96, 97, 98, 99, 100, 101, 102, 103, 104, 105, 0, 2, 3, 4, 107, 108, 109, 110, 111, 112, 113, 114, 115, 116, 117, 118, 119, 120, 121, 122, 123, 124, 125, 126, 127, 128, 129, 130, 131, 132, 133, 134, 135, 136, 137, 138, 139, 140, 141, 142, 143, 144, 145, 146, 147, 148, 149, 150, 151, 152, 153, 154, 155, 156, 157, 158, 159, 160, 161, 162, 163, 164, 165, 166, 167, 168, 169, 170, 171, 172, 173, 174, 175, 176, 177, 178, 179] rfl (by decide +kernel)
set_option maxRecDepth 20000 in
theorem gX13_readSum_X13_readProduct : GoodIn wsX13_readSum (wsV RX13 106 RX13 yX13_readProduct wsX13_readProduct) := goodIn_app (goodIn_of _ (by decide +kernel)) ggX13_readSum_X13_readProduct
set_option maxRecDepth 20000 in
theorem ggX13_readSum_X13_scan : GoodIn wsX13_readSum wsX13_scan := goodIn_r _ [14, 15, 16, 17, 18, 10, 1, 19, 20, 21, 5, 22, 23, 24, 25, 26, 27, 28, 107, 108, 109, 110, 111, 112, 113, 114, 115, 116, 117, 118, 119, 120, 121, 122, 123, 124, 125, 126, 127, 128, 129, 130, 131, 132, 133, 134, 135, 136, 137, 138, 139, 140, 141, 142, 143, 144, 145, 146, 147, 148, 149, 150, 151, 152, 153, 154, 155, 156, 157, 158, 159, 160, 161, 162, 163, 164, 165, 166, 167, 168, 169, 170, 171, 172, 173, 174, 175, 176, 177, 178, 179] rfl (by decide +kernel)
set_option maxRecDepth 20000 in
theorem gX13_readSum_X13_scan : GoodIn wsX13_readSum (wsV RX13 69 RX13 yX13_scan wsX13_scan) := goodIn_app (goodIn_of _ (by decide +kernel)) ggX13_readSum_X13_scan
def wsT_X13_readSum : List Cond := wsX13_readSum ++ wsT_nx
theorem gT_X13_readSum_X13_readProduct : GoodIn wsT_X13_readSum (wsV RX13 106 RX13 yX13_readProduct wsT_X13_readProduct) := gT_call gX13_readSum_X13_readProduct gT_nx
set_option maxHeartbeats 4000000 in
set_option maxRecDepth 100000 in
theorem S_X13_readSum_v4 (l : Launch) (D : va_G) (K : Nat → ClassId) (a : Nat → Nat) (G : gS) (qs vs : Nat → Nat) (pb : ((G 0 5).toInt ≤ (G 0 3).toInt)) (s35 : (3 ≤ (G 0 20).toInt)) (m6 : ((G 12 ((G 0 20).toInt).toNat).toInt ≤ 6 * (G 0 21).toInt)) (hI : yI G) (sz : Nat) : KxvZ (yZ qs vs) l yX13_readSum wsT_X13_readSum 9 214 D [.ref (a 0), .int 4] (yW K a G) (tK K) sz (fun (G' : gS) => (yI G') ∧ (gu_un ycd [5, 6, 7, 8, 9, 10, 22, 1000, 1100, 1200] G G') ∧ (((G' 0 5).toInt ≤ (G 0 3).toInt ∧ (G 0 5).toInt ≤ (G' 0 5).toInt ∧ ((G' 0 6).toInt = 0 ∨ (G 0 5).toInt < (G' 0 5).toInt))) ∧ (ySg 2 (G 0 20).toInt G G') ∧ (yKp G G') ∧ (ySim cS ((G 0 20).toInt - 3).toNat (qW 4 (G 0 21).toInt (mL (G 0 20).toInt G)) (qD 4 (G' 0 21).toInt (mL (G 0 20).toInt G')) G G') ∧ (((G' 0 6).toInt ≠ 3 ∨ xsg (G' 0 7).toInt = 0))) (fun (G' : gS) => (yI G') ∧ (gu_un ycd [5, 6, 7, 8, 9, 10, 22, 1000, 1100, 1200] G G') ∧ (yKp G G') ∧ (yThr cS ((G 0 20).toInt - 3).toNat (qW 4 (G 0 21).toInt (mL (G 0 20).toInt G)) G G') ∧ (((G' 0 8).toInt ≠ 0))) (a 1) (fun (G' : gS) => (yW K a G')) := by
  unfold KxvZ
  refine gxz_ofW (cc := cX13_readSum) (lv := [(0, .ref (a 0)), (1, .int 4)]) (by decide) rfl (Nat.le_of_ble_eq_true rfl) rfl ?_
  intro p e s m args below meth c A Q hA hQ hZ F hr hex
  have hts := F.2.2.2.2.1
  have w_0 : (Cond.fieldLink RX13 41 "QuietCutModel" "value" "I").before args s = true := hts _ (List.mem_of_getElem? (i := 1) rfl)
  have i_X13 : ∀ w ∈ u_ws RX13 TX13 73, w ∈ wsT_X13_readSum := fun w h => List.mem_append_left _ ((show ∀ w ∈ u_ws RX13 TX13 73, w ∈ wsX13_readSum from fun _ h => List.mem_cons_of_mem _ (List.mem_append_right _ h)) w h)
  have b1 : (0 : Int) ≤ (G 0 3).toInt ∧ (G 0 3).toInt ≤ 1000 := hI 0 3
  have b2 : (0 : Int) ≤ (G 0 5).toInt ∧ (G 0 5).toInt ≤ 1000 := hI 0 5
  have b3 : (0 : Int) ≤ (G 0 6).toInt ∧ (G 0 6).toInt ≤ 4 := hI 0 6
  have b4 : (0 : Int) ≤ (G 0 20).toInt ∧ (G 0 20).toInt ≤ 5 := hI 0 20
  have b5 : (0 : Int) ≤ (G 0 21).toInt ∧ (G 0 21).toInt ≤ 12 := hI 0 21
  have J_5 : ∀ (fuel : Nat) (Gj5 : gS), (8 * (1000 - (Gj5 0 5).toInt) + (Gj5 0 6).toInt).toNat < fuel → (yI Gj5) → (gu_un ycd [5, 6, 7, 8, 9, 10, 22, 1000, 1100, 1200] G Gj5) → (ySg 2 (G 0 20).toInt G Gj5) → (yKp G Gj5) → (ySim cS ((G 0 20).toInt - 3).toNat (qW 4 (G 0 21).toInt (mL (G 0 20).toInt G)) (qD 4 (Gj5 0 21).toInt (mL (G 0 20).toInt Gj5)) G Gj5) → (¬ ((Gj5 0 6).toInt = 3 ∧ xsg (Gj5 0 7).toInt = 2)) → (((Gj5 0 5).toInt ≤ (G 0 3).toInt)) → (((G 0 5).toInt ≤ (Gj5 0 5).toInt ∧ ((Gj5 0 6).toInt = 0 ∨ (G 0 5).toInt < (Gj5 0 5).toInt))) → gG p l e (gR 9 0 0 214) s m args below meth c D A 3 Q 0 0 (yW K a Gj5) (tK K) [(0, .ref (a 0)), (1, .int 4)] 5 [] := by
    intro fuel
    induction fuel with
    | zero => intro Gj5 hm; exact absurd hm (Nat.not_lt_zero _)
    | succ fuel_5 ih_5 =>
      intro Gj5 hm_5 jI5 jU5 sg5 kp5 pf5 pn5 bl_5 bm_5
      have J_23 : ∀ (_ : Unit), (((Gj5 0 6).toInt = 3 ∧ (Gj5 0 7).toInt ≠ 33 ∧ xsg (Gj5 0 7).toInt = 1)) → (((Gj5 0 5).toInt ≤ (G 0 3).toInt)) → (((G 0 5).toInt ≤ (Gj5 0 5).toInt ∧ ((Gj5 0 6).toInt = 0 ∨ (G 0 5).toInt < (Gj5 0 5).toInt))) → gG p l e (gR 9 0 0 214) s m args below meth c D A 3 Q 0 0 (yW K a Gj5) (tK K) [(0, .ref (a 0)), (1, .int 4)] 23 [] := by
        intro _ sn bl_23 bm_23
        refine g_aload_n F 0 dX13_readSum_23 rfl rfl ?_
        refine yg_0_7 F i_X13 w_0 dX13_readSum_24 (Gj5 0 7) (rfl) ?_
        refine g_istore_n F [(2, .int (Gj5 0 7)), (0, .ref (a 0)), (1, .int 4)] dX13_readSum_27 rfl (by decide) rfl ?_
        refine g_aload_n F 1 dX13_readSum_28 rfl rfl ?_
        have b6 : (0 : Int) ≤ (Gj5 0 5).toInt ∧ (Gj5 0 5).toInt ≤ 1000 := jI5 0 5
        refine u_callVv (k := 0) (n := 0) (b := a 0) (As := []) (st := []) F (fun sz => S_X13_scan l D K a Gj5  (by have e9_0_3 : Gj5 0 3 = (G 0 3) := jU5 0 3 (by decide); (try simp only [e9_0_3, true_and, and_true]) <;> (first | omega | (simp only [Int32.reduceToInt, true_and, and_true, ne_eq, not_true_eq_false, false_and, or_false, false_or, true_or, or_true, false_implies] <;> omega))) jI5 sz) (cwV 0 hts (gT_left gX13_readSum_X13_scan) rfl rfl rfl (by decide +kernel) ⟨Nat.le_of_ble_eq_true rfl, Nat.le_of_ble_eq_true rfl⟩) rfl 0 yc_0 rfl (Nat.le_of_ble_eq_true rfl) ⟨Nat.zero_le _, Nat.zero_le _⟩ dX13_readSum_29 (fun G9 hw8 => ?_)
        have hI10 : yI G9 := hw8.1
        have hU11 : gu_un ycd [5, 6, 7, 8] Gj5 G9 := hw8.2.1
        have hp12 := hw8.2.2
        have b13 : (0 : Int) ≤ (G9 0 5).toInt ∧ (G9 0 5).toInt ≤ 1000 := hI10 0 5
        have b14 : (0 : Int) ≤ (G9 0 4).toInt ∧ (G9 0 4).toInt ≤ 1000 := hI10 0 4
        have q15 : ((G9 0 5).toInt ≤ (G 0 3).toInt ∧ (Gj5 0 5).toInt ≤ (G9 0 4).toInt ∧ (G9 0 4).toInt ≤ (G9 0 5).toInt) := by have h9 := hp12.1; (try simp only [(show Gj5 0 3 = (G 0 3) from jU5 0 3 (by decide))] at h9); first | exact h9 | omega
        have b16 : (0 : Int) ≤ (G9 0 6).toInt ∧ (G9 0 6).toInt ≤ 4 := hI10 0 6
        have q17 : (((G9 0 6).toInt = 0 ∧ (G9 0 4).toInt = (G 0 3).toInt) ∨ ((G9 0 6).toInt ≠ 0 ∧ (G9 0 4).toInt < (G9 0 5).toInt)) := by have h9 := hp12.2.1; (try simp only [(show Gj5 0 3 = (G 0 3) from jU5 0 3 (by decide))] at h9); first | exact h9 | omega
        have b18 : (0 : Int) ≤ (G9 0 7).toInt ∧ (G9 0 7).toInt ≤ 9999 := hI10 0 7
        have q19 : tTok (G 2) (G 0 3).toInt (Gj5 0 5).toInt (G9 0 6).toInt (G9 0 4).toInt (G9 0 7).toInt (G9 0 5).toInt := by have h9 := hp12.2.2; (try simp only [(show Gj5 0 3 = (G 0 3) from jU5 0 3 (by decide)), (show Gj5 2 = (G 2) from (show Gj5 2 = G 2 from funext fun k_ => jU5 2 k_ (show (200 : Nat) ∉ ([5, 6, 7, 8, 9, 10, 22, 1000, 1100, 1200] : List Nat) by decide)))] at h9); first | exact h9 | omega
        clear hp12 hw8
        refine g_aload_n F 1 dX13_readSum_32 rfl rfl ?_
        refine g_iload_n F 2 dX13_readSum_33 rfl rfl ?_
        refine uxz_callvv (k := 0) (n := 0) (b := a 0) (As := [.int 4]) (st := []) F yZ_st hZ (fun sz => S_X13_readProduct_v4 l D K a G9 qs vs  (by have e9_0_3 : G9 0 3 = (G 0 3) := (hU11 0 3 (by decide)).trans (jU5 0 3 (by decide)); (try simp only [e9_0_3, true_and, and_true]) <;> (first | omega | (simp only [Int32.reduceToInt, true_and, and_true, ne_eq, not_true_eq_false, false_and, or_false, false_or, true_or, or_true, false_implies] <;> omega))) (by have e9_0_20 : G9 0 20 = (G 0 20) := (hU11 0 20 (by decide)).trans (jU5 0 20 (by decide)); (try simp only [e9_0_20, true_and, and_true]) <;> (first | omega | (simp only [Int32.reduceToInt, true_and, and_true, ne_eq, not_true_eq_false, false_and, or_false, false_or, true_or, or_true, false_implies] <;> omega))) (by rw [show G9 0 20 = G 0 20 from (hU11 0 20 (by decide)).trans (jU5 0 20 (by decide))]; exact (ySg.m6 (c := 2) (sg5.un (show gu_un ycd [5, 6, 7, 8] Gj5 G9 from (gu_un.tr gu_un.rf (gu_un.su hU11 rfl))) rfl rfl) (by decide) (by decide) m6)) hI10 sz) (cwV 1 hts gT_X13_readSum_X13_readProduct rfl rfl rfl (by decide +kernel) ⟨Nat.le_of_ble_eq_true rfl, Nat.le_of_ble_eq_true rfl⟩) rfl 0 yc_0 rfl (Nat.le_of_ble_eq_true rfl) ⟨Nat.zero_le _, Nat.zero_le _⟩ dX13_readSum_34 hex hA hQ (fun u9 h9 => ⟨h9.1, gu_un.tr (gu_un.tr (gu_un.tr gu_un.rf (gu_un.su jU5 rfl)) (gu_un.su hU11 rfl)) (gu_un.su h9.2.1 rfl), (yKp.tr (yKp.un kp5 (show gu_un ycd [5, 6, 7, 8] Gj5 G9 from (gu_un.tr gu_un.rf (gu_un.su hU11 rfl))) rfl) h9.2.2.1), (by have h9 := h9.2.2.2.1; (try rw [show G9 0 20 = (G 0 20) from (hU11 0 20 (by decide)).trans (jU5 0 20 (by decide))] at h9); (try rw [show G9 0 21 = (Gj5 0 21) from hU11 0 21 (by decide)] at h9); exact yS_nextT (yS_sign (v := (Gj5 0 7).toInt) pf5 (show yStp [] Gj5 Gj5 G9 from ⟨(show gu_un ycd [] Gj5 Gj5 from gu_un.rf), rfl, by (try rw [show Gj5 2 = (G 2) from (show Gj5 2 = G 2 from funext fun k_ => jU5 2 k_ (show (200 : Nat) ∉ ([5, 6, 7, 8, 9, 10, 22, 1000, 1100, 1200] : List Nat) by decide))]); (try rw [show Gj5 0 3 = (G 0 3) from jU5 0 3 (by decide)]); exact q19, funext fun k_ => hU11 2 k_ (by simp [ycd]), hU11 0 3 (by decide)⟩) (by omega) rfl sn.2.2) sn.2.2 h9 rfl (mL_un (show gu_un ycd [5, 6, 7, 8] Gj5 G9 from (gu_un.tr gu_un.rf (gu_un.su hU11 rfl))) rfl)), (h9.2.2.2.2)⟩) (fun G22 hw21 => ?_)
        have hI23 : yI G22 := hw21.1
        have hU24 : gu_un ycd [5, 6, 7, 8, 9, 10, 22, 1000, 1100, 1200] G9 G22 := hw21.2.1
        have hp25 := hw21.2.2
        have b26 : (0 : Int) ≤ (G22 0 5).toInt ∧ (G22 0 5).toInt ≤ 1000 := hI23 0 5
        have b27 : (0 : Int) ≤ (G22 0 6).toInt ∧ (G22 0 6).toInt ≤ 4 := hI23 0 6
        have q28 : ((G22 0 5).toInt ≤ (G 0 3).toInt ∧ (G9 0 5).toInt ≤ (G22 0 5).toInt ∧ ((G22 0 6).toInt = 0 ∨ (G9 0 5).toInt < (G22 0 5).toInt)) := by have h9 := hp25.1; (try simp only [(show G9 0 3 = (G 0 3) from (hU11 0 3 (by decide)).trans (jU5 0 3 (by decide)))] at h9); first | exact h9 | omega
        have q29 : ySg 2 (G 0 20).toInt G9 G22 := by have h9 := hp25.2.1; (try simp only [(show G9 0 20 = (G 0 20) from (hU11 0 20 (by decide)).trans (jU5 0 20 (by decide)))] at h9); first | exact h9 | omega
        have q30 : yKp G9 G22 := hp25.2.2.1
        have b31 : (0 : Int) ≤ (Gj5 0 21).toInt ∧ (Gj5 0 21).toInt ≤ 12 := jI5 0 21
        have b32 : (0 : Int) ≤ (G22 0 21).toInt ∧ (G22 0 21).toInt ≤ 12 := hI23 0 21
        have q33 : ySim cP ((G 0 20).toInt - 3).toNat (qW 4 (Gj5 0 21).toInt (mL (G 0 20).toInt G9)) (qD 4 (G22 0 21).toInt (mL (G 0 20).toInt G22)) G9 G22 := by have h9 := hp25.2.2.2.1; (try simp only [(show G9 0 20 = (G 0 20) from (hU11 0 20 (by decide)).trans (jU5 0 20 (by decide))), (show G9 0 21 = (Gj5 0 21) from hU11 0 21 (by decide)), (show G9 0 20 = (G 0 20) from (hU11 0 20 (by decide)).trans (jU5 0 20 (by decide))), (show G9 0 20 = (G 0 20) from (hU11 0 20 (by decide)).trans (jU5 0 20 (by decide)))] at h9); first | exact h9 | omega
        have b34 : (0 : Int) ≤ (G22 0 7).toInt ∧ (G22 0 7).toInt ≤ 9999 := hI23 0 7
        have q35 : (¬ ((G22 0 6).toInt = 3 ∧ xsg (G22 0 7).toInt = 2)) := hp25.2.2.2.2
        have kp36 : yKp G G22 := yKp.tr (yKp.un kp5 (show gu_un ycd [5, 6, 7, 8] Gj5 G9 from (gu_un.tr gu_un.rf (gu_un.su hU11 rfl))) rfl) q30
        clear hp25 hw21
        refine g_aload_n F 1 dX13_readSum_37 rfl rfl ?_
        refine g_iconst F 2 dX13_readSum_38 (by decide) ?_
        refine g_iload_n F 0 dX13_readSum_39 rfl rfl ?_
        have b37 : (0 : Int) ≤ (Gj5 0 7).toInt ∧ (Gj5 0 7).toInt ≤ 9999 := jI5 0 7
        refine u_callVv (k := 0) (n := 0) (b := a 0) (As := [.int 2, .int (Gj5 0 7)]) (st := []) F (fun sz => S_X13_mark l D K a G22 2 2 (Gj5 0 7) (Gj5 0 7).toInt rfl (by decide) rfl (by omega) (by rw [show G22 0 20 = G 0 20 from (hU24 0 20 (by decide)).trans ((hU11 0 20 (by decide)).trans (jU5 0 20 (by decide)))]; have h9 : (G22 12 ((G 0 20).toInt).toNat).toInt ≤ 6 * (G22 0 21).toInt := (ySg.m6 (c := 2) q29 (by decide) (by decide) (ySg.m6 (c := 2) (sg5.un (show gu_un ycd [5, 6, 7, 8] Gj5 G9 from (gu_un.tr gu_un.rf (gu_un.su hU11 rfl))) rfl rfl) (by decide) (by decide) m6)); have h8 : (0 : Int) ≤ (G22 0 21).toInt ∧ (G22 0 21).toInt ≤ 12 := hI23 0 21; show (G22 12 ((G 0 20).toInt).toNat).toInt ≤ 79; omega) hI23 sz) (cwV 2 hts (gT_left gX13_readSum_X13_mark) rfl rfl rfl (by decide +kernel) ⟨Nat.le_of_ble_eq_true rfl, Nat.le_of_ble_eq_true rfl⟩) rfl 0 yc_0 rfl (Nat.le_of_ble_eq_true rfl) ⟨Nat.zero_le _, Nat.zero_le _⟩ dX13_readSum_40 (fun G40 hw39 => ?_)
        have hI41 : yI G40 := hw39.1
        have hU42 : gu_un ycd [1000, 1100, 1200] G22 G40 := hw39.2.1
        have hp43 := hw39.2.2
        have q44 : yMk 2 (Gj5 0 7) (G 0 20).toInt G22 G40 := by have h9 := hp43; (try simp only [(show G22 0 20 = (G 0 20) from (hU24 0 20 (by decide)).trans ((hU11 0 20 (by decide)).trans (jU5 0 20 (by decide))))] at h9); first | exact h9 | omega
        have m0 : 0 ≤ (G 12 ((G 0 20).toInt).toNat).toInt := (show (0 : Int) ≤ (G 12 ((G 0 20).toInt).toNat).toInt ∧ (G 12 ((G 0 20).toInt).toNat).toInt ≤ 80 from hI 12 _).1
        have m1 : 0 ≤ (G22 12 ((G 0 20).toInt).toNat).toInt := (show (0 : Int) ≤ (G22 12 ((G 0 20).toInt).toNat).toInt ∧ (G22 12 ((G 0 20).toInt).toNat).toInt ≤ 80 from hI23 12 _).1
        have kp45 : yKp G G40 := yKp.tr kp36 (q44.kp (by omega) m1)
        have sg46 : ySg 2 (G 0 20).toInt G G40 := ySg.join (sg5.un (show gu_un ycd [5, 6, 7, 8] Gj5 G9 from (gu_un.tr gu_un.rf (gu_un.su hU11 rfl))) rfl rfl) q29 q44 (by decide) (by omega) (by omega) m0 (by have h9 : (G22 12 ((G 0 20).toInt).toNat).toInt ≤ 6 * (G22 0 21).toInt := (ySg.m6 (c := 2) q29 (by decide) (by decide) (ySg.m6 (c := 2) (sg5.un (show gu_un ycd [5, 6, 7, 8] Gj5 G9 from (gu_un.tr gu_un.rf (gu_un.su hU11 rfl))) rfl rfl) (by decide) (by decide) m6)); have h8 : (0 : Int) ≤ (G22 0 21).toInt ∧ (G22 0 21).toInt ≤ 12 := hI23 0 21; omega)
        clear hp43 hw39
        refine g_goto F 5 dX13_readSum_43 (by decide) ?_
        refine g_locals [(0, .ref (a 0)), (1, .int 4)] [1, 2] rfl ?_
        exact ih_5 G40 (by have e9_0_5 : G40 0 5 = (G22 0 5) := hU42 0 5 (by decide); have e9_0_6 : G40 0 6 = (G22 0 6) := hU42 0 6 (by decide); (try simp only [e9_0_5, e9_0_6, true_and, and_true]) <;> omega) hI41 (gu_un.tr (gu_un.tr (gu_un.tr (gu_un.tr gu_un.rf (gu_un.su jU5 rfl)) (gu_un.su hU11 rfl)) (gu_un.su hU24 rfl)) (gu_un.su hU42 rfl)) (sg46) (kp45) (yS_next (yS_sign (v := (Gj5 0 7).toInt) pf5 (show yStp [] Gj5 Gj5 G9 from ⟨(show gu_un ycd [] Gj5 Gj5 from gu_un.rf), rfl, by (try rw [show Gj5 2 = (G 2) from (show Gj5 2 = G 2 from funext fun k_ => jU5 2 k_ (show (200 : Nat) ∉ ([5, 6, 7, 8, 9, 10, 22, 1000, 1100, 1200] : List Nat) by decide))]); (try rw [show Gj5 0 3 = (G 0 3) from jU5 0 3 (by decide)]); exact q19, funext fun k_ => hU11 2 k_ (by simp [ycd]), hU11 0 3 (by decide)⟩) (by omega) rfl sn.2.2) sn.2.2 q33 rfl (mL_un (show gu_un ycd [5, 6, 7, 8] Gj5 G9 from (gu_un.tr gu_un.rf (gu_un.su hU11 rfl))) rfl) (fun h7 => by have h6 := q35; exact h6 h7) (show gu_un ycd _ _ G40 from (show gu_un ycd [1000, 1100, 1200] G22 G40 from (gu_un.tr gu_un.rf (gu_un.su hU42 rfl)))) rfl (by rw [q44.ml (by omega) (show (0 : Int) ≤ (G22 12 ((G 0 20).toInt).toNat).toInt from (hI23 12 _).1), mEn_2 (by decide) sn.2.1 sn.2.2 (by decide)])) (by rw [show G40 0 6 = (G22 0 6) from hU42 0 6 (by decide), show G40 0 7 = (G22 0 7) from hU42 0 7 (by decide)]; exact q35) (by have e9_0_3 : G40 0 3 = (G 0 3) := (hU42 0 3 (by decide)).trans ((hU24 0 3 (by decide)).trans ((hU11 0 3 (by decide)).trans (jU5 0 3 (by decide)))); have e9_0_5 : G40 0 5 = (G22 0 5) := hU42 0 5 (by decide); (try simp only [e9_0_3, e9_0_5, true_and, and_true]) <;> (first | omega | (simp only [Int32.reduceToInt, true_and, and_true, ne_eq, not_true_eq_false, false_and, or_false, false_or, true_or, or_true, false_implies] <;> omega))) (by have e9_0_5 : G40 0 5 = (G22 0 5) := hU42 0 5 (by decide); have e9_0_6 : G40 0 6 = (G22 0 6) := hU42 0 6 (by decide); (try simp only [e9_0_5, e9_0_6, true_and, and_true]) <;> (first | omega | (simp only [Int32.reduceToInt, true_and, and_true, ne_eq, not_true_eq_false, false_and, or_false, false_or, true_or, or_true, false_implies] <;> omega)))
      refine g_aload_n F 0 dX13_readSum_5 rfl rfl ?_
      refine g_bipush F 43 dX13_readSum_6 (by decide) ?_
      refine u_callVi (k := 0) (n := 0) (b := a 0) (As := [.int 43]) (st := []) F (fun sz => S_X13_isSign l D K a Gj5 43 43 rfl jI5 sz) (cwV 1 hts (gT_left gX13_readSum_X13_isSign) rfl rfl rfl (by decide +kernel) ⟨Nat.le_of_ble_eq_true rfl, Nat.le_of_ble_eq_true rfl⟩) rfl 0 yc_0 rfl (Nat.le_of_ble_eq_true rfl) ⟨Nat.zero_le _, Nat.zero_le _⟩ dX13_readSum_8 (fun r47 _ hw48 => ?_)
      rcases hw48 with ⟨rfl, q50⟩ | ⟨rfl, q51⟩
      · have b52 : (0 : Int) ≤ (Gj5 0 6).toInt ∧ (Gj5 0 6).toInt ≤ 4 := jI5 0 6
        have b53 : (0 : Int) ≤ (Gj5 0 7).toInt ∧ (Gj5 0 7).toInt ≤ 9999 := jI5 0 7
        have q50 : ((Gj5 0 6).toInt = 3 ∧ (Gj5 0 7).toInt = (43 : Int)) := q50
        refine v_if_ne F 23 dX13_readSum_11 (by decide) 1 rfl (fun c54 => ?_) (fun c54 => absurd c54 (by decide))
        have b55 : (0 : Int) ≤ (Gj5 0 5).toInt ∧ (Gj5 0 5).toInt ≤ 1000 := jI5 0 5
        exact J_23 () (⟨by omega, by omega, xsg_1.mpr (by omega)⟩) (by have e9_0_3 : Gj5 0 3 = (G 0 3) := jU5 0 3 (by decide); (try simp only [e9_0_3, true_and, and_true]) <;> (first | omega | (simp only [Int32.reduceToInt, true_and, and_true, ne_eq, not_true_eq_false, false_and, or_false, false_or, true_or, or_true, false_implies] <;> omega))) (by (first | omega | (simp only [Int32.reduceToInt, true_and, and_true, ne_eq, not_true_eq_false, false_and, or_false, false_or, true_or, or_true, false_implies] <;> omega)))
      · have b56 : (0 : Int) ≤ (Gj5 0 6).toInt ∧ (Gj5 0 6).toInt ≤ 4 := jI5 0 6
        have b57 : (0 : Int) ≤ (Gj5 0 7).toInt ∧ (Gj5 0 7).toInt ≤ 9999 := jI5 0 7
        have q51 : ((Gj5 0 6).toInt ≠ 3 ∨ (Gj5 0 7).toInt ≠ (43 : Int)) := q51
        refine v_if_ne F 23 dX13_readSum_11 (by decide) 0 rfl (fun c58 => absurd c58 (by decide)) (fun c58 => ?_)
        refine g_aload_n F 0 dX13_readSum_14 rfl rfl ?_
        refine g_bipush F 45 dX13_readSum_15 (by decide) ?_
        refine u_callVi (k := 0) (n := 0) (b := a 0) (As := [.int 45]) (st := []) F (fun sz => S_X13_isSign l D K a Gj5 45 45 rfl jI5 sz) (cwV 1 hts (gT_left gX13_readSum_X13_isSign) rfl rfl rfl (by decide +kernel) ⟨Nat.le_of_ble_eq_true rfl, Nat.le_of_ble_eq_true rfl⟩) rfl 0 yc_0 rfl (Nat.le_of_ble_eq_true rfl) ⟨Nat.zero_le _, Nat.zero_le _⟩ dX13_readSum_17 (fun r59 _ hw60 => ?_)
        rcases hw60 with ⟨rfl, q62⟩ | ⟨rfl, q63⟩
        · have q62 : ((Gj5 0 6).toInt = 3 ∧ (Gj5 0 7).toInt = (45 : Int)) := q62
          refine v_if_eq F 46 dX13_readSum_20 (by decide) 1 rfl (fun c64 => absurd c64 (by decide)) (fun c64 => ?_)
          have b65 : (0 : Int) ≤ (Gj5 0 5).toInt ∧ (Gj5 0 5).toInt ≤ 1000 := jI5 0 5
          exact J_23 () (⟨by omega, by omega, xsg_1.mpr (by omega)⟩) (by have e9_0_3 : Gj5 0 3 = (G 0 3) := jU5 0 3 (by decide); (try simp only [e9_0_3, true_and, and_true]) <;> (first | omega | (simp only [Int32.reduceToInt, true_and, and_true, ne_eq, not_true_eq_false, false_and, or_false, false_or, true_or, or_true, false_implies] <;> omega))) (by (first | omega | (simp only [Int32.reduceToInt, true_and, and_true, ne_eq, not_true_eq_false, false_and, or_false, false_or, true_or, or_true, false_implies] <;> omega)))
        · have q63 : ((Gj5 0 6).toInt ≠ 3 ∨ (Gj5 0 7).toInt ≠ (45 : Int)) := q63
          refine v_if_eq F 46 dX13_readSum_20 (by decide) 0 rfl (fun c66 => ?_) (fun c66 => absurd c66 (by decide))
          have b67 : (0 : Int) ≤ (Gj5 0 5).toInt ∧ (Gj5 0 5).toInt ≤ 1000 := jI5 0 5
          exact ux_vret F hA hQ hr Gj5 (⟨jI5, (gu_un.tr gu_un.rf (gu_un.su jU5 rfl)), (by show ((Gj5 0 5).toInt ≤ (G 0 3).toInt ∧ (G 0 5).toInt ≤ (Gj5 0 5).toInt ∧ ((Gj5 0 6).toInt = 0 ∨ (G 0 5).toInt < (Gj5 0 5).toInt)); (first | omega | (simp only [Int32.reduceToInt, true_and, and_true, ne_eq, not_true_eq_false, false_and, or_false, false_or, true_or, or_true, false_implies] <;> omega))), (sg5), (kp5), (pf5), (by have h7 := xsg_le (Gj5 0 7).toInt; have h6 := @xsg_1 (Gj5 0 7).toInt; have h5 := pn5; show _ ∨ _; by_cases h4 : xsg (Gj5 0 7).toInt = 1 <;> first | omega | (left; have h3 := h6.mp h4; omega))⟩) rfl rfl dX13_readSum_46
  refine g_aload_n F 0 dX13_readSum_0 rfl rfl ?_
  refine g_iload_n F 1 dX13_readSum_1 rfl rfl ?_
  refine uxz_callvv (k := 0) (n := 0) (b := a 0) (As := [.int 4]) (st := []) F yZ_st hZ (fun sz => S_X13_readProduct_v4 l D K a G qs vs  (by (first | omega | (simp only [Int32.reduceToInt, true_and, and_true, ne_eq, not_true_eq_false, false_and, or_false, false_or, true_or, or_true, false_implies] <;> omega))) (by (first | omega | (simp only [Int32.reduceToInt, true_and, and_true, ne_eq, not_true_eq_false, false_and, or_false, false_or, true_or, or_true, false_implies] <;> omega))) (m6) hI sz) (cwV 1 hts gT_X13_readSum_X13_readProduct rfl rfl rfl (by decide +kernel) ⟨Nat.le_of_ble_eq_true rfl, Nat.le_of_ble_eq_true rfl⟩) rfl 0 yc_0 rfl (Nat.le_of_ble_eq_true rfl) ⟨Nat.zero_le _, Nat.zero_le _⟩ dX13_readSum_2 hex hA hQ (fun u9 h9 => ⟨h9.1, gu_un.tr gu_un.rf (gu_un.su h9.2.1 rfl), (yKp.tr yKp.rf h9.2.2.1), (by have h9 := h9.2.2.2.1; exact yS_firstT h9), (h9.2.2.2.2)⟩) (fun G70 hw69 => ?_)
  have hI71 : yI G70 := hw69.1
  have hU72 : gu_un ycd [5, 6, 7, 8, 9, 10, 22, 1000, 1100, 1200] G G70 := hw69.2.1
  have hp73 := hw69.2.2
  have b74 : (0 : Int) ≤ (G70 0 5).toInt ∧ (G70 0 5).toInt ≤ 1000 := hI71 0 5
  have b75 : (0 : Int) ≤ (G70 0 6).toInt ∧ (G70 0 6).toInt ≤ 4 := hI71 0 6
  have q76 : ((G70 0 5).toInt ≤ (G 0 3).toInt ∧ (G 0 5).toInt ≤ (G70 0 5).toInt ∧ ((G70 0 6).toInt = 0 ∨ (G 0 5).toInt < (G70 0 5).toInt)) := hp73.1
  have q77 : ySg 2 (G 0 20).toInt G G70 := hp73.2.1
  have q78 : yKp G G70 := hp73.2.2.1
  have b79 : (0 : Int) ≤ (G70 0 21).toInt ∧ (G70 0 21).toInt ≤ 12 := hI71 0 21
  have q80 : ySim cP ((G 0 20).toInt - 3).toNat (qW 4 (G 0 21).toInt (mL (G 0 20).toInt G)) (qD 4 (G70 0 21).toInt (mL (G 0 20).toInt G70)) G G70 := hp73.2.2.2.1
  have b81 : (0 : Int) ≤ (G70 0 7).toInt ∧ (G70 0 7).toInt ≤ 9999 := hI71 0 7
  have q82 : (¬ ((G70 0 6).toInt = 3 ∧ xsg (G70 0 7).toInt = 2)) := hp73.2.2.2.2
  have kp83 : yKp G G70 := yKp.tr yKp.rf q78
  have sg84 : ySg 2 (G 0 20).toInt G G70 := q77
  clear hp73 hw69
  exact J_5 _ G70 (Nat.lt_succ_self _) hI71 (gu_un.tr gu_un.rf (gu_un.su hU72 rfl)) (sg84) (kp83) (yS_first q80) (q82) (by have e9_0_3 : G70 0 3 = (G 0 3) := hU72 0 3 (by decide); (try simp only [e9_0_3, true_and, and_true]) <;> (first | omega | (simp only [Int32.reduceToInt, true_and, and_true, ne_eq, not_true_eq_false, false_and, or_false, false_or, true_or, or_true, false_implies] <;> omega))) (by (first | omega | (simp only [Int32.reduceToInt, true_and, and_true, ne_eq, not_true_eq_false, false_and, or_false, false_or, true_or, or_true, false_implies] <;> omega)))
