theorem dX13_readFactor_0 : decode cX13_readFactor 0 = .ok (.aload_n 0, 1) := by decide +kernel
theorem dX13_readFactor_1 : decode cX13_readFactor 1 = .ok (.bipush 45, 2) := by decide +kernel
theorem dX13_readFactor_3 : decode cX13_readFactor 3 = .ok (.invokevirtual 110, 3) := by decide +kernel
theorem dX13_readFactor_6 : decode cX13_readFactor 6 = .ok (.istore_n 2, 1) := by decide +kernel
theorem dX13_readFactor_7 : decode cX13_readFactor 7 = .ok (.iload_n 2, 1) := by decide +kernel
theorem dX13_readFactor_8 : decode cX13_readFactor 8 = .ok (.ifCond .ne 12, 3) := by decide +kernel
theorem dX13_readFactor_11 : decode cX13_readFactor 11 = .ok (.aload_n 0, 1) := by decide +kernel
theorem dX13_readFactor_12 : decode cX13_readFactor 12 = .ok (.bipush 40, 2) := by decide +kernel
theorem dX13_readFactor_14 : decode cX13_readFactor 14 = .ok (.invokevirtual 110, 3) := by decide +kernel
theorem dX13_readFactor_17 : decode cX13_readFactor 17 = .ok (.ifCond .eq 66, 3) := by decide +kernel
theorem dX13_readFactor_20 : decode cX13_readFactor 20 = .ok (.aload_n 0, 1) := by decide +kernel
theorem dX13_readFactor_21 : decode cX13_readFactor 21 = .ok (.iload_n 1, 1) := by decide +kernel
theorem dX13_readFactor_22 : decode cX13_readFactor 22 = .ok (.iconst 4, 1) := by decide +kernel
theorem dX13_readFactor_23 : decode cX13_readFactor 23 = .ok (.if_icmp .ge 7, 3) := by decide +kernel
theorem dX13_readFactor_26 : decode cX13_readFactor 26 = .ok (.iconst 1, 1) := by decide +kernel
theorem dX13_readFactor_27 : decode cX13_readFactor 27 = .ok (.goto 4, 3) := by decide +kernel
theorem dX13_readFactor_30 : decode cX13_readFactor 30 = .ok (.iconst 0, 1) := by decide +kernel
theorem dX13_readFactor_31 : decode cX13_readFactor 31 = .ok (.iconst 4, 1) := by decide +kernel
theorem dX13_readFactor_32 : decode cX13_readFactor 32 = .ok (.invokevirtual 57, 3) := by decide +kernel
theorem dX13_readFactor_35 : decode cX13_readFactor 35 = .ok (.aload_n 0, 1) := by decide +kernel
theorem dX13_readFactor_36 : decode cX13_readFactor 36 = .ok (.invokevirtual 69, 3) := by decide +kernel
theorem dX13_readFactor_39 : decode cX13_readFactor 39 = .ok (.iload_n 2, 1) := by decide +kernel
theorem dX13_readFactor_40 : decode cX13_readFactor 40 = .ok (.ifCond .eq 20, 3) := by decide +kernel
theorem dX13_readFactor_43 : decode cX13_readFactor 43 = .ok (.aload_n 0, 1) := by decide +kernel
theorem dX13_readFactor_44 : decode cX13_readFactor 44 = .ok (.iload_n 1, 1) := by decide +kernel
theorem dX13_readFactor_45 : decode cX13_readFactor 45 = .ok (.iconst 1, 1) := by decide +kernel
theorem dX13_readFactor_46 : decode cX13_readFactor 46 = .ok (.iadd, 1) := by decide +kernel
theorem dX13_readFactor_47 : decode cX13_readFactor 47 = .ok (.invokevirtual 113, 3) := by decide +kernel
theorem dX13_readFactor_50 : decode cX13_readFactor 50 = .ok (.aload_n 0, 1) := by decide +kernel
theorem dX13_readFactor_51 : decode cX13_readFactor 51 = .ok (.iconst 2, 1) := by decide +kernel
theorem dX13_readFactor_52 : decode cX13_readFactor 52 = .ok (.bipush 33, 2) := by decide +kernel
theorem dX13_readFactor_54 : decode cX13_readFactor 54 = .ok (.invokevirtual 92, 3) := by decide +kernel
theorem dX13_readFactor_57 : decode cX13_readFactor 57 = .ok (.goto 25, 3) := by decide +kernel
theorem dX13_readFactor_60 : decode cX13_readFactor 60 = .ok (.aload_n 0, 1) := by decide +kernel
theorem dX13_readFactor_61 : decode cX13_readFactor 61 = .ok (.iload_n 1, 1) := by decide +kernel
theorem dX13_readFactor_62 : decode cX13_readFactor 62 = .ok (.iconst 1, 1) := by decide +kernel
theorem dX13_readFactor_63 : decode cX13_readFactor 63 = .ok (.iadd, 1) := by decide +kernel
theorem dX13_readFactor_64 : decode cX13_readFactor 64 = .ok (.invokevirtual 128, 3) := by decide +kernel
theorem dX13_readFactor_67 : decode cX13_readFactor 67 = .ok (.aload_n 0, 1) := by decide +kernel
theorem dX13_readFactor_68 : decode cX13_readFactor 68 = .ok (.aload_n 0, 1) := by decide +kernel
theorem dX13_readFactor_69 : decode cX13_readFactor 69 = .ok (.bipush 41, 2) := by decide +kernel
theorem dX13_readFactor_71 : decode cX13_readFactor 71 = .ok (.invokevirtual 110, 3) := by decide +kernel
theorem dX13_readFactor_74 : decode cX13_readFactor 74 = .ok (.iconst 1, 1) := by decide +kernel
theorem dX13_readFactor_75 : decode cX13_readFactor 75 = .ok (.invokevirtual 57, 3) := by decide +kernel
theorem dX13_readFactor_78 : decode cX13_readFactor 78 = .ok (.aload_n 0, 1) := by decide +kernel
theorem dX13_readFactor_79 : decode cX13_readFactor 79 = .ok (.invokevirtual 69, 3) := by decide +kernel
theorem dX13_readFactor_82 : decode cX13_readFactor 82 = .ok (.return_, 1) := by decide +kernel
theorem dX13_readFactor_83 : decode cX13_readFactor 83 = .ok (.aload_n 0, 1) := by decide +kernel
theorem dX13_readFactor_84 : decode cX13_readFactor 84 = .ok (.invokevirtual 131, 3) := by decide +kernel
theorem dX13_readFactor_87 : decode cX13_readFactor 87 = .ok (.istore_n 3, 1) := by decide +kernel
theorem dX13_readFactor_88 : decode cX13_readFactor 88 = .ok (.aload_n 0, 1) := by decide +kernel
theorem dX13_readFactor_89 : decode cX13_readFactor 89 = .ok (.iload_n 3, 1) := by decide +kernel
theorem dX13_readFactor_90 : decode cX13_readFactor 90 = .ok (.iconst (-1), 1) := by decide +kernel
theorem dX13_readFactor_91 : decode cX13_readFactor 91 = .ok (.if_icmp .ne 11, 3) := by decide +kernel
theorem dX13_readFactor_94 : decode cX13_readFactor 94 = .ok (.aload_n 0, 1) := by decide +kernel
theorem dX13_readFactor_95 : decode cX13_readFactor 95 = .ok (.getfield 31, 3) := by decide +kernel
theorem dX13_readFactor_98 : decode cX13_readFactor 98 = .ok (.iconst 2, 1) := by decide +kernel
theorem dX13_readFactor_99 : decode cX13_readFactor 99 = .ok (.if_icmp .ne 7, 3) := by decide +kernel
theorem dX13_readFactor_102 : decode cX13_readFactor 102 = .ok (.iconst 1, 1) := by decide +kernel
theorem dX13_readFactor_103 : decode cX13_readFactor 103 = .ok (.goto 4, 3) := by decide +kernel
theorem dX13_readFactor_106 : decode cX13_readFactor 106 = .ok (.iconst 0, 1) := by decide +kernel
theorem dX13_readFactor_107 : decode cX13_readFactor 107 = .ok (.iconst 1, 1) := by decide +kernel
theorem dX13_readFactor_108 : decode cX13_readFactor 108 = .ok (.invokevirtual 57, 3) := by decide +kernel
theorem dX13_readFactor_111 : decode cX13_readFactor 111 = .ok (.aload_n 0, 1) := by decide +kernel
theorem dX13_readFactor_112 : decode cX13_readFactor 112 = .ok (.aload_n 0, 1) := by decide +kernel
theorem dX13_readFactor_113 : decode cX13_readFactor 113 = .ok (.getfield 134, 3) := by decide +kernel
theorem dX13_readFactor_116 : decode cX13_readFactor 116 = .ok (.bipush 12, 2) := by decide +kernel
theorem dX13_readFactor_118 : decode cX13_readFactor 118 = .ok (.if_icmp .ge 7, 3) := by decide +kernel
theorem dX13_readFactor_121 : decode cX13_readFactor 121 = .ok (.iconst 1, 1) := by decide +kernel
theorem dX13_readFactor_122 : decode cX13_readFactor 122 = .ok (.goto 4, 3) := by decide +kernel
theorem dX13_readFactor_125 : decode cX13_readFactor 125 = .ok (.iconst 0, 1) := by decide +kernel
theorem dX13_readFactor_126 : decode cX13_readFactor 126 = .ok (.iconst 4, 1) := by decide +kernel
theorem dX13_readFactor_127 : decode cX13_readFactor 127 = .ok (.invokevirtual 57, 3) := by decide +kernel
theorem dX13_readFactor_130 : decode cX13_readFactor 130 = .ok (.aload_n 0, 1) := by decide +kernel
theorem dX13_readFactor_131 : decode cX13_readFactor 131 = .ok (.dup, 1) := by decide +kernel
theorem dX13_readFactor_132 : decode cX13_readFactor 132 = .ok (.getfield 134, 3) := by decide +kernel
theorem dX13_readFactor_135 : decode cX13_readFactor 135 = .ok (.iconst 1, 1) := by decide +kernel
theorem dX13_readFactor_136 : decode cX13_readFactor 136 = .ok (.iadd, 1) := by decide +kernel
theorem dX13_readFactor_137 : decode cX13_readFactor 137 = .ok (.putfield 134, 3) := by decide +kernel
theorem dX13_readFactor_140 : decode cX13_readFactor 140 = .ok (.aload_n 0, 1) := by decide +kernel
theorem dX13_readFactor_141 : decode cX13_readFactor 141 = .ok (.iload_n 3, 1) := by decide +kernel
theorem dX13_readFactor_142 : decode cX13_readFactor 142 = .ok (.iconst (-1), 1) := by decide +kernel
theorem dX13_readFactor_143 : decode cX13_readFactor 143 = .ok (.if_icmp .ne 7, 3) := by decide +kernel
theorem dX13_readFactor_146 : decode cX13_readFactor 146 = .ok (.iconst 0, 1) := by decide +kernel
theorem dX13_readFactor_147 : decode cX13_readFactor 147 = .ok (.goto 4, 3) := by decide +kernel
theorem dX13_readFactor_150 : decode cX13_readFactor 150 = .ok (.iconst 1, 1) := by decide +kernel
theorem dX13_readFactor_151 : decode cX13_readFactor 151 = .ok (.iload_n 3, 1) := by decide +kernel
theorem dX13_readFactor_152 : decode cX13_readFactor 152 = .ok (.iconst (-1), 1) := by decide +kernel
theorem dX13_readFactor_153 : decode cX13_readFactor 153 = .ok (.if_icmp .ne 10, 3) := by decide +kernel
theorem dX13_readFactor_156 : decode cX13_readFactor 156 = .ok (.aload_n 0, 1) := by decide +kernel
theorem dX13_readFactor_157 : decode cX13_readFactor 157 = .ok (.getfield 41, 3) := by decide +kernel
theorem dX13_readFactor_160 : decode cX13_readFactor 160 = .ok (.goto 4, 3) := by decide +kernel
theorem dX13_readFactor_163 : decode cX13_readFactor 163 = .ok (.iload_n 3, 1) := by decide +kernel
theorem dX13_readFactor_164 : decode cX13_readFactor 164 = .ok (.invokevirtual 92, 3) := by decide +kernel
theorem dX13_readFactor_167 : decode cX13_readFactor 167 = .ok (.aload_n 0, 1) := by decide +kernel
theorem dX13_readFactor_168 : decode cX13_readFactor 168 = .ok (.invokevirtual 69, 3) := by decide +kernel
theorem dX13_readFactor_171 : decode cX13_readFactor 171 = .ok (.return_, 1) := by decide +kernel
set_option maxRecDepth 20000 in
theorem ggX13_readFactor_X13_isSign : GoodIn wsX13_readFactor wsX13_isSign := goodIn_r _ [8, 1, 3, 107, 108, 109, 110, 111, 112, 113, 114, 115, 116, 117, 118, 119, 120, 121, 122, 123, 124, 125, 126, 127, 128, 129, 130, 131, 132, 133, 134, 135, 136, 137, 138, 139, 140, 141, 142, 143, 144, 145, 146, 147, 148, 149, 150, 151, 152, 153, 154, 155, 156, 157, 158, 159, 160, 161, 162, 163, 164, 165, 166, 167, 168, 169, 170, 171, 172, 173, 174, 175, 176, 177, 178, 179] rfl (by decide +kernel)
set_option maxRecDepth 20000 in
theorem gX13_readFactor_X13_isSign : GoodIn wsX13_readFactor (wsV RX13 110 RX13 yX13_isSign wsX13_isSign) := goodIn_app (goodIn_of _ (by decide +kernel)) ggX13_readFactor_X13_isSign
set_option maxRecDepth 20000 in
theorem ggX13_readFactor_X13_letterAtHand : GoodIn wsX13_readFactor wsX13_letterAtHand := goodIn_r _ [48, 39, 49, 50, 51, 7, 52, 1, 17, 20, 19, 53, 54, 55, 56, 57, 58, 59, 60, 61, 62, 63, 64, 65, 66, 67, 68, 69, 70, 71, 72, 73, 74, 75, 76, 77, 78, 79, 80, 81, 82, 83, 84, 85, 86, 87, 88, 89, 90, 91, 92, 93, 94, 95, 96, 97, 98, 99, 100, 101, 107, 108, 109, 110, 111, 112, 113, 114, 115, 116, 117, 118, 119, 120, 121, 122, 123, 124, 125, 126, 127, 128, 129, 130, 131, 132, 133, 134, 135, 136, 137, 138, 139, 140, 141, 142, 143, 144, 145, 146, 147, 148, 149, 150, 151, 152, 153, 154, 155, 156, 157, 158, 159, 160, 161, 162, 163, 164, 165, 166, 167, 168, 169, 170, 171, 172, 173, 174, 175, 176, 177, 178, 179] rfl (by decide +kernel)
set_option maxRecDepth 20000 in
theorem gX13_readFactor_X13_letterAtHand : GoodIn wsX13_readFactor (wsV RX13 131 RX13 yX13_letterAtHand wsX13_letterAtHand) := goodIn_app (goodIn_of _ (by decide +kernel)) ggX13_readFactor_X13_letterAtHand
set_option maxRecDepth 20000 in
theorem ggX13_readFactor_X13_mark : GoodIn wsX13_readFactor wsX13_mark := goodIn_r _ [37, 38, 39, 40, 41, 107, 108, 109, 110, 111, 112, 113, 114, 115, 116, 117, 118, 119, 120, 121, 122, 123, 124, 125, 126, 127, 128, 129, 130, 131, 132, 133, 134, 135, 136, 137, 138, 139, 140, 141, 142, 143, 144, 145, 146, 147, 148, 149, 150, 151, 152, 153, 154, 155, 156, 157, 158, 159, 160, 161, 162, 163, 164, 165, 166, 167, 168, 169, 170, 171, 172, 173, 174, 175, 176, 177, 178, 179] rfl (by decide +kernel)
set_option maxRecDepth 20000 in
theorem gX13_readFactor_X13_mark : GoodIn wsX13_readFactor (wsV RX13 92 RX13 yX13_mark wsX13_mark) := goodIn_app (goodIn_of _ (by decide +kernel)) ggX13_readFactor_X13_mark
set_option maxRecDepth 20000 in
theorem ggX13_readFactor_X13_need : GoodIn wsX13_readFactor wsX13_need := goodIn_r _ [12] rfl (by decide +kernel)
set_option maxRecDepth 20000 in
theorem gX13_readFactor_X13_need : GoodIn wsX13_readFactor (wsV RX13 57 RX13 yX13_need wsX13_need) := goodIn_app (goodIn_of _ (by decide +kernel)) ggX13_readFactor_X13_need
set_option maxRecDepth 20000 in
theorem ggX13_readFactor_X13_scan : GoodIn wsX13_readFactor wsX13_scan := goodIn_r _ [16, 17, 18, 19, 20, 1, 3, 21, 22, 23, 7, 24, 25, 26, 27, 28, 29, 30, 107, 108, 109, 110, 111, 112, 113, 114, 115, 116, 117, 118, 119, 120, 121, 122, 123, 124, 125, 126, 127, 128, 129, 130, 131, 132, 133, 134, 135, 136, 137, 138, 139, 140, 141, 142, 143, 144, 145, 146, 147, 148, 149, 150, 151, 152, 153, 154, 155, 156, 157, 158, 159, 160, 161, 162, 163, 164, 165, 166, 167, 168, 169, 170, 171, 172, 173, 174, 175, 176, 177, 178, 179] rfl (by decide +kernel)
set_option maxRecDepth 20000 in
theorem gX13_readFactor_X13_scan : GoodIn wsX13_readFactor (wsV RX13 69 RX13 yX13_scan wsX13_scan) := goodIn_app (goodIn_of _ (by decide +kernel)) ggX13_readFactor_X13_scan
def wsT_X13_readFactor : List Cond := wsX13_readFactor ++ wsT_nx
theorem gT_X13_readFactor_X13_need : GoodIn wsT_X13_readFactor (wsV RX13 57 RX13 yX13_need wsT_X13_need) := gT_call gX13_readFactor_X13_need gT_nx
set_option maxHeartbeats 4000000 in
set_option maxRecDepth 100000 in
theorem S_X13_readFactor_v4 (l : Launch) (D : va_G) (K : Nat → ClassId) (a : Nat → Nat) (G : gS) (qs vs : Nat → Nat) (pb : ((G 0 5).toInt ≤ (G 0 3).toInt)) (s35 : (3 ≤ (G 0 20).toInt)) (m6 : ((G 12 ((G 0 20).toInt).toNat).toInt ≤ 6 * (G 0 21).toInt)) (hI : yI G) (sz : Nat) : KxvZ (yZ qs vs) l yX13_readFactor wsT_X13_readFactor 7 169 D [.ref (a 0), .int 4] (yW K a G) (tK K) sz (fun (G' : gS) => (yI G') ∧ (gu_un ycd [5, 6, 7, 8, 9, 10, 22, 1000, 1100, 1200] G G') ∧ (((G' 0 5).toInt ≤ (G 0 3).toInt ∧ (G 0 5).toInt ≤ (G' 0 5).toInt ∧ ((G' 0 6).toInt = 0 ∨ (G 0 5).toInt < (G' 0 5).toInt))) ∧ (ySg 2 (G 0 20).toInt G G') ∧ (yKp G G') ∧ (ySim cA ((G 0 20).toInt - 3).toNat (qW 4 (G 0 21).toInt (mL (G 0 20).toInt G)) (qF 4 (G' 0 21).toInt (mL (G 0 20).toInt G')) G G') ∧ (yFf G G')) (fun (G' : gS) => (yI G') ∧ (gu_un ycd [5, 6, 7, 8, 9, 10, 22, 1000, 1100, 1200] G G') ∧ (yKp G G') ∧ (yThr cA ((G 0 20).toInt - 3).toNat (qW 4 (G 0 21).toInt (mL (G 0 20).toInt G)) G G') ∧ (((G' 0 8).toInt ≠ 0))) (a 1) (fun (G' : gS) => (yW K a G')) := by
  unfold KxvZ
  refine gxz_ofW (cc := cX13_readFactor) (lv := [(0, .ref (a 0)), (1, .int 4)]) (by decide) rfl (Nat.le_of_ble_eq_true rfl) rfl ?_
  intro p e s m args below meth c A Q hA hQ hZ F hr hex
  have hts := F.2.2.2.2.1
  have w_0 : (Cond.fieldLink RX13 134 "QuietCutModel" "parts" "I").before args s = true := hts _ (List.mem_of_getElem? (i := 2) rfl)
  have i_X13 : ∀ w ∈ u_ws RX13 TX13 73, w ∈ wsT_X13_readFactor := fun w h => List.mem_append_left _ ((show ∀ w ∈ u_ws RX13 TX13 73, w ∈ wsX13_readFactor from fun _ h => List.mem_cons_of_mem _ (List.mem_append_right _ h)) w h)
  have w_1 : (Cond.fieldLink RX13 31 "QuietCutModel" "hand" "I").before args s = true := hts _ (List.mem_of_getElem? (i := 1) rfl)
  have w_2 : (Cond.fieldLink RX13 41 "QuietCutModel" "value" "I").before args s = true := hts _ (List.mem_of_getElem? (i := 3) rfl)
  have b1 : (0 : Int) ≤ (G 0 3).toInt ∧ (G 0 3).toInt ≤ 1000 := hI 0 3
  have b2 : (0 : Int) ≤ (G 0 5).toInt ∧ (G 0 5).toInt ≤ 1000 := hI 0 5
  have b3 : (0 : Int) ≤ (G 0 6).toInt ∧ (G 0 6).toInt ≤ 4 := hI 0 6
  have b4 : (0 : Int) ≤ (G 0 20).toInt ∧ (G 0 20).toInt ≤ 5 := hI 0 20
  have b5 : (0 : Int) ≤ (G 0 21).toInt ∧ (G 0 21).toInt ≤ 12 := hI 0 21
  refine g_aload_n F 0 dX13_readFactor_0 rfl rfl ?_
  refine g_bipush F 45 dX13_readFactor_1 (by decide) ?_
  refine u_callVi (k := 0) (n := 0) (b := a 0) (As := [.int 45]) (st := []) F (fun sz => S_X13_isSign l D K a G 45 45 rfl hI sz) (cwV 1 hts (gT_left gX13_readFactor_X13_isSign) rfl rfl rfl (by decide +kernel) ⟨Nat.le_of_ble_eq_true rfl, Nat.le_of_ble_eq_true rfl⟩) rfl 0 yc_0 rfl (Nat.le_of_ble_eq_true rfl) ⟨Nat.zero_le _, Nat.zero_le _⟩ dX13_readFactor_3 (fun r6 _ hw7 => ?_)
  rcases hw7 with ⟨rfl, q9⟩ | ⟨rfl, q10⟩
  · have b11 : (0 : Int) ≤ (G 0 7).toInt ∧ (G 0 7).toInt ≤ 9999 := hI 0 7
    have q9 : ((G 0 6).toInt = 3 ∧ (G 0 7).toInt = (45 : Int)) := q9
    refine g_istore_n F [(2, .int 1), (0, .ref (a 0)), (1, .int 4)] dX13_readFactor_6 rfl (by decide) rfl ?_
    refine g_iload_n F 0 dX13_readFactor_7 rfl rfl ?_
    refine v_if_ne F 20 dX13_readFactor_8 (by decide) 1 rfl (fun c12 => ?_) (fun c12 => absurd c12 (by decide))
    refine g_aload_n F 1 dX13_readFactor_20 rfl rfl ?_
    refine g_iload_n F 2 dX13_readFactor_21 rfl rfl ?_
    refine g_iconst F 4 dX13_readFactor_22 (by decide) ?_
    refine v_icmp_ge F 30 dX13_readFactor_23 (by decide) 4 4 rfl rfl (fun c13 => ?_) (fun c13 => absurd c13 (by decide))
    refine g_iconst F 0 dX13_readFactor_30 (by decide) ?_
    refine g_iconst F 4 dX13_readFactor_31 (by decide) ?_
    refine ux_callvv (k := 0) (n := 0) (b := a 0) (As := [.int 0, .int 4]) (st := []) F (fun sz => S_X13_need l D K a G 0 0 4 4 rfl (by decide) rfl hI sz) (cwV 2 hts gT_X13_readFactor_X13_need rfl rfl rfl (by decide +kernel) ⟨Nat.le_of_ble_eq_true rfl, Nat.le_of_ble_eq_true rfl⟩) rfl 0 yc_0 rfl (Nat.le_of_ble_eq_true rfl) ⟨Nat.zero_le _, Nat.zero_le _⟩ dX13_readFactor_32 hex hA hQ (fun u9 h9 => ⟨h9.1, gu_un.tr gu_un.rf (gu_un.su h9.2.1 rfl), (yKp.un yKp.rf h9.2.1 rfl), (yF_deep (show gu_un ycd [] G G from gu_un.rf) rfl (by omega) (by omega) (by decide) h9.2.2.2.1 h9.2.2.2.2), (by have h9 := h9.2.2.2.1; omega)⟩) (fun G16 hw15 => ?_)
    have hI17 : yI G16 := hw15.1
    have hU18 : gu_un ycd [9, 10] G G16 := hw15.2.1
    have hp19 := hw15.2.2
    have q20 : ((0 : Int) ≠ 0) := hp19.1
    have q21 : yFf G G16 := hp19.2
    exfalso; omega
  · have b22 : (0 : Int) ≤ (G 0 7).toInt ∧ (G 0 7).toInt ≤ 9999 := hI 0 7
    have q10 : ((G 0 6).toInt ≠ 3 ∨ (G 0 7).toInt ≠ (45 : Int)) := q10
    refine g_istore_n F [(2, .int 0), (0, .ref (a 0)), (1, .int 4)] dX13_readFactor_6 rfl (by decide) rfl ?_
    refine g_iload_n F 0 dX13_readFactor_7 rfl rfl ?_
    refine v_if_ne F 20 dX13_readFactor_8 (by decide) 0 rfl (fun c23 => absurd c23 (by decide)) (fun c23 => ?_)
    refine g_aload_n F 1 dX13_readFactor_11 rfl rfl ?_
    refine g_bipush F 40 dX13_readFactor_12 (by decide) ?_
    refine u_callVi (k := 0) (n := 0) (b := a 0) (As := [.int 40]) (st := []) F (fun sz => S_X13_isSign l D K a G 40 40 rfl hI sz) (cwV 1 hts (gT_left gX13_readFactor_X13_isSign) rfl rfl rfl (by decide +kernel) ⟨Nat.le_of_ble_eq_true rfl, Nat.le_of_ble_eq_true rfl⟩) rfl 0 yc_0 rfl (Nat.le_of_ble_eq_true rfl) ⟨Nat.zero_le _, Nat.zero_le _⟩ dX13_readFactor_14 (fun r24 _ hw25 => ?_)
    rcases hw25 with ⟨rfl, q27⟩ | ⟨rfl, q28⟩
    · have q27 : ((G 0 6).toInt = 3 ∧ (G 0 7).toInt = (40 : Int)) := q27
      refine v_if_eq F 83 dX13_readFactor_17 (by decide) 1 rfl (fun c29 => absurd c29 (by decide)) (fun c29 => ?_)
      refine g_aload_n F 1 dX13_readFactor_20 rfl rfl ?_
      refine g_iload_n F 2 dX13_readFactor_21 rfl rfl ?_
      refine g_iconst F 4 dX13_readFactor_22 (by decide) ?_
      refine v_icmp_ge F 30 dX13_readFactor_23 (by decide) 4 4 rfl rfl (fun c30 => ?_) (fun c30 => absurd c30 (by decide))
      refine g_iconst F 0 dX13_readFactor_30 (by decide) ?_
      refine g_iconst F 4 dX13_readFactor_31 (by decide) ?_
      refine ux_callvv (k := 0) (n := 0) (b := a 0) (As := [.int 0, .int 4]) (st := []) F (fun sz => S_X13_need l D K a G 0 0 4 4 rfl (by decide) rfl hI sz) (cwV 2 hts gT_X13_readFactor_X13_need rfl rfl rfl (by decide +kernel) ⟨Nat.le_of_ble_eq_true rfl, Nat.le_of_ble_eq_true rfl⟩) rfl 0 yc_0 rfl (Nat.le_of_ble_eq_true rfl) ⟨Nat.zero_le _, Nat.zero_le _⟩ dX13_readFactor_32 hex hA hQ (fun u9 h9 => ⟨h9.1, gu_un.tr gu_un.rf (gu_un.su h9.2.1 rfl), (yKp.un yKp.rf h9.2.1 rfl), (yF_deep (show gu_un ycd [] G G from gu_un.rf) rfl (by omega) (by omega) (by decide) h9.2.2.2.1 h9.2.2.2.2), (by have h9 := h9.2.2.2.1; omega)⟩) (fun G33 hw32 => ?_)
      have hI34 : yI G33 := hw32.1
      have hU35 : gu_un ycd [9, 10] G G33 := hw32.2.1
      have hp36 := hw32.2.2
      have q37 : ((0 : Int) ≠ 0) := hp36.1
      have q38 : yFf G G33 := hp36.2
      exfalso; omega
    · have q28 : ((G 0 6).toInt ≠ 3 ∨ (G 0 7).toInt ≠ (40 : Int)) := q28
      refine v_if_eq F 83 dX13_readFactor_17 (by decide) 0 rfl (fun c39 => ?_) (fun c39 => absurd c39 (by decide))
      refine g_aload_n F 1 dX13_readFactor_83 rfl rfl ?_
      refine uz_callVi (k := 0) (n := 0) (b := a 0) (As := []) (st := []) F yZ_st hZ (fun sz => S_X13_letterAtHand l D K a G qs vs  (by (first | omega | (simp only [Int32.reduceToInt, true_and, and_true, ne_eq, not_true_eq_false, false_and, or_false, false_or, true_or, or_true, false_implies] <;> omega))) hI sz) (cwV 0 hts (gT_left gX13_readFactor_X13_letterAtHand) rfl rfl rfl (by decide +kernel) ⟨Nat.le_of_ble_eq_true rfl, Nat.le_of_ble_eq_true rfl⟩) rfl 0 yc_0 rfl (Nat.le_of_ble_eq_true rfl) ⟨Nat.zero_le _, Nat.zero_le _⟩ dX13_readFactor_84 (fun r40 _ hw41 => ?_)
      have q43 : (r40.toInt = yLt ((G 0 20).toInt - 3) G) := hw41.2
      have rg44 := hw41.1
      clear hw41
      refine g_istore_n F [(3, .int r40), (2, .int 0), (0, .ref (a 0)), (1, .int 4)] dX13_readFactor_87 rfl (by decide) rfl ?_
      refine g_aload_n F 2 dX13_readFactor_88 rfl rfl ?_
      refine g_iload_n F 0 dX13_readFactor_89 rfl rfl ?_
      refine g_iconst F (-1) dX13_readFactor_90 (by decide) ?_
      refine v_icmp_ne F 102 dX13_readFactor_91 (by decide) r40.toInt (-1) rfl rfl (fun c45 => ?_) (fun c45 => ?_)
      · refine g_iconst F 1 dX13_readFactor_102 (by decide) ?_
        refine g_goto F 107 dX13_readFactor_103 (by decide) ?_
        refine g_iconst F 1 dX13_readFactor_107 (by decide) ?_
        refine ux_callvv (k := 0) (n := 0) (b := a 0) (As := [.int 1, .int 1]) (st := []) F (fun sz => S_X13_need l D K a G 1 1 1 1 rfl (by decide) rfl hI sz) (cwV 2 hts gT_X13_readFactor_X13_need rfl rfl rfl (by decide +kernel) ⟨Nat.le_of_ble_eq_true rfl, Nat.le_of_ble_eq_true rfl⟩) rfl 0 yc_0 rfl (Nat.le_of_ble_eq_true rfl) ⟨Nat.zero_le _, Nat.zero_le _⟩ dX13_readFactor_108 hex hA hQ (fun u9 h9 => ⟨h9.1, gu_un.tr gu_un.rf (gu_un.su h9.2.1 rfl), (yKp.un yKp.rf h9.2.1 rfl), (absurd h9.2.2.1 (by decide)), (absurd h9.2.2.1 (by decide))⟩) (fun G48 hw47 => ?_)
        have hI49 : yI G48 := hw47.1
        have hU50 : gu_un ycd [9, 10] G G48 := hw47.2.1
        have hp51 := hw47.2.2
        have q52 : ((1 : Int) ≠ 0) := hp51.1
        have q53 : yFf G G48 := hp51.2
        clear hp51 hw47
        refine g_aload_n F 2 dX13_readFactor_111 rfl rfl ?_
        refine g_aload_n F 2 dX13_readFactor_112 rfl rfl ?_
        refine yg_0_21 F i_X13 w_0 dX13_readFactor_113 (G 0 21) (hU50 0 21 (by decide)) ?_
        refine g_bipush F 12 dX13_readFactor_116 (by decide) ?_
        refine v_icmp_ge F 125 dX13_readFactor_118 (by decide) (G 0 21).toInt 12 rfl rfl (fun c54 => ?_) (fun c54 => ?_)
        · refine g_iconst F 0 dX13_readFactor_125 (by decide) ?_
          refine g_iconst F 4 dX13_readFactor_126 (by decide) ?_
          refine ux_callvv (k := 0) (n := 0) (b := a 0) (As := [.int 0, .int 4]) (st := []) F (fun sz => S_X13_need l D K a G48 0 0 4 4 rfl (by decide) rfl hI49 sz) (cwV 2 hts gT_X13_readFactor_X13_need rfl rfl rfl (by decide +kernel) ⟨Nat.le_of_ble_eq_true rfl, Nat.le_of_ble_eq_true rfl⟩) rfl 0 yc_0 rfl (Nat.le_of_ble_eq_true rfl) ⟨Nat.zero_le _, Nat.zero_le _⟩ dX13_readFactor_127 hex hA hQ (fun u9 h9 => ⟨h9.1, gu_un.tr (gu_un.tr gu_un.rf (gu_un.su hU50 rfl)) (gu_un.su h9.2.1 rfl), (yKp.un (yKp.un yKp.rf (show gu_un ycd [9, 10] G G48 from (gu_un.tr gu_un.rf (gu_un.su hU50 rfl))) rfl) h9.2.1 rfl), (by have h8 := q43; exact yF_many (show (((((G 0 20).toInt - 3).toNat : Nat)) : Int) = (G 0 20).toInt - 3 by omega) (show gu_un ycd [9, 10] G G48 from (gu_un.tr gu_un.rf (gu_un.su hU50 rfl))) rfl (by first | exact Or.inl (by omega) | exact Or.inr ⟨by unfold yLt at h8; split at h8 <;> omega, by rw [← q43]; omega⟩) (by omega) h9.2.2.2.1 h9.2.2.2.2), (by have h9 := h9.2.2.2.1; omega)⟩) (fun G57 hw56 => ?_)
          have hI58 : yI G57 := hw56.1
          have hU59 : gu_un ycd [9, 10] G48 G57 := hw56.2.1
          have hp60 := hw56.2.2
          have q61 : ((0 : Int) ≠ 0) := hp60.1
          have q62 : yFf G48 G57 := hp60.2
          exfalso; omega
        · refine g_iconst F 1 dX13_readFactor_121 (by decide) ?_
          refine g_goto F 126 dX13_readFactor_122 (by decide) ?_
          refine g_iconst F 4 dX13_readFactor_126 (by decide) ?_
          refine ux_callvv (k := 0) (n := 0) (b := a 0) (As := [.int 1, .int 4]) (st := []) F (fun sz => S_X13_need l D K a G48 1 1 4 4 rfl (by decide) rfl hI49 sz) (cwV 2 hts gT_X13_readFactor_X13_need rfl rfl rfl (by decide +kernel) ⟨Nat.le_of_ble_eq_true rfl, Nat.le_of_ble_eq_true rfl⟩) rfl 0 yc_0 rfl (Nat.le_of_ble_eq_true rfl) ⟨Nat.zero_le _, Nat.zero_le _⟩ dX13_readFactor_127 hex hA hQ (fun u9 h9 => ⟨h9.1, gu_un.tr (gu_un.tr gu_un.rf (gu_un.su hU50 rfl)) (gu_un.su h9.2.1 rfl), (yKp.un (yKp.un yKp.rf (show gu_un ycd [9, 10] G G48 from (gu_un.tr gu_un.rf (gu_un.su hU50 rfl))) rfl) h9.2.1 rfl), (absurd h9.2.2.1 (by decide)), (absurd h9.2.2.1 (by decide))⟩) (fun G65 hw64 => ?_)
          have hI66 : yI G65 := hw64.1
          have hU67 : gu_un ycd [9, 10] G48 G65 := hw64.2.1
          have hp68 := hw64.2.2
          have q69 : ((1 : Int) ≠ 0) := hp68.1
          have q70 : yFf G48 G65 := hp68.2
          clear hp68 hw64
          refine g_aload_n F 2 dX13_readFactor_130 rfl rfl ?_
          refine g_dup F dX13_readFactor_131 rfl ?_
          refine yg_0_21 F i_X13 w_0 dX13_readFactor_132 (G 0 21) ((hU67 0 21 (by decide)).trans (hU50 0 21 (by decide))) ?_
          refine g_iconst F 1 dX13_readFactor_135 (by decide) ?_
          refine u_iadd F dX13_readFactor_136 (G 0 21).toInt 1 rfl rfl (by omega) (by omega) (fun y71 ey71 => ?_)
          refine yp_0_21 F i_X13 w_0 dX13_readFactor_137 ?_
          refine g_aload_n F 2 dX13_readFactor_140 rfl rfl ?_
          refine g_iload_n F 0 dX13_readFactor_141 rfl rfl ?_
          refine g_iconst F (-1) dX13_readFactor_142 (by decide) ?_
          refine v_icmp_ne F 150 dX13_readFactor_143 (by decide) r40.toInt (-1) rfl rfl (fun c72 => ?_) (fun c72 => absurd c72 (by omega))
          refine g_iconst F 1 dX13_readFactor_150 (by decide) ?_
          refine g_iload_n F 0 dX13_readFactor_151 rfl rfl ?_
          refine g_iconst F (-1) dX13_readFactor_152 (by decide) ?_
          refine v_icmp_ne F 163 dX13_readFactor_153 (by decide) r40.toInt (-1) rfl rfl (fun c73 => ?_) (fun c73 => absurd c73 (by omega))
          refine g_iload_n F 0 dX13_readFactor_163 rfl rfl ?_
          refine u_callVv (k := 0) (n := 0) (b := a 0) (As := [.int 1, .int r40]) (st := []) F (fun sz => S_X13_mark l D K a (gu_up G65 0 21 y71) 1 1 r40 r40.toInt rfl (by decide) rfl (by omega) (by rw [show (gu_up G65 0 21 y71) 0 20 = G 0 20 from (hU67 0 20 (by decide)).trans (hU50 0 20 (by decide))]; have h9 : (G65 12 ((G 0 20).toInt).toNat).toInt ≤ 6 * (G65 0 21).toInt := (y_m6 m6 (show gu_un ycd [9, 10] G G65 from (gu_un.tr (gu_un.tr gu_un.rf (gu_un.su hU50 rfl)) (gu_un.su hU67 rfl))) rfl rfl); have h8 : (0 : Int) ≤ (G65 0 21).toInt ∧ (G65 0 21).toInt ≤ 12 := hI66 0 21; show (G65 12 ((G 0 20).toInt).toNat).toInt ≤ 79; omega) (gu_I.up (j := 0) (k := 21) (v := y71) hI66 (show (0 : Int) ≤ Int32.toInt y71 by omega) (show Int32.toInt y71 ≤ 12 by omega)) sz) (cwV 2 hts (gT_left gX13_readFactor_X13_mark) rfl rfl rfl (by decide +kernel) ⟨Nat.le_of_ble_eq_true rfl, Nat.le_of_ble_eq_true rfl⟩) rfl 0 yc_0 rfl (Nat.le_of_ble_eq_true rfl) ⟨Nat.zero_le _, Nat.zero_le _⟩ dX13_readFactor_164 (fun G76 hw75 => ?_)
          have hI77 : yI G76 := hw75.1
          have hU78 : gu_un ycd [1000, 1100, 1200] (gu_up G65 0 21 y71) G76 := hw75.2.1
          have hp79 := hw75.2.2
          have q80 : yMk 1 r40 (G 0 20).toInt (gu_up G65 0 21 y71) G76 := by have h9 := hp79; (try simp only [(show (gu_up G65 0 21 y71) 0 20 = (G 0 20) from (hU67 0 20 (by decide)).trans (hU50 0 20 (by decide)))] at h9); first | exact h9 | omega
          have m0 : 0 ≤ (G 12 ((G 0 20).toInt).toNat).toInt := (show (0 : Int) ≤ (G 12 ((G 0 20).toInt).toNat).toInt ∧ (G 12 ((G 0 20).toInt).toNat).toInt ≤ 80 from hI 12 _).1
          have m1 : 0 ≤ ((gu_up G65 0 21 y71) 12 ((G 0 20).toInt).toNat).toInt := (show (0 : Int) ≤ (G65 12 ((G 0 20).toInt).toNat).toInt ∧ (G65 12 ((G 0 20).toInt).toNat).toInt ≤ 80 from hI66 12 _).1
          have kp81 : yKp G G76 := yKp.tr (yKp.un yKp.rf (show gu_un ycd [9, 10, 22] G (gu_up G65 0 21 y71) from (gu_un.up (j := 0) (k := 21) (v := y71) (gu_un.tr (gu_un.tr gu_un.rf (gu_un.su hU50 rfl)) (gu_un.su hU67 rfl)) (show (22 : Nat) ∈ ([9, 10, 22] : List Nat) by decide))) rfl) (q80.kp (by omega) m1)
          have sg82 : ySg 2 (G 0 20).toInt G G76 := yMk.leaf q80 (by first | decide | omega) (by decide) (by omega) (show (gu_up G65 0 21 y71) 10 = G 10 from (show G65 10 = G48 10 from funext fun k_ => hU67 10 k_ (show (1000 : Nat) ∉ ([9, 10] : List Nat) by decide)).trans ((show G48 10 = G 10 from funext fun k_ => hU50 10 k_ (show (1000 : Nat) ∉ ([9, 10] : List Nat) by decide)))) (show (gu_up G65 0 21 y71) 11 = G 11 from (show G65 11 = G48 11 from funext fun k_ => hU67 11 k_ (show (1100 : Nat) ∉ ([9, 10] : List Nat) by decide)).trans ((show G48 11 = G 11 from funext fun k_ => hU50 11 k_ (show (1100 : Nat) ∉ ([9, 10] : List Nat) by decide)))) (show (gu_up G65 0 21 y71) 12 = G 12 from (show G65 12 = G48 12 from funext fun k_ => hU67 12 k_ (show (1200 : Nat) ∉ ([9, 10] : List Nat) by decide)).trans ((show G48 12 = G 12 from funext fun k_ => hU50 12 k_ (show (1200 : Nat) ∉ ([9, 10] : List Nat) by decide)))) m0 (by omega) (show (y71 : Int32).toInt = _ by omega)
          clear hp79 hw75
          refine g_aload_n F 2 dX13_readFactor_167 rfl rfl ?_
          refine u_callVv (k := 0) (n := 0) (b := a 0) (As := []) (st := []) F (fun sz => S_X13_scan l D K a G76  (by have e9_0_3 : G76 0 3 = (G 0 3) := (hU78 0 3 (by decide)).trans ((hU67 0 3 (by decide)).trans (hU50 0 3 (by decide))); have e9_0_5 : G76 0 5 = (G 0 5) := (hU78 0 5 (by decide)).trans ((hU67 0 5 (by decide)).trans (hU50 0 5 (by decide))); (try simp only [e9_0_3, e9_0_5, true_and, and_true]) <;> (first | omega | (simp only [Int32.reduceToInt, true_and, and_true, ne_eq, not_true_eq_false, false_and, or_false, false_or, true_or, or_true, false_implies] <;> omega))) hI77 sz) (cwV 0 hts (gT_left gX13_readFactor_X13_scan) rfl rfl rfl (by decide +kernel) ⟨Nat.le_of_ble_eq_true rfl, Nat.le_of_ble_eq_true rfl⟩) rfl 0 yc_0 rfl (Nat.le_of_ble_eq_true rfl) ⟨Nat.zero_le _, Nat.zero_le _⟩ dX13_readFactor_168 (fun G85 hw84 => ?_)
          have hI86 : yI G85 := hw84.1
          have hU87 : gu_un ycd [5, 6, 7, 8] G76 G85 := hw84.2.1
          have hp88 := hw84.2.2
          have b89 : (0 : Int) ≤ (G85 0 5).toInt ∧ (G85 0 5).toInt ≤ 1000 := hI86 0 5
          have b90 : (0 : Int) ≤ (G85 0 4).toInt ∧ (G85 0 4).toInt ≤ 1000 := hI86 0 4
          have q91 : ((G85 0 5).toInt ≤ (G 0 3).toInt ∧ (G 0 5).toInt ≤ (G85 0 4).toInt ∧ (G85 0 4).toInt ≤ (G85 0 5).toInt) := by have h9 := hp88.1; (try simp only [(show G76 0 3 = (G 0 3) from (hU78 0 3 (by decide)).trans ((hU67 0 3 (by decide)).trans (hU50 0 3 (by decide)))), (show G76 0 5 = (G 0 5) from (hU78 0 5 (by decide)).trans ((hU67 0 5 (by decide)).trans (hU50 0 5 (by decide))))] at h9); first | exact h9 | omega
          have b92 : (0 : Int) ≤ (G85 0 6).toInt ∧ (G85 0 6).toInt ≤ 4 := hI86 0 6
          have q93 : (((G85 0 6).toInt = 0 ∧ (G85 0 4).toInt = (G 0 3).toInt) ∨ ((G85 0 6).toInt ≠ 0 ∧ (G85 0 4).toInt < (G85 0 5).toInt)) := by have h9 := hp88.2.1; (try simp only [(show G76 0 3 = (G 0 3) from (hU78 0 3 (by decide)).trans ((hU67 0 3 (by decide)).trans (hU50 0 3 (by decide))))] at h9); first | exact h9 | omega
          have b94 : (0 : Int) ≤ (G85 0 7).toInt ∧ (G85 0 7).toInt ≤ 9999 := hI86 0 7
          have q95 : tTok (G 2) (G 0 3).toInt (G 0 5).toInt (G85 0 6).toInt (G85 0 4).toInt (G85 0 7).toInt (G85 0 5).toInt := by have h9 := hp88.2.2; (try simp only [(show G76 0 3 = (G 0 3) from (hU78 0 3 (by decide)).trans ((hU67 0 3 (by decide)).trans (hU50 0 3 (by decide)))), (show G76 0 5 = (G 0 5) from (hU78 0 5 (by decide)).trans ((hU67 0 5 (by decide)).trans (hU50 0 5 (by decide)))), (show G76 2 = (G 2) from (show G76 2 = (gu_up G65 0 21 y71) 2 from funext fun k_ => hU78 2 k_ (show (200 : Nat) ∉ ([1000, 1100, 1200] : List Nat) by decide)).trans ((show G65 2 = G48 2 from funext fun k_ => hU67 2 k_ (show (200 : Nat) ∉ ([9, 10] : List Nat) by decide)).trans ((show G48 2 = G 2 from funext fun k_ => hU50 2 k_ (show (200 : Nat) ∉ ([9, 10] : List Nat) by decide)))))] at h9); first | exact h9 | omega
          clear hp88 hw84
          exact ux_vret F hA hQ hr G85 (⟨hI86, (gu_un.tr (gu_un.tr (gu_un.up (j := 0) (k := 21) (v := y71) (gu_un.tr (gu_un.tr gu_un.rf (gu_un.su hU50 rfl)) (gu_un.su hU67 rfl)) (show (22 : Nat) ∈ ([5, 6, 7, 8, 9, 10, 22, 1000, 1100, 1200] : List Nat) by decide)) (gu_un.su hU78 rfl)) (gu_un.su hU87 rfl)), (by show ((G85 0 5).toInt ≤ (G 0 3).toInt ∧ (G 0 5).toInt ≤ (G85 0 5).toInt ∧ ((G85 0 6).toInt = 0 ∨ (G 0 5).toInt < (G85 0 5).toInt)); (first | omega | (simp only [Int32.reduceToInt, true_and, and_true, ne_eq, not_true_eq_false, false_and, or_false, false_or, true_or, or_true, false_implies] <;> omega))), ((sg82.un (show gu_un ycd [5, 6, 7, 8] G76 G85 from (gu_un.tr gu_un.rf (gu_un.su hU87 rfl))) rfl rfl)), ((yKp.un kp81 (show gu_un ycd [5, 6, 7, 8] G76 G85 from (gu_un.tr gu_un.rf (gu_un.su hU87 rfl))) rfl)), (by have h8 := q43; first | exact yF_num (show yStp [9, 10, 22, 1000, 1100, 1200] G G76 G85 from ⟨(show gu_un ycd [9, 10, 22, 1000, 1100, 1200] G G76 from (gu_un.tr (gu_un.up (j := 0) (k := 21) (v := y71) (gu_un.tr (gu_un.tr gu_un.rf (gu_un.su hU50 rfl)) (gu_un.su hU67 rfl)) (show (22 : Nat) ∈ ([9, 10, 22, 1000, 1100, 1200] : List Nat) by decide)) (gu_un.su hU78 rfl))), rfl, by (try rw [show G76 2 = (G 2) from (show G76 2 = (gu_up G65 0 21 y71) 2 from funext fun k_ => hU78 2 k_ (show (200 : Nat) ∉ ([1000, 1100, 1200] : List Nat) by decide)).trans ((show G65 2 = G48 2 from funext fun k_ => hU67 2 k_ (show (200 : Nat) ∉ ([9, 10] : List Nat) by decide)).trans ((show G48 2 = G 2 from funext fun k_ => hU50 2 k_ (show (200 : Nat) ∉ ([9, 10] : List Nat) by decide))))]); (try rw [show G76 0 3 = (G 0 3) from (hU78 0 3 (by decide)).trans ((hU67 0 3 (by decide)).trans (hU50 0 3 (by decide)))]); (try rw [show G76 0 5 = (G 0 5) from (hU78 0 5 (by decide)).trans ((hU67 0 5 (by decide)).trans (hU50 0 5 (by decide)))]); exact q95, funext fun k_ => hU87 2 k_ (by simp [ycd]), hU87 0 3 (by decide)⟩) (by omega) (by omega) (show (G85 0 21).toInt = (G 0 21).toInt + 1 by rw [show G85 0 21 = y71 from (hU87 0 21 (by decide)).trans (hU78 0 21 (by decide))]; omega) (by rw [show mL (G 0 20).toInt G85 = mL (G 0 20).toInt G76 from (mL_un (show gu_un ycd [5, 6, 7, 8] G76 G85 from (gu_un.tr gu_un.rf (gu_un.su hU87 rfl))) rfl)]; rw [q80.ml (by omega) (show (0 : Int) ≤ (G65 12 ((G 0 20).toInt).toNat).toInt from (hI66 12 _).1), mEn_0 (by decide)] <;> (rw [show mL (G 0 20).toInt (gu_up G65 0 21 y71) = mL (G 0 20).toInt G from (mL_un (show gu_un ycd [9, 10, 22] G (gu_up G65 0 21 y71) from (gu_un.up (j := 0) (k := 21) (v := y71) (gu_un.tr (gu_un.tr gu_un.rf (gu_un.su hU50 rfl)) (gu_un.su hU67 rfl)) (show (22 : Nat) ∈ ([9, 10, 22] : List Nat) by decide))) rfl)])) | exact yF_let (show (((((G 0 20).toInt - 3).toNat : Nat)) : Int) = (G 0 20).toInt - 3 by omega) (show yStp [9, 10, 22, 1000, 1100, 1200] G G76 G85 from ⟨(show gu_un ycd [9, 10, 22, 1000, 1100, 1200] G G76 from (gu_un.tr (gu_un.up (j := 0) (k := 21) (v := y71) (gu_un.tr (gu_un.tr gu_un.rf (gu_un.su hU50 rfl)) (gu_un.su hU67 rfl)) (show (22 : Nat) ∈ ([9, 10, 22, 1000, 1100, 1200] : List Nat) by decide)) (gu_un.su hU78 rfl))), rfl, by (try rw [show G76 2 = (G 2) from (show G76 2 = (gu_up G65 0 21 y71) 2 from funext fun k_ => hU78 2 k_ (show (200 : Nat) ∉ ([1000, 1100, 1200] : List Nat) by decide)).trans ((show G65 2 = G48 2 from funext fun k_ => hU67 2 k_ (show (200 : Nat) ∉ ([9, 10] : List Nat) by decide)).trans ((show G48 2 = G 2 from funext fun k_ => hU50 2 k_ (show (200 : Nat) ∉ ([9, 10] : List Nat) by decide))))]); (try rw [show G76 0 3 = (G 0 3) from (hU78 0 3 (by decide)).trans ((hU67 0 3 (by decide)).trans (hU50 0 3 (by decide)))]); (try rw [show G76 0 5 = (G 0 5) from (hU78 0 5 (by decide)).trans ((hU67 0 5 (by decide)).trans (hU50 0 5 (by decide)))]); exact q95, funext fun k_ => hU87 2 k_ (by simp [ycd]), hU87 0 3 (by decide)⟩) (by unfold yLt at h8; split at h8 <;> omega) (by rw [← q43]; omega) (by omega) (show (G85 0 21).toInt = (G 0 21).toInt + 1 by rw [show G85 0 21 = y71 from (hU87 0 21 (by decide)).trans (hU78 0 21 (by decide))]; omega) (by rw [← q43]; exact (by rw [show mL (G 0 20).toInt G85 = mL (G 0 20).toInt G76 from (mL_un (show gu_un ycd [5, 6, 7, 8] G76 G85 from (gu_un.tr gu_un.rf (gu_un.su hU87 rfl))) rfl)]; rw [q80.ml (by omega) (show (0 : Int) ≤ (G65 12 ((G 0 20).toInt).toNat).toInt from (hI66 12 _).1), mEn_1 (by decide) (by omega)] <;> (rw [show mL (G 0 20).toInt (gu_up G65 0 21 y71) = mL (G 0 20).toInt G from (mL_un (show gu_un ycd [9, 10, 22] G (gu_up G65 0 21 y71) from (gu_un.up (j := 0) (k := 21) (v := y71) (gu_un.tr (gu_un.tr gu_un.rf (gu_un.su hU50 rfl)) (gu_un.su hU67 rfl)) (show (22 : Nat) ∈ ([9, 10, 22] : List Nat) by decide))) rfl)])))), ((yFf.tr (show yFf G G76 from (yFf.tr (show yFf G (gu_up G65 0 21 y71) from (yFf.tr (show yFf G G48 from (yFf.tr (show yFf G G from yFf.rf) q53)) q70)) (show yFf _ G76 from yFf.un hU78 rfl))) (show yFf _ G85 from yFf.un hU87 rfl)))⟩) rfl rfl dX13_readFactor_171
      · refine g_aload_n F 2 dX13_readFactor_94 rfl rfl ?_
        refine yg_0_6 F i_X13 w_1 dX13_readFactor_95 (G 0 6) (rfl) ?_
        refine g_iconst F 2 dX13_readFactor_98 (by decide) ?_
        refine v_icmp_ne F 106 dX13_readFactor_99 (by decide) (G 0 6).toInt 2 rfl rfl (fun c96 => ?_) (fun c96 => ?_)
        · refine g_iconst F 0 dX13_readFactor_106 (by decide) ?_
          refine g_iconst F 1 dX13_readFactor_107 (by decide) ?_
          refine ux_callvv (k := 0) (n := 0) (b := a 0) (As := [.int 0, .int 1]) (st := []) F (fun sz => S_X13_need l D K a G 0 0 1 1 rfl (by decide) rfl hI sz) (cwV 2 hts gT_X13_readFactor_X13_need rfl rfl rfl (by decide +kernel) ⟨Nat.le_of_ble_eq_true rfl, Nat.le_of_ble_eq_true rfl⟩) rfl 0 yc_0 rfl (Nat.le_of_ble_eq_true rfl) ⟨Nat.zero_le _, Nat.zero_le _⟩ dX13_readFactor_108 hex hA hQ (fun u9 h9 => ⟨h9.1, gu_un.tr gu_un.rf (gu_un.su h9.2.1 rfl), (yKp.un yKp.rf h9.2.1 rfl), (yF_none (show (((((G 0 20).toInt - 3).toNat : Nat)) : Int) = (G 0 20).toInt - 3 by omega) (show gu_un ycd [] G G from gu_un.rf) rfl (by omega) (by omega) (fun h7 => by rw [← q43]; omega) h9.2.2.2.1 h9.2.2.2.2), (by have h9 := h9.2.2.2.1; omega)⟩) (fun G99 hw98 => ?_)
          have hI100 : yI G99 := hw98.1
          have hU101 : gu_un ycd [9, 10] G G99 := hw98.2.1
          have hp102 := hw98.2.2
          have q103 : ((0 : Int) ≠ 0) := hp102.1
          have q104 : yFf G G99 := hp102.2
          exfalso; omega
        · refine g_iconst F 1 dX13_readFactor_102 (by decide) ?_
          refine g_goto F 107 dX13_readFactor_103 (by decide) ?_
          refine g_iconst F 1 dX13_readFactor_107 (by decide) ?_
          refine ux_callvv (k := 0) (n := 0) (b := a 0) (As := [.int 1, .int 1]) (st := []) F (fun sz => S_X13_need l D K a G 1 1 1 1 rfl (by decide) rfl hI sz) (cwV 2 hts gT_X13_readFactor_X13_need rfl rfl rfl (by decide +kernel) ⟨Nat.le_of_ble_eq_true rfl, Nat.le_of_ble_eq_true rfl⟩) rfl 0 yc_0 rfl (Nat.le_of_ble_eq_true rfl) ⟨Nat.zero_le _, Nat.zero_le _⟩ dX13_readFactor_108 hex hA hQ (fun u9 h9 => ⟨h9.1, gu_un.tr gu_un.rf (gu_un.su h9.2.1 rfl), (yKp.un yKp.rf h9.2.1 rfl), (absurd h9.2.2.1 (by decide)), (absurd h9.2.2.1 (by decide))⟩) (fun G107 hw106 => ?_)
          have hI108 : yI G107 := hw106.1
          have hU109 : gu_un ycd [9, 10] G G107 := hw106.2.1
          have hp110 := hw106.2.2
          have q111 : ((1 : Int) ≠ 0) := hp110.1
          have q112 : yFf G G107 := hp110.2
          clear hp110 hw106
          refine g_aload_n F 2 dX13_readFactor_111 rfl rfl ?_
          refine g_aload_n F 2 dX13_readFactor_112 rfl rfl ?_
          refine yg_0_21 F i_X13 w_0 dX13_readFactor_113 (G 0 21) (hU109 0 21 (by decide)) ?_
          refine g_bipush F 12 dX13_readFactor_116 (by decide) ?_
          refine v_icmp_ge F 125 dX13_readFactor_118 (by decide) (G 0 21).toInt 12 rfl rfl (fun c113 => ?_) (fun c113 => ?_)
          · refine g_iconst F 0 dX13_readFactor_125 (by decide) ?_
            refine g_iconst F 4 dX13_readFactor_126 (by decide) ?_
            refine ux_callvv (k := 0) (n := 0) (b := a 0) (As := [.int 0, .int 4]) (st := []) F (fun sz => S_X13_need l D K a G107 0 0 4 4 rfl (by decide) rfl hI108 sz) (cwV 2 hts gT_X13_readFactor_X13_need rfl rfl rfl (by decide +kernel) ⟨Nat.le_of_ble_eq_true rfl, Nat.le_of_ble_eq_true rfl⟩) rfl 0 yc_0 rfl (Nat.le_of_ble_eq_true rfl) ⟨Nat.zero_le _, Nat.zero_le _⟩ dX13_readFactor_127 hex hA hQ (fun u9 h9 => ⟨h9.1, gu_un.tr (gu_un.tr gu_un.rf (gu_un.su hU109 rfl)) (gu_un.su h9.2.1 rfl), (yKp.un (yKp.un yKp.rf (show gu_un ycd [9, 10] G G107 from (gu_un.tr gu_un.rf (gu_un.su hU109 rfl))) rfl) h9.2.1 rfl), (by have h8 := q43; exact yF_many (show (((((G 0 20).toInt - 3).toNat : Nat)) : Int) = (G 0 20).toInt - 3 by omega) (show gu_un ycd [9, 10] G G107 from (gu_un.tr gu_un.rf (gu_un.su hU109 rfl))) rfl (by first | exact Or.inl (by omega) | exact Or.inr ⟨by unfold yLt at h8; split at h8 <;> omega, by rw [← q43]; omega⟩) (by omega) h9.2.2.2.1 h9.2.2.2.2), (by have h9 := h9.2.2.2.1; omega)⟩) (fun G116 hw115 => ?_)
            have hI117 : yI G116 := hw115.1
            have hU118 : gu_un ycd [9, 10] G107 G116 := hw115.2.1
            have hp119 := hw115.2.2
            have q120 : ((0 : Int) ≠ 0) := hp119.1
            have q121 : yFf G107 G116 := hp119.2
            exfalso; omega
          · refine g_iconst F 1 dX13_readFactor_121 (by decide) ?_
            refine g_goto F 126 dX13_readFactor_122 (by decide) ?_
            refine g_iconst F 4 dX13_readFactor_126 (by decide) ?_
            refine ux_callvv (k := 0) (n := 0) (b := a 0) (As := [.int 1, .int 4]) (st := []) F (fun sz => S_X13_need l D K a G107 1 1 4 4 rfl (by decide) rfl hI108 sz) (cwV 2 hts gT_X13_readFactor_X13_need rfl rfl rfl (by decide +kernel) ⟨Nat.le_of_ble_eq_true rfl, Nat.le_of_ble_eq_true rfl⟩) rfl 0 yc_0 rfl (Nat.le_of_ble_eq_true rfl) ⟨Nat.zero_le _, Nat.zero_le _⟩ dX13_readFactor_127 hex hA hQ (fun u9 h9 => ⟨h9.1, gu_un.tr (gu_un.tr gu_un.rf (gu_un.su hU109 rfl)) (gu_un.su h9.2.1 rfl), (yKp.un (yKp.un yKp.rf (show gu_un ycd [9, 10] G G107 from (gu_un.tr gu_un.rf (gu_un.su hU109 rfl))) rfl) h9.2.1 rfl), (absurd h9.2.2.1 (by decide)), (absurd h9.2.2.1 (by decide))⟩) (fun G124 hw123 => ?_)
            have hI125 : yI G124 := hw123.1
            have hU126 : gu_un ycd [9, 10] G107 G124 := hw123.2.1
            have hp127 := hw123.2.2
            have q128 : ((1 : Int) ≠ 0) := hp127.1
            have q129 : yFf G107 G124 := hp127.2
            clear hp127 hw123
            refine g_aload_n F 2 dX13_readFactor_130 rfl rfl ?_
            refine g_dup F dX13_readFactor_131 rfl ?_
            refine yg_0_21 F i_X13 w_0 dX13_readFactor_132 (G 0 21) ((hU126 0 21 (by decide)).trans (hU109 0 21 (by decide))) ?_
            refine g_iconst F 1 dX13_readFactor_135 (by decide) ?_
            refine u_iadd F dX13_readFactor_136 (G 0 21).toInt 1 rfl rfl (by omega) (by omega) (fun y130 ey130 => ?_)
            refine yp_0_21 F i_X13 w_0 dX13_readFactor_137 ?_
            refine g_aload_n F 2 dX13_readFactor_140 rfl rfl ?_
            refine g_iload_n F 0 dX13_readFactor_141 rfl rfl ?_
            refine g_iconst F (-1) dX13_readFactor_142 (by decide) ?_
            refine v_icmp_ne F 150 dX13_readFactor_143 (by decide) r40.toInt (-1) rfl rfl (fun c131 => absurd c131 (by omega)) (fun c131 => ?_)
            refine g_iconst F 0 dX13_readFactor_146 (by decide) ?_
            refine g_goto F 151 dX13_readFactor_147 (by decide) ?_
            refine g_iload_n F 0 dX13_readFactor_151 rfl rfl ?_
            refine g_iconst F (-1) dX13_readFactor_152 (by decide) ?_
            refine v_icmp_ne F 163 dX13_readFactor_153 (by decide) r40.toInt (-1) rfl rfl (fun c132 => absurd c132 (by omega)) (fun c132 => ?_)
            refine g_aload_n F 2 dX13_readFactor_156 rfl rfl ?_
            refine yg_0_7 F i_X13 w_2 dX13_readFactor_157 (G 0 7) ((hU126 0 7 (by decide)).trans (hU109 0 7 (by decide))) ?_
            refine g_goto F 164 dX13_readFactor_160 (by decide) ?_
            refine u_callVv (k := 0) (n := 0) (b := a 0) (As := [.int 0, .int (G 0 7)]) (st := []) F (fun sz => S_X13_mark l D K a (gu_up G124 0 21 y130) 0 0 (G 0 7) (G 0 7).toInt rfl (by decide) rfl (by omega) (by rw [show (gu_up G124 0 21 y130) 0 20 = G 0 20 from (hU126 0 20 (by decide)).trans (hU109 0 20 (by decide))]; have h9 : (G124 12 ((G 0 20).toInt).toNat).toInt ≤ 6 * (G124 0 21).toInt := (y_m6 m6 (show gu_un ycd [9, 10] G G124 from (gu_un.tr (gu_un.tr gu_un.rf (gu_un.su hU109 rfl)) (gu_un.su hU126 rfl))) rfl rfl); have h8 : (0 : Int) ≤ (G124 0 21).toInt ∧ (G124 0 21).toInt ≤ 12 := hI125 0 21; show (G124 12 ((G 0 20).toInt).toNat).toInt ≤ 79; omega) (gu_I.up (j := 0) (k := 21) (v := y130) hI125 (show (0 : Int) ≤ Int32.toInt y130 by omega) (show Int32.toInt y130 ≤ 12 by omega)) sz) (cwV 2 hts (gT_left gX13_readFactor_X13_mark) rfl rfl rfl (by decide +kernel) ⟨Nat.le_of_ble_eq_true rfl, Nat.le_of_ble_eq_true rfl⟩) rfl 0 yc_0 rfl (Nat.le_of_ble_eq_true rfl) ⟨Nat.zero_le _, Nat.zero_le _⟩ dX13_readFactor_164 (fun G135 hw134 => ?_)
            have hI136 : yI G135 := hw134.1
            have hU137 : gu_un ycd [1000, 1100, 1200] (gu_up G124 0 21 y130) G135 := hw134.2.1
            have hp138 := hw134.2.2
            have q139 : yMk 0 (G 0 7) (G 0 20).toInt (gu_up G124 0 21 y130) G135 := by have h9 := hp138; (try simp only [(show (gu_up G124 0 21 y130) 0 20 = (G 0 20) from (hU126 0 20 (by decide)).trans (hU109 0 20 (by decide)))] at h9); first | exact h9 | omega
            have m0 : 0 ≤ (G 12 ((G 0 20).toInt).toNat).toInt := (show (0 : Int) ≤ (G 12 ((G 0 20).toInt).toNat).toInt ∧ (G 12 ((G 0 20).toInt).toNat).toInt ≤ 80 from hI 12 _).1
            have m1 : 0 ≤ ((gu_up G124 0 21 y130) 12 ((G 0 20).toInt).toNat).toInt := (show (0 : Int) ≤ (G124 12 ((G 0 20).toInt).toNat).toInt ∧ (G124 12 ((G 0 20).toInt).toNat).toInt ≤ 80 from hI125 12 _).1
            have kp140 : yKp G G135 := yKp.tr (yKp.un yKp.rf (show gu_un ycd [9, 10, 22] G (gu_up G124 0 21 y130) from (gu_un.up (j := 0) (k := 21) (v := y130) (gu_un.tr (gu_un.tr gu_un.rf (gu_un.su hU109 rfl)) (gu_un.su hU126 rfl)) (show (22 : Nat) ∈ ([9, 10, 22] : List Nat) by decide))) rfl) (q139.kp (by omega) m1)
            have sg141 : ySg 2 (G 0 20).toInt G G135 := yMk.leaf q139 (by first | decide | omega) (by decide) (by omega) (show (gu_up G124 0 21 y130) 10 = G 10 from (show G124 10 = G107 10 from funext fun k_ => hU126 10 k_ (show (1000 : Nat) ∉ ([9, 10] : List Nat) by decide)).trans ((show G107 10 = G 10 from funext fun k_ => hU109 10 k_ (show (1000 : Nat) ∉ ([9, 10] : List Nat) by decide)))) (show (gu_up G124 0 21 y130) 11 = G 11 from (show G124 11 = G107 11 from funext fun k_ => hU126 11 k_ (show (1100 : Nat) ∉ ([9, 10] : List Nat) by decide)).trans ((show G107 11 = G 11 from funext fun k_ => hU109 11 k_ (show (1100 : Nat) ∉ ([9, 10] : List Nat) by decide)))) (show (gu_up G124 0 21 y130) 12 = G 12 from (show G124 12 = G107 12 from funext fun k_ => hU126 12 k_ (show (1200 : Nat) ∉ ([9, 10] : List Nat) by decide)).trans ((show G107 12 = G 12 from funext fun k_ => hU109 12 k_ (show (1200 : Nat) ∉ ([9, 10] : List Nat) by decide)))) m0 (by omega) (show (y130 : Int32).toInt = _ by omega)
            clear hp138 hw134
            refine g_aload_n F 2 dX13_readFactor_167 rfl rfl ?_
            refine u_callVv (k := 0) (n := 0) (b := a 0) (As := []) (st := []) F (fun sz => S_X13_scan l D K a G135  (by have e9_0_3 : G135 0 3 = (G 0 3) := (hU137 0 3 (by decide)).trans ((hU126 0 3 (by decide)).trans (hU109 0 3 (by decide))); have e9_0_5 : G135 0 5 = (G 0 5) := (hU137 0 5 (by decide)).trans ((hU126 0 5 (by decide)).trans (hU109 0 5 (by decide))); (try simp only [e9_0_3, e9_0_5, true_and, and_true]) <;> (first | omega | (simp only [Int32.reduceToInt, true_and, and_true, ne_eq, not_true_eq_false, false_and, or_false, false_or, true_or, or_true, false_implies] <;> omega))) hI136 sz) (cwV 0 hts (gT_left gX13_readFactor_X13_scan) rfl rfl rfl (by decide +kernel) ⟨Nat.le_of_ble_eq_true rfl, Nat.le_of_ble_eq_true rfl⟩) rfl 0 yc_0 rfl (Nat.le_of_ble_eq_true rfl) ⟨Nat.zero_le _, Nat.zero_le _⟩ dX13_readFactor_168 (fun G144 hw143 => ?_)
            have hI145 : yI G144 := hw143.1
            have hU146 : gu_un ycd [5, 6, 7, 8] G135 G144 := hw143.2.1
            have hp147 := hw143.2.2
            have b148 : (0 : Int) ≤ (G144 0 5).toInt ∧ (G144 0 5).toInt ≤ 1000 := hI145 0 5
            have b149 : (0 : Int) ≤ (G144 0 4).toInt ∧ (G144 0 4).toInt ≤ 1000 := hI145 0 4
            have q150 : ((G144 0 5).toInt ≤ (G 0 3).toInt ∧ (G 0 5).toInt ≤ (G144 0 4).toInt ∧ (G144 0 4).toInt ≤ (G144 0 5).toInt) := by have h9 := hp147.1; (try simp only [(show G135 0 3 = (G 0 3) from (hU137 0 3 (by decide)).trans ((hU126 0 3 (by decide)).trans (hU109 0 3 (by decide)))), (show G135 0 5 = (G 0 5) from (hU137 0 5 (by decide)).trans ((hU126 0 5 (by decide)).trans (hU109 0 5 (by decide))))] at h9); first | exact h9 | omega
            have b151 : (0 : Int) ≤ (G144 0 6).toInt ∧ (G144 0 6).toInt ≤ 4 := hI145 0 6
            have q152 : (((G144 0 6).toInt = 0 ∧ (G144 0 4).toInt = (G 0 3).toInt) ∨ ((G144 0 6).toInt ≠ 0 ∧ (G144 0 4).toInt < (G144 0 5).toInt)) := by have h9 := hp147.2.1; (try simp only [(show G135 0 3 = (G 0 3) from (hU137 0 3 (by decide)).trans ((hU126 0 3 (by decide)).trans (hU109 0 3 (by decide))))] at h9); first | exact h9 | omega
            have b153 : (0 : Int) ≤ (G144 0 7).toInt ∧ (G144 0 7).toInt ≤ 9999 := hI145 0 7
            have q154 : tTok (G 2) (G 0 3).toInt (G 0 5).toInt (G144 0 6).toInt (G144 0 4).toInt (G144 0 7).toInt (G144 0 5).toInt := by have h9 := hp147.2.2; (try simp only [(show G135 0 3 = (G 0 3) from (hU137 0 3 (by decide)).trans ((hU126 0 3 (by decide)).trans (hU109 0 3 (by decide)))), (show G135 0 5 = (G 0 5) from (hU137 0 5 (by decide)).trans ((hU126 0 5 (by decide)).trans (hU109 0 5 (by decide)))), (show G135 2 = (G 2) from (show G135 2 = (gu_up G124 0 21 y130) 2 from funext fun k_ => hU137 2 k_ (show (200 : Nat) ∉ ([1000, 1100, 1200] : List Nat) by decide)).trans ((show G124 2 = G107 2 from funext fun k_ => hU126 2 k_ (show (200 : Nat) ∉ ([9, 10] : List Nat) by decide)).trans ((show G107 2 = G 2 from funext fun k_ => hU109 2 k_ (show (200 : Nat) ∉ ([9, 10] : List Nat) by decide)))))] at h9); first | exact h9 | omega
            clear hp147 hw143
            exact ux_vret F hA hQ hr G144 (⟨hI145, (gu_un.tr (gu_un.tr (gu_un.up (j := 0) (k := 21) (v := y130) (gu_un.tr (gu_un.tr gu_un.rf (gu_un.su hU109 rfl)) (gu_un.su hU126 rfl)) (show (22 : Nat) ∈ ([5, 6, 7, 8, 9, 10, 22, 1000, 1100, 1200] : List Nat) by decide)) (gu_un.su hU137 rfl)) (gu_un.su hU146 rfl)), (by show ((G144 0 5).toInt ≤ (G 0 3).toInt ∧ (G 0 5).toInt ≤ (G144 0 5).toInt ∧ ((G144 0 6).toInt = 0 ∨ (G 0 5).toInt < (G144 0 5).toInt)); (first | omega | (simp only [Int32.reduceToInt, true_and, and_true, ne_eq, not_true_eq_false, false_and, or_false, false_or, true_or, or_true, false_implies] <;> omega))), ((sg141.un (show gu_un ycd [5, 6, 7, 8] G135 G144 from (gu_un.tr gu_un.rf (gu_un.su hU146 rfl))) rfl rfl)), ((yKp.un kp140 (show gu_un ycd [5, 6, 7, 8] G135 G144 from (gu_un.tr gu_un.rf (gu_un.su hU146 rfl))) rfl)), (by have h8 := q43; first | exact yF_num (show yStp [9, 10, 22, 1000, 1100, 1200] G G135 G144 from ⟨(show gu_un ycd [9, 10, 22, 1000, 1100, 1200] G G135 from (gu_un.tr (gu_un.up (j := 0) (k := 21) (v := y130) (gu_un.tr (gu_un.tr gu_un.rf (gu_un.su hU109 rfl)) (gu_un.su hU126 rfl)) (show (22 : Nat) ∈ ([9, 10, 22, 1000, 1100, 1200] : List Nat) by decide)) (gu_un.su hU137 rfl))), rfl, by (try rw [show G135 2 = (G 2) from (show G135 2 = (gu_up G124 0 21 y130) 2 from funext fun k_ => hU137 2 k_ (show (200 : Nat) ∉ ([1000, 1100, 1200] : List Nat) by decide)).trans ((show G124 2 = G107 2 from funext fun k_ => hU126 2 k_ (show (200 : Nat) ∉ ([9, 10] : List Nat) by decide)).trans ((show G107 2 = G 2 from funext fun k_ => hU109 2 k_ (show (200 : Nat) ∉ ([9, 10] : List Nat) by decide))))]); (try rw [show G135 0 3 = (G 0 3) from (hU137 0 3 (by decide)).trans ((hU126 0 3 (by decide)).trans (hU109 0 3 (by decide)))]); (try rw [show G135 0 5 = (G 0 5) from (hU137 0 5 (by decide)).trans ((hU126 0 5 (by decide)).trans (hU109 0 5 (by decide)))]); exact q154, funext fun k_ => hU146 2 k_ (by simp [ycd]), hU146 0 3 (by decide)⟩) (by omega) (by omega) (show (G144 0 21).toInt = (G 0 21).toInt + 1 by rw [show G144 0 21 = y130 from (hU146 0 21 (by decide)).trans (hU137 0 21 (by decide))]; omega) (by rw [show mL (G 0 20).toInt G144 = mL (G 0 20).toInt G135 from (mL_un (show gu_un ycd [5, 6, 7, 8] G135 G144 from (gu_un.tr gu_un.rf (gu_un.su hU146 rfl))) rfl)]; rw [q139.ml (by omega) (show (0 : Int) ≤ (G124 12 ((G 0 20).toInt).toNat).toInt from (hI125 12 _).1), mEn_0 (by decide)] <;> (rw [show mL (G 0 20).toInt (gu_up G124 0 21 y130) = mL (G 0 20).toInt G from (mL_un (show gu_un ycd [9, 10, 22] G (gu_up G124 0 21 y130) from (gu_un.up (j := 0) (k := 21) (v := y130) (gu_un.tr (gu_un.tr gu_un.rf (gu_un.su hU109 rfl)) (gu_un.su hU126 rfl)) (show (22 : Nat) ∈ ([9, 10, 22] : List Nat) by decide))) rfl)])) | exact yF_let (show (((((G 0 20).toInt - 3).toNat : Nat)) : Int) = (G 0 20).toInt - 3 by omega) (show yStp [9, 10, 22, 1000, 1100, 1200] G G135 G144 from ⟨(show gu_un ycd [9, 10, 22, 1000, 1100, 1200] G G135 from (gu_un.tr (gu_un.up (j := 0) (k := 21) (v := y130) (gu_un.tr (gu_un.tr gu_un.rf (gu_un.su hU109 rfl)) (gu_un.su hU126 rfl)) (show (22 : Nat) ∈ ([9, 10, 22, 1000, 1100, 1200] : List Nat) by decide)) (gu_un.su hU137 rfl))), rfl, by (try rw [show G135 2 = (G 2) from (show G135 2 = (gu_up G124 0 21 y130) 2 from funext fun k_ => hU137 2 k_ (show (200 : Nat) ∉ ([1000, 1100, 1200] : List Nat) by decide)).trans ((show G124 2 = G107 2 from funext fun k_ => hU126 2 k_ (show (200 : Nat) ∉ ([9, 10] : List Nat) by decide)).trans ((show G107 2 = G 2 from funext fun k_ => hU109 2 k_ (show (200 : Nat) ∉ ([9, 10] : List Nat) by decide))))]); (try rw [show G135 0 3 = (G 0 3) from (hU137 0 3 (by decide)).trans ((hU126 0 3 (by decide)).trans (hU109 0 3 (by decide)))]); (try rw [show G135 0 5 = (G 0 5) from (hU137 0 5 (by decide)).trans ((hU126 0 5 (by decide)).trans (hU109 0 5 (by decide)))]); exact q154, funext fun k_ => hU146 2 k_ (by simp [ycd]), hU146 0 3 (by decide)⟩) (by unfold yLt at h8; split at h8 <;> omega) (by rw [← q43]; omega) (by omega) (show (G144 0 21).toInt = (G 0 21).toInt + 1 by rw [show G144 0 21 = y130 from (hU146 0 21 (by decide)).trans (hU137 0 21 (by decide))]; omega) (by rw [← q43]; exact (by rw [show mL (G 0 20).toInt G144 = mL (G 0 20).toInt G135 from (mL_un (show gu_un ycd [5, 6, 7, 8] G135 G144 from (gu_un.tr gu_un.rf (gu_un.su hU146 rfl))) rfl)]; rw [q139.ml (by omega) (show (0 : Int) ≤ (G124 12 ((G 0 20).toInt).toNat).toInt from (hI125 12 _).1), mEn_1 (by decide) (by omega)] <;> (rw [show mL (G 0 20).toInt (gu_up G124 0 21 y130) = mL (G 0 20).toInt G from (mL_un (show gu_un ycd [9, 10, 22] G (gu_up G124 0 21 y130) from (gu_un.up (j := 0) (k := 21) (v := y130) (gu_un.tr (gu_un.tr gu_un.rf (gu_un.su hU109 rfl)) (gu_un.su hU126 rfl)) (show (22 : Nat) ∈ ([9, 10, 22] : List Nat) by decide))) rfl)])))), ((yFf.tr (show yFf G G135 from (yFf.tr (show yFf G (gu_up G124 0 21 y130) from (yFf.tr (show yFf G G107 from (yFf.tr (show yFf G G from yFf.rf) q112)) q129)) (show yFf _ G135 from yFf.un hU137 rfl))) (show yFf _ G144 from yFf.un hU146 rfl)))⟩) rfl rfl dX13_readFactor_171

theorem dX13_readProduct_0 : decode cX13_readProduct 0 = .ok (.aload_n 0, 1) := by decide +kernel
theorem dX13_readProduct_1 : decode cX13_readProduct 1 = .ok (.iload_n 1, 1) := by decide +kernel
theorem dX13_readProduct_2 : decode cX13_readProduct 2 = .ok (.invokevirtual 113, 3) := by decide +kernel
theorem dX13_readProduct_5 : decode cX13_readProduct 5 = .ok (.aload_n 0, 1) := by decide +kernel
theorem dX13_readProduct_6 : decode cX13_readProduct 6 = .ok (.bipush 42, 2) := by decide +kernel
theorem dX13_readProduct_8 : decode cX13_readProduct 8 = .ok (.invokevirtual 110, 3) := by decide +kernel
theorem dX13_readProduct_11 : decode cX13_readProduct 11 = .ok (.ifCond .ne 21, 3) := by decide +kernel
theorem dX13_readProduct_14 : decode cX13_readProduct 14 = .ok (.aload_n 0, 1) := by decide +kernel
theorem dX13_readProduct_15 : decode cX13_readProduct 15 = .ok (.bipush 47, 2) := by decide +kernel
theorem dX13_readProduct_17 : decode cX13_readProduct 17 = .ok (.invokevirtual 110, 3) := by decide +kernel
theorem dX13_readProduct_20 : decode cX13_readProduct 20 = .ok (.ifCond .ne 12, 3) := by decide +kernel
theorem dX13_readProduct_23 : decode cX13_readProduct 23 = .ok (.aload_n 0, 1) := by decide +kernel
theorem dX13_readProduct_24 : decode cX13_readProduct 24 = .ok (.bipush 37, 2) := by decide +kernel
theorem dX13_readProduct_26 : decode cX13_readProduct 26 = .ok (.invokevirtual 110, 3) := by decide +kernel
theorem dX13_readProduct_29 : decode cX13_readProduct 29 = .ok (.ifCond .eq 26, 3) := by decide +kernel
theorem dX13_readProduct_32 : decode cX13_readProduct 32 = .ok (.aload_n 0, 1) := by decide +kernel
theorem dX13_readProduct_33 : decode cX13_readProduct 33 = .ok (.getfield 41, 3) := by decide +kernel
theorem dX13_readProduct_36 : decode cX13_readProduct 36 = .ok (.istore_n 2, 1) := by decide +kernel
theorem dX13_readProduct_37 : decode cX13_readProduct 37 = .ok (.aload_n 0, 1) := by decide +kernel
theorem dX13_readProduct_38 : decode cX13_readProduct 38 = .ok (.invokevirtual 69, 3) := by decide +kernel
theorem dX13_readProduct_41 : decode cX13_readProduct 41 = .ok (.aload_n 0, 1) := by decide +kernel
theorem dX13_readProduct_42 : decode cX13_readProduct 42 = .ok (.iload_n 1, 1) := by decide +kernel
theorem dX13_readProduct_43 : decode cX13_readProduct 43 = .ok (.invokevirtual 113, 3) := by decide +kernel
theorem dX13_readProduct_46 : decode cX13_readProduct 46 = .ok (.aload_n 0, 1) := by decide +kernel
theorem dX13_readProduct_47 : decode cX13_readProduct 47 = .ok (.iconst 2, 1) := by decide +kernel
theorem dX13_readProduct_48 : decode cX13_readProduct 48 = .ok (.iload_n 2, 1) := by decide +kernel
theorem dX13_readProduct_49 : decode cX13_readProduct 49 = .ok (.invokevirtual 92, 3) := by decide +kernel
theorem dX13_readProduct_52 : decode cX13_readProduct 52 = .ok (.goto (-47), 3) := by decide +kernel
theorem dX13_readProduct_55 : decode cX13_readProduct 55 = .ok (.return_, 1) := by decide +kernel
set_option maxRecDepth 20000 in
theorem ggX13_readProduct_X13_isSign : GoodIn wsX13_readProduct wsX13_isSign := goodIn_r _ [9, 10, 1, 107, 108, 109, 110, 111, 112, 113, 114, 115, 116, 117, 118, 119, 120, 121, 122, 123, 124, 125, 126, 127, 128, 129, 130, 131, 132, 133, 134, 135, 136, 137, 138, 139, 140, 141, 142, 143, 144, 145, 146, 147, 148, 149, 150, 151, 152, 153, 154, 155, 156, 157, 158, 159, 160, 161, 162, 163, 164, 165, 166, 167, 168, 169, 170, 171, 172, 173, 174, 175, 176, 177, 178, 179] rfl (by decide +kernel)
set_option maxRecDepth 20000 in
theorem gX13_readProduct_X13_isSign : GoodIn wsX13_readProduct (wsV RX13 110 RX13 yX13_isSign wsX13_isSign) := goodIn_app (goodIn_of _ (by decide +kernel)) ggX13_readProduct_X13_isSign
set_option maxRecDepth 20000 in
theorem ggX13_readProduct_X13_mark : GoodIn wsX13_readProduct wsX13_mark := goodIn_r _ [32, 33, 34, 35, 36, 107, 108, 109, 110, 111, 112, 113, 114, 115, 116, 117, 118, 119, 120, 121, 122, 123, 124, 125, 126, 127, 128, 129, 130, 131, 132, 133, 134, 135, 136, 137, 138, 139, 140, 141, 142, 143, 144, 145, 146, 147, 148, 149, 150, 151, 152, 153, 154, 155, 156, 157, 158, 159, 160, 161, 162, 163, 164, 165, 166, 167, 168, 169, 170, 171, 172, 173, 174, 175, 176, 177, 178, 179] rfl (by decide +kernel)
set_option maxRecDepth 20000 in
theorem gX13_readProduct_X13_mark : GoodIn wsX13_readProduct (wsV RX13 92 RX13 yX13_mark wsX13_mark) := goodIn_app (goodIn_of _ (by decide +kernel)) ggX13_readProduct_X13_mark
set_option maxRecDepth 20000 in
theorem ggX13_readProduct_X13_readFactor : GoodIn wsX13_readProduct wsX13_readFactor := goodIn_r _ [37, 10, 38, 1, 6, 7, 8, 5, 9, 39, 40, 41, 42, 11, 12, 13, 14, 15, 16, 17, 18, 19, 20, 21, 22, 23, 24, 25, 26, 27, 28, 2, 3, 4, 29, 30, 31, 32, 33, 34, 35, 36, 43, 44, 45, 46, 47, 48, 49, 50, 51, 52, 53, 54, 55, 56, 57, 58, 59, 60, 61, 62, 63, 64, 65, 66, 67, 68, 69, 70, 71, 72, 73, 74, 75, 76, 77, 78, 79, 80, 81, 82, 83, 84, 85, 86, 87, 88, 89, 90, 91, 92, 93, 94, 95, 96, 97, 98, 99, 100, 101, 102, 0, 103, 104, 105, 106, 107, 108, 109, 110, 111, 112, 113, 114, 115, 116, 117, 118, 119, 120, 121, 122, 123, 124, 125, 126, 127, 128, 129, 130, 131, 132, 133, 134, 135, 136, 137, 138, 139, 140, 141, 142, 143, 144, 145, 146, 147, 148, 149, 150, 151, 152, 153, 154, 155, 156, 157, 158, 159, 160, 161, 162, 163, 164, 165, 166, 167, 168, 169, 170, 171, 172, 173, 174, 175, 176, 177, 178, 179] rfl (by decide +kernel)
set_option maxRecDepth 20000 in
theorem gX13_readProduct_X13_readFactor : GoodIn wsX13_readProduct (wsV RX13 113 RX13 yX13_readFactor wsX13_readFactor) := goodIn_app (goodIn_of _ (by decide +kernel)) ggX13_readProduct_X13_readFactor
set_option maxRecDepth 20000 in
theorem ggX13_readProduct_X13_scan : GoodIn wsX13_readProduct wsX13_scan := goodIn_r _ [14, 15, 16, 17, 18, 10, 1, 19, 20, 21, 5, 22, 23, 24, 25, 26, 27, 28, 107, 108, 109, 110, 111, 112, 113, 114, 115, 116, 117, 118, 119, 120, 121, 122, 123, 124, 125, 126, 127, 128, 129, 130, 131, 132, 133, 134, 135, 136, 137, 138, 139, 140, 141, 142, 143, 144, 145, 146, 147, 148, 149, 150, 151, 152, 153, 154, 155, 156, 157, 158, 159, 160, 161, 162, 163, 164, 165, 166, 167, 168, 169, 170, 171, 172, 173, 174, 175, 176, 177, 178, 179] rfl (by decide +kernel)
set_option maxRecDepth 20000 in
theorem gX13_readProduct_X13_scan : GoodIn wsX13_readProduct (wsV RX13 69 RX13 yX13_scan wsX13_scan) := goodIn_app (goodIn_of _ (by decide +kernel)) ggX13_readProduct_X13_scan
def wsT_X13_readProduct : List Cond := wsX13_readProduct ++ wsT_nx
theorem gT_X13_readProduct_X13_readFactor : GoodIn wsT_X13_readProduct (wsV RX13 113 RX13 yX13_readFactor wsT_X13_readFactor) := gT_call gX13_readProduct_X13_readFactor gT_nx
set_option maxHeartbeats 4000000 in
set_option maxRecDepth 100000 in
theorem S_X13_readProduct_v4 (l : Launch) (D : va_G) (K : Nat → ClassId) (a : Nat → Nat) (G : gS) (qs vs : Nat → Nat) (pb : ((G 0 5).toInt ≤ (G 0 3).toInt)) (s35 : (3 ≤ (G 0 20).toInt)) (m6 : ((G 12 ((G 0 20).toInt).toNat).toInt ≤ 6 * (G 0 21).toInt)) (hI : yI G) (sz : Nat) : KxvZ (yZ qs vs) l yX13_readProduct wsT_X13_readProduct 8 192 D [.ref (a 0), .int 4] (yW K a G) (tK K) sz (fun (G' : gS) => (yI G') ∧ (gu_un ycd [5, 6, 7, 8, 9, 10, 22, 1000, 1100, 1200] G G') ∧ (((G' 0 5).toInt ≤ (G 0 3).toInt ∧ (G 0 5).toInt ≤ (G' 0 5).toInt ∧ ((G' 0 6).toInt = 0 ∨ (G 0 5).toInt < (G' 0 5).toInt))) ∧ (ySg 2 (G 0 20).toInt G G') ∧ (yKp G G') ∧ (ySim cP ((G 0 20).toInt - 3).toNat (qW 4 (G 0 21).toInt (mL (G 0 20).toInt G)) (qD 4 (G' 0 21).toInt (mL (G 0 20).toInt G')) G G') ∧ ((¬ ((G' 0 6).toInt = 3 ∧ xsg (G' 0 7).toInt = 2))) ∧ (yFf G G')) (fun (G' : gS) => (yI G') ∧ (gu_un ycd [5, 6, 7, 8, 9, 10, 22, 1000, 1100, 1200] G G') ∧ (yKp G G') ∧ (yThr cP ((G 0 20).toInt - 3).toNat (qW 4 (G 0 21).toInt (mL (G 0 20).toInt G)) G G') ∧ (((G' 0 8).toInt ≠ 0))) (a 1) (fun (G' : gS) => (yW K a G')) := by
  unfold KxvZ
  refine gxz_ofW (cc := cX13_readProduct) (lv := [(0, .ref (a 0)), (1, .int 4)]) (by decide) rfl (Nat.le_of_ble_eq_true rfl) rfl ?_
  intro p e s m args below meth c A Q hA hQ hZ F hr hex
  have hts := F.2.2.2.2.1
  have w_0 : (Cond.fieldLink RX13 41 "QuietCutModel" "value" "I").before args s = true := hts _ (List.mem_of_getElem? (i := 1) rfl)
  have i_X13 : ∀ w ∈ u_ws RX13 TX13 73, w ∈ wsT_X13_readProduct := fun w h => List.mem_append_left _ ((show ∀ w ∈ u_ws RX13 TX13 73, w ∈ wsX13_readProduct from fun _ h => List.mem_cons_of_mem _ (List.mem_append_right _ h)) w h)
  have b1 : (0 : Int) ≤ (G 0 3).toInt ∧ (G 0 3).toInt ≤ 1000 := hI 0 3
  have b2 : (0 : Int) ≤ (G 0 5).toInt ∧ (G 0 5).toInt ≤ 1000 := hI 0 5
  have b3 : (0 : Int) ≤ (G 0 6).toInt ∧ (G 0 6).toInt ≤ 4 := hI 0 6
  have b4 : (0 : Int) ≤ (G 0 20).toInt ∧ (G 0 20).toInt ≤ 5 := hI 0 20
  have b5 : (0 : Int) ≤ (G 0 21).toInt ∧ (G 0 21).toInt ≤ 12 := hI 0 21
  have J_5 : ∀ (fuel : Nat) (Gj5 : gS), (8 * (1000 - (Gj5 0 5).toInt) + (Gj5 0 6).toInt).toNat < fuel → (yI Gj5) → (gu_un ycd [5, 6, 7, 8, 9, 10, 22, 1000, 1100, 1200] G Gj5) → (ySg 2 (G 0 20).toInt G Gj5) → (yKp G Gj5) → (ySim cP ((G 0 20).toInt - 3).toNat (qW 4 (G 0 21).toInt (mL (G 0 20).toInt G)) (qD 4 (Gj5 0 21).toInt (mL (G 0 20).toInt Gj5)) G Gj5) → (yFf G Gj5) → (((Gj5 0 5).toInt ≤ (G 0 3).toInt)) → (((G 0 5).toInt ≤ (Gj5 0 5).toInt ∧ ((Gj5 0 6).toInt = 0 ∨ (G 0 5).toInt < (Gj5 0 5).toInt))) → gG p l e (gR 8 0 0 192) s m args below meth c D A 3 Q 0 0 (yW K a Gj5) (tK K) [(0, .ref (a 0)), (1, .int 4)] 5 [] := by
    intro fuel
    induction fuel with
    | zero => intro Gj5 hm; exact absurd hm (Nat.not_lt_zero _)
    | succ fuel_5 ih_5 =>
      intro Gj5 hm_5 jI5 jU5 sg5 kp5 pf5 ff5 bl_5 bm_5
      have J_32 : ∀ (_ : Unit), (((Gj5 0 6).toInt = 3 ∧ (Gj5 0 7).toInt ≠ 33 ∧ xsg (Gj5 0 7).toInt = 2)) → (((Gj5 0 5).toInt ≤ (G 0 3).toInt)) → (((G 0 5).toInt ≤ (Gj5 0 5).toInt ∧ ((Gj5 0 6).toInt = 0 ∨ (G 0 5).toInt < (Gj5 0 5).toInt))) → gG p l e (gR 8 0 0 192) s m args below meth c D A 3 Q 0 0 (yW K a Gj5) (tK K) [(0, .ref (a 0)), (1, .int 4)] 32 [] := by
        intro _ sn bl_32 bm_32
        refine g_aload_n F 0 dX13_readProduct_32 rfl rfl ?_
        refine yg_0_7 F i_X13 w_0 dX13_readProduct_33 (Gj5 0 7) (rfl) ?_
        refine g_istore_n F [(2, .int (Gj5 0 7)), (0, .ref (a 0)), (1, .int 4)] dX13_readProduct_36 rfl (by decide) rfl ?_
        refine g_aload_n F 1 dX13_readProduct_37 rfl rfl ?_
        have b6 : (0 : Int) ≤ (Gj5 0 5).toInt ∧ (Gj5 0 5).toInt ≤ 1000 := jI5 0 5
        refine u_callVv (k := 0) (n := 0) (b := a 0) (As := []) (st := []) F (fun sz => S_X13_scan l D K a Gj5  (by have e9_0_3 : Gj5 0 3 = (G 0 3) := jU5 0 3 (by decide); (try simp only [e9_0_3, true_and, and_true]) <;> (first | omega | (simp only [Int32.reduceToInt, true_and, and_true, ne_eq, not_true_eq_false, false_and, or_false, false_or, true_or, or_true, false_implies] <;> omega))) jI5 sz) (cwV 0 hts (gT_left gX13_readProduct_X13_scan) rfl rfl rfl (by decide +kernel) ⟨Nat.le_of_ble_eq_true rfl, Nat.le_of_ble_eq_true rfl⟩) rfl 0 yc_0 rfl (Nat.le_of_ble_eq_true rfl) ⟨Nat.zero_le _, Nat.zero_le _⟩ dX13_readProduct_38 (fun G9 hw8 => ?_)
        have hI10 : yI G9 := hw8.1
        have hU11 : gu_un ycd [5, 6, 7, 8] Gj5 G9 := hw8.2.1
        have hp12 := hw8.2.2
        have b13 : (0 : Int) ≤ (G9 0 5).toInt ∧ (G9 0 5).toInt ≤ 1000 := hI10 0 5
        have b14 : (0 : Int) ≤ (G9 0 4).toInt ∧ (G9 0 4).toInt ≤ 1000 := hI10 0 4
        have q15 : ((G9 0 5).toInt ≤ (G 0 3).toInt ∧ (Gj5 0 5).toInt ≤ (G9 0 4).toInt ∧ (G9 0 4).toInt ≤ (G9 0 5).toInt) := by have h9 := hp12.1; (try simp only [(show Gj5 0 3 = (G 0 3) from jU5 0 3 (by decide))] at h9); first | exact h9 | omega
        have b16 : (0 : Int) ≤ (G9 0 6).toInt ∧ (G9 0 6).toInt ≤ 4 := hI10 0 6
        have q17 : (((G9 0 6).toInt = 0 ∧ (G9 0 4).toInt = (G 0 3).toInt) ∨ ((G9 0 6).toInt ≠ 0 ∧ (G9 0 4).toInt < (G9 0 5).toInt)) := by have h9 := hp12.2.1; (try simp only [(show Gj5 0 3 = (G 0 3) from jU5 0 3 (by decide))] at h9); first | exact h9 | omega
        have b18 : (0 : Int) ≤ (G9 0 7).toInt ∧ (G9 0 7).toInt ≤ 9999 := hI10 0 7
        have q19 : tTok (G 2) (G 0 3).toInt (Gj5 0 5).toInt (G9 0 6).toInt (G9 0 4).toInt (G9 0 7).toInt (G9 0 5).toInt := by have h9 := hp12.2.2; (try simp only [(show Gj5 0 3 = (G 0 3) from jU5 0 3 (by decide)), (show Gj5 2 = (G 2) from (show Gj5 2 = G 2 from funext fun k_ => jU5 2 k_ (show (200 : Nat) ∉ ([5, 6, 7, 8, 9, 10, 22, 1000, 1100, 1200] : List Nat) by decide)))] at h9); first | exact h9 | omega
        clear hp12 hw8
        refine g_aload_n F 1 dX13_readProduct_41 rfl rfl ?_
        refine g_iload_n F 2 dX13_readProduct_42 rfl rfl ?_
        refine uxz_callvv (k := 0) (n := 0) (b := a 0) (As := [.int 4]) (st := []) F yZ_st hZ (fun sz => S_X13_readFactor_v4 l D K a G9 qs vs  (by have e9_0_3 : G9 0 3 = (G 0 3) := (hU11 0 3 (by decide)).trans (jU5 0 3 (by decide)); (try simp only [e9_0_3, true_and, and_true]) <;> (first | omega | (simp only [Int32.reduceToInt, true_and, and_true, ne_eq, not_true_eq_false, false_and, or_false, false_or, true_or, or_true, false_implies] <;> omega))) (by have e9_0_20 : G9 0 20 = (G 0 20) := (hU11 0 20 (by decide)).trans (jU5 0 20 (by decide)); (try simp only [e9_0_20, true_and, and_true]) <;> (first | omega | (simp only [Int32.reduceToInt, true_and, and_true, ne_eq, not_true_eq_false, false_and, or_false, false_or, true_or, or_true, false_implies] <;> omega))) (by rw [show G9 0 20 = G 0 20 from (hU11 0 20 (by decide)).trans (jU5 0 20 (by decide))]; exact (ySg.m6 (c := 2) (sg5.un (show gu_un ycd [5, 6, 7, 8] Gj5 G9 from (gu_un.tr gu_un.rf (gu_un.su hU11 rfl))) rfl rfl) (by decide) (by decide) m6)) hI10 sz) (cwV 1 hts gT_X13_readProduct_X13_readFactor rfl rfl rfl (by decide +kernel) ⟨Nat.le_of_ble_eq_true rfl, Nat.le_of_ble_eq_true rfl⟩) rfl 0 yc_0 rfl (Nat.le_of_ble_eq_true rfl) ⟨Nat.zero_le _, Nat.zero_le _⟩ dX13_readProduct_43 hex hA hQ (fun u9 h9 => ⟨h9.1, gu_un.tr (gu_un.tr (gu_un.tr gu_un.rf (gu_un.su jU5 rfl)) (gu_un.su hU11 rfl)) (gu_un.su h9.2.1 rfl), (yKp.tr (yKp.un kp5 (show gu_un ycd [5, 6, 7, 8] Gj5 G9 from (gu_un.tr gu_un.rf (gu_un.su hU11 rfl))) rfl) h9.2.2.1), (by have h9 := h9.2.2.2.1; (try rw [show G9 0 20 = (G 0 20) from (hU11 0 20 (by decide)).trans (jU5 0 20 (by decide))] at h9); (try rw [show G9 0 21 = (Gj5 0 21) from hU11 0 21 (by decide)] at h9); exact yP_nextT (yP_sign (v := (Gj5 0 7).toInt) pf5 (show yStp [] Gj5 Gj5 G9 from ⟨(show gu_un ycd [] Gj5 Gj5 from gu_un.rf), rfl, by (try rw [show Gj5 2 = (G 2) from (show Gj5 2 = G 2 from funext fun k_ => jU5 2 k_ (show (200 : Nat) ∉ ([5, 6, 7, 8, 9, 10, 22, 1000, 1100, 1200] : List Nat) by decide))]); (try rw [show Gj5 0 3 = (G 0 3) from jU5 0 3 (by decide)]); exact q19, funext fun k_ => hU11 2 k_ (by simp [ycd]), hU11 0 3 (by decide)⟩) (by omega) rfl sn.2.2) h9 rfl (mL_un (show gu_un ycd [5, 6, 7, 8] Gj5 G9 from (gu_un.tr gu_un.rf (gu_un.su hU11 rfl))) rfl)), (h9.2.2.2.2)⟩) (fun G22 hw21 => ?_)
        have hI23 : yI G22 := hw21.1
        have hU24 : gu_un ycd [5, 6, 7, 8, 9, 10, 22, 1000, 1100, 1200] G9 G22 := hw21.2.1
        have hp25 := hw21.2.2
        have b26 : (0 : Int) ≤ (G22 0 5).toInt ∧ (G22 0 5).toInt ≤ 1000 := hI23 0 5
        have b27 : (0 : Int) ≤ (G22 0 6).toInt ∧ (G22 0 6).toInt ≤ 4 := hI23 0 6
        have q28 : ((G22 0 5).toInt ≤ (G 0 3).toInt ∧ (G9 0 5).toInt ≤ (G22 0 5).toInt ∧ ((G22 0 6).toInt = 0 ∨ (G9 0 5).toInt < (G22 0 5).toInt)) := by have h9 := hp25.1; (try simp only [(show G9 0 3 = (G 0 3) from (hU11 0 3 (by decide)).trans (jU5 0 3 (by decide)))] at h9); first | exact h9 | omega
        have q29 : ySg 2 (G 0 20).toInt G9 G22 := by have h9 := hp25.2.1; (try simp only [(show G9 0 20 = (G 0 20) from (hU11 0 20 (by decide)).trans (jU5 0 20 (by decide)))] at h9); first | exact h9 | omega
        have q30 : yKp G9 G22 := hp25.2.2.1
        have b31 : (0 : Int) ≤ (Gj5 0 21).toInt ∧ (Gj5 0 21).toInt ≤ 12 := jI5 0 21
        have b32 : (0 : Int) ≤ (G22 0 21).toInt ∧ (G22 0 21).toInt ≤ 12 := hI23 0 21
        have q33 : ySim cA ((G 0 20).toInt - 3).toNat (qW 4 (Gj5 0 21).toInt (mL (G 0 20).toInt G9)) (qF 4 (G22 0 21).toInt (mL (G 0 20).toInt G22)) G9 G22 := by have h9 := hp25.2.2.2.1; (try simp only [(show G9 0 20 = (G 0 20) from (hU11 0 20 (by decide)).trans (jU5 0 20 (by decide))), (show G9 0 21 = (Gj5 0 21) from hU11 0 21 (by decide)), (show G9 0 20 = (G 0 20) from (hU11 0 20 (by decide)).trans (jU5 0 20 (by decide))), (show G9 0 20 = (G 0 20) from (hU11 0 20 (by decide)).trans (jU5 0 20 (by decide)))] at h9); first | exact h9 | omega
        have q34 : yFf G9 G22 := hp25.2.2.2.2
        have kp35 : yKp G G22 := yKp.tr (yKp.un kp5 (show gu_un ycd [5, 6, 7, 8] Gj5 G9 from (gu_un.tr gu_un.rf (gu_un.su hU11 rfl))) rfl) q30
        clear hp25 hw21
        refine g_aload_n F 1 dX13_readProduct_46 rfl rfl ?_
        refine g_iconst F 2 dX13_readProduct_47 (by decide) ?_
        refine g_iload_n F 0 dX13_readProduct_48 rfl rfl ?_
        have b36 : (0 : Int) ≤ (Gj5 0 7).toInt ∧ (Gj5 0 7).toInt ≤ 9999 := jI5 0 7
        refine u_callVv (k := 0) (n := 0) (b := a 0) (As := [.int 2, .int (Gj5 0 7)]) (st := []) F (fun sz => S_X13_mark l D K a G22 2 2 (Gj5 0 7) (Gj5 0 7).toInt rfl (by decide) rfl (by omega) (by rw [show G22 0 20 = G 0 20 from (hU24 0 20 (by decide)).trans ((hU11 0 20 (by decide)).trans (jU5 0 20 (by decide)))]; have h9 : (G22 12 ((G 0 20).toInt).toNat).toInt ≤ 6 * (G22 0 21).toInt := (ySg.m6 (c := 2) q29 (by decide) (by decide) (ySg.m6 (c := 2) (sg5.un (show gu_un ycd [5, 6, 7, 8] Gj5 G9 from (gu_un.tr gu_un.rf (gu_un.su hU11 rfl))) rfl rfl) (by decide) (by decide) m6)); have h8 : (0 : Int) ≤ (G22 0 21).toInt ∧ (G22 0 21).toInt ≤ 12 := hI23 0 21; show (G22 12 ((G 0 20).toInt).toNat).toInt ≤ 79; omega) hI23 sz) (cwV 2 hts (gT_left gX13_readProduct_X13_mark) rfl rfl rfl (by decide +kernel) ⟨Nat.le_of_ble_eq_true rfl, Nat.le_of_ble_eq_true rfl⟩) rfl 0 yc_0 rfl (Nat.le_of_ble_eq_true rfl) ⟨Nat.zero_le _, Nat.zero_le _⟩ dX13_readProduct_49 (fun G39 hw38 => ?_)
        have hI40 : yI G39 := hw38.1
        have hU41 : gu_un ycd [1000, 1100, 1200] G22 G39 := hw38.2.1
        have hp42 := hw38.2.2
        have q43 : yMk 2 (Gj5 0 7) (G 0 20).toInt G22 G39 := by have h9 := hp42; (try simp only [(show G22 0 20 = (G 0 20) from (hU24 0 20 (by decide)).trans ((hU11 0 20 (by decide)).trans (jU5 0 20 (by decide))))] at h9); first | exact h9 | omega
        have m0 : 0 ≤ (G 12 ((G 0 20).toInt).toNat).toInt := (show (0 : Int) ≤ (G 12 ((G 0 20).toInt).toNat).toInt ∧ (G 12 ((G 0 20).toInt).toNat).toInt ≤ 80 from hI 12 _).1
        have m1 : 0 ≤ (G22 12 ((G 0 20).toInt).toNat).toInt := (show (0 : Int) ≤ (G22 12 ((G 0 20).toInt).toNat).toInt ∧ (G22 12 ((G 0 20).toInt).toNat).toInt ≤ 80 from hI23 12 _).1
        have kp44 : yKp G G39 := yKp.tr kp35 (q43.kp (by omega) m1)
        have sg45 : ySg 2 (G 0 20).toInt G G39 := ySg.join (sg5.un (show gu_un ycd [5, 6, 7, 8] Gj5 G9 from (gu_un.tr gu_un.rf (gu_un.su hU11 rfl))) rfl rfl) q29 q43 (by decide) (by omega) (by omega) m0 (by have h9 : (G22 12 ((G 0 20).toInt).toNat).toInt ≤ 6 * (G22 0 21).toInt := (ySg.m6 (c := 2) q29 (by decide) (by decide) (ySg.m6 (c := 2) (sg5.un (show gu_un ycd [5, 6, 7, 8] Gj5 G9 from (gu_un.tr gu_un.rf (gu_un.su hU11 rfl))) rfl rfl) (by decide) (by decide) m6)); have h8 : (0 : Int) ≤ (G22 0 21).toInt ∧ (G22 0 21).toInt ≤ 12 := hI23 0 21; omega)
        clear hp42 hw38
        refine g_goto F 5 dX13_readProduct_52 (by decide) ?_
        refine g_locals [(0, .ref (a 0)), (1, .int 4)] [1, 2] rfl ?_
        exact ih_5 G39 (by have e9_0_5 : G39 0 5 = (G22 0 5) := hU41 0 5 (by decide); have e9_0_6 : G39 0 6 = (G22 0 6) := hU41 0 6 (by decide); (try simp only [e9_0_5, e9_0_6, true_and, and_true]) <;> omega) hI40 (gu_un.tr (gu_un.tr (gu_un.tr (gu_un.tr gu_un.rf (gu_un.su jU5 rfl)) (gu_un.su hU11 rfl)) (gu_un.su hU24 rfl)) (gu_un.su hU41 rfl)) (sg45) (kp44) (yP_next (yP_sign (v := (Gj5 0 7).toInt) pf5 (show yStp [] Gj5 Gj5 G9 from ⟨(show gu_un ycd [] Gj5 Gj5 from gu_un.rf), rfl, by (try rw [show Gj5 2 = (G 2) from (show Gj5 2 = G 2 from funext fun k_ => jU5 2 k_ (show (200 : Nat) ∉ ([5, 6, 7, 8, 9, 10, 22, 1000, 1100, 1200] : List Nat) by decide))]); (try rw [show Gj5 0 3 = (G 0 3) from jU5 0 3 (by decide)]); exact q19, funext fun k_ => hU11 2 k_ (by simp [ycd]), hU11 0 3 (by decide)⟩) (by omega) rfl sn.2.2) sn.2.2 q33 rfl (mL_un (show gu_un ycd [5, 6, 7, 8] Gj5 G9 from (gu_un.tr gu_un.rf (gu_un.su hU11 rfl))) rfl) (show gu_un ycd _ _ G39 from (show gu_un ycd [1000, 1100, 1200] G22 G39 from (gu_un.tr gu_un.rf (gu_un.su hU41 rfl)))) rfl (by rw [q43.ml (by omega) (show (0 : Int) ≤ (G22 12 ((G 0 20).toInt).toNat).toInt from (hI23 12 _).1), mEn_2 (by decide) sn.2.1 sn.2.2 (by decide)]) (congrArg Int32.toInt (show G39 0 21 = (G22 0 21) from hU41 0 21 (by decide)))) ((yFf.tr (show yFf G G22 from (yFf.tr (show yFf G G9 from (yFf.tr (show yFf G Gj5 from ff5) (show yFf _ G9 from yFf.un hU11 rfl))) q34)) (show yFf _ G39 from yFf.un hU41 rfl))) (by have e9_0_3 : G39 0 3 = (G 0 3) := (hU41 0 3 (by decide)).trans ((hU24 0 3 (by decide)).trans ((hU11 0 3 (by decide)).trans (jU5 0 3 (by decide)))); have e9_0_5 : G39 0 5 = (G22 0 5) := hU41 0 5 (by decide); (try simp only [e9_0_3, e9_0_5, true_and, and_true]) <;> (first | omega | (simp only [Int32.reduceToInt, true_and, and_true, ne_eq, not_true_eq_false, false_and, or_false, false_or, true_or, or_true, false_implies] <;> omega))) (by have e9_0_5 : G39 0 5 = (G22 0 5) := hU41 0 5 (by decide); have e9_0_6 : G39 0 6 = (G22 0 6) := hU41 0 6 (by decide); (try simp only [e9_0_5, e9_0_6, true_and, and_true]) <;> (first | omega | (simp only [Int32.reduceToInt, true_and, and_true, ne_eq, not_true_eq_false, false_and, or_false, false_or, true_or, or_true, false_implies] <;> omega)))
      refine g_aload_n F 0 dX13_readProduct_5 rfl rfl ?_
      refine g_bipush F 42 dX13_readProduct_6 (by decide) ?_
      refine u_callVi (k := 0) (n := 0) (b := a 0) (As := [.int 42]) (st := []) F (fun sz => S_X13_isSign l D K a Gj5 42 42 rfl jI5 sz) (cwV 1 hts (gT_left gX13_readProduct_X13_isSign) rfl rfl rfl (by decide +kernel) ⟨Nat.le_of_ble_eq_true rfl, Nat.le_of_ble_eq_true rfl⟩) rfl 0 yc_0 rfl (Nat.le_of_ble_eq_true rfl) ⟨Nat.zero_le _, Nat.zero_le _⟩ dX13_readProduct_8 (fun r46 _ hw47 => ?_)
      rcases hw47 with ⟨rfl, q49⟩ | ⟨rfl, q50⟩
      · have b51 : (0 : Int) ≤ (Gj5 0 6).toInt ∧ (Gj5 0 6).toInt ≤ 4 := jI5 0 6
        have b52 : (0 : Int) ≤ (Gj5 0 7).toInt ∧ (Gj5 0 7).toInt ≤ 9999 := jI5 0 7
        have q49 : ((Gj5 0 6).toInt = 3 ∧ (Gj5 0 7).toInt = (42 : Int)) := q49
        refine v_if_ne F 32 dX13_readProduct_11 (by decide) 1 rfl (fun c53 => ?_) (fun c53 => absurd c53 (by decide))
        have b54 : (0 : Int) ≤ (Gj5 0 5).toInt ∧ (Gj5 0 5).toInt ≤ 1000 := jI5 0 5
        exact J_32 () (⟨by omega, by omega, xsg_2.mpr (by omega)⟩) (by have e9_0_3 : Gj5 0 3 = (G 0 3) := jU5 0 3 (by decide); (try simp only [e9_0_3, true_and, and_true]) <;> (first | omega | (simp only [Int32.reduceToInt, true_and, and_true, ne_eq, not_true_eq_false, false_and, or_false, false_or, true_or, or_true, false_implies] <;> omega))) (by (first | omega | (simp only [Int32.reduceToInt, true_and, and_true, ne_eq, not_true_eq_false, false_and, or_false, false_or, true_or, or_true, false_implies] <;> omega)))
      · have b55 : (0 : Int) ≤ (Gj5 0 6).toInt ∧ (Gj5 0 6).toInt ≤ 4 := jI5 0 6
        have b56 : (0 : Int) ≤ (Gj5 0 7).toInt ∧ (Gj5 0 7).toInt ≤ 9999 := jI5 0 7
        have q50 : ((Gj5 0 6).toInt ≠ 3 ∨ (Gj5 0 7).toInt ≠ (42 : Int)) := q50
        refine v_if_ne F 32 dX13_readProduct_11 (by decide) 0 rfl (fun c57 => absurd c57 (by decide)) (fun c57 => ?_)
        refine g_aload_n F 0 dX13_readProduct_14 rfl rfl ?_
        refine g_bipush F 47 dX13_readProduct_15 (by decide) ?_
        refine u_callVi (k := 0) (n := 0) (b := a 0) (As := [.int 47]) (st := []) F (fun sz => S_X13_isSign l D K a Gj5 47 47 rfl jI5 sz) (cwV 1 hts (gT_left gX13_readProduct_X13_isSign) rfl rfl rfl (by decide +kernel) ⟨Nat.le_of_ble_eq_true rfl, Nat.le_of_ble_eq_true rfl⟩) rfl 0 yc_0 rfl (Nat.le_of_ble_eq_true rfl) ⟨Nat.zero_le _, Nat.zero_le _⟩ dX13_readProduct_17 (fun r58 _ hw59 => ?_)
        rcases hw59 with ⟨rfl, q61⟩ | ⟨rfl, q62⟩
        · have q61 : ((Gj5 0 6).toInt = 3 ∧ (Gj5 0 7).toInt = (47 : Int)) := q61
          refine v_if_ne F 32 dX13_readProduct_20 (by decide) 1 rfl (fun c63 => ?_) (fun c63 => absurd c63 (by decide))
          have b64 : (0 : Int) ≤ (Gj5 0 5).toInt ∧ (Gj5 0 5).toInt ≤ 1000 := jI5 0 5
          exact J_32 () (⟨by omega, by omega, xsg_2.mpr (by omega)⟩) (by have e9_0_3 : Gj5 0 3 = (G 0 3) := jU5 0 3 (by decide); (try simp only [e9_0_3, true_and, and_true]) <;> (first | omega | (simp only [Int32.reduceToInt, true_and, and_true, ne_eq, not_true_eq_false, false_and, or_false, false_or, true_or, or_true, false_implies] <;> omega))) (by (first | omega | (simp only [Int32.reduceToInt, true_and, and_true, ne_eq, not_true_eq_false, false_and, or_false, false_or, true_or, or_true, false_implies] <;> omega)))
        · have q62 : ((Gj5 0 6).toInt ≠ 3 ∨ (Gj5 0 7).toInt ≠ (47 : Int)) := q62
          refine v_if_ne F 32 dX13_readProduct_20 (by decide) 0 rfl (fun c65 => absurd c65 (by decide)) (fun c65 => ?_)
          refine g_aload_n F 0 dX13_readProduct_23 rfl rfl ?_
          refine g_bipush F 37 dX13_readProduct_24 (by decide) ?_
          refine u_callVi (k := 0) (n := 0) (b := a 0) (As := [.int 37]) (st := []) F (fun sz => S_X13_isSign l D K a Gj5 37 37 rfl jI5 sz) (cwV 1 hts (gT_left gX13_readProduct_X13_isSign) rfl rfl rfl (by decide +kernel) ⟨Nat.le_of_ble_eq_true rfl, Nat.le_of_ble_eq_true rfl⟩) rfl 0 yc_0 rfl (Nat.le_of_ble_eq_true rfl) ⟨Nat.zero_le _, Nat.zero_le _⟩ dX13_readProduct_26 (fun r66 _ hw67 => ?_)
          rcases hw67 with ⟨rfl, q69⟩ | ⟨rfl, q70⟩
          · have q69 : ((Gj5 0 6).toInt = 3 ∧ (Gj5 0 7).toInt = (37 : Int)) := q69
            refine v_if_eq F 55 dX13_readProduct_29 (by decide) 1 rfl (fun c71 => absurd c71 (by decide)) (fun c71 => ?_)
            have b72 : (0 : Int) ≤ (Gj5 0 5).toInt ∧ (Gj5 0 5).toInt ≤ 1000 := jI5 0 5
            exact J_32 () (⟨by omega, by omega, xsg_2.mpr (by omega)⟩) (by have e9_0_3 : Gj5 0 3 = (G 0 3) := jU5 0 3 (by decide); (try simp only [e9_0_3, true_and, and_true]) <;> (first | omega | (simp only [Int32.reduceToInt, true_and, and_true, ne_eq, not_true_eq_false, false_and, or_false, false_or, true_or, or_true, false_implies] <;> omega))) (by (first | omega | (simp only [Int32.reduceToInt, true_and, and_true, ne_eq, not_true_eq_false, false_and, or_false, false_or, true_or, or_true, false_implies] <;> omega)))
          · have q70 : ((Gj5 0 6).toInt ≠ 3 ∨ (Gj5 0 7).toInt ≠ (37 : Int)) := q70
            refine v_if_eq F 55 dX13_readProduct_29 (by decide) 0 rfl (fun c73 => ?_) (fun c73 => absurd c73 (by decide))
            have b74 : (0 : Int) ≤ (Gj5 0 5).toInt ∧ (Gj5 0 5).toInt ≤ 1000 := jI5 0 5
            exact ux_vret F hA hQ hr Gj5 (⟨jI5, (gu_un.tr gu_un.rf (gu_un.su jU5 rfl)), (by show ((Gj5 0 5).toInt ≤ (G 0 3).toInt ∧ (G 0 5).toInt ≤ (Gj5 0 5).toInt ∧ ((Gj5 0 6).toInt = 0 ∨ (G 0 5).toInt < (Gj5 0 5).toInt)); (first | omega | (simp only [Int32.reduceToInt, true_and, and_true, ne_eq, not_true_eq_false, false_and, or_false, false_or, true_or, or_true, false_implies] <;> omega))), (sg5), (kp5), (pf5), (fun h7 => by have h6 := xsg_2.mp h7.2; omega), (ff5)⟩) rfl rfl dX13_readProduct_55
  refine g_aload_n F 0 dX13_readProduct_0 rfl rfl ?_
  refine g_iload_n F 1 dX13_readProduct_1 rfl rfl ?_
  refine uxz_callvv (k := 0) (n := 0) (b := a 0) (As := [.int 4]) (st := []) F yZ_st hZ (fun sz => S_X13_readFactor_v4 l D K a G qs vs  (by (first | omega | (simp only [Int32.reduceToInt, true_and, and_true, ne_eq, not_true_eq_false, false_and, or_false, false_or, true_or, or_true, false_implies] <;> omega))) (by (first | omega | (simp only [Int32.reduceToInt, true_and, and_true, ne_eq, not_true_eq_false, false_and, or_false, false_or, true_or, or_true, false_implies] <;> omega))) (m6) hI sz) (cwV 1 hts gT_X13_readProduct_X13_readFactor rfl rfl rfl (by decide +kernel) ⟨Nat.le_of_ble_eq_true rfl, Nat.le_of_ble_eq_true rfl⟩) rfl 0 yc_0 rfl (Nat.le_of_ble_eq_true rfl) ⟨Nat.zero_le _, Nat.zero_le _⟩ dX13_readProduct_2 hex hA hQ (fun u9 h9 => ⟨h9.1, gu_un.tr gu_un.rf (gu_un.su h9.2.1 rfl), (yKp.tr yKp.rf h9.2.2.1), (by have h9 := h9.2.2.2.1; exact h9.weak), (h9.2.2.2.2)⟩) (fun G77 hw76 => ?_)
  have hI78 : yI G77 := hw76.1
  have hU79 : gu_un ycd [5, 6, 7, 8, 9, 10, 22, 1000, 1100, 1200] G G77 := hw76.2.1
  have hp80 := hw76.2.2
  have b81 : (0 : Int) ≤ (G77 0 5).toInt ∧ (G77 0 5).toInt ≤ 1000 := hI78 0 5
  have b82 : (0 : Int) ≤ (G77 0 6).toInt ∧ (G77 0 6).toInt ≤ 4 := hI78 0 6
  have q83 : ((G77 0 5).toInt ≤ (G 0 3).toInt ∧ (G 0 5).toInt ≤ (G77 0 5).toInt ∧ ((G77 0 6).toInt = 0 ∨ (G 0 5).toInt < (G77 0 5).toInt)) := hp80.1
  have q84 : ySg 2 (G 0 20).toInt G G77 := hp80.2.1
  have q85 : yKp G G77 := hp80.2.2.1
  have b86 : (0 : Int) ≤ (G77 0 21).toInt ∧ (G77 0 21).toInt ≤ 12 := hI78 0 21
  have q87 : ySim cA ((G 0 20).toInt - 3).toNat (qW 4 (G 0 21).toInt (mL (G 0 20).toInt G)) (qF 4 (G77 0 21).toInt (mL (G 0 20).toInt G77)) G G77 := hp80.2.2.2.1
  have q88 : yFf G G77 := hp80.2.2.2.2
  have kp89 : yKp G G77 := yKp.tr yKp.rf q85
  have sg90 : ySg 2 (G 0 20).toInt G G77 := q84
  clear hp80 hw76
  exact J_5 _ G77 (Nat.lt_succ_self _) hI78 (gu_un.tr gu_un.rf (gu_un.su hU79 rfl)) (sg90) (kp89) (yP_first q87) ((yFf.tr (show yFf G G from yFf.rf) q88)) (by have e9_0_3 : G77 0 3 = (G 0 3) := hU79 0 3 (by decide); (try simp only [e9_0_3, true_and, and_true]) <;> (first | omega | (simp only [Int32.reduceToInt, true_and, and_true, ne_eq, not_true_eq_false, false_and, or_false, false_or, true_or, or_true, false_implies] <;> omega))) (by (first | omega | (simp only [Int32.reduceToInt, true_and, and_true, ne_eq, not_true_eq_false, false_and, or_false, false_or, true_or, or_true, false_implies] <;> omega)))

theorem dX13_readSum_0 : decode cX13_readSum 0 = .ok (.aload_n 0, 1) := by decide +kernel
theorem dX13_readSum_1 : decode cX13_readSum 1 = .ok (.iload_n 1, 1) := by decide +kernel
theorem dX13_readSum_2 : decode cX13_readSum 2 = .ok (.invokevirtual 106, 3) := by decide +kernel
theorem dX13_readSum_5 : decode cX13_readSum 5 = .ok (.aload_n 0, 1) := by decide +kernel
theorem dX13_readSum_6 : decode cX13_readSum 6 = .ok (.bipush 43, 2) := by decide +kernel
theorem dX13_readSum_8 : decode cX13_readSum 8 = .ok (.invokevirtual 110, 3) := by decide +kernel
theorem dX13_readSum_11 : decode cX13_readSum 11 = .ok (.ifCond .ne 12, 3) := by decide +kernel
theorem dX13_readSum_14 : decode cX13_readSum 14 = .ok (.aload_n 0, 1) := by decide +kernel
theorem dX13_readSum_15 : decode cX13_readSum 15 = .ok (.bipush 45, 2) := by decide +kernel
theorem dX13_readSum_17 : decode cX13_readSum 17 = .ok (.invokevirtual 110, 3) := by decide +kernel
theorem dX13_readSum_20 : decode cX13_readSum 20 = .ok (.ifCond .eq 26, 3) := by decide +kernel
theorem dX13_readSum_23 : decode cX13_readSum 23 = .ok (.aload_n 0, 1) := by decide +kernel
theorem dX13_readSum_24 : decode cX13_readSum 24 = .ok (.getfield 41, 3) := by decide +kernel
theorem dX13_readSum_27 : decode cX13_readSum 27 = .ok (.istore_n 2, 1) := by decide +kernel
theorem dX13_readSum_28 : decode cX13_readSum 28 = .ok (.aload_n 0, 1) := by decide +kernel
theorem dX13_readSum_29 : decode cX13_readSum 29 = .ok (.invokevirtual 69, 3) := by decide +kernel
theorem dX13_readSum_32 : decode cX13_readSum 32 = .ok (.aload_n 0, 1) := by decide +kernel
theorem dX13_readSum_33 : decode cX13_readSum 33 = .ok (.iload_n 1, 1) := by decide +kernel
theorem dX13_readSum_34 : decode cX13_readSum 34 = .ok (.invokevirtual 106, 3) := by decide +kernel
theorem dX13_readSum_37 : decode cX13_readSum 37 = .ok (.aload_n 0, 1) := by decide +kernel
theorem dX13_readSum_38 : decode cX13_readSum 38 = .ok (.iconst 2, 1) := by decide +kernel
theorem dX13_readSum_39 : decode cX13_readSum 39 = .ok (.iload_n 2, 1) := by decide +kernel
theorem dX13_readSum_40 : decode cX13_readSum 40 = .ok (.invokevirtual 92, 3) := by decide +kernel
theorem dX13_readSum_43 : decode cX13_readSum 43 = .ok (.goto (-38), 3) := by decide +kernel
theorem dX13_readSum_46 : decode cX13_readSum 46 = .ok (.return_, 1) := by decide +kernel
set_option maxRecDepth 20000 in
theorem ggX13_readSum_X13_isSign : GoodIn wsX13_readSum wsX13_isSign := goodIn_r _ [9, 10, 1, 107, 108, 109, 110, 111, 112, 113, 114, 115, 116, 117, 118, 119, 120, 121, 122, 123, 124, 125, 126, 127, 128, 129, 130, 131, 132, 133, 134, 135, 136, 137, 138, 139, 140, 141, 142, 143, 144, 145, 146, 147, 148, 149, 150, 151, 152, 153, 154, 155, 156, 157, 158, 159, 160, 161, 162, 163, 164, 165, 166, 167, 168, 169, 170, 171, 172, 173, 174, 175, 176, 177, 178, 179] rfl (by decide +kernel)
set_option maxRecDepth 20000 in
theorem gX13_readSum_X13_isSign : GoodIn wsX13_readSum (wsV RX13 110 RX13 yX13_isSign wsX13_isSign) := goodIn_app (goodIn_of _ (by decide +kernel)) ggX13_readSum_X13_isSign
set_option maxRecDepth 20000 in
theorem ggX13_readSum_X13_mark : GoodIn wsX13_readSum wsX13_mark := goodIn_r _ [32, 33, 34, 35, 36, 107, 108, 109, 110, 111, 112, 113, 114, 115, 116, 117, 118, 119, 120, 121, 122, 123, 124, 125, 126, 127, 128, 129, 130, 131, 132, 133, 134, 135, 136, 137, 138, 139, 140, 141, 142, 143, 144, 145, 146, 147, 148, 149, 150, 151, 152, 153, 154, 155, 156, 157, 158, 159, 160, 161, 162, 163, 164, 165, 166, 167, 168, 169, 170, 171, 172, 173, 174, 175, 176, 177, 178, 179] rfl (by decide +kernel)
set_option maxRecDepth 20000 in
theorem gX13_readSum_X13_mark : GoodIn wsX13_readSum (wsV RX13 92 RX13 yX13_mark wsX13_mark) := goodIn_app (goodIn_of _ (by decide +kernel)) ggX13_readSum_X13_mark
set_option maxRecDepth 20000 in
theorem ggX13_readSum_X13_readProduct : GoodIn wsX13_readSum wsX13_readProduct := goodIn_r _ [106, 1, 43, 44, 45, 5, 6, 7, 8, 9, 10, 11, 12, 13, 14, 15, 16, 17, 18, 19, 20, 21, 22, 23, 24, 25, 26, 27, 28, 29, 30, 31, 32, 33, 34, 35, 36, 37, 38, 39, 40, 41, 42, 46, 47, 48, 49, 50, 51, 52, 53, 54, 55, 56, 57, 58, 59, 60, 61, 62, 63, 64, 65, 66, 67, 68, 69, 70, 71, 72, 73, 74, 75, 76, 77, 78, 79, 80, 81, 82, 83, 84, 85, 86, 87, 88, 89, 90, 91, 92, 93, 94, 95, 96, 97, 98, 99, 100, 101, 102, 103, 104, 105, 0, 2, 3, 4, 107, 108, 109, 110, 111, 112, 113, 114, 115, 116, 117, 118, 119, 120, 121, 122, 123, 124, 125, 126, 127, 128, 129, 130, 131, 132, 133, 134, 135, 136, 137, 138, 139, 140, 141, 142, 143, 144, 145, 146, 147, 148, 149, 150, 151, 152, 153, 154, 155, 156, 157, 158, 159, 160, 161, 162, 163, 164, 165, 166, 167, 168, 169, 170, 171, 172, 173, 174, 175, 176, 177, 178, 179] rfl (by decide +kernel)
set_option maxRecDepth 20000 in
theorem gX13_readSum_X13_readProduct : GoodIn wsX13_readSum (wsV RX13 106 RX13 yX13_readProduct wsX13_readProduct) := goodIn_app (goodIn_of _ (by decide +kernel)) ggX13_readSum_X13_readProduct
set_option maxRecDepth 20000 in
theorem ggX13_readSum_X13_scan : GoodIn wsX13_readSum wsX13_scan := goodIn_r _ [14, 15, 16, 17, 18, 10, 1, 19, 20, 21, 5, 22, 23, 24, 25, 26, 27, 28, 107, 108, 109, 110, 111, 112, 113, 114, 115, 116, 117, 118, 119, 120, 121, 122, 123, 124, 125, 126, 127, 128, 129, 130, 131, 132, 133, 134, 135, 136, 137, 138, 139, 140, 141, 142, 143, 144, 145, 146, 147, 148, 149, 150, 151, 152, 153, 154, 155, 156, 157, 158, 159, 160, 161, 162, 163, 164, 165, 166, 167, 168, 169, 170, 171, 172, 173, 174, 175, 176, 177, 178, 179] rfl (by decide +kernel)
set_option maxRecDepth 20000 in
theorem gX13_readSum_X13_scan : GoodIn wsX13_readSum (wsV RX13 69 RX13 yX13_scan wsX13_scan) := goodIn_app (goodIn_of _ (by decide +kernel)) ggX13_readSum_X13_scan
def wsT_X13_readSum : List Cond := wsX13_readSum ++ wsT_nx
theorem gT_X13_readSum_X13_readProduct : GoodIn wsT_X13_readSum (wsV RX13 106 RX13 yX13_readProduct wsT_X13_readProduct) := gT_call gX13_readSum_X13_readProduct gT_nx
set_option maxHeartbeats 4000000 in
set_option maxRecDepth 100000 in
theorem S_X13_readSum_v4 (l : Launch) (D : va_G) (K : Nat → ClassId) (a : Nat → Nat) (G : gS) (qs vs : Nat → Nat) (pb : ((G 0 5).toInt ≤ (G 0 3).toInt)) (s35 : (3 ≤ (G 0 20).toInt)) (m6 : ((G 12 ((G 0 20).toInt).toNat).toInt ≤ 6 * (G 0 21).toInt)) (hI : yI G) (sz : Nat) : KxvZ (yZ qs vs) l yX13_readSum wsT_X13_readSum 9 214 D [.ref (a 0), .int 4] (yW K a G) (tK K) sz (fun (G' : gS) => (yI G') ∧ (gu_un ycd [5, 6, 7, 8, 9, 10, 22, 1000, 1100, 1200] G G') ∧ (((G' 0 5).toInt ≤ (G 0 3).toInt ∧ (G 0 5).toInt ≤ (G' 0 5).toInt ∧ ((G' 0 6).toInt = 0 ∨ (G 0 5).toInt < (G' 0 5).toInt))) ∧ (ySg 2 (G 0 20).toInt G G') ∧ (yKp G G') ∧ (ySim cS ((G 0 20).toInt - 3).toNat (qW 4 (G 0 21).toInt (mL (G 0 20).toInt G)) (qD 4 (G' 0 21).toInt (mL (G 0 20).toInt G')) G G') ∧ (((G' 0 6).toInt ≠ 3 ∨ xsg (G' 0 7).toInt = 0)) ∧ (yFf G G')) (fun (G' : gS) => (yI G') ∧ (gu_un ycd [5, 6, 7, 8, 9, 10, 22, 1000, 1100, 1200] G G') ∧ (yKp G G') ∧ (yThr cS ((G 0 20).toInt - 3).toNat (qW 4 (G 0 21).toInt (mL (G 0 20).toInt G)) G G') ∧ (((G' 0 8).toInt ≠ 0))) (a 1) (fun (G' : gS) => (yW K a G')) := by
  unfold KxvZ
  refine gxz_ofW (cc := cX13_readSum) (lv := [(0, .ref (a 0)), (1, .int 4)]) (by decide) rfl (Nat.le_of_ble_eq_true rfl) rfl ?_
  intro p e s m args below meth c A Q hA hQ hZ F hr hex
  have hts := F.2.2.2.2.1
  have w_0 : (Cond.fieldLink RX13 41 "QuietCutModel" "value" "I").before args s = true := hts _ (List.mem_of_getElem? (i := 1) rfl)
  have i_X13 : ∀ w ∈ u_ws RX13 TX13 73, w ∈ wsT_X13_readSum := fun w h => List.mem_append_left _ ((show ∀ w ∈ u_ws RX13 TX13 73, w ∈ wsX13_readSum from fun _ h => List.mem_cons_of_mem _ (List.mem_append_right _ h)) w h)
  have b1 : (0 : Int) ≤ (G 0 3).toInt ∧ (G 0 3).toInt ≤ 1000 := hI 0 3
  have b2 : (0 : Int) ≤ (G 0 5).toInt ∧ (G 0 5).toInt ≤ 1000 := hI 0 5
  have b3 : (0 : Int) ≤ (G 0 6).toInt ∧ (G 0 6).toInt ≤ 4 := hI 0 6
  have b4 : (0 : Int) ≤ (G 0 20).toInt ∧ (G 0 20).toInt ≤ 5 := hI 0 20
  have b5 : (0 : Int) ≤ (G 0 21).toInt ∧ (G 0 21).toInt ≤ 12 := hI 0 21
  have J_5 : ∀ (fuel : Nat) (Gj5 : gS), (8 * (1000 - (Gj5 0 5).toInt) + (Gj5 0 6).toInt).toNat < fuel → (yI Gj5) → (gu_un ycd [5, 6, 7, 8, 9, 10, 22, 1000, 1100, 1200] G Gj5) → (ySg 2 (G 0 20).toInt G Gj5) → (yKp G Gj5) → (ySim cS ((G 0 20).toInt - 3).toNat (qW 4 (G 0 21).toInt (mL (G 0 20).toInt G)) (qD 4 (Gj5 0 21).toInt (mL (G 0 20).toInt Gj5)) G Gj5) → (¬ ((Gj5 0 6).toInt = 3 ∧ xsg (Gj5 0 7).toInt = 2)) → (yFf G Gj5) → (((Gj5 0 5).toInt ≤ (G 0 3).toInt)) → (((G 0 5).toInt ≤ (Gj5 0 5).toInt ∧ ((Gj5 0 6).toInt = 0 ∨ (G 0 5).toInt < (Gj5 0 5).toInt))) → gG p l e (gR 9 0 0 214) s m args below meth c D A 3 Q 0 0 (yW K a Gj5) (tK K) [(0, .ref (a 0)), (1, .int 4)] 5 [] := by
    intro fuel
    induction fuel with
    | zero => intro Gj5 hm; exact absurd hm (Nat.not_lt_zero _)
    | succ fuel_5 ih_5 =>
      intro Gj5 hm_5 jI5 jU5 sg5 kp5 pf5 pn5 ff5 bl_5 bm_5
      have J_23 : ∀ (_ : Unit), (((Gj5 0 6).toInt = 3 ∧ (Gj5 0 7).toInt ≠ 33 ∧ xsg (Gj5 0 7).toInt = 1)) → (((Gj5 0 5).toInt ≤ (G 0 3).toInt)) → (((G 0 5).toInt ≤ (Gj5 0 5).toInt ∧ ((Gj5 0 6).toInt = 0 ∨ (G 0 5).toInt < (Gj5 0 5).toInt))) → gG p l e (gR 9 0 0 214) s m args below meth c D A 3 Q 0 0 (yW K a Gj5) (tK K) [(0, .ref (a 0)), (1, .int 4)] 23 [] := by
        intro _ sn bl_23 bm_23
        refine g_aload_n F 0 dX13_readSum_23 rfl rfl ?_
        refine yg_0_7 F i_X13 w_0 dX13_readSum_24 (Gj5 0 7) (rfl) ?_
        refine g_istore_n F [(2, .int (Gj5 0 7)), (0, .ref (a 0)), (1, .int 4)] dX13_readSum_27 rfl (by decide) rfl ?_
        refine g_aload_n F 1 dX13_readSum_28 rfl rfl ?_
        have b6 : (0 : Int) ≤ (Gj5 0 5).toInt ∧ (Gj5 0 5).toInt ≤ 1000 := jI5 0 5
        refine u_callVv (k := 0) (n := 0) (b := a 0) (As := []) (st := []) F (fun sz => S_X13_scan l D K a Gj5  (by have e9_0_3 : Gj5 0 3 = (G 0 3) := jU5 0 3 (by decide); (try simp only [e9_0_3, true_and, and_true]) <;> (first | omega | (simp only [Int32.reduceToInt, true_and, and_true, ne_eq, not_true_eq_false, false_and, or_false, false_or, true_or, or_true, false_implies] <;> omega))) jI5 sz) (cwV 0 hts (gT_left gX13_readSum_X13_scan) rfl rfl rfl (by decide +kernel) ⟨Nat.le_of_ble_eq_true rfl, Nat.le_of_ble_eq_true rfl⟩) rfl 0 yc_0 rfl (Nat.le_of_ble_eq_true rfl) ⟨Nat.zero_le _, Nat.zero_le _⟩ dX13_readSum_29 (fun G9 hw8 => ?_)
        have hI10 : yI G9 := hw8.1
        have hU11 : gu_un ycd [5, 6, 7, 8] Gj5 G9 := hw8.2.1
        have hp12 := hw8.2.2
        have b13 : (0 : Int) ≤ (G9 0 5).toInt ∧ (G9 0 5).toInt ≤ 1000 := hI10 0 5
        have b14 : (0 : Int) ≤ (G9 0 4).toInt ∧ (G9 0 4).toInt ≤ 1000 := hI10 0 4
        have q15 : ((G9 0 5).toInt ≤ (G 0 3).toInt ∧ (Gj5 0 5).toInt ≤ (G9 0 4).toInt ∧ (G9 0 4).toInt ≤ (G9 0 5).toInt) := by have h9 := hp12.1; (try simp only [(show Gj5 0 3 = (G 0 3) from jU5 0 3 (by decide))] at h9); first | exact h9 | omega
        have b16 : (0 : Int) ≤ (G9 0 6).toInt ∧ (G9 0 6).toInt ≤ 4 := hI10 0 6
        have q17 : (((G9 0 6).toInt = 0 ∧ (G9 0 4).toInt = (G 0 3).toInt) ∨ ((G9 0 6).toInt ≠ 0 ∧ (G9 0 4).toInt < (G9 0 5).toInt)) := by have h9 := hp12.2.1; (try simp only [(show Gj5 0 3 = (G 0 3) from jU5 0 3 (by decide))] at h9); first | exact h9 | omega
        have b18 : (0 : Int) ≤ (G9 0 7).toInt ∧ (G9 0 7).toInt ≤ 9999 := hI10 0 7
        have q19 : tTok (G 2) (G 0 3).toInt (Gj5 0 5).toInt (G9 0 6).toInt (G9 0 4).toInt (G9 0 7).toInt (G9 0 5).toInt := by have h9 := hp12.2.2; (try simp only [(show Gj5 0 3 = (G 0 3) from jU5 0 3 (by decide)), (show Gj5 2 = (G 2) from (show Gj5 2 = G 2 from funext fun k_ => jU5 2 k_ (show (200 : Nat) ∉ ([5, 6, 7, 8, 9, 10, 22, 1000, 1100, 1200] : List Nat) by decide)))] at h9); first | exact h9 | omega
        clear hp12 hw8
        refine g_aload_n F 1 dX13_readSum_32 rfl rfl ?_
        refine g_iload_n F 2 dX13_readSum_33 rfl rfl ?_
        refine uxz_callvv (k := 0) (n := 0) (b := a 0) (As := [.int 4]) (st := []) F yZ_st hZ (fun sz => S_X13_readProduct_v4 l D K a G9 qs vs  (by have e9_0_3 : G9 0 3 = (G 0 3) := (hU11 0 3 (by decide)).trans (jU5 0 3 (by decide)); (try simp only [e9_0_3, true_and, and_true]) <;> (first | omega | (simp only [Int32.reduceToInt, true_and, and_true, ne_eq, not_true_eq_false, false_and, or_false, false_or, true_or, or_true, false_implies] <;> omega))) (by have e9_0_20 : G9 0 20 = (G 0 20) := (hU11 0 20 (by decide)).trans (jU5 0 20 (by decide)); (try simp only [e9_0_20, true_and, and_true]) <;> (first | omega | (simp only [Int32.reduceToInt, true_and, and_true, ne_eq, not_true_eq_false, false_and, or_false, false_or, true_or, or_true, false_implies] <;> omega))) (by rw [show G9 0 20 = G 0 20 from (hU11 0 20 (by decide)).trans (jU5 0 20 (by decide))]; exact (ySg.m6 (c := 2) (sg5.un (show gu_un ycd [5, 6, 7, 8] Gj5 G9 from (gu_un.tr gu_un.rf (gu_un.su hU11 rfl))) rfl rfl) (by decide) (by decide) m6)) hI10 sz) (cwV 1 hts gT_X13_readSum_X13_readProduct rfl rfl rfl (by decide +kernel) ⟨Nat.le_of_ble_eq_true rfl, Nat.le_of_ble_eq_true rfl⟩) rfl 0 yc_0 rfl (Nat.le_of_ble_eq_true rfl) ⟨Nat.zero_le _, Nat.zero_le _⟩ dX13_readSum_34 hex hA hQ (fun u9 h9 => ⟨h9.1, gu_un.tr (gu_un.tr (gu_un.tr gu_un.rf (gu_un.su jU5 rfl)) (gu_un.su hU11 rfl)) (gu_un.su h9.2.1 rfl), (yKp.tr (yKp.un kp5 (show gu_un ycd [5, 6, 7, 8] Gj5 G9 from (gu_un.tr gu_un.rf (gu_un.su hU11 rfl))) rfl) h9.2.2.1), (by have h9 := h9.2.2.2.1; (try rw [show G9 0 20 = (G 0 20) from (hU11 0 20 (by decide)).trans (jU5 0 20 (by decide))] at h9); (try rw [show G9 0 21 = (Gj5 0 21) from hU11 0 21 (by decide)] at h9); exact yS_nextT (yS_sign (v := (Gj5 0 7).toInt) pf5 (show yStp [] Gj5 Gj5 G9 from ⟨(show gu_un ycd [] Gj5 Gj5 from gu_un.rf), rfl, by (try rw [show Gj5 2 = (G 2) from (show Gj5 2 = G 2 from funext fun k_ => jU5 2 k_ (show (200 : Nat) ∉ ([5, 6, 7, 8, 9, 10, 22, 1000, 1100, 1200] : List Nat) by decide))]); (try rw [show Gj5 0 3 = (G 0 3) from jU5 0 3 (by decide)]); exact q19, funext fun k_ => hU11 2 k_ (by simp [ycd]), hU11 0 3 (by decide)⟩) (by omega) rfl sn.2.2) sn.2.2 h9 rfl (mL_un (show gu_un ycd [5, 6, 7, 8] Gj5 G9 from (gu_un.tr gu_un.rf (gu_un.su hU11 rfl))) rfl)), (h9.2.2.2.2)⟩) (fun G22 hw21 => ?_)
        have hI23 : yI G22 := hw21.1
        have hU24 : gu_un ycd [5, 6, 7, 8, 9, 10, 22, 1000, 1100, 1200] G9 G22 := hw21.2.1
        have hp25 := hw21.2.2
        have b26 : (0 : Int) ≤ (G22 0 5).toInt ∧ (G22 0 5).toInt ≤ 1000 := hI23 0 5
        have b27 : (0 : Int) ≤ (G22 0 6).toInt ∧ (G22 0 6).toInt ≤ 4 := hI23 0 6
        have q28 : ((G22 0 5).toInt ≤ (G 0 3).toInt ∧ (G9 0 5).toInt ≤ (G22 0 5).toInt ∧ ((G22 0 6).toInt = 0 ∨ (G9 0 5).toInt < (G22 0 5).toInt)) := by have h9 := hp25.1; (try simp only [(show G9 0 3 = (G 0 3) from (hU11 0 3 (by decide)).trans (jU5 0 3 (by decide)))] at h9); first | exact h9 | omega
        have q29 : ySg 2 (G 0 20).toInt G9 G22 := by have h9 := hp25.2.1; (try simp only [(show G9 0 20 = (G 0 20) from (hU11 0 20 (by decide)).trans (jU5 0 20 (by decide)))] at h9); first | exact h9 | omega
        have q30 : yKp G9 G22 := hp25.2.2.1
        have b31 : (0 : Int) ≤ (Gj5 0 21).toInt ∧ (Gj5 0 21).toInt ≤ 12 := jI5 0 21
        have b32 : (0 : Int) ≤ (G22 0 21).toInt ∧ (G22 0 21).toInt ≤ 12 := hI23 0 21
        have q33 : ySim cP ((G 0 20).toInt - 3).toNat (qW 4 (Gj5 0 21).toInt (mL (G 0 20).toInt G9)) (qD 4 (G22 0 21).toInt (mL (G 0 20).toInt G22)) G9 G22 := by have h9 := hp25.2.2.2.1; (try simp only [(show G9 0 20 = (G 0 20) from (hU11 0 20 (by decide)).trans (jU5 0 20 (by decide))), (show G9 0 21 = (Gj5 0 21) from hU11 0 21 (by decide)), (show G9 0 20 = (G 0 20) from (hU11 0 20 (by decide)).trans (jU5 0 20 (by decide))), (show G9 0 20 = (G 0 20) from (hU11 0 20 (by decide)).trans (jU5 0 20 (by decide)))] at h9); first | exact h9 | omega
        have b34 : (0 : Int) ≤ (G22 0 7).toInt ∧ (G22 0 7).toInt ≤ 9999 := hI23 0 7
        have q35 : (¬ ((G22 0 6).toInt = 3 ∧ xsg (G22 0 7).toInt = 2)) := hp25.2.2.2.2.1
        have q36 : yFf G9 G22 := hp25.2.2.2.2.2
        have kp37 : yKp G G22 := yKp.tr (yKp.un kp5 (show gu_un ycd [5, 6, 7, 8] Gj5 G9 from (gu_un.tr gu_un.rf (gu_un.su hU11 rfl))) rfl) q30
        clear hp25 hw21
        refine g_aload_n F 1 dX13_readSum_37 rfl rfl ?_
        refine g_iconst F 2 dX13_readSum_38 (by decide) ?_
        refine g_iload_n F 0 dX13_readSum_39 rfl rfl ?_
        have b38 : (0 : Int) ≤ (Gj5 0 7).toInt ∧ (Gj5 0 7).toInt ≤ 9999 := jI5 0 7
        refine u_callVv (k := 0) (n := 0) (b := a 0) (As := [.int 2, .int (Gj5 0 7)]) (st := []) F (fun sz => S_X13_mark l D K a G22 2 2 (Gj5 0 7) (Gj5 0 7).toInt rfl (by decide) rfl (by omega) (by rw [show G22 0 20 = G 0 20 from (hU24 0 20 (by decide)).trans ((hU11 0 20 (by decide)).trans (jU5 0 20 (by decide)))]; have h9 : (G22 12 ((G 0 20).toInt).toNat).toInt ≤ 6 * (G22 0 21).toInt := (ySg.m6 (c := 2) q29 (by decide) (by decide) (ySg.m6 (c := 2) (sg5.un (show gu_un ycd [5, 6, 7, 8] Gj5 G9 from (gu_un.tr gu_un.rf (gu_un.su hU11 rfl))) rfl rfl) (by decide) (by decide) m6)); have h8 : (0 : Int) ≤ (G22 0 21).toInt ∧ (G22 0 21).toInt ≤ 12 := hI23 0 21; show (G22 12 ((G 0 20).toInt).toNat).toInt ≤ 79; omega) hI23 sz) (cwV 2 hts (gT_left gX13_readSum_X13_mark) rfl rfl rfl (by decide +kernel) ⟨Nat.le_of_ble_eq_true rfl, Nat.le_of_ble_eq_true rfl⟩) rfl 0 yc_0 rfl (Nat.le_of_ble_eq_true rfl) ⟨Nat.zero_le _, Nat.zero_le _⟩ dX13_readSum_40 (fun G41 hw40 => ?_)
        have hI42 : yI G41 := hw40.1
        have hU43 : gu_un ycd [1000, 1100, 1200] G22 G41 := hw40.2.1
        have hp44 := hw40.2.2
        have q45 : yMk 2 (Gj5 0 7) (G 0 20).toInt G22 G41 := by have h9 := hp44; (try simp only [(show G22 0 20 = (G 0 20) from (hU24 0 20 (by decide)).trans ((hU11 0 20 (by decide)).trans (jU5 0 20 (by decide))))] at h9); first | exact h9 | omega
        have m0 : 0 ≤ (G 12 ((G 0 20).toInt).toNat).toInt := (show (0 : Int) ≤ (G 12 ((G 0 20).toInt).toNat).toInt ∧ (G 12 ((G 0 20).toInt).toNat).toInt ≤ 80 from hI 12 _).1
        have m1 : 0 ≤ (G22 12 ((G 0 20).toInt).toNat).toInt := (show (0 : Int) ≤ (G22 12 ((G 0 20).toInt).toNat).toInt ∧ (G22 12 ((G 0 20).toInt).toNat).toInt ≤ 80 from hI23 12 _).1
        have kp46 : yKp G G41 := yKp.tr kp37 (q45.kp (by omega) m1)
        have sg47 : ySg 2 (G 0 20).toInt G G41 := ySg.join (sg5.un (show gu_un ycd [5, 6, 7, 8] Gj5 G9 from (gu_un.tr gu_un.rf (gu_un.su hU11 rfl))) rfl rfl) q29 q45 (by decide) (by omega) (by omega) m0 (by have h9 : (G22 12 ((G 0 20).toInt).toNat).toInt ≤ 6 * (G22 0 21).toInt := (ySg.m6 (c := 2) q29 (by decide) (by decide) (ySg.m6 (c := 2) (sg5.un (show gu_un ycd [5, 6, 7, 8] Gj5 G9 from (gu_un.tr gu_un.rf (gu_un.su hU11 rfl))) rfl rfl) (by decide) (by decide) m6)); have h8 : (0 : Int) ≤ (G22 0 21).toInt ∧ (G22 0 21).toInt ≤ 12 := hI23 0 21; omega)
        clear hp44 hw40
        refine g_goto F 5 dX13_readSum_43 (by decide) ?_
        refine g_locals [(0, .ref (a 0)), (1, .int 4)] [1, 2] rfl ?_
        exact ih_5 G41 (by have e9_0_5 : G41 0 5 = (G22 0 5) := hU43 0 5 (by decide); have e9_0_6 : G41 0 6 = (G22 0 6) := hU43 0 6 (by decide); (try simp only [e9_0_5, e9_0_6, true_and, and_true]) <;> omega) hI42 (gu_un.tr (gu_un.tr (gu_un.tr (gu_un.tr gu_un.rf (gu_un.su jU5 rfl)) (gu_un.su hU11 rfl)) (gu_un.su hU24 rfl)) (gu_un.su hU43 rfl)) (sg47) (kp46) (yS_next (yS_sign (v := (Gj5 0 7).toInt) pf5 (show yStp [] Gj5 Gj5 G9 from ⟨(show gu_un ycd [] Gj5 Gj5 from gu_un.rf), rfl, by (try rw [show Gj5 2 = (G 2) from (show Gj5 2 = G 2 from funext fun k_ => jU5 2 k_ (show (200 : Nat) ∉ ([5, 6, 7, 8, 9, 10, 22, 1000, 1100, 1200] : List Nat) by decide))]); (try rw [show Gj5 0 3 = (G 0 3) from jU5 0 3 (by decide)]); exact q19, funext fun k_ => hU11 2 k_ (by simp [ycd]), hU11 0 3 (by decide)⟩) (by omega) rfl sn.2.2) sn.2.2 q33 rfl (mL_un (show gu_un ycd [5, 6, 7, 8] Gj5 G9 from (gu_un.tr gu_un.rf (gu_un.su hU11 rfl))) rfl) (fun h7 => by have h6 := q35; exact h6 h7) (show gu_un ycd _ _ G41 from (show gu_un ycd [1000, 1100, 1200] G22 G41 from (gu_un.tr gu_un.rf (gu_un.su hU43 rfl)))) rfl (by rw [q45.ml (by omega) (show (0 : Int) ≤ (G22 12 ((G 0 20).toInt).toNat).toInt from (hI23 12 _).1), mEn_2 (by decide) sn.2.1 sn.2.2 (by decide)]) (congrArg Int32.toInt (show G41 0 21 = (G22 0 21) from hU43 0 21 (by decide)))) (by rw [show G41 0 6 = (G22 0 6) from hU43 0 6 (by decide), show G41 0 7 = (G22 0 7) from hU43 0 7 (by decide)]; exact q35) ((yFf.tr (show yFf G G22 from (yFf.tr (show yFf G G9 from (yFf.tr (show yFf G Gj5 from ff5) (show yFf _ G9 from yFf.un hU11 rfl))) q36)) (show yFf _ G41 from yFf.un hU43 rfl))) (by have e9_0_3 : G41 0 3 = (G 0 3) := (hU43 0 3 (by decide)).trans ((hU24 0 3 (by decide)).trans ((hU11 0 3 (by decide)).trans (jU5 0 3 (by decide)))); have e9_0_5 : G41 0 5 = (G22 0 5) := hU43 0 5 (by decide); (try simp only [e9_0_3, e9_0_5, true_and, and_true]) <;> (first | omega | (simp only [Int32.reduceToInt, true_and, and_true, ne_eq, not_true_eq_false, false_and, or_false, false_or, true_or, or_true, false_implies] <;> omega))) (by have e9_0_5 : G41 0 5 = (G22 0 5) := hU43 0 5 (by decide); have e9_0_6 : G41 0 6 = (G22 0 6) := hU43 0 6 (by decide); (try simp only [e9_0_5, e9_0_6, true_and, and_true]) <;> (first | omega | (simp only [Int32.reduceToInt, true_and, and_true, ne_eq, not_true_eq_false, false_and, or_false, false_or, true_or, or_true, false_implies] <;> omega)))
      refine g_aload_n F 0 dX13_readSum_5 rfl rfl ?_
      refine g_bipush F 43 dX13_readSum_6 (by decide) ?_
      refine u_callVi (k := 0) (n := 0) (b := a 0) (As := [.int 43]) (st := []) F (fun sz => S_X13_isSign l D K a Gj5 43 43 rfl jI5 sz) (cwV 1 hts (gT_left gX13_readSum_X13_isSign) rfl rfl rfl (by decide +kernel) ⟨Nat.le_of_ble_eq_true rfl, Nat.le_of_ble_eq_true rfl⟩) rfl 0 yc_0 rfl (Nat.le_of_ble_eq_true rfl) ⟨Nat.zero_le _, Nat.zero_le _⟩ dX13_readSum_8 (fun r48 _ hw49 => ?_)
      rcases hw49 with ⟨rfl, q51⟩ | ⟨rfl, q52⟩
      · have b53 : (0 : Int) ≤ (Gj5 0 6).toInt ∧ (Gj5 0 6).toInt ≤ 4 := jI5 0 6
        have b54 : (0 : Int) ≤ (Gj5 0 7).toInt ∧ (Gj5 0 7).toInt ≤ 9999 := jI5 0 7
        have q51 : ((Gj5 0 6).toInt = 3 ∧ (Gj5 0 7).toInt = (43 : Int)) := q51
        refine v_if_ne F 23 dX13_readSum_11 (by decide) 1 rfl (fun c55 => ?_) (fun c55 => absurd c55 (by decide))
        have b56 : (0 : Int) ≤ (Gj5 0 5).toInt ∧ (Gj5 0 5).toInt ≤ 1000 := jI5 0 5
        exact J_23 () (⟨by omega, by omega, xsg_1.mpr (by omega)⟩) (by have e9_0_3 : Gj5 0 3 = (G 0 3) := jU5 0 3 (by decide); (try simp only [e9_0_3, true_and, and_true]) <;> (first | omega | (simp only [Int32.reduceToInt, true_and, and_true, ne_eq, not_true_eq_false, false_and, or_false, false_or, true_or, or_true, false_implies] <;> omega))) (by (first | omega | (simp only [Int32.reduceToInt, true_and, and_true, ne_eq, not_true_eq_false, false_and, or_false, false_or, true_or, or_true, false_implies] <;> omega)))
      · have b57 : (0 : Int) ≤ (Gj5 0 6).toInt ∧ (Gj5 0 6).toInt ≤ 4 := jI5 0 6
        have b58 : (0 : Int) ≤ (Gj5 0 7).toInt ∧ (Gj5 0 7).toInt ≤ 9999 := jI5 0 7
        have q52 : ((Gj5 0 6).toInt ≠ 3 ∨ (Gj5 0 7).toInt ≠ (43 : Int)) := q52
        refine v_if_ne F 23 dX13_readSum_11 (by decide) 0 rfl (fun c59 => absurd c59 (by decide)) (fun c59 => ?_)
        refine g_aload_n F 0 dX13_readSum_14 rfl rfl ?_
        refine g_bipush F 45 dX13_readSum_15 (by decide) ?_
        refine u_callVi (k := 0) (n := 0) (b := a 0) (As := [.int 45]) (st := []) F (fun sz => S_X13_isSign l D K a Gj5 45 45 rfl jI5 sz) (cwV 1 hts (gT_left gX13_readSum_X13_isSign) rfl rfl rfl (by decide +kernel) ⟨Nat.le_of_ble_eq_true rfl, Nat.le_of_ble_eq_true rfl⟩) rfl 0 yc_0 rfl (Nat.le_of_ble_eq_true rfl) ⟨Nat.zero_le _, Nat.zero_le _⟩ dX13_readSum_17 (fun r60 _ hw61 => ?_)
        rcases hw61 with ⟨rfl, q63⟩ | ⟨rfl, q64⟩
        · have q63 : ((Gj5 0 6).toInt = 3 ∧ (Gj5 0 7).toInt = (45 : Int)) := q63
          refine v_if_eq F 46 dX13_readSum_20 (by decide) 1 rfl (fun c65 => absurd c65 (by decide)) (fun c65 => ?_)
          have b66 : (0 : Int) ≤ (Gj5 0 5).toInt ∧ (Gj5 0 5).toInt ≤ 1000 := jI5 0 5
          exact J_23 () (⟨by omega, by omega, xsg_1.mpr (by omega)⟩) (by have e9_0_3 : Gj5 0 3 = (G 0 3) := jU5 0 3 (by decide); (try simp only [e9_0_3, true_and, and_true]) <;> (first | omega | (simp only [Int32.reduceToInt, true_and, and_true, ne_eq, not_true_eq_false, false_and, or_false, false_or, true_or, or_true, false_implies] <;> omega))) (by (first | omega | (simp only [Int32.reduceToInt, true_and, and_true, ne_eq, not_true_eq_false, false_and, or_false, false_or, true_or, or_true, false_implies] <;> omega)))
        · have q64 : ((Gj5 0 6).toInt ≠ 3 ∨ (Gj5 0 7).toInt ≠ (45 : Int)) := q64
          refine v_if_eq F 46 dX13_readSum_20 (by decide) 0 rfl (fun c67 => ?_) (fun c67 => absurd c67 (by decide))
          have b68 : (0 : Int) ≤ (Gj5 0 5).toInt ∧ (Gj5 0 5).toInt ≤ 1000 := jI5 0 5
          exact ux_vret F hA hQ hr Gj5 (⟨jI5, (gu_un.tr gu_un.rf (gu_un.su jU5 rfl)), (by show ((Gj5 0 5).toInt ≤ (G 0 3).toInt ∧ (G 0 5).toInt ≤ (Gj5 0 5).toInt ∧ ((Gj5 0 6).toInt = 0 ∨ (G 0 5).toInt < (Gj5 0 5).toInt)); (first | omega | (simp only [Int32.reduceToInt, true_and, and_true, ne_eq, not_true_eq_false, false_and, or_false, false_or, true_or, or_true, false_implies] <;> omega))), (sg5), (kp5), (pf5), (by have h7 := xsg_le (Gj5 0 7).toInt; have h6 := @xsg_1 (Gj5 0 7).toInt; have h5 := pn5; show _ ∨ _; by_cases h4 : xsg (Gj5 0 7).toInt = 1 <;> first | omega | (left; have h3 := h6.mp h4; omega)), (ff5)⟩) rfl rfl dX13_readSum_46
  refine g_aload_n F 0 dX13_readSum_0 rfl rfl ?_
  refine g_iload_n F 1 dX13_readSum_1 rfl rfl ?_
  refine uxz_callvv (k := 0) (n := 0) (b := a 0) (As := [.int 4]) (st := []) F yZ_st hZ (fun sz => S_X13_readProduct_v4 l D K a G qs vs  (by (first | omega | (simp only [Int32.reduceToInt, true_and, and_true, ne_eq, not_true_eq_false, false_and, or_false, false_or, true_or, or_true, false_implies] <;> omega))) (by (first | omega | (simp only [Int32.reduceToInt, true_and, and_true, ne_eq, not_true_eq_false, false_and, or_false, false_or, true_or, or_true, false_implies] <;> omega))) (m6) hI sz) (cwV 1 hts gT_X13_readSum_X13_readProduct rfl rfl rfl (by decide +kernel) ⟨Nat.le_of_ble_eq_true rfl, Nat.le_of_ble_eq_true rfl⟩) rfl 0 yc_0 rfl (Nat.le_of_ble_eq_true rfl) ⟨Nat.zero_le _, Nat.zero_le _⟩ dX13_readSum_2 hex hA hQ (fun u9 h9 => ⟨h9.1, gu_un.tr gu_un.rf (gu_un.su h9.2.1 rfl), (yKp.tr yKp.rf h9.2.2.1), (by have h9 := h9.2.2.2.1; exact yS_firstT h9), (h9.2.2.2.2)⟩) (fun G71 hw70 => ?_)
  have hI72 : yI G71 := hw70.1
  have hU73 : gu_un ycd [5, 6, 7, 8, 9, 10, 22, 1000, 1100, 1200] G G71 := hw70.2.1
  have hp74 := hw70.2.2
  have b75 : (0 : Int) ≤ (G71 0 5).toInt ∧ (G71 0 5).toInt ≤ 1000 := hI72 0 5
  have b76 : (0 : Int) ≤ (G71 0 6).toInt ∧ (G71 0 6).toInt ≤ 4 := hI72 0 6
  have q77 : ((G71 0 5).toInt ≤ (G 0 3).toInt ∧ (G 0 5).toInt ≤ (G71 0 5).toInt ∧ ((G71 0 6).toInt = 0 ∨ (G 0 5).toInt < (G71 0 5).toInt)) := hp74.1
  have q78 : ySg 2 (G 0 20).toInt G G71 := hp74.2.1
  have q79 : yKp G G71 := hp74.2.2.1
  have b80 : (0 : Int) ≤ (G71 0 21).toInt ∧ (G71 0 21).toInt ≤ 12 := hI72 0 21
  have q81 : ySim cP ((G 0 20).toInt - 3).toNat (qW 4 (G 0 21).toInt (mL (G 0 20).toInt G)) (qD 4 (G71 0 21).toInt (mL (G 0 20).toInt G71)) G G71 := hp74.2.2.2.1
  have b82 : (0 : Int) ≤ (G71 0 7).toInt ∧ (G71 0 7).toInt ≤ 9999 := hI72 0 7
  have q83 : (¬ ((G71 0 6).toInt = 3 ∧ xsg (G71 0 7).toInt = 2)) := hp74.2.2.2.2.1
  have q84 : yFf G G71 := hp74.2.2.2.2.2
  have kp85 : yKp G G71 := yKp.tr yKp.rf q79
  have sg86 : ySg 2 (G 0 20).toInt G G71 := q78
  clear hp74 hw70
  exact J_5 _ G71 (Nat.lt_succ_self _) hI72 (gu_un.tr gu_un.rf (gu_un.su hU73 rfl)) (sg86) (kp85) (yS_first q81) (q83) ((yFf.tr (show yFf G G from yFf.rf) q84)) (by have e9_0_3 : G71 0 3 = (G 0 3) := hU73 0 3 (by decide); (try simp only [e9_0_3, true_and, and_true]) <;> (first | omega | (simp only [Int32.reduceToInt, true_and, and_true, ne_eq, not_true_eq_false, false_and, or_false, false_or, true_or, or_true, false_implies] <;> omega))) (by (first | omega | (simp only [Int32.reduceToInt, true_and, and_true, ne_eq, not_true_eq_false, false_and, or_false, false_or, true_or, or_true, false_implies] <;> omega)))
