theorem dX13_plain_0 : decode cX13_plain 0 = .ok (.aload_n 0, 1) := by decide +kernel
theorem dX13_plain_1 : decode cX13_plain 1 = .ok (.getfield 76, 3) := by decide +kernel
theorem dX13_plain_4 : decode cX13_plain 4 = .ok (.iconst 0, 1) := by decide +kernel
theorem dX13_plain_5 : decode cX13_plain 5 = .ok (.bipush 8, 2) := by decide +kernel
theorem dX13_plain_7 : decode cX13_plain 7 = .ok (.iastore, 1) := by decide +kernel
theorem dX13_plain_8 : decode cX13_plain 8 = .ok (.aload_n 0, 1) := by decide +kernel
theorem dX13_plain_9 : decode cX13_plain 9 = .ok (.getfield 76, 3) := by decide +kernel
theorem dX13_plain_12 : decode cX13_plain 12 = .ok (.iconst 1, 1) := by decide +kernel
theorem dX13_plain_13 : decode cX13_plain 13 = .ok (.iconst 3, 1) := by decide +kernel
theorem dX13_plain_14 : decode cX13_plain 14 = .ok (.iastore, 1) := by decide +kernel
theorem dX13_plain_15 : decode cX13_plain 15 = .ok (.aload_n 0, 1) := by decide +kernel
theorem dX13_plain_16 : decode cX13_plain 16 = .ok (.getfield 76, 3) := by decide +kernel
theorem dX13_plain_19 : decode cX13_plain 19 = .ok (.iconst 2, 1) := by decide +kernel
theorem dX13_plain_20 : decode cX13_plain 20 = .ok (.iconst 4, 1) := by decide +kernel
theorem dX13_plain_21 : decode cX13_plain 21 = .ok (.iastore, 1) := by decide +kernel
theorem dX13_plain_22 : decode cX13_plain 22 = .ok (.aload_n 0, 1) := by decide +kernel
theorem dX13_plain_23 : decode cX13_plain 23 = .ok (.getfield 76, 3) := by decide +kernel
theorem dX13_plain_26 : decode cX13_plain 26 = .ok (.iconst 3, 1) := by decide +kernel
theorem dX13_plain_27 : decode cX13_plain 27 = .ok (.bipush 8, 2) := by decide +kernel
theorem dX13_plain_29 : decode cX13_plain 29 = .ok (.iastore, 1) := by decide +kernel
theorem dX13_plain_30 : decode cX13_plain 30 = .ok (.aload_n 0, 1) := by decide +kernel
theorem dX13_plain_31 : decode cX13_plain 31 = .ok (.getfield 76, 3) := by decide +kernel
theorem dX13_plain_34 : decode cX13_plain 34 = .ok (.iconst 4, 1) := by decide +kernel
theorem dX13_plain_35 : decode cX13_plain 35 = .ok (.bipush 8, 2) := by decide +kernel
theorem dX13_plain_37 : decode cX13_plain 37 = .ok (.iastore, 1) := by decide +kernel
theorem dX13_plain_38 : decode cX13_plain 38 = .ok (.aload_n 0, 1) := by decide +kernel
theorem dX13_plain_39 : decode cX13_plain 39 = .ok (.getfield 76, 3) := by decide +kernel
theorem dX13_plain_42 : decode cX13_plain 42 = .ok (.iconst 5, 1) := by decide +kernel
theorem dX13_plain_43 : decode cX13_plain 43 = .ok (.iconst 2, 1) := by decide +kernel
theorem dX13_plain_44 : decode cX13_plain 44 = .ok (.iastore, 1) := by decide +kernel
theorem dX13_plain_45 : decode cX13_plain 45 = .ok (.aload_n 0, 1) := by decide +kernel
theorem dX13_plain_46 : decode cX13_plain 46 = .ok (.getfield 76, 3) := by decide +kernel
theorem dX13_plain_49 : decode cX13_plain 49 = .ok (.bipush 6, 2) := by decide +kernel
theorem dX13_plain_51 : decode cX13_plain 51 = .ok (.iconst 2, 1) := by decide +kernel
theorem dX13_plain_52 : decode cX13_plain 52 = .ok (.iastore, 1) := by decide +kernel
theorem dX13_plain_53 : decode cX13_plain 53 = .ok (.aload_n 0, 1) := by decide +kernel
theorem dX13_plain_54 : decode cX13_plain 54 = .ok (.getfield 76, 3) := by decide +kernel
theorem dX13_plain_57 : decode cX13_plain 57 = .ok (.bipush 7, 2) := by decide +kernel
theorem dX13_plain_59 : decode cX13_plain 59 = .ok (.sipush 500, 3) := by decide +kernel
theorem dX13_plain_62 : decode cX13_plain 62 = .ok (.iastore, 1) := by decide +kernel
theorem dX13_plain_63 : decode cX13_plain 63 = .ok (.aload_n 0, 1) := by decide +kernel
theorem dX13_plain_64 : decode cX13_plain 64 = .ok (.getfield 76, 3) := by decide +kernel
theorem dX13_plain_67 : decode cX13_plain 67 = .ok (.bipush 8, 2) := by decide +kernel
theorem dX13_plain_69 : decode cX13_plain 69 = .ok (.bipush 20, 2) := by decide +kernel
theorem dX13_plain_71 : decode cX13_plain 71 = .ok (.iastore, 1) := by decide +kernel
theorem dX13_plain_72 : decode cX13_plain 72 = .ok (.aload_n 0, 1) := by decide +kernel
theorem dX13_plain_73 : decode cX13_plain 73 = .ok (.getfield 76, 3) := by decide +kernel
theorem dX13_plain_76 : decode cX13_plain 76 = .ok (.bipush 9, 2) := by decide +kernel
theorem dX13_plain_78 : decode cX13_plain 78 = .ok (.iconst 4, 1) := by decide +kernel
theorem dX13_plain_79 : decode cX13_plain 79 = .ok (.iastore, 1) := by decide +kernel
theorem dX13_plain_80 : decode cX13_plain 80 = .ok (.aload_n 0, 1) := by decide +kernel
theorem dX13_plain_81 : decode cX13_plain 81 = .ok (.getfield 76, 3) := by decide +kernel
theorem dX13_plain_84 : decode cX13_plain 84 = .ok (.bipush 10, 2) := by decide +kernel
theorem dX13_plain_86 : decode cX13_plain 86 = .ok (.iconst 1, 1) := by decide +kernel
theorem dX13_plain_87 : decode cX13_plain 87 = .ok (.iastore, 1) := by decide +kernel
theorem dX13_plain_88 : decode cX13_plain 88 = .ok (.aload_n 0, 1) := by decide +kernel
theorem dX13_plain_89 : decode cX13_plain 89 = .ok (.getfield 76, 3) := by decide +kernel
theorem dX13_plain_92 : decode cX13_plain 92 = .ok (.bipush 11, 2) := by decide +kernel
theorem dX13_plain_94 : decode cX13_plain 94 = .ok (.iconst 1, 1) := by decide +kernel
theorem dX13_plain_95 : decode cX13_plain 95 = .ok (.iastore, 1) := by decide +kernel
theorem dX13_plain_96 : decode cX13_plain 96 = .ok (.aload_n 0, 1) := by decide +kernel
theorem dX13_plain_97 : decode cX13_plain 97 = .ok (.getfield 80, 3) := by decide +kernel
theorem dX13_plain_100 : decode cX13_plain 100 = .ok (.iconst 0, 1) := by decide +kernel
theorem dX13_plain_101 : decode cX13_plain 101 = .ok (.iconst 0, 1) := by decide +kernel
theorem dX13_plain_102 : decode cX13_plain 102 = .ok (.iastore, 1) := by decide +kernel
theorem dX13_plain_103 : decode cX13_plain 103 = .ok (.aload_n 0, 1) := by decide +kernel
theorem dX13_plain_104 : decode cX13_plain 104 = .ok (.getfield 83, 3) := by decide +kernel
theorem dX13_plain_107 : decode cX13_plain 107 = .ok (.iconst 0, 1) := by decide +kernel
theorem dX13_plain_108 : decode cX13_plain 108 = .ok (.iconst 0, 1) := by decide +kernel
theorem dX13_plain_109 : decode cX13_plain 109 = .ok (.iastore, 1) := by decide +kernel
theorem dX13_plain_110 : decode cX13_plain 110 = .ok (.iconst 3, 1) := by decide +kernel
theorem dX13_plain_111 : decode cX13_plain 111 = .ok (.istore_n 1, 1) := by decide +kernel
theorem dX13_plain_112 : decode cX13_plain 112 = .ok (.iload_n 1, 1) := by decide +kernel
theorem dX13_plain_113 : decode cX13_plain 113 = .ok (.bipush 6, 2) := by decide +kernel
theorem dX13_plain_115 : decode cX13_plain 115 = .ok (.if_icmp .ge 16, 3) := by decide +kernel
theorem dX13_plain_118 : decode cX13_plain 118 = .ok (.aload_n 0, 1) := by decide +kernel
theorem dX13_plain_119 : decode cX13_plain 119 = .ok (.getfield 86, 3) := by decide +kernel
theorem dX13_plain_122 : decode cX13_plain 122 = .ok (.iload_n 1, 1) := by decide +kernel
theorem dX13_plain_123 : decode cX13_plain 123 = .ok (.iconst 0, 1) := by decide +kernel
theorem dX13_plain_124 : decode cX13_plain 124 = .ok (.iastore, 1) := by decide +kernel
theorem dX13_plain_125 : decode cX13_plain 125 = .ok (.iinc 1 1, 3) := by decide +kernel
theorem dX13_plain_128 : decode cX13_plain 128 = .ok (.goto (-16), 3) := by decide +kernel
theorem dX13_plain_131 : decode cX13_plain 131 = .ok (.aload_n 0, 1) := by decide +kernel
theorem dX13_plain_132 : decode cX13_plain 132 = .ok (.iconst 3, 1) := by decide +kernel
theorem dX13_plain_133 : decode cX13_plain 133 = .ok (.putfield 89, 3) := by decide +kernel
theorem dX13_plain_136 : decode cX13_plain 136 = .ok (.aload_n 0, 1) := by decide +kernel
theorem dX13_plain_137 : decode cX13_plain 137 = .ok (.iconst 1, 1) := by decide +kernel
theorem dX13_plain_138 : decode cX13_plain 138 = .ok (.iconst 0, 1) := by decide +kernel
theorem dX13_plain_139 : decode cX13_plain 139 = .ok (.invokevirtual 92, 3) := by decide +kernel
theorem dX13_plain_142 : decode cX13_plain 142 = .ok (.aload_n 0, 1) := by decide +kernel
theorem dX13_plain_143 : decode cX13_plain 143 = .ok (.iconst 4, 1) := by decide +kernel
theorem dX13_plain_144 : decode cX13_plain 144 = .ok (.putfield 89, 3) := by decide +kernel
theorem dX13_plain_147 : decode cX13_plain 147 = .ok (.aload_n 0, 1) := by decide +kernel
theorem dX13_plain_148 : decode cX13_plain 148 = .ok (.iconst 0, 1) := by decide +kernel
theorem dX13_plain_149 : decode cX13_plain 149 = .ok (.iconst 0, 1) := by decide +kernel
theorem dX13_plain_150 : decode cX13_plain 150 = .ok (.invokevirtual 92, 3) := by decide +kernel
theorem dX13_plain_153 : decode cX13_plain 153 = .ok (.aload_n 0, 1) := by decide +kernel
theorem dX13_plain_154 : decode cX13_plain 154 = .ok (.iconst 5, 1) := by decide +kernel
theorem dX13_plain_155 : decode cX13_plain 155 = .ok (.putfield 89, 3) := by decide +kernel
theorem dX13_plain_158 : decode cX13_plain 158 = .ok (.aload_n 0, 1) := by decide +kernel
theorem dX13_plain_159 : decode cX13_plain 159 = .ok (.iconst 0, 1) := by decide +kernel
theorem dX13_plain_160 : decode cX13_plain 160 = .ok (.iconst 0, 1) := by decide +kernel
theorem dX13_plain_161 : decode cX13_plain 161 = .ok (.invokevirtual 92, 3) := by decide +kernel
theorem dX13_plain_164 : decode cX13_plain 164 = .ok (.iconst 0, 1) := by decide +kernel
theorem dX13_plain_165 : decode cX13_plain 165 = .ok (.istore_n 1, 1) := by decide +kernel
theorem dX13_plain_166 : decode cX13_plain 166 = .ok (.iload_n 1, 1) := by decide +kernel
theorem dX13_plain_167 : decode cX13_plain 167 = .ok (.bipush 13, 2) := by decide +kernel
theorem dX13_plain_169 : decode cX13_plain 169 = .ok (.if_icmp .ge 16, 3) := by decide +kernel
theorem dX13_plain_172 : decode cX13_plain 172 = .ok (.aload_n 0, 1) := by decide +kernel
theorem dX13_plain_173 : decode cX13_plain 173 = .ok (.getfield 96, 3) := by decide +kernel
theorem dX13_plain_176 : decode cX13_plain 176 = .ok (.iload_n 1, 1) := by decide +kernel
theorem dX13_plain_177 : decode cX13_plain 177 = .ok (.iconst 0, 1) := by decide +kernel
theorem dX13_plain_178 : decode cX13_plain 178 = .ok (.bastore, 1) := by decide +kernel
theorem dX13_plain_179 : decode cX13_plain 179 = .ok (.iinc 1 1, 3) := by decide +kernel
theorem dX13_plain_182 : decode cX13_plain 182 = .ok (.goto (-16), 3) := by decide +kernel
theorem dX13_plain_185 : decode cX13_plain 185 = .ok (.return_, 1) := by decide +kernel
set_option maxRecDepth 20000 in
theorem ggX13_plain_X13_mark : GoodIn wsX13_plain wsX13_mark := goodIn_r _ [11, 12, 5, 4, 13, 14, 15, 16, 17, 18, 19, 20, 21, 22, 23, 24, 25, 26, 27, 28, 29, 30, 31, 32, 33, 34, 35, 36, 37, 38, 39, 40, 41, 42, 43, 44, 45, 46, 47, 48, 49, 50, 51, 52, 53, 54, 55, 56, 57, 58, 59, 60, 61, 62, 63, 64, 65, 66, 67, 68, 69, 70, 71, 72, 73, 74, 75, 76, 77, 78, 79, 80, 81, 82, 83, 84, 85, 86] rfl (by decide +kernel)
set_option maxRecDepth 20000 in
theorem gX13_plain_X13_mark : GoodIn wsX13_plain (wsV RX13 92 RX13 yX13_mark wsX13_mark) := goodIn_app (goodIn_of _ (by decide +kernel)) ggX13_plain_X13_mark
set_option maxHeartbeats 4000000 in
set_option maxRecDepth 100000 in
theorem S_X13_plain (l : Launch) (D : va_G) (K : Nat → ClassId) (a : Nat → Nat) (G : gS) (hI : yI G) (sz : Nat) : Kv l yX13_plain wsX13_plain 2 62 0 0 D [.ref (a 0)] (yW K a G) (tK K) sz (fun (G' : gS) => (yI G') ∧ (gu_un ycd [21, 400, 600, 800, 900, 1000, 1100, 1200] G G') ∧ (yV3 G') ∧ (yKp G G') ∧ (yPn G')) (fun (G' : gS) => (yW K a G')) (fun _ => (tK K)) := by
  unfold Kv
  refine g_ofW (cc := cX13_plain) (lv := [(0, .ref (a 0))]) (by decide) rfl (Nat.le_of_ble_eq_true rfl) rfl ?_
  intro p e s m args below meth c A Q hA hQ F hr hnm
  have hts := F.2.2.2.2.1
  have w_0 : (Cond.fieldLink RX13 96 "QuietCutModel" "isTold" "[Z").before args s = true := hts _ (List.mem_of_getElem? (i := 6) rfl)
  have i_X13 : ∀ w ∈ u_ws RX13 TX13 73, w ∈ wsX13_plain := fun _ h => List.mem_cons_of_mem _ (List.mem_append_right _ h)
  have w_1 : (Cond.fieldLink RX13 89 "QuietCutModel" "sum" "I").before args s = true := hts _ (List.mem_of_getElem? (i := 5) rfl)
  have w_2 : (Cond.fieldLink RX13 86 "QuietCutModel" "marks" "[I").before args s = true := hts _ (List.mem_of_getElem? (i := 4) rfl)
  have w_3 : (Cond.fieldLink RX13 76 "QuietCutModel" "readRule" "[I").before args s = true := hts _ (List.mem_of_getElem? (i := 1) rfl)
  have w_4 : (Cond.fieldLink RX13 80 "QuietCutModel" "readTeeth" "[I").before args s = true := hts _ (List.mem_of_getElem? (i := 2) rfl)
  have w_5 : (Cond.fieldLink RX13 83 "QuietCutModel" "readSway" "[I").before args s = true := hts _ (List.mem_of_getElem? (i := 3) rfl)
  have J_166 : ∀ (fuel : Nat) (x166_1 : Int32) (Gj166 : gS), (2147483647 - x166_1.toInt).toNat < fuel → (0 ≤ x166_1.toInt ∧ x166_1.toInt ≤ 13) → (yI Gj166) → (gu_un ycd [21, 400, 600, 800, 900, 1000, 1100, 1200] G Gj166) → (yV3 Gj166) → (yKp G Gj166) → (((∀ q : Nat, q < 12 → Gj166 4 q = gz_untold q) ∧ Gj166 6 0 = 0 ∧ Gj166 8 0 = 0)) → ((mL 3 Gj166 = [-1] ∧ mL 4 Gj166 = [0] ∧ mL 5 Gj166 = [0])) → (∀ q : Nat, (q : Int) < x166_1.toInt → (Gj166 9 q).toInt = 0) → gG p l e (gR 2 0 0 62) s m args below meth c D A 2 Q 0 0 (yW K a Gj166) (tK K) [(0, .ref (a 0)), (1, .int x166_1)] 166 [] := by
    intro fuel
    induction fuel with
    | zero => intro x166_1 Gj166 hm; exact absurd hm (Nat.not_lt_zero _)
    | succ fuel_166 ih_166 =>
      intro x166_1 Gj166 hm_166 h166_1 jI166 jU166 v3_166 kp166 pa166 pb166 pc166
      refine g_iload_n F 1 dX13_plain_166 rfl rfl ?_
      refine g_bipush F 13 dX13_plain_167 (by decide) ?_
      refine v_icmp_ge F 185 dX13_plain_169 (by decide) x166_1.toInt 13 rfl rfl (fun c1 => ?_) (fun c1 => ?_)
      · exact u_vret F hA hQ hr Gj166 (⟨jI166, (gu_un.tr gu_un.rf (gu_un.su jU166 rfl)), (v3_166), (kp166), (⟨pa166.1, pa166.2.1, pa166.2.2, pb166.1, pb166.2.1, pb166.2.2, fun q hq => pc166 q (by omega)⟩)⟩) rfl rfl dX13_plain_185
      · refine g_aload_n F 0 dX13_plain_172 rfl rfl ?_
        refine yg_0_16 F i_X13 w_0 dX13_plain_173 ?_
        refine g_iload_n F 1 dX13_plain_176 rfl rfl ?_
        refine g_iconst F 0 dX13_plain_177 (by decide) ?_
        refine u_zast F 9 3 yc_9 rfl x166_1.toInt rfl (by omega) (by omega) (yW K a (gu_up Gj166 9 (x166_1.toInt).toNat (vp_nar .boolean 0))) (ys_9 _) dX13_plain_178 ?_
        refine u_iinc F (fun v_ => [(1, .int v_), (0, .ref (a 0))]) dX13_plain_179 (j := 1) rfl x166_1.toInt 1 rfl rfl (by omega) (by omega) (by decide) (fun _ => rfl) (fun y2 ey2 => ?_)
        refine g_goto F 166 dX13_plain_182 (by decide) ?_
        refine g_locals [(0, .ref (a 0)), (1, .int y2)] [1, 0] rfl ?_
        exact ih_166 y2 (gu_up Gj166 9 (x166_1.toInt).toNat (vp_nar .boolean 0)) (by omega) (by have h9 := ti_rng y2; omega) (gu_I.up (j := 9) (k := (x166_1.toInt).toNat) (v := (vp_nar .boolean 0)) jI166 ((vp_narZ _).1) ((vp_narZ _).2)) (gu_un.up (j := 9) (k := (x166_1.toInt).toNat) (v := (vp_nar .boolean 0)) (gu_un.tr gu_un.rf (gu_un.su jU166 rfl)) (show (900 : Nat) ∈ ([21, 400, 600, 800, 900, 1000, 1100, 1200] : List Nat) by decide)) ((yV3.un v3_166 (show gu_un ycd [900] Gj166 (gu_up Gj166 9 (x166_1.toInt).toNat (vp_nar .boolean 0)) from (gu_un.up (j := 9) (k := (x166_1.toInt).toNat) (v := (vp_nar .boolean 0)) gu_un.rf (show (900 : Nat) ∈ ([900] : List Nat) by decide))) rfl)) ((yKp.un kp166 (show gu_un ycd [900] Gj166 (gu_up Gj166 9 (x166_1.toInt).toNat (vp_nar .boolean 0)) from (gu_un.up (j := 9) (k := (x166_1.toInt).toNat) (v := (vp_nar .boolean 0)) gu_un.rf (show (900 : Nat) ∈ ([900] : List Nat) by decide))) rfl)) (⟨fun q hq => ((show gu_un ycd [900] Gj166 (gu_up Gj166 9 (x166_1.toInt).toNat (vp_nar .boolean 0)) from (gu_un.up (j := 9) (k := (x166_1.toInt).toNat) (v := (vp_nar .boolean 0)) gu_un.rf (show (900 : Nat) ∈ ([900] : List Nat) by decide))) 4 q (by simp [ycd])).trans (pa166.1 q hq), ((show gu_un ycd [900] Gj166 (gu_up Gj166 9 (x166_1.toInt).toNat (vp_nar .boolean 0)) from (gu_un.up (j := 9) (k := (x166_1.toInt).toNat) (v := (vp_nar .boolean 0)) gu_un.rf (show (900 : Nat) ∈ ([900] : List Nat) by decide))) 6 0 (by decide)).trans pa166.2.1, ((show gu_un ycd [900] Gj166 (gu_up Gj166 9 (x166_1.toInt).toNat (vp_nar .boolean 0)) from (gu_un.up (j := 9) (k := (x166_1.toInt).toNat) (v := (vp_nar .boolean 0)) gu_un.rf (show (900 : Nat) ∈ ([900] : List Nat) by decide))) 8 0 (by decide)).trans pa166.2.2⟩) (⟨(mL_un (show gu_un ycd [900] Gj166 (gu_up Gj166 9 (x166_1.toInt).toNat (vp_nar .boolean 0)) from (gu_un.up (j := 9) (k := (x166_1.toInt).toNat) (v := (vp_nar .boolean 0)) gu_un.rf (show (900 : Nat) ∈ ([900] : List Nat) by decide))) rfl).trans pb166.1, (mL_un (show gu_un ycd [900] Gj166 (gu_up Gj166 9 (x166_1.toInt).toNat (vp_nar .boolean 0)) from (gu_un.up (j := 9) (k := (x166_1.toInt).toNat) (v := (vp_nar .boolean 0)) gu_un.rf (show (900 : Nat) ∈ ([900] : List Nat) by decide))) rfl).trans pb166.2.1, (mL_un (show gu_un ycd [900] Gj166 (gu_up Gj166 9 (x166_1.toInt).toNat (vp_nar .boolean 0)) from (gu_un.up (j := 9) (k := (x166_1.toInt).toNat) (v := (vp_nar .boolean 0)) gu_un.rf (show (900 : Nat) ∈ ([900] : List Nat) by decide))) rfl).trans pb166.2.2⟩) (y_z9 (by omega) (by omega) pc166)
  have J_112 : ∀ (fuel : Nat) (x112_1 : Int32) (Gj112 : gS), (2147483647 - x112_1.toInt).toNat < fuel → (3 ≤ x112_1.toInt ∧ x112_1.toInt ≤ 6) → (yI Gj112) → (gu_un ycd [400, 600, 800, 1200] G Gj112) → (∀ q : Nat, 3 ≤ q → (q : Int) < x112_1.toInt → (Gj112 12 q).toInt = 0) → (yKp G Gj112) → (((∀ q : Nat, q < 12 → Gj112 4 q = gz_untold q) ∧ Gj112 6 0 = 0 ∧ Gj112 8 0 = 0)) → gG p l e (gR 2 0 0 62) s m args below meth c D A 2 Q 0 0 (yW K a Gj112) (tK K) [(0, .ref (a 0)), (1, .int x112_1)] 112 [] := by
    intro fuel
    induction fuel with
    | zero => intro x112_1 Gj112 hm; exact absurd hm (Nat.not_lt_zero _)
    | succ fuel_112 ih_112 =>
      intro x112_1 Gj112 hm_112 h112_1 jI112 jU112 pz kp112 pa112
      refine g_iload_n F 1 dX13_plain_112 rfl rfl ?_
      refine g_bipush F 6 dX13_plain_113 (by decide) ?_
      refine v_icmp_ge F 131 dX13_plain_115 (by decide) x112_1.toInt 6 rfl rfl (fun c3 => ?_) (fun c3 => ?_)
      · refine g_aload_n F 0 dX13_plain_131 rfl rfl ?_
        refine g_iconst F 3 dX13_plain_132 (by decide) ?_
        refine yp_0_20 F i_X13 w_1 dX13_plain_133 ?_
        refine g_aload_n F 0 dX13_plain_136 rfl rfl ?_
        refine g_iconst F 1 dX13_plain_137 (by decide) ?_
        refine g_iconst F 0 dX13_plain_138 (by decide) ?_
        refine u_callVv (k := 0) (n := 0) (b := a 0) (As := [.int 1, .int 0]) (st := []) F (fun sz => S_X13_mark l D K a (gu_up Gj112 0 20 3) 1 1 0 0 rfl (by decide) rfl (by decide) (by have h9 := pz 3 (by decide) (by omega); show (Gj112 12 3).toInt ≤ 79; omega) (gu_I.up (j := 0) (k := 20) (v := 3) jI112 (show (0 : Int) ≤ (3 : Int32).toInt by decide) (show (3 : Int32).toInt ≤ 5 by decide)) sz) (cwV 2 hts gX13_plain_X13_mark rfl rfl rfl (by decide +kernel) ⟨Nat.le_of_ble_eq_true rfl, Nat.le_of_ble_eq_true rfl⟩) rfl 0 yc_0 rfl (Nat.le_of_ble_eq_true rfl) ⟨Nat.zero_le _, Nat.zero_le _⟩ dX13_plain_139 (fun G6 hw5 => ?_)
        have hI7 : yI G6 := hw5.1
        have hU8 : gu_un ycd [1000, 1100, 1200] (gu_up Gj112 0 20 3) G6 := hw5.2.1
        have hp9 := hw5.2.2
        have q10 : yMk 1 0 (3 : Int) (gu_up Gj112 0 20 3) G6 := hp9
        clear hp9 hw5
        refine g_aload_n F 0 dX13_plain_142 rfl rfl ?_
        refine g_iconst F 4 dX13_plain_143 (by decide) ?_
        refine yp_0_20 F i_X13 w_1 dX13_plain_144 ?_
        refine g_aload_n F 0 dX13_plain_147 rfl rfl ?_
        refine g_iconst F 0 dX13_plain_148 (by decide) ?_
        refine g_iconst F 0 dX13_plain_149 (by decide) ?_
        refine u_callVv (k := 0) (n := 0) (b := a 0) (As := [.int 0, .int 0]) (st := []) F (fun sz => S_X13_mark l D K a (gu_up G6 0 20 4) 0 0 0 0 rfl (by decide) rfl (by decide) (by have h9 := pz 4 (by decide) (by omega); have h5 : G6 12 4 = Gj112 12 4 := q10.2.1 4 (by decide); show (G6 12 4).toInt ≤ 79; rw [h5]; omega) (gu_I.up (j := 0) (k := 20) (v := 4) hI7 (show (0 : Int) ≤ (4 : Int32).toInt by decide) (show (4 : Int32).toInt ≤ 5 by decide)) sz) (cwV 2 hts gX13_plain_X13_mark rfl rfl rfl (by decide +kernel) ⟨Nat.le_of_ble_eq_true rfl, Nat.le_of_ble_eq_true rfl⟩) rfl 0 yc_0 rfl (Nat.le_of_ble_eq_true rfl) ⟨Nat.zero_le _, Nat.zero_le _⟩ dX13_plain_150 (fun G13 hw12 => ?_)
        have hI14 : yI G13 := hw12.1
        have hU15 : gu_un ycd [1000, 1100, 1200] (gu_up G6 0 20 4) G13 := hw12.2.1
        have hp16 := hw12.2.2
        have q17 : yMk 0 0 (4 : Int) (gu_up G6 0 20 4) G13 := hp16
        clear hp16 hw12
        refine g_aload_n F 0 dX13_plain_153 rfl rfl ?_
        refine g_iconst F 5 dX13_plain_154 (by decide) ?_
        refine yp_0_20 F i_X13 w_1 dX13_plain_155 ?_
        refine g_aload_n F 0 dX13_plain_158 rfl rfl ?_
        refine g_iconst F 0 dX13_plain_159 (by decide) ?_
        refine g_iconst F 0 dX13_plain_160 (by decide) ?_
        refine u_callVv (k := 0) (n := 0) (b := a 0) (As := [.int 0, .int 0]) (st := []) F (fun sz => S_X13_mark l D K a (gu_up G13 0 20 5) 0 0 0 0 rfl (by decide) rfl (by decide) (by have h9 := pz 5 (by decide) (by omega); have h5 : G6 12 5 = Gj112 12 5 := q10.2.1 5 (by decide); have h6 : G13 12 5 = G6 12 5 := q17.2.1 5 (by decide); show (G13 12 5).toInt ≤ 79; rw [h6]; rw [h5]; omega) (gu_I.up (j := 0) (k := 20) (v := 5) hI14 (show (0 : Int) ≤ (5 : Int32).toInt by decide) (show (5 : Int32).toInt ≤ 5 by decide)) sz) (cwV 2 hts gX13_plain_X13_mark rfl rfl rfl (by decide +kernel) ⟨Nat.le_of_ble_eq_true rfl, Nat.le_of_ble_eq_true rfl⟩) rfl 0 yc_0 rfl (Nat.le_of_ble_eq_true rfl) ⟨Nat.zero_le _, Nat.zero_le _⟩ dX13_plain_161 (fun G20 hw19 => ?_)
        have hI21 : yI G20 := hw19.1
        have hU22 : gu_un ycd [1000, 1100, 1200] (gu_up G13 0 20 5) G20 := hw19.2.1
        have hp23 := hw19.2.2
        have q24 : yMk 0 0 (5 : Int) (gu_up G13 0 20 5) G20 := hp23
        clear hp23 hw19
        refine g_iconst F 0 dX13_plain_164 (by decide) ?_
        refine g_istore_n F [(1, .int 0), (0, .ref (a 0))] dX13_plain_165 rfl (by decide) rfl ?_
        refine g_locals [(0, .ref (a 0)), (1, .int 0)] [1, 0] rfl ?_
        exact J_166 _ 0 G20 (Nat.lt_succ_self _) (by decide) hI21 (gu_un.tr (gu_un.up (j := 0) (k := 20) (v := 5) (gu_un.tr (gu_un.up (j := 0) (k := 20) (v := 4) (gu_un.tr (gu_un.up (j := 0) (k := 20) (v := 3) (gu_un.tr gu_un.rf (gu_un.su jU112 rfl)) (show (21 : Nat) ∈ ([21, 400, 600, 800, 900, 1000, 1100, 1200] : List Nat) by decide)) (gu_un.su hU8 rfl)) (show (21 : Nat) ∈ ([21, 400, 600, 800, 900, 1000, 1100, 1200] : List Nat) by decide)) (gu_un.su hU15 rfl)) (show (21 : Nat) ∈ ([21, 400, 600, 800, 900, 1000, 1100, 1200] : List Nat) by decide)) (gu_un.su hU22 rfl)) (yV3.plain (fun q h1 h2 => pz q h1 (by omega)) q10 ⟨rfl, rfl, rfl⟩ q17 ⟨rfl, rfl, rfl⟩ q24 (by decide) (by decide) (by decide)) ((yKp.tr (yKp.tr (yKp.tr (yKp.tr (yKp.tr (yKp.tr kp112 (show yKp Gj112 (gu_up Gj112 0 20 3) from yKp.of ⟨rfl, rfl, rfl⟩)) (q10.kp (by decide) (show (0 : Int) ≤ _ from (jI112 12 _).1))) (show yKp G6 (gu_up G6 0 20 4) from yKp.of ⟨rfl, rfl, rfl⟩)) (q17.kp (by decide) (show (0 : Int) ≤ _ from (hI7 12 _).1))) (show yKp G13 (gu_up G13 0 20 5) from yKp.of ⟨rfl, rfl, rfl⟩)) (q24.kp (by decide) (show (0 : Int) ≤ _ from (hI14 12 _).1)))) (⟨fun q hq => ((show gu_un ycd [21, 1000, 1100, 1200] Gj112 G20 from (gu_un.tr (gu_un.up (j := 0) (k := 20) (v := 5) (gu_un.tr (gu_un.up (j := 0) (k := 20) (v := 4) (gu_un.tr (gu_un.up (j := 0) (k := 20) (v := 3) gu_un.rf (show (21 : Nat) ∈ ([21, 1000, 1100, 1200] : List Nat) by decide)) (gu_un.su hU8 rfl)) (show (21 : Nat) ∈ ([21, 1000, 1100, 1200] : List Nat) by decide)) (gu_un.su hU15 rfl)) (show (21 : Nat) ∈ ([21, 1000, 1100, 1200] : List Nat) by decide)) (gu_un.su hU22 rfl))) 4 q (by simp [ycd])).trans (pa112.1 q hq), ((show gu_un ycd [21, 1000, 1100, 1200] Gj112 G20 from (gu_un.tr (gu_un.up (j := 0) (k := 20) (v := 5) (gu_un.tr (gu_un.up (j := 0) (k := 20) (v := 4) (gu_un.tr (gu_un.up (j := 0) (k := 20) (v := 3) gu_un.rf (show (21 : Nat) ∈ ([21, 1000, 1100, 1200] : List Nat) by decide)) (gu_un.su hU8 rfl)) (show (21 : Nat) ∈ ([21, 1000, 1100, 1200] : List Nat) by decide)) (gu_un.su hU15 rfl)) (show (21 : Nat) ∈ ([21, 1000, 1100, 1200] : List Nat) by decide)) (gu_un.su hU22 rfl))) 6 0 (by decide)).trans pa112.2.1, ((show gu_un ycd [21, 1000, 1100, 1200] Gj112 G20 from (gu_un.tr (gu_un.up (j := 0) (k := 20) (v := 5) (gu_un.tr (gu_un.up (j := 0) (k := 20) (v := 4) (gu_un.tr (gu_un.up (j := 0) (k := 20) (v := 3) gu_un.rf (show (21 : Nat) ∈ ([21, 1000, 1100, 1200] : List Nat) by decide)) (gu_un.su hU8 rfl)) (show (21 : Nat) ∈ ([21, 1000, 1100, 1200] : List Nat) by decide)) (gu_un.su hU15 rfl)) (show (21 : Nat) ∈ ([21, 1000, 1100, 1200] : List Nat) by decide)) (gu_un.su hU22 rfl))) 8 0 (by decide)).trans pa112.2.2⟩) (yPn_mk (G := Gj112) (fun q h1 h2 => pz q h1 (by omega)) (show gu_un ycd [21] Gj112 (gu_up Gj112 0 20 3) from (gu_un.up (j := 0) (k := 20) (v := 3) gu_un.rf (show (21 : Nat) ∈ ([21] : List Nat) by decide))) rfl q10 (show gu_un ycd [21] G6 (gu_up G6 0 20 4) from (gu_un.up (j := 0) (k := 20) (v := 4) gu_un.rf (show (21 : Nat) ∈ ([21] : List Nat) by decide))) rfl q17 (show gu_un ycd [21] G13 (gu_up G13 0 20 5) from (gu_un.up (j := 0) (k := 20) (v := 5) gu_un.rf (show (21 : Nat) ∈ ([21] : List Nat) by decide))) rfl q24) (fun q h9 => by have h8 : (q : Int) < 0 := h9; omega)
      · refine g_aload_n F 0 dX13_plain_118 rfl rfl ?_
        refine yg_0_19 F i_X13 w_2 dX13_plain_119 ?_
        refine g_iload_n F 1 dX13_plain_122 rfl rfl ?_
        refine g_iconst F 0 dX13_plain_123 (by decide) ?_
        refine u_iast F 12 0 yc_12 rfl x112_1.toInt rfl (by omega) (by omega) (yW K a (gu_up Gj112 12 (x112_1.toInt).toNat 0)) (ys_12 _) dX13_plain_124 ?_
        refine u_iinc F (fun v_ => [(1, .int v_), (0, .ref (a 0))]) dX13_plain_125 (j := 1) rfl x112_1.toInt 1 rfl rfl (by omega) (by omega) (by decide) (fun _ => rfl) (fun y25 ey25 => ?_)
        refine g_goto F 112 dX13_plain_128 (by decide) ?_
        refine g_locals [(0, .ref (a 0)), (1, .int y25)] [1, 0] rfl ?_
        exact ih_112 y25 (gu_up Gj112 12 (x112_1.toInt).toNat 0) (by omega) (by have h9 := ti_rng y25; omega) (gu_I.up (j := 12) (k := (x112_1.toInt).toNat) (v := 0) jI112 (show (0 : Int) ≤ (0 : Int32).toInt by decide) (show (0 : Int32).toInt ≤ 80 by decide)) (gu_un.up (j := 12) (k := (x112_1.toInt).toNat) (v := 0) (gu_un.tr gu_un.rf (gu_un.su jU112 rfl)) (show (1200 : Nat) ∈ ([400, 600, 800, 1200] : List Nat) by decide)) (y_z12 (by omega) (by omega) pz) (yKp.up12 kp112 (by omega)) (⟨fun q hq => ((show gu_un ycd [1200] Gj112 (gu_up Gj112 12 (x112_1.toInt).toNat 0) from (gu_un.up (j := 12) (k := (x112_1.toInt).toNat) (v := 0) gu_un.rf (show (1200 : Nat) ∈ ([1200] : List Nat) by decide))) 4 q (by simp [ycd])).trans (pa112.1 q hq), ((show gu_un ycd [1200] Gj112 (gu_up Gj112 12 (x112_1.toInt).toNat 0) from (gu_un.up (j := 12) (k := (x112_1.toInt).toNat) (v := 0) gu_un.rf (show (1200 : Nat) ∈ ([1200] : List Nat) by decide))) 6 0 (by decide)).trans pa112.2.1, ((show gu_un ycd [1200] Gj112 (gu_up Gj112 12 (x112_1.toInt).toNat 0) from (gu_un.up (j := 12) (k := (x112_1.toInt).toNat) (v := 0) gu_un.rf (show (1200 : Nat) ∈ ([1200] : List Nat) by decide))) 8 0 (by decide)).trans pa112.2.2⟩)
  refine g_aload_n F 0 dX13_plain_0 rfl rfl ?_
  refine yg_0_11 F i_X13 w_3 dX13_plain_1 ?_
  refine g_iconst F 0 dX13_plain_4 (by decide) ?_
  refine g_bipush F 8 dX13_plain_5 (by decide) ?_
  refine u_iast F 4 0 yc_4 rfl 0 rfl (by decide) (by decide) (yW K a (gu_up G 4 0 8)) (ys_4 _) dX13_plain_7 ?_
  refine g_aload_n F 0 dX13_plain_8 rfl rfl ?_
  refine yg_0_11 F i_X13 w_3 dX13_plain_9 ?_
  refine g_iconst F 1 dX13_plain_12 (by decide) ?_
  refine g_iconst F 3 dX13_plain_13 (by decide) ?_
  refine u_iast F 4 0 yc_4 rfl 1 rfl (by decide) (by decide) (yW K a (gu_up (gu_up G 4 0 8) 4 1 3)) (ys_4 _) dX13_plain_14 ?_
  refine g_aload_n F 0 dX13_plain_15 rfl rfl ?_
  refine yg_0_11 F i_X13 w_3 dX13_plain_16 ?_
  refine g_iconst F 2 dX13_plain_19 (by decide) ?_
  refine g_iconst F 4 dX13_plain_20 (by decide) ?_
  refine u_iast F 4 0 yc_4 rfl 2 rfl (by decide) (by decide) (yW K a (gu_up (gu_up (gu_up G 4 0 8) 4 1 3) 4 2 4)) (ys_4 _) dX13_plain_21 ?_
  refine g_aload_n F 0 dX13_plain_22 rfl rfl ?_
  refine yg_0_11 F i_X13 w_3 dX13_plain_23 ?_
  refine g_iconst F 3 dX13_plain_26 (by decide) ?_
  refine g_bipush F 8 dX13_plain_27 (by decide) ?_
  refine u_iast F 4 0 yc_4 rfl 3 rfl (by decide) (by decide) (yW K a (gu_up (gu_up (gu_up (gu_up G 4 0 8) 4 1 3) 4 2 4) 4 3 8)) (ys_4 _) dX13_plain_29 ?_
  refine g_aload_n F 0 dX13_plain_30 rfl rfl ?_
  refine yg_0_11 F i_X13 w_3 dX13_plain_31 ?_
  refine g_iconst F 4 dX13_plain_34 (by decide) ?_
  refine g_bipush F 8 dX13_plain_35 (by decide) ?_
  refine u_iast F 4 0 yc_4 rfl 4 rfl (by decide) (by decide) (yW K a (gu_up (gu_up (gu_up (gu_up (gu_up G 4 0 8) 4 1 3) 4 2 4) 4 3 8) 4 4 8)) (ys_4 _) dX13_plain_37 ?_
  refine g_aload_n F 0 dX13_plain_38 rfl rfl ?_
  refine yg_0_11 F i_X13 w_3 dX13_plain_39 ?_
  refine g_iconst F 5 dX13_plain_42 (by decide) ?_
  refine g_iconst F 2 dX13_plain_43 (by decide) ?_
  refine u_iast F 4 0 yc_4 rfl 5 rfl (by decide) (by decide) (yW K a (gu_up (gu_up (gu_up (gu_up (gu_up (gu_up G 4 0 8) 4 1 3) 4 2 4) 4 3 8) 4 4 8) 4 5 2)) (ys_4 _) dX13_plain_44 ?_
  refine g_aload_n F 0 dX13_plain_45 rfl rfl ?_
  refine yg_0_11 F i_X13 w_3 dX13_plain_46 ?_
  refine g_bipush F 6 dX13_plain_49 (by decide) ?_
  refine g_iconst F 2 dX13_plain_51 (by decide) ?_
  refine u_iast F 4 0 yc_4 rfl 6 rfl (by decide) (by decide) (yW K a (gu_up (gu_up (gu_up (gu_up (gu_up (gu_up (gu_up G 4 0 8) 4 1 3) 4 2 4) 4 3 8) 4 4 8) 4 5 2) 4 6 2)) (ys_4 _) dX13_plain_52 ?_
  refine g_aload_n F 0 dX13_plain_53 rfl rfl ?_
  refine yg_0_11 F i_X13 w_3 dX13_plain_54 ?_
  refine g_bipush F 7 dX13_plain_57 (by decide) ?_
  refine g_sipush F 500 dX13_plain_59 (by decide) ?_
  refine u_iast F 4 0 yc_4 rfl 7 rfl (by decide) (by decide) (yW K a (gu_up (gu_up (gu_up (gu_up (gu_up (gu_up (gu_up (gu_up G 4 0 8) 4 1 3) 4 2 4) 4 3 8) 4 4 8) 4 5 2) 4 6 2) 4 7 500)) (ys_4 _) dX13_plain_62 ?_
  refine g_aload_n F 0 dX13_plain_63 rfl rfl ?_
  refine yg_0_11 F i_X13 w_3 dX13_plain_64 ?_
  refine g_bipush F 8 dX13_plain_67 (by decide) ?_
  refine g_bipush F 20 dX13_plain_69 (by decide) ?_
  refine u_iast F 4 0 yc_4 rfl 8 rfl (by decide) (by decide) (yW K a (gu_up (gu_up (gu_up (gu_up (gu_up (gu_up (gu_up (gu_up (gu_up G 4 0 8) 4 1 3) 4 2 4) 4 3 8) 4 4 8) 4 5 2) 4 6 2) 4 7 500) 4 8 20)) (ys_4 _) dX13_plain_71 ?_
  refine g_aload_n F 0 dX13_plain_72 rfl rfl ?_
  refine yg_0_11 F i_X13 w_3 dX13_plain_73 ?_
  refine g_bipush F 9 dX13_plain_76 (by decide) ?_
  refine g_iconst F 4 dX13_plain_78 (by decide) ?_
  refine u_iast F 4 0 yc_4 rfl 9 rfl (by decide) (by decide) (yW K a (gu_up (gu_up (gu_up (gu_up (gu_up (gu_up (gu_up (gu_up (gu_up (gu_up G 4 0 8) 4 1 3) 4 2 4) 4 3 8) 4 4 8) 4 5 2) 4 6 2) 4 7 500) 4 8 20) 4 9 4)) (ys_4 _) dX13_plain_79 ?_
  refine g_aload_n F 0 dX13_plain_80 rfl rfl ?_
  refine yg_0_11 F i_X13 w_3 dX13_plain_81 ?_
  refine g_bipush F 10 dX13_plain_84 (by decide) ?_
  refine g_iconst F 1 dX13_plain_86 (by decide) ?_
  refine u_iast F 4 0 yc_4 rfl 10 rfl (by decide) (by decide) (yW K a (gu_up (gu_up (gu_up (gu_up (gu_up (gu_up (gu_up (gu_up (gu_up (gu_up (gu_up G 4 0 8) 4 1 3) 4 2 4) 4 3 8) 4 4 8) 4 5 2) 4 6 2) 4 7 500) 4 8 20) 4 9 4) 4 10 1)) (ys_4 _) dX13_plain_87 ?_
  refine g_aload_n F 0 dX13_plain_88 rfl rfl ?_
  refine yg_0_11 F i_X13 w_3 dX13_plain_89 ?_
  refine g_bipush F 11 dX13_plain_92 (by decide) ?_
  refine g_iconst F 1 dX13_plain_94 (by decide) ?_
  refine u_iast F 4 0 yc_4 rfl 11 rfl (by decide) (by decide) (yW K a (gu_up (gu_up (gu_up (gu_up (gu_up (gu_up (gu_up (gu_up (gu_up (gu_up (gu_up (gu_up G 4 0 8) 4 1 3) 4 2 4) 4 3 8) 4 4 8) 4 5 2) 4 6 2) 4 7 500) 4 8 20) 4 9 4) 4 10 1) 4 11 1)) (ys_4 _) dX13_plain_95 ?_
  refine g_aload_n F 0 dX13_plain_96 rfl rfl ?_
  refine yg_0_13 F i_X13 w_4 dX13_plain_97 ?_
  refine g_iconst F 0 dX13_plain_100 (by decide) ?_
  refine g_iconst F 0 dX13_plain_101 (by decide) ?_
  refine u_iast F 6 0 yc_6 rfl 0 rfl (by decide) (by decide) (yW K a (gu_up (gu_up (gu_up (gu_up (gu_up (gu_up (gu_up (gu_up (gu_up (gu_up (gu_up (gu_up (gu_up G 4 0 8) 4 1 3) 4 2 4) 4 3 8) 4 4 8) 4 5 2) 4 6 2) 4 7 500) 4 8 20) 4 9 4) 4 10 1) 4 11 1) 6 0 0)) (ys_6 _) dX13_plain_102 ?_
  refine g_aload_n F 0 dX13_plain_103 rfl rfl ?_
  refine yg_0_15 F i_X13 w_5 dX13_plain_104 ?_
  refine g_iconst F 0 dX13_plain_107 (by decide) ?_
  refine g_iconst F 0 dX13_plain_108 (by decide) ?_
  refine u_iast F 8 0 yc_8 rfl 0 rfl (by decide) (by decide) (yW K a (gu_up (gu_up (gu_up (gu_up (gu_up (gu_up (gu_up (gu_up (gu_up (gu_up (gu_up (gu_up (gu_up (gu_up G 4 0 8) 4 1 3) 4 2 4) 4 3 8) 4 4 8) 4 5 2) 4 6 2) 4 7 500) 4 8 20) 4 9 4) 4 10 1) 4 11 1) 6 0 0) 8 0 0)) (ys_8 _) dX13_plain_109 ?_
  refine g_iconst F 3 dX13_plain_110 (by decide) ?_
  refine g_istore_n F [(1, .int 3), (0, .ref (a 0))] dX13_plain_111 rfl (by decide) rfl ?_
  refine g_locals [(0, .ref (a 0)), (1, .int 3)] [1, 0] rfl ?_
  exact J_112 _ 3 (gu_up (gu_up (gu_up (gu_up (gu_up (gu_up (gu_up (gu_up (gu_up (gu_up (gu_up (gu_up (gu_up (gu_up G 4 0 8) 4 1 3) 4 2 4) 4 3 8) 4 4 8) 4 5 2) 4 6 2) 4 7 500) 4 8 20) 4 9 4) 4 10 1) 4 11 1) 6 0 0) 8 0 0) (Nat.lt_succ_self _) (by decide) (gu_I.up (j := 8) (k := 0) (v := 0) (gu_I.up (j := 6) (k := 0) (v := 0) (gu_I.up (j := 4) (k := 11) (v := 1) (gu_I.up (j := 4) (k := 10) (v := 1) (gu_I.up (j := 4) (k := 9) (v := 4) (gu_I.up (j := 4) (k := 8) (v := 20) (gu_I.up (j := 4) (k := 7) (v := 500) (gu_I.up (j := 4) (k := 6) (v := 2) (gu_I.up (j := 4) (k := 5) (v := 2) (gu_I.up (j := 4) (k := 4) (v := 8) (gu_I.up (j := 4) (k := 3) (v := 8) (gu_I.up (j := 4) (k := 2) (v := 4) (gu_I.up (j := 4) (k := 1) (v := 3) (gu_I.up (j := 4) (k := 0) (v := 8) hI (show (4 : Int) ≤ (8 : Int32).toInt by decide) (show (8 : Int32).toInt ≤ 16 by decide)) (show (1 : Int) ≤ (3 : Int32).toInt by decide) (show (3 : Int32).toInt ≤ 6 by decide)) (show (1 : Int) ≤ (4 : Int32).toInt by decide) (show (4 : Int32).toInt ≤ 99 by decide)) (show (0 : Int) ≤ (8 : Int32).toInt by decide) (show (8 : Int32).toInt ≤ 200 by decide)) (show (0 : Int) ≤ (8 : Int32).toInt by decide) (show (8 : Int32).toInt ≤ 200 by decide)) (show (0 : Int) ≤ (2 : Int32).toInt by decide) (show (2 : Int32).toInt ≤ 200 by decide)) (show (0 : Int) ≤ (2 : Int32).toInt by decide) (show (2 : Int32).toInt ≤ 200 by decide)) (show (1 : Int) ≤ (500 : Int32).toInt by decide) (show (500 : Int32).toInt ≤ 9999 by decide)) (show (0 : Int) ≤ (20 : Int32).toInt by decide) (show (20 : Int32).toInt ≤ 9999 by decide)) (show (1 : Int) ≤ (4 : Int32).toInt by decide) (show (4 : Int32).toInt ≤ 12 by decide)) (show (1 : Int) ≤ (1 : Int32).toInt by decide) (show (1 : Int32).toInt ≤ 4 by decide)) (show (1 : Int) ≤ (1 : Int32).toInt by decide) (show (1 : Int32).toInt ≤ 6 by decide)) (show (0 : Int) ≤ (0 : Int32).toInt by decide) (show (0 : Int32).toInt ≤ 15 by decide)) (show (0 : Int) ≤ (0 : Int32).toInt by decide) (show (0 : Int32).toInt ≤ 9 by decide)) (gu_un.up (j := 8) (k := 0) (v := 0) (gu_un.up (j := 6) (k := 0) (v := 0) (gu_un.up (j := 4) (k := 11) (v := 1) (gu_un.up (j := 4) (k := 10) (v := 1) (gu_un.up (j := 4) (k := 9) (v := 4) (gu_un.up (j := 4) (k := 8) (v := 20) (gu_un.up (j := 4) (k := 7) (v := 500) (gu_un.up (j := 4) (k := 6) (v := 2) (gu_un.up (j := 4) (k := 5) (v := 2) (gu_un.up (j := 4) (k := 4) (v := 8) (gu_un.up (j := 4) (k := 3) (v := 8) (gu_un.up (j := 4) (k := 2) (v := 4) (gu_un.up (j := 4) (k := 1) (v := 3) (gu_un.up (j := 4) (k := 0) (v := 8) gu_un.rf (show (400 : Nat) ∈ ([400, 600, 800, 1200] : List Nat) by decide)) (show (400 : Nat) ∈ ([400, 600, 800, 1200] : List Nat) by decide)) (show (400 : Nat) ∈ ([400, 600, 800, 1200] : List Nat) by decide)) (show (400 : Nat) ∈ ([400, 600, 800, 1200] : List Nat) by decide)) (show (400 : Nat) ∈ ([400, 600, 800, 1200] : List Nat) by decide)) (show (400 : Nat) ∈ ([400, 600, 800, 1200] : List Nat) by decide)) (show (400 : Nat) ∈ ([400, 600, 800, 1200] : List Nat) by decide)) (show (400 : Nat) ∈ ([400, 600, 800, 1200] : List Nat) by decide)) (show (400 : Nat) ∈ ([400, 600, 800, 1200] : List Nat) by decide)) (show (400 : Nat) ∈ ([400, 600, 800, 1200] : List Nat) by decide)) (show (400 : Nat) ∈ ([400, 600, 800, 1200] : List Nat) by decide)) (show (400 : Nat) ∈ ([400, 600, 800, 1200] : List Nat) by decide)) (show (600 : Nat) ∈ ([400, 600, 800, 1200] : List Nat) by decide)) (show (800 : Nat) ∈ ([400, 600, 800, 1200] : List Nat) by decide)) (fun q h1 h2 => by have h3 : (q : Int) < 3 := h2; omega) ((yKp.un yKp.rf (show gu_un ycd [400, 600, 800] G (gu_up (gu_up (gu_up (gu_up (gu_up (gu_up (gu_up (gu_up (gu_up (gu_up (gu_up (gu_up (gu_up (gu_up G 4 0 8) 4 1 3) 4 2 4) 4 3 8) 4 4 8) 4 5 2) 4 6 2) 4 7 500) 4 8 20) 4 9 4) 4 10 1) 4 11 1) 6 0 0) 8 0 0) from (gu_un.up (j := 8) (k := 0) (v := 0) (gu_un.up (j := 6) (k := 0) (v := 0) (gu_un.up (j := 4) (k := 11) (v := 1) (gu_un.up (j := 4) (k := 10) (v := 1) (gu_un.up (j := 4) (k := 9) (v := 4) (gu_un.up (j := 4) (k := 8) (v := 20) (gu_un.up (j := 4) (k := 7) (v := 500) (gu_un.up (j := 4) (k := 6) (v := 2) (gu_un.up (j := 4) (k := 5) (v := 2) (gu_un.up (j := 4) (k := 4) (v := 8) (gu_un.up (j := 4) (k := 3) (v := 8) (gu_un.up (j := 4) (k := 2) (v := 4) (gu_un.up (j := 4) (k := 1) (v := 3) (gu_un.up (j := 4) (k := 0) (v := 8) gu_un.rf (show (400 : Nat) ∈ ([400, 600, 800] : List Nat) by decide)) (show (400 : Nat) ∈ ([400, 600, 800] : List Nat) by decide)) (show (400 : Nat) ∈ ([400, 600, 800] : List Nat) by decide)) (show (400 : Nat) ∈ ([400, 600, 800] : List Nat) by decide)) (show (400 : Nat) ∈ ([400, 600, 800] : List Nat) by decide)) (show (400 : Nat) ∈ ([400, 600, 800] : List Nat) by decide)) (show (400 : Nat) ∈ ([400, 600, 800] : List Nat) by decide)) (show (400 : Nat) ∈ ([400, 600, 800] : List Nat) by decide)) (show (400 : Nat) ∈ ([400, 600, 800] : List Nat) by decide)) (show (400 : Nat) ∈ ([400, 600, 800] : List Nat) by decide)) (show (400 : Nat) ∈ ([400, 600, 800] : List Nat) by decide)) (show (400 : Nat) ∈ ([400, 600, 800] : List Nat) by decide)) (show (600 : Nat) ∈ ([400, 600, 800] : List Nat) by decide)) (show (800 : Nat) ∈ ([400, 600, 800] : List Nat) by decide))) rfl)) (⟨fun q hq => by rcases (show q = 0 ∨ q = 1 ∨ q = 2 ∨ q = 3 ∨ q = 4 ∨ q = 5 ∨ q = 6 ∨ q = 7 ∨ q = 8 ∨ q = 9 ∨ q = 10 ∨ q = 11 by omega) with rfl | rfl | rfl | rfl | rfl | rfl | rfl | rfl | rfl | rfl | rfl | rfl <;> rfl, rfl, rfl⟩)

theorem dX13_takeShop_0 : decode cX13_takeShop 0 = .ok (.iconst 0, 1) := by decide +kernel
theorem dX13_takeShop_1 : decode cX13_takeShop 1 = .ok (.istore_n 1, 1) := by decide +kernel
theorem dX13_takeShop_2 : decode cX13_takeShop 2 = .ok (.iload_n 1, 1) := by decide +kernel
theorem dX13_takeShop_3 : decode cX13_takeShop 3 = .ok (.bipush 12, 2) := by decide +kernel
theorem dX13_takeShop_5 : decode cX13_takeShop 5 = .ok (.if_icmp .ge 21, 3) := by decide +kernel
theorem dX13_takeShop_8 : decode cX13_takeShop 8 = .ok (.aload_n 0, 1) := by decide +kernel
theorem dX13_takeShop_9 : decode cX13_takeShop 9 = .ok (.getfield 199, 3) := by decide +kernel
theorem dX13_takeShop_12 : decode cX13_takeShop 12 = .ok (.iload_n 1, 1) := by decide +kernel
theorem dX13_takeShop_13 : decode cX13_takeShop 13 = .ok (.aload_n 0, 1) := by decide +kernel
theorem dX13_takeShop_14 : decode cX13_takeShop 14 = .ok (.getfield 76, 3) := by decide +kernel
theorem dX13_takeShop_17 : decode cX13_takeShop 17 = .ok (.iload_n 1, 1) := by decide +kernel
theorem dX13_takeShop_18 : decode cX13_takeShop 18 = .ok (.iaload, 1) := by decide +kernel
theorem dX13_takeShop_19 : decode cX13_takeShop 19 = .ok (.iastore, 1) := by decide +kernel
theorem dX13_takeShop_20 : decode cX13_takeShop 20 = .ok (.iinc 1 1, 3) := by decide +kernel
theorem dX13_takeShop_23 : decode cX13_takeShop 23 = .ok (.goto (-21), 3) := by decide +kernel
theorem dX13_takeShop_26 : decode cX13_takeShop 26 = .ok (.iconst 0, 1) := by decide +kernel
theorem dX13_takeShop_27 : decode cX13_takeShop 27 = .ok (.istore_n 1, 1) := by decide +kernel
theorem dX13_takeShop_28 : decode cX13_takeShop 28 = .ok (.iload_n 1, 1) := by decide +kernel
theorem dX13_takeShop_29 : decode cX13_takeShop 29 = .ok (.aload_n 0, 1) := by decide +kernel
theorem dX13_takeShop_30 : decode cX13_takeShop 30 = .ok (.getfield 199, 3) := by decide +kernel
theorem dX13_takeShop_33 : decode cX13_takeShop 33 = .ok (.bipush 10, 2) := by decide +kernel
theorem dX13_takeShop_35 : decode cX13_takeShop 35 = .ok (.iaload, 1) := by decide +kernel
theorem dX13_takeShop_36 : decode cX13_takeShop 36 = .ok (.if_icmp .ge 21, 3) := by decide +kernel
theorem dX13_takeShop_39 : decode cX13_takeShop 39 = .ok (.aload_n 0, 1) := by decide +kernel
theorem dX13_takeShop_40 : decode cX13_takeShop 40 = .ok (.getfield 202, 3) := by decide +kernel
theorem dX13_takeShop_43 : decode cX13_takeShop 43 = .ok (.iload_n 1, 1) := by decide +kernel
theorem dX13_takeShop_44 : decode cX13_takeShop 44 = .ok (.aload_n 0, 1) := by decide +kernel
theorem dX13_takeShop_45 : decode cX13_takeShop 45 = .ok (.getfield 80, 3) := by decide +kernel
theorem dX13_takeShop_48 : decode cX13_takeShop 48 = .ok (.iload_n 1, 1) := by decide +kernel
theorem dX13_takeShop_49 : decode cX13_takeShop 49 = .ok (.iaload, 1) := by decide +kernel
theorem dX13_takeShop_50 : decode cX13_takeShop 50 = .ok (.iastore, 1) := by decide +kernel
theorem dX13_takeShop_51 : decode cX13_takeShop 51 = .ok (.iinc 1 1, 3) := by decide +kernel
theorem dX13_takeShop_54 : decode cX13_takeShop 54 = .ok (.goto (-26), 3) := by decide +kernel
theorem dX13_takeShop_57 : decode cX13_takeShop 57 = .ok (.iconst 0, 1) := by decide +kernel
theorem dX13_takeShop_58 : decode cX13_takeShop 58 = .ok (.istore_n 1, 1) := by decide +kernel
theorem dX13_takeShop_59 : decode cX13_takeShop 59 = .ok (.iload_n 1, 1) := by decide +kernel
theorem dX13_takeShop_60 : decode cX13_takeShop 60 = .ok (.aload_n 0, 1) := by decide +kernel
theorem dX13_takeShop_61 : decode cX13_takeShop 61 = .ok (.getfield 199, 3) := by decide +kernel
theorem dX13_takeShop_64 : decode cX13_takeShop 64 = .ok (.bipush 11, 2) := by decide +kernel
theorem dX13_takeShop_66 : decode cX13_takeShop 66 = .ok (.iaload, 1) := by decide +kernel
theorem dX13_takeShop_67 : decode cX13_takeShop 67 = .ok (.if_icmp .ge 21, 3) := by decide +kernel
theorem dX13_takeShop_70 : decode cX13_takeShop 70 = .ok (.aload_n 0, 1) := by decide +kernel
theorem dX13_takeShop_71 : decode cX13_takeShop 71 = .ok (.getfield 204, 3) := by decide +kernel
theorem dX13_takeShop_74 : decode cX13_takeShop 74 = .ok (.iload_n 1, 1) := by decide +kernel
theorem dX13_takeShop_75 : decode cX13_takeShop 75 = .ok (.aload_n 0, 1) := by decide +kernel
theorem dX13_takeShop_76 : decode cX13_takeShop 76 = .ok (.getfield 83, 3) := by decide +kernel
theorem dX13_takeShop_79 : decode cX13_takeShop 79 = .ok (.iload_n 1, 1) := by decide +kernel
theorem dX13_takeShop_80 : decode cX13_takeShop 80 = .ok (.iaload, 1) := by decide +kernel
theorem dX13_takeShop_81 : decode cX13_takeShop 81 = .ok (.iastore, 1) := by decide +kernel
theorem dX13_takeShop_82 : decode cX13_takeShop 82 = .ok (.iinc 1 1, 3) := by decide +kernel
theorem dX13_takeShop_85 : decode cX13_takeShop 85 = .ok (.goto (-26), 3) := by decide +kernel
theorem dX13_takeShop_88 : decode cX13_takeShop 88 = .ok (.iconst 0, 1) := by decide +kernel
theorem dX13_takeShop_89 : decode cX13_takeShop 89 = .ok (.istore_n 1, 1) := by decide +kernel
theorem dX13_takeShop_90 : decode cX13_takeShop 90 = .ok (.iload_n 1, 1) := by decide +kernel
theorem dX13_takeShop_91 : decode cX13_takeShop 91 = .ok (.iconst 3, 1) := by decide +kernel
theorem dX13_takeShop_92 : decode cX13_takeShop 92 = .ok (.if_icmp .ge 89, 3) := by decide +kernel
theorem dX13_takeShop_95 : decode cX13_takeShop 95 = .ok (.aload_n 0, 1) := by decide +kernel
theorem dX13_takeShop_96 : decode cX13_takeShop 96 = .ok (.getfield 86, 3) := by decide +kernel
theorem dX13_takeShop_99 : decode cX13_takeShop 99 = .ok (.iload_n 1, 1) := by decide +kernel
theorem dX13_takeShop_100 : decode cX13_takeShop 100 = .ok (.aload_n 0, 1) := by decide +kernel
theorem dX13_takeShop_101 : decode cX13_takeShop 101 = .ok (.getfield 86, 3) := by decide +kernel
theorem dX13_takeShop_104 : decode cX13_takeShop 104 = .ok (.iconst 3, 1) := by decide +kernel
theorem dX13_takeShop_105 : decode cX13_takeShop 105 = .ok (.iload_n 1, 1) := by decide +kernel
theorem dX13_takeShop_106 : decode cX13_takeShop 106 = .ok (.iadd, 1) := by decide +kernel
theorem dX13_takeShop_107 : decode cX13_takeShop 107 = .ok (.iaload, 1) := by decide +kernel
theorem dX13_takeShop_108 : decode cX13_takeShop 108 = .ok (.iastore, 1) := by decide +kernel
theorem dX13_takeShop_109 : decode cX13_takeShop 109 = .ok (.iconst 0, 1) := by decide +kernel
theorem dX13_takeShop_110 : decode cX13_takeShop 110 = .ok (.istore_n 2, 1) := by decide +kernel
theorem dX13_takeShop_111 : decode cX13_takeShop 111 = .ok (.iload_n 2, 1) := by decide +kernel
theorem dX13_takeShop_112 : decode cX13_takeShop 112 = .ok (.aload_n 0, 1) := by decide +kernel
theorem dX13_takeShop_113 : decode cX13_takeShop 113 = .ok (.getfield 86, 3) := by decide +kernel
theorem dX13_takeShop_116 : decode cX13_takeShop 116 = .ok (.iload_n 1, 1) := by decide +kernel
theorem dX13_takeShop_117 : decode cX13_takeShop 117 = .ok (.iaload, 1) := by decide +kernel
theorem dX13_takeShop_118 : decode cX13_takeShop 118 = .ok (.if_icmp .ge 57, 3) := by decide +kernel
theorem dX13_takeShop_121 : decode cX13_takeShop 121 = .ok (.aload_n 0, 1) := by decide +kernel
theorem dX13_takeShop_122 : decode cX13_takeShop 122 = .ok (.getfield 100, 3) := by decide +kernel
theorem dX13_takeShop_125 : decode cX13_takeShop 125 = .ok (.bipush 80, 2) := by decide +kernel
theorem dX13_takeShop_127 : decode cX13_takeShop 127 = .ok (.iload_n 1, 1) := by decide +kernel
theorem dX13_takeShop_128 : decode cX13_takeShop 128 = .ok (.imul, 1) := by decide +kernel
theorem dX13_takeShop_129 : decode cX13_takeShop 129 = .ok (.iload_n 2, 1) := by decide +kernel
theorem dX13_takeShop_130 : decode cX13_takeShop 130 = .ok (.iadd, 1) := by decide +kernel
theorem dX13_takeShop_131 : decode cX13_takeShop 131 = .ok (.aload_n 0, 1) := by decide +kernel
theorem dX13_takeShop_132 : decode cX13_takeShop 132 = .ok (.getfield 100, 3) := by decide +kernel
theorem dX13_takeShop_135 : decode cX13_takeShop 135 = .ok (.bipush 80, 2) := by decide +kernel
theorem dX13_takeShop_137 : decode cX13_takeShop 137 = .ok (.iconst 3, 1) := by decide +kernel
theorem dX13_takeShop_138 : decode cX13_takeShop 138 = .ok (.iload_n 1, 1) := by decide +kernel
theorem dX13_takeShop_139 : decode cX13_takeShop 139 = .ok (.iadd, 1) := by decide +kernel
theorem dX13_takeShop_140 : decode cX13_takeShop 140 = .ok (.imul, 1) := by decide +kernel
theorem dX13_takeShop_141 : decode cX13_takeShop 141 = .ok (.iload_n 2, 1) := by decide +kernel
theorem dX13_takeShop_142 : decode cX13_takeShop 142 = .ok (.iadd, 1) := by decide +kernel
theorem dX13_takeShop_143 : decode cX13_takeShop 143 = .ok (.iaload, 1) := by decide +kernel
theorem dX13_takeShop_144 : decode cX13_takeShop 144 = .ok (.iastore, 1) := by decide +kernel
theorem dX13_takeShop_145 : decode cX13_takeShop 145 = .ok (.aload_n 0, 1) := by decide +kernel
theorem dX13_takeShop_146 : decode cX13_takeShop 146 = .ok (.getfield 103, 3) := by decide +kernel
theorem dX13_takeShop_149 : decode cX13_takeShop 149 = .ok (.bipush 80, 2) := by decide +kernel
theorem dX13_takeShop_151 : decode cX13_takeShop 151 = .ok (.iload_n 1, 1) := by decide +kernel
theorem dX13_takeShop_152 : decode cX13_takeShop 152 = .ok (.imul, 1) := by decide +kernel
theorem dX13_takeShop_153 : decode cX13_takeShop 153 = .ok (.iload_n 2, 1) := by decide +kernel
theorem dX13_takeShop_154 : decode cX13_takeShop 154 = .ok (.iadd, 1) := by decide +kernel
theorem dX13_takeShop_155 : decode cX13_takeShop 155 = .ok (.aload_n 0, 1) := by decide +kernel
theorem dX13_takeShop_156 : decode cX13_takeShop 156 = .ok (.getfield 103, 3) := by decide +kernel
theorem dX13_takeShop_159 : decode cX13_takeShop 159 = .ok (.bipush 80, 2) := by decide +kernel
theorem dX13_takeShop_161 : decode cX13_takeShop 161 = .ok (.iconst 3, 1) := by decide +kernel
theorem dX13_takeShop_162 : decode cX13_takeShop 162 = .ok (.iload_n 1, 1) := by decide +kernel
theorem dX13_takeShop_163 : decode cX13_takeShop 163 = .ok (.iadd, 1) := by decide +kernel
theorem dX13_takeShop_164 : decode cX13_takeShop 164 = .ok (.imul, 1) := by decide +kernel
theorem dX13_takeShop_165 : decode cX13_takeShop 165 = .ok (.iload_n 2, 1) := by decide +kernel
theorem dX13_takeShop_166 : decode cX13_takeShop 166 = .ok (.iadd, 1) := by decide +kernel
theorem dX13_takeShop_167 : decode cX13_takeShop 167 = .ok (.iaload, 1) := by decide +kernel
theorem dX13_takeShop_168 : decode cX13_takeShop 168 = .ok (.iastore, 1) := by decide +kernel
theorem dX13_takeShop_169 : decode cX13_takeShop 169 = .ok (.iinc 2 1, 3) := by decide +kernel
theorem dX13_takeShop_172 : decode cX13_takeShop 172 = .ok (.goto (-61), 3) := by decide +kernel
theorem dX13_takeShop_175 : decode cX13_takeShop 175 = .ok (.iinc 1 1, 3) := by decide +kernel
theorem dX13_takeShop_178 : decode cX13_takeShop 178 = .ok (.goto (-88), 3) := by decide +kernel
theorem dX13_takeShop_181 : decode cX13_takeShop 181 = .ok (.return_, 1) := by decide +kernel
set_option maxHeartbeats 4000000 in
set_option maxRecDepth 100000 in
theorem S_X13_takeShop (l : Launch) (D : va_G) (K : Nat → ClassId) (a : Nat → Nat) (G : gS) (v3 : yV3 G) (hI : yI G) (sz : Nat) : Kv l yX13_takeShop wsX13_takeShop 1 40 0 0 D [.ref (a 0)] (yW K a G) (tK K) sz (fun (G' : gS) => (yI G') ∧ (gu_un ycd [300, 500, 700, 1000, 1100, 1200] G G') ∧ (yW3 G') ∧ (yTkn G G')) (fun (G' : gS) => (yW K a G')) (fun _ => (tK K)) := by
  unfold Kv
  refine g_ofW (cc := cX13_takeShop) (lv := [(0, .ref (a 0))]) (by decide) rfl (Nat.le_of_ble_eq_true rfl) rfl ?_
  intro p e s m args below meth c A Q hA hQ F hr hnm
  have hts := F.2.2.2.2.1
  have w_0 : (Cond.fieldLink RX13 86 "QuietCutModel" "marks" "[I").before args s = true := hts _ (List.mem_of_getElem? (i := 7) rfl)
  have i_X13 : ∀ w ∈ u_ws RX13 TX13 73, w ∈ wsX13_takeShop := fun _ h => List.mem_cons_of_mem _ (List.mem_append_right _ h)
  have w_1 : (Cond.fieldLink RX13 100 "QuietCutModel" "markKind" "[I").before args s = true := hts _ (List.mem_of_getElem? (i := 8) rfl)
  have w_2 : (Cond.fieldLink RX13 103 "QuietCutModel" "markValue" "[I").before args s = true := hts _ (List.mem_of_getElem? (i := 9) rfl)
  have w_3 : (Cond.fieldLink RX13 199 "QuietCutModel" "rule" "[I").before args s = true := hts _ (List.mem_of_getElem? (i := 1) rfl)
  have w_4 : (Cond.fieldLink RX13 204 "QuietCutModel" "sway" "[I").before args s = true := hts _ (List.mem_of_getElem? (i := 5) rfl)
  have w_5 : (Cond.fieldLink RX13 83 "QuietCutModel" "readSway" "[I").before args s = true := hts _ (List.mem_of_getElem? (i := 6) rfl)
  have w_6 : (Cond.fieldLink RX13 202 "QuietCutModel" "teeth" "[I").before args s = true := hts _ (List.mem_of_getElem? (i := 3) rfl)
  have w_7 : (Cond.fieldLink RX13 80 "QuietCutModel" "readTeeth" "[I").before args s = true := hts _ (List.mem_of_getElem? (i := 4) rfl)
  have w_8 : (Cond.fieldLink RX13 76 "QuietCutModel" "readRule" "[I").before args s = true := hts _ (List.mem_of_getElem? (i := 2) rfl)
  have J_90 : ∀ (fuel : Nat) (x90_1 : Int32) (Gj90 : gS), (2147483647 - x90_1.toInt).toNat < fuel → (0 ≤ x90_1.toInt ∧ x90_1.toInt ≤ 3) → (yI Gj90) → (gu_un ycd [300, 500, 700, 1000, 1100, 1200] G Gj90) → (yTk x90_1.toInt Gj90) → (yTe x90_1.toInt G Gj90) → ((∀ q : Nat, q < 12 → Gj90 3 q = G 4 q) ∧ (∀ q : Nat, (q : Int) < (G 4 10).toInt → Gj90 5 q = G 6 q) ∧ (∀ q : Nat, (q : Int) < (G 4 11).toInt → Gj90 7 q = G 8 q)) → gG p l e (gR 1 0 0 40) s m args below meth c D A 3 Q 0 0 (yW K a Gj90) (tK K) [(0, .ref (a 0)), (1, .int x90_1)] 90 [] := by
    intro fuel
    induction fuel with
    | zero => intro x90_1 Gj90 hm; exact absurd hm (Nat.not_lt_zero _)
    | succ fuel_90 ih_90 =>
      intro x90_1 Gj90 hm_90 h90_1 jI90 jU90 tk te rf90
      have J_111 : ∀ (fuel : Nat) (x111_2 : Int32) (Gj111 : gS), (2147483647 - x111_2.toInt).toNat < fuel → (0 ≤ x90_1.toInt ∧ x90_1.toInt ≤ 2) → (0 ≤ x111_2.toInt ∧ x111_2.toInt ≤ 80) → (yI Gj111) → (gu_un ycd [1000, 1100, 1200] Gj90 Gj111) → (yTi x90_1.toInt x111_2.toInt Gj111) → ((0 ≤ x90_1.toInt ∧ x90_1.toInt ≤ 2)) → (yTf x90_1.toInt x111_2.toInt G Gj111) → ((∀ q : Nat, q < 12 → Gj111 3 q = G 4 q) ∧ (∀ q : Nat, (q : Int) < (G 4 10).toInt → Gj111 5 q = G 6 q) ∧ (∀ q : Nat, (q : Int) < (G 4 11).toInt → Gj111 7 q = G 8 q)) → gG p l e (gR 1 0 0 40) s m args below meth c D A 3 Q 0 0 (yW K a Gj111) (tK K) [(0, .ref (a 0)), (1, .int x90_1), (2, .int x111_2)] 111 [] := by
        intro fuel
        induction fuel with
        | zero => intro x111_2 Gj111 hm; exact absurd hm (Nat.not_lt_zero _)
        | succ fuel_111 ih_111 =>
          intro x111_2 Gj111 hm_111 k111_1 h111_2 jI111 jU111 ti wb tf rf111
          refine g_iload_n F 2 dX13_takeShop_111 rfl rfl ?_
          refine g_aload_n F 0 dX13_takeShop_112 rfl rfl ?_
          refine yg_0_19 F i_X13 w_0 dX13_takeShop_113 ?_
          refine g_iload_n F 1 dX13_takeShop_116 rfl rfl ?_
          refine u1_iald F 12 0 yc_12 rfl x90_1.toInt rfl (by omega) (by omega) dX13_takeShop_117 ((Gj111 12) (x90_1.toInt).toNat) (rfl) ?_
          have b1 : (0 : Int) ≤ ((Gj111 12) (x90_1.toInt).toNat).toInt ∧ ((Gj111 12) (x90_1.toInt).toNat).toInt ≤ 80 := jI111 12 _
          refine v_icmp_ge F 175 dX13_takeShop_118 (by decide) x111_2.toInt ((Gj111 12) (x90_1.toInt).toNat).toInt rfl rfl (fun c2 => ?_) (fun c2 => ?_)
          · refine u_iinc F (fun v_ => [(1, .int v_), (0, .ref (a 0)), (2, .int x111_2)]) dX13_takeShop_175 (j := 1) rfl x90_1.toInt 1 rfl rfl (by omega) (by omega) (by decide) (fun _ => rfl) (fun y3 ey3 => ?_)
            refine g_goto F 90 dX13_takeShop_178 (by decide) ?_
            refine g_locals [(0, .ref (a 0)), (1, .int y3)] [1, 0] rfl ?_
            exact ih_90 y3 Gj111 (by omega) (by have h9 := ti_rng y3; omega) jI111 (gu_un.tr (gu_un.tr gu_un.rf (gu_un.su jU90 rfl)) (gu_un.su jU111 rfl)) (by rw [show y3.toInt = x90_1.toInt + 1 by omega]; exact yTi.fin ti (by omega) (by omega) (by omega)) (yTf.fin tf (by omega) (by omega) (show (0 : Int) ≤ (Gj111 12 x90_1.toInt.toNat).toInt from (jI111 12 _).1) (by omega) (by omega)) (⟨(fun q hq => ((show gu_un ycd [] Gj111 Gj111 from gu_un.rf) 3 q (by simp [ycd])).trans (rf111.1 q hq)), (fun q hq => ((show gu_un ycd [] Gj111 Gj111 from gu_un.rf) 5 q (by simp [ycd])).trans (rf111.2.1 q hq)), (fun q hq => ((show gu_un ycd [] Gj111 Gj111 from gu_un.rf) 7 q (by simp [ycd])).trans (rf111.2.2 q hq))⟩)
          · refine g_aload_n F 0 dX13_takeShop_121 rfl rfl ?_
            refine yg_0_17 F i_X13 w_1 dX13_takeShop_122 ?_
            refine g_bipush F 80 dX13_takeShop_125 (by decide) ?_
            refine g_iload_n F 1 dX13_takeShop_127 rfl rfl ?_
            refine u_imul F dX13_takeShop_128 80 x90_1.toInt rfl rfl (by omega) (by omega) (fun y4 ey4 => ?_)
            refine g_iload_n F 2 dX13_takeShop_129 rfl rfl ?_
            refine u_iadd F dX13_takeShop_130 y4.toInt x111_2.toInt rfl rfl (by omega) (by omega) (fun y5 ey5 => ?_)
            refine g_aload_n F 0 dX13_takeShop_131 rfl rfl ?_
            refine yg_0_17 F i_X13 w_1 dX13_takeShop_132 ?_
            refine g_bipush F 80 dX13_takeShop_135 (by decide) ?_
            refine g_iconst F 3 dX13_takeShop_137 (by decide) ?_
            refine g_iload_n F 1 dX13_takeShop_138 rfl rfl ?_
            refine u_iadd F dX13_takeShop_139 3 x90_1.toInt rfl rfl (by omega) (by omega) (fun y6 ey6 => ?_)
            refine u_imul F dX13_takeShop_140 80 y6.toInt rfl rfl (by omega) (by omega) (fun y7 ey7 => ?_)
            refine g_iload_n F 2 dX13_takeShop_141 rfl rfl ?_
            refine u_iadd F dX13_takeShop_142 y7.toInt x111_2.toInt rfl rfl (by omega) (by omega) (fun y8 ey8 => ?_)
            refine u1_iald F 10 0 yc_10 rfl y8.toInt rfl (by omega) (by omega) dX13_takeShop_143 ((Gj111 10) (((80 * (3 + x90_1.toInt)) + x111_2.toInt)).toNat) (by rw [show y8.toInt = ((80 * (3 + x90_1.toInt)) + x111_2.toInt) by omega] <;> rfl) ?_
            have b9 : (0 : Int) ≤ ((Gj111 10) (((80 * (3 + x90_1.toInt)) + x111_2.toInt)).toNat).toInt ∧ ((Gj111 10) (((80 * (3 + x90_1.toInt)) + x111_2.toInt)).toNat).toInt ≤ 2 := jI111 10 _
            refine u_iast F 10 0 yc_10 rfl y5.toInt rfl (by omega) (by omega) (yW K a (gu_up Gj111 10 (y5.toInt).toNat ((Gj111 10) (((80 * (3 + x90_1.toInt)) + x111_2.toInt)).toNat))) (ys_10 _) dX13_takeShop_144 ?_
            refine g_aload_n F 0 dX13_takeShop_145 rfl rfl ?_
            refine yg_0_18 F i_X13 w_2 dX13_takeShop_146 ?_
            refine g_bipush F 80 dX13_takeShop_149 (by decide) ?_
            refine g_iload_n F 1 dX13_takeShop_151 rfl rfl ?_
            refine u_imul F dX13_takeShop_152 80 x90_1.toInt rfl rfl (by omega) (by omega) (fun y10 ey10 => ?_)
            refine g_iload_n F 2 dX13_takeShop_153 rfl rfl ?_
            refine u_iadd F dX13_takeShop_154 y10.toInt x111_2.toInt rfl rfl (by omega) (by omega) (fun y11 ey11 => ?_)
            refine g_aload_n F 0 dX13_takeShop_155 rfl rfl ?_
            refine yg_0_18 F i_X13 w_2 dX13_takeShop_156 ?_
            refine g_bipush F 80 dX13_takeShop_159 (by decide) ?_
            refine g_iconst F 3 dX13_takeShop_161 (by decide) ?_
            refine g_iload_n F 1 dX13_takeShop_162 rfl rfl ?_
            refine u_iadd F dX13_takeShop_163 3 x90_1.toInt rfl rfl (by omega) (by omega) (fun y12 ey12 => ?_)
            refine u_imul F dX13_takeShop_164 80 y12.toInt rfl rfl (by omega) (by omega) (fun y13 ey13 => ?_)
            refine g_iload_n F 2 dX13_takeShop_165 rfl rfl ?_
            refine u_iadd F dX13_takeShop_166 y13.toInt x111_2.toInt rfl rfl (by omega) (by omega) (fun y14 ey14 => ?_)
            refine u1_iald F 11 0 yc_11 rfl y14.toInt rfl (by omega) (by omega) dX13_takeShop_167 ((Gj111 11) (((80 * (3 + x90_1.toInt)) + x111_2.toInt)).toNat) (by rw [show y14.toInt = ((80 * (3 + x90_1.toInt)) + x111_2.toInt) by omega] <;> rfl) ?_
            have b15 : (0 : Int) ≤ ((Gj111 11) (((80 * (3 + x90_1.toInt)) + x111_2.toInt)).toNat).toInt ∧ ((Gj111 11) (((80 * (3 + x90_1.toInt)) + x111_2.toInt)).toNat).toInt ≤ 9999 := jI111 11 _
            refine u_iast F 11 0 yc_11 rfl y11.toInt rfl (by omega) (by omega) (yW K a (gu_up (gu_up Gj111 10 (y5.toInt).toNat ((Gj111 10) (((80 * (3 + x90_1.toInt)) + x111_2.toInt)).toNat)) 11 (y11.toInt).toNat ((Gj111 11) (((80 * (3 + x90_1.toInt)) + x111_2.toInt)).toNat))) (ys_11 _) dX13_takeShop_168 ?_
            refine u_iinc F (fun v_ => [(2, .int v_), (0, .ref (a 0)), (1, .int x90_1)]) dX13_takeShop_169 (j := 2) rfl x111_2.toInt 1 rfl rfl (by omega) (by omega) (by decide) (fun _ => rfl) (fun y16 ey16 => ?_)
            refine g_goto F 111 dX13_takeShop_172 (by decide) ?_
            refine g_locals [(0, .ref (a 0)), (1, .int x90_1), (2, .int y16)] [1, 2, 0] rfl ?_
            exact ih_111 y16 (gu_up (gu_up Gj111 10 (y5.toInt).toNat ((Gj111 10) (((80 * (3 + x90_1.toInt)) + x111_2.toInt)).toNat)) 11 (y11.toInt).toNat ((Gj111 11) (((80 * (3 + x90_1.toInt)) + x111_2.toInt)).toNat)) (by omega) (by have h9 := ti_rng x90_1; omega) (by have h9 := ti_rng y16; omega) (gu_I.up (j := 11) (k := (y11.toInt).toNat) (v := ((Gj111 11) (((80 * (3 + x90_1.toInt)) + x111_2.toInt)).toNat)) (gu_I.up (j := 10) (k := (y5.toInt).toNat) (v := ((Gj111 10) (((80 * (3 + x90_1.toInt)) + x111_2.toInt)).toNat)) jI111 (show (0 : Int) ≤ Int32.toInt ((Gj111 10) (((80 * (3 + x90_1.toInt)) + x111_2.toInt)).toNat) by omega) (show Int32.toInt ((Gj111 10) (((80 * (3 + x90_1.toInt)) + x111_2.toInt)).toNat) ≤ 2 by omega)) (show (0 : Int) ≤ Int32.toInt ((Gj111 11) (((80 * (3 + x90_1.toInt)) + x111_2.toInt)).toNat) by omega) (show Int32.toInt ((Gj111 11) (((80 * (3 + x90_1.toInt)) + x111_2.toInt)).toNat) ≤ 9999 by omega)) (gu_un.up (j := 11) (k := (y11.toInt).toNat) (v := ((Gj111 11) (((80 * (3 + x90_1.toInt)) + x111_2.toInt)).toNat)) (gu_un.up (j := 10) (k := (y5.toInt).toNat) (v := ((Gj111 10) (((80 * (3 + x90_1.toInt)) + x111_2.toInt)).toNat)) (gu_un.tr gu_un.rf (gu_un.su jU111 rfl)) (show (1000 : Nat) ∈ ([1000, 1100, 1200] : List Nat) by decide)) (show (1100 : Nat) ∈ ([1000, 1100, 1200] : List Nat) by decide)) (by rw [show y16.toInt = x111_2.toInt + 1 by omega]; exact yTi.step ti jI111 (by omega) (by omega) (by omega) (by omega) (by omega) (by omega) rfl rfl) (by (first | omega | (simp only [Int32.reduceToInt, true_and, and_true, ne_eq, not_true_eq_false, false_and, or_false, false_or, true_or, or_true, false_implies] <;> omega))) (yTf.step tf jI111 (by omega) (by omega) (by omega) (by omega) (by omega) (by omega) rfl rfl (by omega)) (⟨(fun q hq => ((show gu_un ycd [1000, 1100] Gj111 (gu_up (gu_up Gj111 10 (y5.toInt).toNat ((Gj111 10) (((80 * (3 + x90_1.toInt)) + x111_2.toInt)).toNat)) 11 (y11.toInt).toNat ((Gj111 11) (((80 * (3 + x90_1.toInt)) + x111_2.toInt)).toNat)) from (gu_un.up (j := 11) (k := (y11.toInt).toNat) (v := ((Gj111 11) (((80 * (3 + x90_1.toInt)) + x111_2.toInt)).toNat)) (gu_un.up (j := 10) (k := (y5.toInt).toNat) (v := ((Gj111 10) (((80 * (3 + x90_1.toInt)) + x111_2.toInt)).toNat)) gu_un.rf (show (1000 : Nat) ∈ ([1000, 1100] : List Nat) by decide)) (show (1100 : Nat) ∈ ([1000, 1100] : List Nat) by decide))) 3 q (by simp [ycd])).trans (rf111.1 q hq)), (fun q hq => ((show gu_un ycd [1000, 1100] Gj111 (gu_up (gu_up Gj111 10 (y5.toInt).toNat ((Gj111 10) (((80 * (3 + x90_1.toInt)) + x111_2.toInt)).toNat)) 11 (y11.toInt).toNat ((Gj111 11) (((80 * (3 + x90_1.toInt)) + x111_2.toInt)).toNat)) from (gu_un.up (j := 11) (k := (y11.toInt).toNat) (v := ((Gj111 11) (((80 * (3 + x90_1.toInt)) + x111_2.toInt)).toNat)) (gu_un.up (j := 10) (k := (y5.toInt).toNat) (v := ((Gj111 10) (((80 * (3 + x90_1.toInt)) + x111_2.toInt)).toNat)) gu_un.rf (show (1000 : Nat) ∈ ([1000, 1100] : List Nat) by decide)) (show (1100 : Nat) ∈ ([1000, 1100] : List Nat) by decide))) 5 q (by simp [ycd])).trans (rf111.2.1 q hq)), (fun q hq => ((show gu_un ycd [1000, 1100] Gj111 (gu_up (gu_up Gj111 10 (y5.toInt).toNat ((Gj111 10) (((80 * (3 + x90_1.toInt)) + x111_2.toInt)).toNat)) 11 (y11.toInt).toNat ((Gj111 11) (((80 * (3 + x90_1.toInt)) + x111_2.toInt)).toNat)) from (gu_un.up (j := 11) (k := (y11.toInt).toNat) (v := ((Gj111 11) (((80 * (3 + x90_1.toInt)) + x111_2.toInt)).toNat)) (gu_un.up (j := 10) (k := (y5.toInt).toNat) (v := ((Gj111 10) (((80 * (3 + x90_1.toInt)) + x111_2.toInt)).toNat)) gu_un.rf (show (1000 : Nat) ∈ ([1000, 1100] : List Nat) by decide)) (show (1100 : Nat) ∈ ([1000, 1100] : List Nat) by decide))) 7 q (by simp [ycd])).trans (rf111.2.2 q hq))⟩)
      refine g_iload_n F 1 dX13_takeShop_90 rfl rfl ?_
      refine g_iconst F 3 dX13_takeShop_91 (by decide) ?_
      refine v_icmp_ge F 181 dX13_takeShop_92 (by decide) x90_1.toInt 3 rfl rfl (fun c17 => ?_) (fun c17 => ?_)
      · exact u_vret F hA hQ hr Gj90 (⟨jI90, (gu_un.tr gu_un.rf (gu_un.su jU90 rfl)), (yTk.w3 (by have h9 := tk; rw [show x90_1.toInt = 3 by omega] at h9; exact h9)), (⟨rf90.1, rf90.2.1, rf90.2.2, te.2.2 0 (by decide) (by omega), te.2.2 1 (by decide) (by omega), te.2.2 2 (by decide) (by omega)⟩)⟩) rfl rfl dX13_takeShop_181
      · refine g_aload_n F 0 dX13_takeShop_95 rfl rfl ?_
        refine yg_0_19 F i_X13 w_0 dX13_takeShop_96 ?_
        refine g_iload_n F 1 dX13_takeShop_99 rfl rfl ?_
        refine g_aload_n F 0 dX13_takeShop_100 rfl rfl ?_
        refine yg_0_19 F i_X13 w_0 dX13_takeShop_101 ?_
        refine g_iconst F 3 dX13_takeShop_104 (by decide) ?_
        refine g_iload_n F 1 dX13_takeShop_105 rfl rfl ?_
        refine u_iadd F dX13_takeShop_106 3 x90_1.toInt rfl rfl (by omega) (by omega) (fun y18 ey18 => ?_)
        refine u1_iald F 12 0 yc_12 rfl y18.toInt rfl (by omega) (by omega) dX13_takeShop_107 ((Gj90 12) ((3 + x90_1.toInt)).toNat) (by rw [show y18.toInt = (3 + x90_1.toInt) by omega] <;> rfl) ?_
        have b19 : (0 : Int) ≤ ((Gj90 12) ((3 + x90_1.toInt)).toNat).toInt ∧ ((Gj90 12) ((3 + x90_1.toInt)).toNat).toInt ≤ 80 := jI90 12 _
        refine u_iast F 12 0 yc_12 rfl x90_1.toInt rfl (by omega) (by omega) (yW K a (gu_up Gj90 12 (x90_1.toInt).toNat ((Gj90 12) ((3 + x90_1.toInt)).toNat))) (ys_12 _) dX13_takeShop_108 ?_
        refine g_iconst F 0 dX13_takeShop_109 (by decide) ?_
        refine g_istore_n F [(2, .int 0), (0, .ref (a 0)), (1, .int x90_1)] dX13_takeShop_110 rfl (by decide) rfl ?_
        refine g_locals [(0, .ref (a 0)), (1, .int x90_1), (2, .int 0)] [1, 2, 0] rfl ?_
        exact J_111 _ 0 (gu_up Gj90 12 (x90_1.toInt).toNat ((Gj90 12) ((3 + x90_1.toInt)).toNat)) (Nat.lt_succ_self _) (by have h9 := ti_rng x90_1; omega) (by decide) (gu_I.up (j := 12) (k := (x90_1.toInt).toNat) (v := ((Gj90 12) ((3 + x90_1.toInt)).toNat)) jI90 (show (0 : Int) ≤ Int32.toInt ((Gj90 12) ((3 + x90_1.toInt)).toNat) by omega) (show Int32.toInt ((Gj90 12) ((3 + x90_1.toInt)).toNat) ≤ 80 by omega)) (gu_un.up (j := 12) (k := (x90_1.toInt).toNat) (v := ((Gj90 12) ((3 + x90_1.toInt)).toNat)) gu_un.rf (show (1200 : Nat) ∈ ([1000, 1100, 1200] : List Nat) by decide)) (yTi.at0 tk (by omega) (by omega) rfl) (by (first | omega | (simp only [Int32.reduceToInt, true_and, and_true, ne_eq, not_true_eq_false, false_and, or_false, false_or, true_or, or_true, false_implies] <;> omega))) (yTf.at0 te (by omega) (by omega) rfl) (⟨(fun q hq => ((show gu_un ycd [1200] Gj90 (gu_up Gj90 12 (x90_1.toInt).toNat ((Gj90 12) ((3 + x90_1.toInt)).toNat)) from (gu_un.up (j := 12) (k := (x90_1.toInt).toNat) (v := ((Gj90 12) ((3 + x90_1.toInt)).toNat)) gu_un.rf (show (1200 : Nat) ∈ ([1200] : List Nat) by decide))) 3 q (by simp [ycd])).trans (rf90.1 q hq)), (fun q hq => ((show gu_un ycd [1200] Gj90 (gu_up Gj90 12 (x90_1.toInt).toNat ((Gj90 12) ((3 + x90_1.toInt)).toNat)) from (gu_un.up (j := 12) (k := (x90_1.toInt).toNat) (v := ((Gj90 12) ((3 + x90_1.toInt)).toNat)) gu_un.rf (show (1200 : Nat) ∈ ([1200] : List Nat) by decide))) 5 q (by simp [ycd])).trans (rf90.2.1 q hq)), (fun q hq => ((show gu_un ycd [1200] Gj90 (gu_up Gj90 12 (x90_1.toInt).toNat ((Gj90 12) ((3 + x90_1.toInt)).toNat)) from (gu_un.up (j := 12) (k := (x90_1.toInt).toNat) (v := ((Gj90 12) ((3 + x90_1.toInt)).toNat)) gu_un.rf (show (1200 : Nat) ∈ ([1200] : List Nat) by decide))) 7 q (by simp [ycd])).trans (rf90.2.2 q hq))⟩)
  have J_59 : ∀ (fuel : Nat) (x59_1 : Int32) (Gj59 : gS), (2147483647 - x59_1.toInt).toNat < fuel → (0 ≤ x59_1.toInt ∧ x59_1.toInt ≤ 6) → (yI Gj59) → (gu_un ycd [300, 500, 700] G Gj59) → (∀ q : Nat, (q : Int) < x59_1.toInt → Gj59 7 q = G 8 q) → ((∀ q : Nat, q < 12 → Gj59 3 q = G 4 q) ∧ (∀ q : Nat, (q : Int) < (G 4 10).toInt → Gj59 5 q = G 6 q)) → gG p l e (gR 1 0 0 40) s m args below meth c D A 3 Q 0 0 (yW K a Gj59) (tK K) [(0, .ref (a 0)), (1, .int x59_1)] 59 [] := by
    intro fuel
    induction fuel with
    | zero => intro x59_1 Gj59 hm; exact absurd hm (Nat.not_lt_zero _)
    | succ fuel_59 ih_59 =>
      intro x59_1 Gj59 hm_59 h59_1 jI59 jU59 cp59 rf59
      refine g_iload_n F 1 dX13_takeShop_59 rfl rfl ?_
      refine g_aload_n F 0 dX13_takeShop_60 rfl rfl ?_
      refine yg_0_10 F i_X13 w_3 dX13_takeShop_61 ?_
      refine g_bipush F 11 dX13_takeShop_64 (by decide) ?_
      refine u1_iald F 3 0 yc_3 rfl 11 rfl (by decide) (by decide) dX13_takeShop_66 (Gj59 3 11) (rfl) ?_
      have b20 : (1 : Int) ≤ (Gj59 3 11).toInt ∧ (Gj59 3 11).toInt ≤ 6 := jI59 3 11
      refine v_icmp_ge F 88 dX13_takeShop_67 (by decide) x59_1.toInt (Gj59 3 11).toInt rfl rfl (fun c21 => ?_) (fun c21 => ?_)
      · refine g_iconst F 0 dX13_takeShop_88 (by decide) ?_
        refine g_istore_n F [(1, .int 0), (0, .ref (a 0))] dX13_takeShop_89 rfl (by decide) rfl ?_
        refine g_locals [(0, .ref (a 0)), (1, .int 0)] [1, 0] rfl ?_
        exact J_90 _ 0 Gj59 (Nat.lt_succ_self _) (by decide) jI59 (gu_un.tr gu_un.rf (gu_un.su jU59 rfl)) (yTk.at0 (yV3.un v3 (show gu_un ycd [300, 500, 700] G Gj59 from (gu_un.tr gu_un.rf (gu_un.su jU59 rfl))) rfl)) (yTe.at0 (show gu_un ycd [300, 500, 700] G Gj59 from (gu_un.tr gu_un.rf (gu_un.su jU59 rfl))) rfl) (⟨(fun q hq => ((show gu_un ycd [] Gj59 Gj59 from gu_un.rf) 3 q (by simp [ycd])).trans (rf59.1 q hq)), (fun q hq => ((show gu_un ycd [] Gj59 Gj59 from gu_un.rf) 5 q (by simp [ycd])).trans (rf59.2 q hq)), (fun q hq => ((show gu_un ycd [] Gj59 Gj59 from gu_un.rf) 7 q (by simp [ycd])).trans (by have h8 : Gj59 3 11 = G 4 11 := rf59.1 11 (by decide); have h7 : (Gj59 3 11).toInt = (G 4 11).toInt := congrArg Int32.toInt h8; exact cp59 q (by omega)))⟩)
      · refine g_aload_n F 0 dX13_takeShop_70 rfl rfl ?_
        refine yg_0_14 F i_X13 w_4 dX13_takeShop_71 ?_
        refine g_iload_n F 1 dX13_takeShop_74 rfl rfl ?_
        refine g_aload_n F 0 dX13_takeShop_75 rfl rfl ?_
        refine yg_0_15 F i_X13 w_5 dX13_takeShop_76 ?_
        refine g_iload_n F 1 dX13_takeShop_79 rfl rfl ?_
        refine u1_iald F 8 0 yc_8 rfl x59_1.toInt rfl (by omega) (by omega) dX13_takeShop_80 ((G 8) (x59_1.toInt).toNat) (congrFun ((show Gj59 8 = G 8 from funext fun k_ => jU59 8 k_ (show (800 : Nat) ∉ ([300, 500, 700] : List Nat) by decide))) _) ?_
        have b22 : (0 : Int) ≤ ((G 8) (x59_1.toInt).toNat).toInt ∧ ((G 8) (x59_1.toInt).toNat).toInt ≤ 9 := hI 8 _
        refine u_iast F 7 0 yc_7 rfl x59_1.toInt rfl (by omega) (by omega) (yW K a (gu_up Gj59 7 (x59_1.toInt).toNat ((G 8) (x59_1.toInt).toNat))) (ys_7 _) dX13_takeShop_81 ?_
        refine u_iinc F (fun v_ => [(1, .int v_), (0, .ref (a 0))]) dX13_takeShop_82 (j := 1) rfl x59_1.toInt 1 rfl rfl (by omega) (by omega) (by decide) (fun _ => rfl) (fun y23 ey23 => ?_)
        refine g_goto F 59 dX13_takeShop_85 (by decide) ?_
        refine g_locals [(0, .ref (a 0)), (1, .int y23)] [1, 0] rfl ?_
        exact ih_59 y23 (gu_up Gj59 7 (x59_1.toInt).toNat ((G 8) (x59_1.toInt).toNat)) (by omega) (by have h9 := ti_rng y23; omega) (gu_I.up (j := 7) (k := (x59_1.toInt).toNat) (v := ((G 8) (x59_1.toInt).toNat)) jI59 (show (0 : Int) ≤ Int32.toInt ((G 8) (x59_1.toInt).toNat) by omega) (show Int32.toInt ((G 8) (x59_1.toInt).toNat) ≤ 9 by omega)) (gu_un.up (j := 7) (k := (x59_1.toInt).toNat) (v := ((G 8) (x59_1.toInt).toNat)) (gu_un.tr gu_un.rf (gu_un.su jU59 rfl)) (show (700 : Nat) ∈ ([300, 500, 700] : List Nat) by decide)) (cp_1 (by omega) (by omega) cp59 rfl) (⟨(fun q hq => ((show gu_un ycd [700] Gj59 (gu_up Gj59 7 (x59_1.toInt).toNat ((G 8) (x59_1.toInt).toNat)) from (gu_un.up (j := 7) (k := (x59_1.toInt).toNat) (v := ((G 8) (x59_1.toInt).toNat)) gu_un.rf (show (700 : Nat) ∈ ([700] : List Nat) by decide))) 3 q (by simp [ycd])).trans (rf59.1 q hq)), (fun q hq => ((show gu_un ycd [700] Gj59 (gu_up Gj59 7 (x59_1.toInt).toNat ((G 8) (x59_1.toInt).toNat)) from (gu_un.up (j := 7) (k := (x59_1.toInt).toNat) (v := ((G 8) (x59_1.toInt).toNat)) gu_un.rf (show (700 : Nat) ∈ ([700] : List Nat) by decide))) 5 q (by simp [ycd])).trans (rf59.2 q hq))⟩)
  have J_28 : ∀ (fuel : Nat) (x28_1 : Int32) (Gj28 : gS), (2147483647 - x28_1.toInt).toNat < fuel → (0 ≤ x28_1.toInt ∧ x28_1.toInt ≤ 4) → (yI Gj28) → (gu_un ycd [300, 500] G Gj28) → (∀ q : Nat, (q : Int) < x28_1.toInt → Gj28 5 q = G 6 q) → ((∀ q : Nat, q < 12 → Gj28 3 q = G 4 q)) → gG p l e (gR 1 0 0 40) s m args below meth c D A 3 Q 0 0 (yW K a Gj28) (tK K) [(0, .ref (a 0)), (1, .int x28_1)] 28 [] := by
    intro fuel
    induction fuel with
    | zero => intro x28_1 Gj28 hm; exact absurd hm (Nat.not_lt_zero _)
    | succ fuel_28 ih_28 =>
      intro x28_1 Gj28 hm_28 h28_1 jI28 jU28 cp28 rf28
      refine g_iload_n F 1 dX13_takeShop_28 rfl rfl ?_
      refine g_aload_n F 0 dX13_takeShop_29 rfl rfl ?_
      refine yg_0_10 F i_X13 w_3 dX13_takeShop_30 ?_
      refine g_bipush F 10 dX13_takeShop_33 (by decide) ?_
      refine u1_iald F 3 0 yc_3 rfl 10 rfl (by decide) (by decide) dX13_takeShop_35 (Gj28 3 10) (rfl) ?_
      have b24 : (1 : Int) ≤ (Gj28 3 10).toInt ∧ (Gj28 3 10).toInt ≤ 4 := jI28 3 10
      refine v_icmp_ge F 57 dX13_takeShop_36 (by decide) x28_1.toInt (Gj28 3 10).toInt rfl rfl (fun c25 => ?_) (fun c25 => ?_)
      · refine g_iconst F 0 dX13_takeShop_57 (by decide) ?_
        refine g_istore_n F [(1, .int 0), (0, .ref (a 0))] dX13_takeShop_58 rfl (by decide) rfl ?_
        refine g_locals [(0, .ref (a 0)), (1, .int 0)] [1, 0] rfl ?_
        exact J_59 _ 0 Gj28 (Nat.lt_succ_self _) (by decide) jI28 (gu_un.tr gu_un.rf (gu_un.su jU28 rfl)) (fun q hq => by have h9 : (q : Int) < 0 := hq; omega) (⟨(fun q hq => ((show gu_un ycd [] Gj28 Gj28 from gu_un.rf) 3 q (by simp [ycd])).trans (rf28 q hq)), (fun q hq => ((show gu_un ycd [] Gj28 Gj28 from gu_un.rf) 5 q (by simp [ycd])).trans (by have h8 : Gj28 3 10 = G 4 10 := rf28 10 (by decide); have h7 : (Gj28 3 10).toInt = (G 4 10).toInt := congrArg Int32.toInt h8; exact cp28 q (by omega)))⟩)
      · refine g_aload_n F 0 dX13_takeShop_39 rfl rfl ?_
        refine yg_0_12 F i_X13 w_6 dX13_takeShop_40 ?_
        refine g_iload_n F 1 dX13_takeShop_43 rfl rfl ?_
        refine g_aload_n F 0 dX13_takeShop_44 rfl rfl ?_
        refine yg_0_13 F i_X13 w_7 dX13_takeShop_45 ?_
        refine g_iload_n F 1 dX13_takeShop_48 rfl rfl ?_
        refine u1_iald F 6 0 yc_6 rfl x28_1.toInt rfl (by omega) (by omega) dX13_takeShop_49 ((G 6) (x28_1.toInt).toNat) (congrFun ((show Gj28 6 = G 6 from funext fun k_ => jU28 6 k_ (show (600 : Nat) ∉ ([300, 500] : List Nat) by decide))) _) ?_
        have b26 : (0 : Int) ≤ ((G 6) (x28_1.toInt).toNat).toInt ∧ ((G 6) (x28_1.toInt).toNat).toInt ≤ 15 := hI 6 _
        refine u_iast F 5 0 yc_5 rfl x28_1.toInt rfl (by omega) (by omega) (yW K a (gu_up Gj28 5 (x28_1.toInt).toNat ((G 6) (x28_1.toInt).toNat))) (ys_5 _) dX13_takeShop_50 ?_
        refine u_iinc F (fun v_ => [(1, .int v_), (0, .ref (a 0))]) dX13_takeShop_51 (j := 1) rfl x28_1.toInt 1 rfl rfl (by omega) (by omega) (by decide) (fun _ => rfl) (fun y27 ey27 => ?_)
        refine g_goto F 28 dX13_takeShop_54 (by decide) ?_
        refine g_locals [(0, .ref (a 0)), (1, .int y27)] [1, 0] rfl ?_
        exact ih_28 y27 (gu_up Gj28 5 (x28_1.toInt).toNat ((G 6) (x28_1.toInt).toNat)) (by omega) (by have h9 := ti_rng y27; omega) (gu_I.up (j := 5) (k := (x28_1.toInt).toNat) (v := ((G 6) (x28_1.toInt).toNat)) jI28 (show (0 : Int) ≤ Int32.toInt ((G 6) (x28_1.toInt).toNat) by omega) (show Int32.toInt ((G 6) (x28_1.toInt).toNat) ≤ 15 by omega)) (gu_un.up (j := 5) (k := (x28_1.toInt).toNat) (v := ((G 6) (x28_1.toInt).toNat)) (gu_un.tr gu_un.rf (gu_un.su jU28 rfl)) (show (500 : Nat) ∈ ([300, 500] : List Nat) by decide)) (cp_1 (by omega) (by omega) cp28 rfl) ((fun q hq => ((show gu_un ycd [500] Gj28 (gu_up Gj28 5 (x28_1.toInt).toNat ((G 6) (x28_1.toInt).toNat)) from (gu_un.up (j := 5) (k := (x28_1.toInt).toNat) (v := ((G 6) (x28_1.toInt).toNat)) gu_un.rf (show (500 : Nat) ∈ ([500] : List Nat) by decide))) 3 q (by simp [ycd])).trans (rf28 q hq)))
  have J_2 : ∀ (fuel : Nat) (x2_1 : Int32) (Gj2 : gS), (2147483647 - x2_1.toInt).toNat < fuel → (0 ≤ x2_1.toInt ∧ x2_1.toInt ≤ 12) → (yI Gj2) → (gu_un ycd [300] G Gj2) → (∀ q : Nat, (q : Int) < x2_1.toInt → Gj2 3 q = G 4 q) → gG p l e (gR 1 0 0 40) s m args below meth c D A 3 Q 0 0 (yW K a Gj2) (tK K) [(0, .ref (a 0)), (1, .int x2_1)] 2 [] := by
    intro fuel
    induction fuel with
    | zero => intro x2_1 Gj2 hm; exact absurd hm (Nat.not_lt_zero _)
    | succ fuel_2 ih_2 =>
      intro x2_1 Gj2 hm_2 h2_1 jI2 jU2 cp2
      refine g_iload_n F 1 dX13_takeShop_2 rfl rfl ?_
      refine g_bipush F 12 dX13_takeShop_3 (by decide) ?_
      refine v_icmp_ge F 26 dX13_takeShop_5 (by decide) x2_1.toInt 12 rfl rfl (fun c28 => ?_) (fun c28 => ?_)
      · refine g_iconst F 0 dX13_takeShop_26 (by decide) ?_
        refine g_istore_n F [(1, .int 0), (0, .ref (a 0))] dX13_takeShop_27 rfl (by decide) rfl ?_
        refine g_locals [(0, .ref (a 0)), (1, .int 0)] [1, 0] rfl ?_
        exact J_28 _ 0 Gj2 (Nat.lt_succ_self _) (by decide) jI2 (gu_un.tr gu_un.rf (gu_un.su jU2 rfl)) (fun q hq => by have h9 : (q : Int) < 0 := hq; omega) ((fun q hq => ((show gu_un ycd [] Gj2 Gj2 from gu_un.rf) 3 q (by simp [ycd])).trans (cp2 q (by omega))))
      · refine g_aload_n F 0 dX13_takeShop_8 rfl rfl ?_
        refine yg_0_10 F i_X13 w_3 dX13_takeShop_9 ?_
        refine g_iload_n F 1 dX13_takeShop_12 rfl rfl ?_
        refine g_aload_n F 0 dX13_takeShop_13 rfl rfl ?_
        refine yg_0_11 F i_X13 w_8 dX13_takeShop_14 ?_
        refine g_iload_n F 1 dX13_takeShop_17 rfl rfl ?_
        refine u1_iald F 4 0 yc_4 rfl x2_1.toInt rfl (by omega) (by omega) dX13_takeShop_18 ((G 4) (x2_1.toInt).toNat) (congrFun ((show Gj2 4 = G 4 from funext fun k_ => jU2 4 k_ (show (400 : Nat) ∉ ([300] : List Nat) by decide))) _) ?_
        refine u_iast F 3 0 yc_3 rfl x2_1.toInt rfl (by omega) (by omega) (yW K a (gu_up Gj2 3 (x2_1.toInt).toNat ((G 4) (x2_1.toInt).toNat))) (ys_3 _) dX13_takeShop_19 ?_
        refine u_iinc F (fun v_ => [(1, .int v_), (0, .ref (a 0))]) dX13_takeShop_20 (j := 1) rfl x2_1.toInt 1 rfl rfl (by omega) (by omega) (by decide) (fun _ => rfl) (fun y29 ey29 => ?_)
        refine g_goto F 2 dX13_takeShop_23 (by decide) ?_
        refine g_locals [(0, .ref (a 0)), (1, .int y29)] [1, 0] rfl ?_
        exact ih_2 y29 (gu_up Gj2 3 (x2_1.toInt).toNat ((G 4) (x2_1.toInt).toNat)) (by omega) (by have h9 := ti_rng y29; omega) (gu_I.up (j := 3) (k := (x2_1.toInt).toNat) (v := ((G 4) (x2_1.toInt).toNat)) jI2 (hI 4 _).1 (hI 4 _).2) (gu_un.up (j := 3) (k := (x2_1.toInt).toNat) (v := ((G 4) (x2_1.toInt).toNat)) (gu_un.tr gu_un.rf (gu_un.su jU2 rfl)) (show (300 : Nat) ∈ ([300] : List Nat) by decide)) (cp_1 (by omega) (by omega) cp2 rfl)
  refine g_iconst F 0 dX13_takeShop_0 (by decide) ?_
  refine g_istore_n F [(1, .int 0), (0, .ref (a 0))] dX13_takeShop_1 rfl (by decide) rfl ?_
  refine g_locals [(0, .ref (a 0)), (1, .int 0)] [1, 0] rfl ?_
  exact J_2 _ 0 G (Nat.lt_succ_self _) (by decide) hI gu_un.rf (fun q hq => by have h9 : (q : Int) < 0 := hq; omega)

theorem dX13_readClause_0 : decode cX13_readClause 0 = .ok (.iload_n 1, 1) := by decide +kernel
theorem dX13_readClause_1 : decode cX13_readClause 1 = .ok (.tableswitch 215 0 9 #[55, 71, 87, 103, 111, 119, 137, 155, 172, 193], 55) := by decide +kernel
theorem dX13_readClause_56 : decode cX13_readClause 56 = .ok (.aload_n 0, 1) := by decide +kernel
theorem dX13_readClause_57 : decode cX13_readClause 57 = .ok (.getfield 76, 3) := by decide +kernel
theorem dX13_readClause_60 : decode cX13_readClause 60 = .ok (.iconst 0, 1) := by decide +kernel
theorem dX13_readClause_61 : decode cX13_readClause 61 = .ok (.aload_n 0, 1) := by decide +kernel
theorem dX13_readClause_62 : decode cX13_readClause 62 = .ok (.iconst 4, 1) := by decide +kernel
theorem dX13_readClause_63 : decode cX13_readClause 63 = .ok (.bipush 16, 2) := by decide +kernel
theorem dX13_readClause_65 : decode cX13_readClause 65 = .ok (.invokevirtual 180, 3) := by decide +kernel
theorem dX13_readClause_68 : decode cX13_readClause 68 = .ok (.iastore, 1) := by decide +kernel
theorem dX13_readClause_69 : decode cX13_readClause 69 = .ok (.goto 177, 3) := by decide +kernel
theorem dX13_readClause_72 : decode cX13_readClause 72 = .ok (.aload_n 0, 1) := by decide +kernel
theorem dX13_readClause_73 : decode cX13_readClause 73 = .ok (.getfield 76, 3) := by decide +kernel
theorem dX13_readClause_76 : decode cX13_readClause 76 = .ok (.iconst 1, 1) := by decide +kernel
theorem dX13_readClause_77 : decode cX13_readClause 77 = .ok (.aload_n 0, 1) := by decide +kernel
theorem dX13_readClause_78 : decode cX13_readClause 78 = .ok (.iconst 1, 1) := by decide +kernel
theorem dX13_readClause_79 : decode cX13_readClause 79 = .ok (.bipush 6, 2) := by decide +kernel
theorem dX13_readClause_81 : decode cX13_readClause 81 = .ok (.invokevirtual 180, 3) := by decide +kernel
theorem dX13_readClause_84 : decode cX13_readClause 84 = .ok (.iastore, 1) := by decide +kernel
theorem dX13_readClause_85 : decode cX13_readClause 85 = .ok (.goto 161, 3) := by decide +kernel
theorem dX13_readClause_88 : decode cX13_readClause 88 = .ok (.aload_n 0, 1) := by decide +kernel
theorem dX13_readClause_89 : decode cX13_readClause 89 = .ok (.getfield 76, 3) := by decide +kernel
theorem dX13_readClause_92 : decode cX13_readClause 92 = .ok (.iconst 2, 1) := by decide +kernel
theorem dX13_readClause_93 : decode cX13_readClause 93 = .ok (.aload_n 0, 1) := by decide +kernel
theorem dX13_readClause_94 : decode cX13_readClause 94 = .ok (.iconst 1, 1) := by decide +kernel
theorem dX13_readClause_95 : decode cX13_readClause 95 = .ok (.bipush 99, 2) := by decide +kernel
theorem dX13_readClause_97 : decode cX13_readClause 97 = .ok (.invokevirtual 180, 3) := by decide +kernel
theorem dX13_readClause_100 : decode cX13_readClause 100 = .ok (.iastore, 1) := by decide +kernel
theorem dX13_readClause_101 : decode cX13_readClause 101 = .ok (.goto 145, 3) := by decide +kernel
theorem dX13_readClause_104 : decode cX13_readClause 104 = .ok (.aload_n 0, 1) := by decide +kernel
theorem dX13_readClause_105 : decode cX13_readClause 105 = .ok (.iconst 3, 1) := by decide +kernel
theorem dX13_readClause_106 : decode cX13_readClause 106 = .ok (.invokevirtual 183, 3) := by decide +kernel
theorem dX13_readClause_109 : decode cX13_readClause 109 = .ok (.goto 137, 3) := by decide +kernel
theorem dX13_readClause_112 : decode cX13_readClause 112 = .ok (.aload_n 0, 1) := by decide +kernel
theorem dX13_readClause_113 : decode cX13_readClause 113 = .ok (.iconst 5, 1) := by decide +kernel
theorem dX13_readClause_114 : decode cX13_readClause 114 = .ok (.invokevirtual 183, 3) := by decide +kernel
theorem dX13_readClause_117 : decode cX13_readClause 117 = .ok (.goto 129, 3) := by decide +kernel
theorem dX13_readClause_120 : decode cX13_readClause 120 = .ok (.aload_n 0, 1) := by decide +kernel
theorem dX13_readClause_121 : decode cX13_readClause 121 = .ok (.getfield 76, 3) := by decide +kernel
theorem dX13_readClause_124 : decode cX13_readClause 124 = .ok (.bipush 7, 2) := by decide +kernel
theorem dX13_readClause_126 : decode cX13_readClause 126 = .ok (.aload_n 0, 1) := by decide +kernel
theorem dX13_readClause_127 : decode cX13_readClause 127 = .ok (.iconst 1, 1) := by decide +kernel
theorem dX13_readClause_128 : decode cX13_readClause 128 = .ok (.sipush 9999, 3) := by decide +kernel
theorem dX13_readClause_131 : decode cX13_readClause 131 = .ok (.invokevirtual 180, 3) := by decide +kernel
theorem dX13_readClause_134 : decode cX13_readClause 134 = .ok (.iastore, 1) := by decide +kernel
theorem dX13_readClause_135 : decode cX13_readClause 135 = .ok (.goto 111, 3) := by decide +kernel
theorem dX13_readClause_138 : decode cX13_readClause 138 = .ok (.aload_n 0, 1) := by decide +kernel
theorem dX13_readClause_139 : decode cX13_readClause 139 = .ok (.getfield 76, 3) := by decide +kernel
theorem dX13_readClause_142 : decode cX13_readClause 142 = .ok (.bipush 8, 2) := by decide +kernel
theorem dX13_readClause_144 : decode cX13_readClause 144 = .ok (.aload_n 0, 1) := by decide +kernel
theorem dX13_readClause_145 : decode cX13_readClause 145 = .ok (.iconst 0, 1) := by decide +kernel
theorem dX13_readClause_146 : decode cX13_readClause 146 = .ok (.sipush 9999, 3) := by decide +kernel
theorem dX13_readClause_149 : decode cX13_readClause 149 = .ok (.invokevirtual 180, 3) := by decide +kernel
theorem dX13_readClause_152 : decode cX13_readClause 152 = .ok (.iastore, 1) := by decide +kernel
theorem dX13_readClause_153 : decode cX13_readClause 153 = .ok (.goto 93, 3) := by decide +kernel
theorem dX13_readClause_156 : decode cX13_readClause 156 = .ok (.aload_n 0, 1) := by decide +kernel
theorem dX13_readClause_157 : decode cX13_readClause 157 = .ok (.getfield 76, 3) := by decide +kernel
theorem dX13_readClause_160 : decode cX13_readClause 160 = .ok (.bipush 9, 2) := by decide +kernel
theorem dX13_readClause_162 : decode cX13_readClause 162 = .ok (.aload_n 0, 1) := by decide +kernel
theorem dX13_readClause_163 : decode cX13_readClause 163 = .ok (.iconst 1, 1) := by decide +kernel
theorem dX13_readClause_164 : decode cX13_readClause 164 = .ok (.bipush 12, 2) := by decide +kernel
theorem dX13_readClause_166 : decode cX13_readClause 166 = .ok (.invokevirtual 180, 3) := by decide +kernel
theorem dX13_readClause_169 : decode cX13_readClause 169 = .ok (.iastore, 1) := by decide +kernel
theorem dX13_readClause_170 : decode cX13_readClause 170 = .ok (.goto 76, 3) := by decide +kernel
theorem dX13_readClause_173 : decode cX13_readClause 173 = .ok (.aload_n 0, 1) := by decide +kernel
theorem dX13_readClause_174 : decode cX13_readClause 174 = .ok (.getfield 76, 3) := by decide +kernel
theorem dX13_readClause_177 : decode cX13_readClause 177 = .ok (.bipush 10, 2) := by decide +kernel
theorem dX13_readClause_179 : decode cX13_readClause 179 = .ok (.aload_n 0, 1) := by decide +kernel
theorem dX13_readClause_180 : decode cX13_readClause 180 = .ok (.aload_n 0, 1) := by decide +kernel
theorem dX13_readClause_181 : decode cX13_readClause 181 = .ok (.getfield 80, 3) := by decide +kernel
theorem dX13_readClause_184 : decode cX13_readClause 184 = .ok (.iconst 4, 1) := by decide +kernel
theorem dX13_readClause_185 : decode cX13_readClause 185 = .ok (.bipush 15, 2) := by decide +kernel
theorem dX13_readClause_187 : decode cX13_readClause 187 = .ok (.invokevirtual 186, 3) := by decide +kernel
theorem dX13_readClause_190 : decode cX13_readClause 190 = .ok (.iastore, 1) := by decide +kernel
theorem dX13_readClause_191 : decode cX13_readClause 191 = .ok (.goto 55, 3) := by decide +kernel
theorem dX13_readClause_194 : decode cX13_readClause 194 = .ok (.aload_n 0, 1) := by decide +kernel
theorem dX13_readClause_195 : decode cX13_readClause 195 = .ok (.getfield 76, 3) := by decide +kernel
theorem dX13_readClause_198 : decode cX13_readClause 198 = .ok (.bipush 11, 2) := by decide +kernel
theorem dX13_readClause_200 : decode cX13_readClause 200 = .ok (.aload_n 0, 1) := by decide +kernel
theorem dX13_readClause_201 : decode cX13_readClause 201 = .ok (.aload_n 0, 1) := by decide +kernel
theorem dX13_readClause_202 : decode cX13_readClause 202 = .ok (.getfield 83, 3) := by decide +kernel
theorem dX13_readClause_205 : decode cX13_readClause 205 = .ok (.bipush 6, 2) := by decide +kernel
theorem dX13_readClause_207 : decode cX13_readClause 207 = .ok (.bipush 9, 2) := by decide +kernel
theorem dX13_readClause_209 : decode cX13_readClause 209 = .ok (.invokevirtual 186, 3) := by decide +kernel
theorem dX13_readClause_212 : decode cX13_readClause 212 = .ok (.iastore, 1) := by decide +kernel
theorem dX13_readClause_213 : decode cX13_readClause 213 = .ok (.goto 33, 3) := by decide +kernel
theorem dX13_readClause_216 : decode cX13_readClause 216 = .ok (.aload_n 0, 1) := by decide +kernel
theorem dX13_readClause_217 : decode cX13_readClause 217 = .ok (.iconst 3, 1) := by decide +kernel
theorem dX13_readClause_218 : decode cX13_readClause 218 = .ok (.iload_n 1, 1) := by decide +kernel
theorem dX13_readClause_219 : decode cX13_readClause 219 = .ok (.iadd, 1) := by decide +kernel
theorem dX13_readClause_220 : decode cX13_readClause 220 = .ok (.bipush 10, 2) := by decide +kernel
theorem dX13_readClause_222 : decode cX13_readClause 222 = .ok (.isub, 1) := by decide +kernel
theorem dX13_readClause_223 : decode cX13_readClause 223 = .ok (.putfield 89, 3) := by decide +kernel
theorem dX13_readClause_226 : decode cX13_readClause 226 = .ok (.aload_n 0, 1) := by decide +kernel
theorem dX13_readClause_227 : decode cX13_readClause 227 = .ok (.getfield 86, 3) := by decide +kernel
theorem dX13_readClause_230 : decode cX13_readClause 230 = .ok (.aload_n 0, 1) := by decide +kernel
theorem dX13_readClause_231 : decode cX13_readClause 231 = .ok (.getfield 89, 3) := by decide +kernel
theorem dX13_readClause_234 : decode cX13_readClause 234 = .ok (.iconst 0, 1) := by decide +kernel
theorem dX13_readClause_235 : decode cX13_readClause 235 = .ok (.iastore, 1) := by decide +kernel
theorem dX13_readClause_236 : decode cX13_readClause 236 = .ok (.aload_n 0, 1) := by decide +kernel
theorem dX13_readClause_237 : decode cX13_readClause 237 = .ok (.iconst 0, 1) := by decide +kernel
theorem dX13_readClause_238 : decode cX13_readClause 238 = .ok (.putfield 134, 3) := by decide +kernel
theorem dX13_readClause_241 : decode cX13_readClause 241 = .ok (.aload_n 0, 1) := by decide +kernel
theorem dX13_readClause_242 : decode cX13_readClause 242 = .ok (.iconst 0, 1) := by decide +kernel
theorem dX13_readClause_243 : decode cX13_readClause 243 = .ok (.invokevirtual 128, 3) := by decide +kernel
theorem dX13_readClause_246 : decode cX13_readClause 246 = .ok (.return_, 1) := by decide +kernel
set_option maxRecDepth 20000 in
theorem ggX13_readClause_X13_number : GoodIn wsX13_readClause wsX13_number := goodIn_r _ [11, 12, 13, 14, 10, 15, 16, 17, 18, 19, 20, 21, 22, 23, 24, 25, 26, 27, 28, 29, 30, 31, 32, 33, 34, 35, 36, 37, 38, 39, 40, 41, 42, 134, 135, 136, 137, 138, 139, 140, 141, 142, 143, 144, 145, 146, 147, 148, 149, 150, 151, 152, 153, 154, 155, 156, 157, 158, 159, 160, 161, 162, 163, 164, 165, 166, 167, 168, 169, 170, 171, 172, 173, 174, 175, 176, 177, 178, 179, 180, 181, 182, 183, 184, 185, 186, 187, 188, 189, 190, 191, 192, 193, 194, 195, 196, 197, 198, 199, 200, 201, 202, 203, 204, 205, 206] rfl (by decide +kernel)
set_option maxRecDepth 20000 in
theorem gX13_readClause_X13_number : GoodIn wsX13_readClause (wsV RX13 180 RX13 yX13_number wsX13_number) := goodIn_app (goodIn_of _ (by decide +kernel)) ggX13_readClause_X13_number
set_option maxRecDepth 20000 in
theorem ggX13_readClause_X13_readRow : GoodIn wsX13_readClause wsX13_readRow := goodIn_r _ [54, 16, 12, 13, 14, 10, 15, 17, 18, 19, 20, 21, 22, 23, 24, 25, 26, 27, 28, 29, 30, 31, 32, 33, 34, 35, 36, 37, 38, 39, 40, 41, 42, 134, 135, 136, 137, 138, 139, 140, 141, 142, 143, 144, 145, 146, 147, 148, 149, 150, 151, 152, 153, 154, 155, 156, 157, 158, 159, 160, 161, 162, 163, 164, 165, 166, 167, 168, 169, 170, 171, 172, 173, 174, 175, 176, 177, 178, 179, 180, 181, 182, 183, 184, 185, 186, 187, 188, 189, 190, 191, 192, 193, 194, 195, 196, 197, 198, 199, 200, 201, 202, 203, 204, 205, 206] rfl (by decide +kernel)
set_option maxRecDepth 20000 in
theorem gX13_readClause_X13_readRow : GoodIn wsX13_readClause (wsV RX13 186 RX13 yX13_readRow wsX13_readRow) := goodIn_app (goodIn_of _ (by decide +kernel)) ggX13_readClause_X13_readRow
set_option maxRecDepth 20000 in
theorem ggX13_readClause_X13_readSpan : GoodIn wsX13_readClause wsX13_readSpan := goodIn_r _ [46, 1, 47, 48, 49, 50, 7, 8, 9, 10, 11, 12, 13, 14, 15, 16, 17, 18, 19, 20, 21, 22, 23, 24, 25, 26, 27, 28, 29, 30, 31, 32, 33, 34, 35, 36, 37, 38, 39, 40, 41, 42, 134, 135, 136, 137, 138, 139, 140, 141, 142, 143, 144, 145, 146, 147, 148, 149, 150, 151, 152, 153, 154, 155, 156, 157, 158, 159, 160, 161, 162, 163, 164, 165, 166, 167, 168, 169, 170, 171, 172, 173, 174, 175, 176, 177, 178, 179, 180, 181, 182, 183, 184, 185, 186, 187, 188, 189, 190, 191, 192, 193, 194, 195, 196, 197, 198, 199, 200, 201, 202, 203, 204, 205, 206] rfl (by decide +kernel)
set_option maxRecDepth 20000 in
theorem gX13_readClause_X13_readSpan : GoodIn wsX13_readClause (wsV RX13 183 RX13 yX13_readSpan wsX13_readSpan) := goodIn_app (goodIn_of _ (by decide +kernel)) ggX13_readClause_X13_readSpan
set_option maxRecDepth 20000 in
theorem ggX13_readClause_X13_readSum : GoodIn wsX13_readClause wsX13_readSum := goodIn_r _ [58, 17, 59, 60, 61, 10, 62, 63, 64, 65, 16, 25, 26, 27, 28, 29, 30, 31, 32, 33, 34, 35, 36, 37, 38, 39, 40, 41, 42, 66, 67, 68, 69, 70, 4, 5, 71, 72, 6, 18, 19, 20, 21, 73, 74, 75, 55, 56, 57, 76, 77, 78, 79, 80, 81, 82, 83, 84, 85, 86, 87, 88, 89, 90, 91, 92, 93, 94, 95, 96, 97, 98, 99, 100, 101, 102, 103, 104, 105, 106, 107, 108, 109, 110, 111, 112, 113, 114, 115, 116, 117, 118, 119, 120, 121, 122, 123, 124, 125, 126, 127, 128, 129, 130, 131, 132, 133, 134, 135, 136, 137, 138, 139, 140, 141, 142, 143, 144, 145, 146, 147, 148, 149, 150, 151, 152, 153, 154, 155, 156, 157, 158, 159, 160, 161, 162, 163, 164, 165, 166, 167, 168, 169, 170, 171, 172, 173, 174, 175, 176, 177, 178, 179, 180, 181, 182, 183, 184, 185, 186, 187, 188, 189, 190, 191, 192, 193, 194, 195, 196, 197, 198, 199, 200, 201, 202, 203, 204, 205, 206] rfl (by decide +kernel)
set_option maxRecDepth 20000 in
theorem gX13_readClause_X13_readSum : GoodIn wsX13_readClause (wsV RX13 128 RX13 yX13_readSum wsX13_readSum) := goodIn_app (goodIn_of _ (by decide +kernel)) ggX13_readClause_X13_readSum
def wsT_X13_readClause : List Cond := wsX13_readClause ++ wsT_nx
theorem gT_X13_readClause_X13_number : GoodIn wsT_X13_readClause (wsV RX13 180 RX13 yX13_number wsT_X13_number) := gT_call gX13_readClause_X13_number gT_nx
theorem gT_X13_readClause_X13_readSpan : GoodIn wsT_X13_readClause (wsV RX13 183 RX13 yX13_readSpan wsT_X13_readSpan) := gT_call gX13_readClause_X13_readSpan gT_nx
theorem gT_X13_readClause_X13_readRow : GoodIn wsT_X13_readClause (wsV RX13 186 RX13 yX13_readRow wsT_X13_readRow) := gT_call gX13_readClause_X13_readRow gT_nx
theorem gT_X13_readClause_X13_readSum : GoodIn wsT_X13_readClause (wsV RX13 128 RX13 yX13_readSum wsT_X13_readSum) := gT_call gX13_readClause_X13_readSum gT_nx
set_option maxHeartbeats 4000000 in
set_option maxRecDepth 100000 in
theorem S_X13_readClause (l : Launch) (D : va_G) (K : Nat → ClassId) (a : Nat → Nat) (G : gS) (qs vs : Nat → Nat) (p0 : Int32) (s0 : Int) (e0 : p0.toInt = s0) (h0 : 0 ≤ s0 ∧ s0 ≤ 12) (pb : ((G 0 5).toInt ≤ (G 0 3).toInt)) (v3 : yV3 G) (hI : yI G) (sz : Nat) : KxvZ (yZ qs vs) l yX13_readClause wsT_X13_readClause 22 504 D [.ref (a 0), .int p0] (yW K a G) (tK K) sz (fun (G' : gS) => (yI G') ∧ (gu_un ycd [5, 6, 7, 8, 9, 10, 21, 22, 400, 600, 800, 1000, 1100, 1200] G G') ∧ (((G' 0 5).toInt ≤ (G 0 3).toInt ∧ (G 0 5).toInt ≤ (G' 0 5).toInt ∧ ((G' 0 6).toInt = 0 ∨ (G 0 5).toInt < (G' 0 5).toInt))) ∧ (yV3 G') ∧ (yKp G G') ∧ (yCl s0 G G') ∧ (yFf G G')) (fun (G' : gS) => (yI G') ∧ (gu_un ycd [5, 6, 7, 8, 9, 10, 21, 22, 400, 600, 800, 1000, 1100, 1200] G G') ∧ (yKp G G') ∧ (yClT s0 G G') ∧ (((G' 0 8).toInt ≠ 0))) (a 1) (fun (G' : gS) => (yW K a G')) := by
  unfold KxvZ
  refine gxz_ofW (cc := cX13_readClause) (lv := [(0, .ref (a 0)), (1, .int p0)]) (by decide) rfl (Nat.le_of_ble_eq_true rfl) rfl ?_
  intro p e s m args below meth c A Q hA hQ hZ F hr hex
  have hts := F.2.2.2.2.1
  have w_0 : (Cond.fieldLink RX13 76 "QuietCutModel" "readRule" "[I").before args s = true := hts _ (List.mem_of_getElem? (i := 1) rfl)
  have i_X13 : ∀ w ∈ u_ws RX13 TX13 73, w ∈ wsT_X13_readClause := fun w h => List.mem_append_left _ ((show ∀ w ∈ u_ws RX13 TX13 73, w ∈ wsX13_readClause from fun _ h => List.mem_cons_of_mem _ (List.mem_append_right _ h)) w h)
  have w_1 : (Cond.fieldLink RX13 80 "QuietCutModel" "readTeeth" "[I").before args s = true := hts _ (List.mem_of_getElem? (i := 2) rfl)
  have w_2 : (Cond.fieldLink RX13 83 "QuietCutModel" "readSway" "[I").before args s = true := hts _ (List.mem_of_getElem? (i := 3) rfl)
  have w_3 : (Cond.fieldLink RX13 89 "QuietCutModel" "sum" "I").before args s = true := hts _ (List.mem_of_getElem? (i := 4) rfl)
  have w_4 : (Cond.fieldLink RX13 86 "QuietCutModel" "marks" "[I").before args s = true := hts _ (List.mem_of_getElem? (i := 5) rfl)
  have w_5 : (Cond.fieldLink RX13 134 "QuietCutModel" "parts" "I").before args s = true := hts _ (List.mem_of_getElem? (i := 6) rfl)
  have b1 : (0 : Int) ≤ (G 0 3).toInt ∧ (G 0 3).toInt ≤ 1000 := hI 0 3
  have b2 : (0 : Int) ≤ (G 0 5).toInt ∧ (G 0 5).toInt ≤ 1000 := hI 0 5
  have b3 : (1 : Int) ≤ (G 4 10).toInt ∧ (G 4 10).toInt ≤ 4 := hI 4 10
  refine g_iload_n F 1 dX13_readClause_0 rfl rfl ?_
  rcases (show s0 = 0 ∨ s0 = 1 ∨ s0 = 2 ∨ s0 = 3 ∨ s0 = 4 ∨ s0 = 5 ∨ s0 = 6 ∨ s0 = 7 ∨ s0 = 8 ∨ s0 = 9 ∨ (s0 < 0 ∨ 9 < s0) by omega) with c4 | c4 | c4 | c4 | c4 | c4 | c4 | c4 | c4 | c4 | c4
  · have c4' : Int32.toInt p0 = 0 := (e0).trans c4
    refine g_tableIn F 56 dX13_readClause_1 (by rw [c4']; decide) (by rw [c4']; decide) (by rw [c4']; rfl) (by decide) ?_
    refine g_aload_n F 0 dX13_readClause_56 rfl rfl ?_
    refine yg_0_11 F i_X13 w_0 dX13_readClause_57 ?_
    refine g_iconst F 0 dX13_readClause_60 (by decide) ?_
    refine g_aload_n F 0 dX13_readClause_61 rfl rfl ?_
    refine g_iconst F 4 dX13_readClause_62 (by decide) ?_
    refine g_bipush F 16 dX13_readClause_63 (by decide) ?_
    refine ux_calliv (k := 0) (n := 0) (b := a 0) (As := [.int 4, .int 16]) (st := [.int 0, .ref (a 4)]) F (fun sz => S_X13_number l D K a G 4 4 16 16 rfl rfl (by (first | omega | (simp only [Int32.reduceToInt, true_and, and_true, ne_eq, not_true_eq_false, false_and, or_false, false_or, true_or, or_true, false_implies] <;> omega))) hI sz) (cwV 2 hts gT_X13_readClause_X13_number rfl rfl rfl (by decide +kernel) ⟨Nat.le_of_ble_eq_true rfl, Nat.le_of_ble_eq_true rfl⟩) rfl 0 yc_0 rfl (Nat.le_of_ble_eq_true rfl) ⟨Nat.zero_le _, Nat.zero_le _⟩ dX13_readClause_65 hex hA hQ (fun u9 h9 => ⟨h9.1, gu_un.tr gu_un.rf (gu_un.su h9.2.1 rfl), (yKp.un yKp.rf h9.2.1 rfl), (by rw [show s0 = 0 by omega]; exact yClT.one (by decide) (by decide) (by decide) (by decide) (by decide) h9.2.2.1), (h9.2.2.2)⟩) (fun r5 G7 hw6 => ?_)
    have hI8 : yI G7 := hw6.1
    have hU9 : gu_un ycd [5, 6, 7, 8, 9, 10] G G7 := hw6.2.1
    have hp10 := hw6.2.2
    have q11 : ((4 : Int) ≤ r5.toInt ∧ r5.toInt ≤ (16 : Int)) := hp10.2.1
    have b12 : (0 : Int) ≤ (G7 0 5).toInt ∧ (G7 0 5).toInt ≤ 1000 := hI8 0 5
    have b13 : (0 : Int) ≤ (G7 0 6).toInt ∧ (G7 0 6).toInt ≤ 4 := hI8 0 6
    have q14 : ((G7 0 5).toInt ≤ (G 0 3).toInt ∧ (G 0 5).toInt ≤ (G7 0 5).toInt ∧ ((G7 0 6).toInt = 0 ∨ (G 0 5).toInt < (G7 0 5).toInt)) := hp10.2.2.1
    have b15 : (0 : Int) ≤ (G 0 6).toInt ∧ (G 0 6).toInt ≤ 4 := hI 0 6
    have b16 : (0 : Int) ≤ (G 0 7).toInt ∧ (G 0 7).toInt ≤ 9999 := hI 0 7
    have q17 : ((G 0 6).toInt = 2 ∧ r5.toInt = (G 0 7).toInt) := hp10.2.2.2.1
    have b18 : (0 : Int) ≤ (G7 0 4).toInt ∧ (G7 0 4).toInt ≤ 1000 := hI8 0 4
    have b19 : (0 : Int) ≤ (G7 0 7).toInt ∧ (G7 0 7).toInt ≤ 9999 := hI8 0 7
    have q20 : tTok (G 2) (G 0 3).toInt (G 0 5).toInt (G7 0 6).toInt (G7 0 4).toInt (G7 0 7).toInt (G7 0 5).toInt := hp10.2.2.2.2.1
    have q21 : yFf G G7 := hp10.2.2.2.2.2
    have rg22 := hp10.1
    clear hp10 hw6
    refine u_iast F 4 0 yc_4 rfl 0 rfl (by decide) (by decide) (yW K a (gu_up G7 4 0 r5)) (ys_4 _) dX13_readClause_68 ?_
    refine g_goto F 246 dX13_readClause_69 (by decide) ?_
    exact ux_vret F hA hQ hr (gu_up G7 4 0 r5) (⟨(gu_I.up (j := 4) (k := 0) (v := r5) hI8 (show (4 : Int) ≤ Int32.toInt r5 by omega) (show Int32.toInt r5 ≤ 16 by omega)), (gu_un.up (j := 4) (k := 0) (v := r5) (gu_un.tr gu_un.rf (gu_un.su hU9 rfl)) (show (400 : Nat) ∈ ([5, 6, 7, 8, 9, 10, 21, 22, 400, 600, 800, 1000, 1100, 1200] : List Nat) by decide)), (by show (((gu_up G7 4 0 r5) 0 5).toInt ≤ (G 0 3).toInt ∧ (G 0 5).toInt ≤ ((gu_up G7 4 0 r5) 0 5).toInt ∧ (((gu_up G7 4 0 r5) 0 6).toInt = 0 ∨ (G 0 5).toInt < ((gu_up G7 4 0 r5) 0 5).toInt)); have e9_0_5 : (gu_up G7 4 0 r5) 0 5 = (G7 0 5) := rfl; have e9_0_6 : (gu_up G7 4 0 r5) 0 6 = (G7 0 6) := rfl; (try simp only [e9_0_5, e9_0_6, true_and, and_true]) <;> (first | omega | (simp only [Int32.reduceToInt, true_and, and_true, ne_eq, not_true_eq_false, false_and, or_false, false_or, true_or, or_true, false_implies] <;> omega))), ((yV3.un v3 (show gu_un ycd [5, 6, 7, 8, 9, 10, 400] G (gu_up G7 4 0 r5) from (gu_un.up (j := 4) (k := 0) (v := r5) (gu_un.tr gu_un.rf (gu_un.su hU9 rfl)) (show (400 : Nat) ∈ ([5, 6, 7, 8, 9, 10, 400] : List Nat) by decide))) rfl)), ((yKp.un yKp.rf (show gu_un ycd [5, 6, 7, 8, 9, 10, 400] G (gu_up G7 4 0 r5) from (gu_un.up (j := 4) (k := 0) (v := r5) (gu_un.tr gu_un.rf (gu_un.su hU9 rfl)) (show (400 : Nat) ∈ ([5, 6, 7, 8, 9, 10, 400] : List Nat) by decide))) rfl)), (by rw [show s0 = 0 by omega]; have e1 := (by decide : hLo 0 = 4); have e2 := (by decide : hHi 0 = 16); exact yCl.one (a := 0) (by decide) (by decide) (by decide) (by decide) (by decide) (show yStp [] G G G7 from ⟨(show gu_un ycd [] G G from gu_un.rf), rfl, by exact q20, funext fun k_ => hU9 2 k_ (by simp [ycd]), hU9 0 3 (by decide)⟩) q17.1 q17.2 (by omega) (by omega) (show gu_un ycd [400] G7 (gu_up G7 4 0 r5) from (gu_un.up (j := 4) (k := 0) (v := r5) gu_un.rf (show (400 : Nat) ∈ ([400] : List Nat) by decide))) rfl (show (gu_up G7 4 0 r5) 4 = (upd (G 4) 0 r5) from (congrArg (fun f_ => upd f_ 0 r5) ((show G7 4 = G 4 from funext fun k_ => hU9 4 k_ (by simp [ycd])).trans (show G 4 = (G 4) from rfl)))) (show (gu_up G7 4 0 r5) 6 = (G 6) from ((show G7 6 = G 6 from funext fun k_ => hU9 6 k_ (by simp [ycd])).trans (show G 6 = (G 6) from rfl))) (show (gu_up G7 4 0 r5) 8 = (G 8) from ((show G7 8 = G 8 from funext fun k_ => hU9 8 k_ (by simp [ycd])).trans (show G 8 = (G 8) from rfl))) (yMq_un (show gu_un ycd [5, 6, 7, 8, 9, 10, 400] G (gu_up G7 4 0 r5) from (gu_un.up (j := 4) (k := 0) (v := r5) (gu_un.tr gu_un.rf (gu_un.su hU9 rfl)) (show (400 : Nat) ∈ ([5, 6, 7, 8, 9, 10, 400] : List Nat) by decide))) rfl)), ((yFf.tr (show yFf G G from yFf.rf) q21))⟩) rfl rfl dX13_readClause_246
  · have c4' : Int32.toInt p0 = 1 := (e0).trans c4
    refine g_tableIn F 72 dX13_readClause_1 (by rw [c4']; decide) (by rw [c4']; decide) (by rw [c4']; rfl) (by decide) ?_
    refine g_aload_n F 0 dX13_readClause_72 rfl rfl ?_
    refine yg_0_11 F i_X13 w_0 dX13_readClause_73 ?_
    refine g_iconst F 1 dX13_readClause_76 (by decide) ?_
    refine g_aload_n F 0 dX13_readClause_77 rfl rfl ?_
    refine g_iconst F 1 dX13_readClause_78 (by decide) ?_
    refine g_bipush F 6 dX13_readClause_79 (by decide) ?_
    refine ux_calliv (k := 0) (n := 0) (b := a 0) (As := [.int 1, .int 6]) (st := [.int 1, .ref (a 4)]) F (fun sz => S_X13_number l D K a G 1 1 6 6 rfl rfl (by (first | omega | (simp only [Int32.reduceToInt, true_and, and_true, ne_eq, not_true_eq_false, false_and, or_false, false_or, true_or, or_true, false_implies] <;> omega))) hI sz) (cwV 2 hts gT_X13_readClause_X13_number rfl rfl rfl (by decide +kernel) ⟨Nat.le_of_ble_eq_true rfl, Nat.le_of_ble_eq_true rfl⟩) rfl 0 yc_0 rfl (Nat.le_of_ble_eq_true rfl) ⟨Nat.zero_le _, Nat.zero_le _⟩ dX13_readClause_81 hex hA hQ (fun u9 h9 => ⟨h9.1, gu_un.tr gu_un.rf (gu_un.su h9.2.1 rfl), (yKp.un yKp.rf h9.2.1 rfl), (by rw [show s0 = 1 by omega]; exact yClT.one (by decide) (by decide) (by decide) (by decide) (by decide) h9.2.2.1), (h9.2.2.2)⟩) (fun r23 G25 hw24 => ?_)
    have hI26 : yI G25 := hw24.1
    have hU27 : gu_un ycd [5, 6, 7, 8, 9, 10] G G25 := hw24.2.1
    have hp28 := hw24.2.2
    have q29 : ((1 : Int) ≤ r23.toInt ∧ r23.toInt ≤ (6 : Int)) := hp28.2.1
    have b30 : (0 : Int) ≤ (G25 0 5).toInt ∧ (G25 0 5).toInt ≤ 1000 := hI26 0 5
    have b31 : (0 : Int) ≤ (G25 0 6).toInt ∧ (G25 0 6).toInt ≤ 4 := hI26 0 6
    have q32 : ((G25 0 5).toInt ≤ (G 0 3).toInt ∧ (G 0 5).toInt ≤ (G25 0 5).toInt ∧ ((G25 0 6).toInt = 0 ∨ (G 0 5).toInt < (G25 0 5).toInt)) := hp28.2.2.1
    have b33 : (0 : Int) ≤ (G 0 6).toInt ∧ (G 0 6).toInt ≤ 4 := hI 0 6
    have b34 : (0 : Int) ≤ (G 0 7).toInt ∧ (G 0 7).toInt ≤ 9999 := hI 0 7
    have q35 : ((G 0 6).toInt = 2 ∧ r23.toInt = (G 0 7).toInt) := hp28.2.2.2.1
    have b36 : (0 : Int) ≤ (G25 0 4).toInt ∧ (G25 0 4).toInt ≤ 1000 := hI26 0 4
    have b37 : (0 : Int) ≤ (G25 0 7).toInt ∧ (G25 0 7).toInt ≤ 9999 := hI26 0 7
    have q38 : tTok (G 2) (G 0 3).toInt (G 0 5).toInt (G25 0 6).toInt (G25 0 4).toInt (G25 0 7).toInt (G25 0 5).toInt := hp28.2.2.2.2.1
    have q39 : yFf G G25 := hp28.2.2.2.2.2
    have rg40 := hp28.1
    clear hp28 hw24
    refine u_iast F 4 0 yc_4 rfl 1 rfl (by decide) (by decide) (yW K a (gu_up G25 4 1 r23)) (ys_4 _) dX13_readClause_84 ?_
    refine g_goto F 246 dX13_readClause_85 (by decide) ?_
    exact ux_vret F hA hQ hr (gu_up G25 4 1 r23) (⟨(gu_I.up (j := 4) (k := 1) (v := r23) hI26 (show (1 : Int) ≤ Int32.toInt r23 by omega) (show Int32.toInt r23 ≤ 6 by omega)), (gu_un.up (j := 4) (k := 1) (v := r23) (gu_un.tr gu_un.rf (gu_un.su hU27 rfl)) (show (400 : Nat) ∈ ([5, 6, 7, 8, 9, 10, 21, 22, 400, 600, 800, 1000, 1100, 1200] : List Nat) by decide)), (by show (((gu_up G25 4 1 r23) 0 5).toInt ≤ (G 0 3).toInt ∧ (G 0 5).toInt ≤ ((gu_up G25 4 1 r23) 0 5).toInt ∧ (((gu_up G25 4 1 r23) 0 6).toInt = 0 ∨ (G 0 5).toInt < ((gu_up G25 4 1 r23) 0 5).toInt)); have e9_0_5 : (gu_up G25 4 1 r23) 0 5 = (G25 0 5) := rfl; have e9_0_6 : (gu_up G25 4 1 r23) 0 6 = (G25 0 6) := rfl; (try simp only [e9_0_5, e9_0_6, true_and, and_true]) <;> (first | omega | (simp only [Int32.reduceToInt, true_and, and_true, ne_eq, not_true_eq_false, false_and, or_false, false_or, true_or, or_true, false_implies] <;> omega))), ((yV3.un v3 (show gu_un ycd [5, 6, 7, 8, 9, 10, 400] G (gu_up G25 4 1 r23) from (gu_un.up (j := 4) (k := 1) (v := r23) (gu_un.tr gu_un.rf (gu_un.su hU27 rfl)) (show (400 : Nat) ∈ ([5, 6, 7, 8, 9, 10, 400] : List Nat) by decide))) rfl)), ((yKp.un yKp.rf (show gu_un ycd [5, 6, 7, 8, 9, 10, 400] G (gu_up G25 4 1 r23) from (gu_un.up (j := 4) (k := 1) (v := r23) (gu_un.tr gu_un.rf (gu_un.su hU27 rfl)) (show (400 : Nat) ∈ ([5, 6, 7, 8, 9, 10, 400] : List Nat) by decide))) rfl)), (by rw [show s0 = 1 by omega]; have e1 := (by decide : hLo 1 = 1); have e2 := (by decide : hHi 1 = 6); exact yCl.one (a := 1) (by decide) (by decide) (by decide) (by decide) (by decide) (show yStp [] G G G25 from ⟨(show gu_un ycd [] G G from gu_un.rf), rfl, by exact q38, funext fun k_ => hU27 2 k_ (by simp [ycd]), hU27 0 3 (by decide)⟩) q35.1 q35.2 (by omega) (by omega) (show gu_un ycd [400] G25 (gu_up G25 4 1 r23) from (gu_un.up (j := 4) (k := 1) (v := r23) gu_un.rf (show (400 : Nat) ∈ ([400] : List Nat) by decide))) rfl (show (gu_up G25 4 1 r23) 4 = (upd (G 4) 1 r23) from (congrArg (fun f_ => upd f_ 1 r23) ((show G25 4 = G 4 from funext fun k_ => hU27 4 k_ (by simp [ycd])).trans (show G 4 = (G 4) from rfl)))) (show (gu_up G25 4 1 r23) 6 = (G 6) from ((show G25 6 = G 6 from funext fun k_ => hU27 6 k_ (by simp [ycd])).trans (show G 6 = (G 6) from rfl))) (show (gu_up G25 4 1 r23) 8 = (G 8) from ((show G25 8 = G 8 from funext fun k_ => hU27 8 k_ (by simp [ycd])).trans (show G 8 = (G 8) from rfl))) (yMq_un (show gu_un ycd [5, 6, 7, 8, 9, 10, 400] G (gu_up G25 4 1 r23) from (gu_un.up (j := 4) (k := 1) (v := r23) (gu_un.tr gu_un.rf (gu_un.su hU27 rfl)) (show (400 : Nat) ∈ ([5, 6, 7, 8, 9, 10, 400] : List Nat) by decide))) rfl)), ((yFf.tr (show yFf G G from yFf.rf) q39))⟩) rfl rfl dX13_readClause_246
  · have c4' : Int32.toInt p0 = 2 := (e0).trans c4
    refine g_tableIn F 88 dX13_readClause_1 (by rw [c4']; decide) (by rw [c4']; decide) (by rw [c4']; rfl) (by decide) ?_
    refine g_aload_n F 0 dX13_readClause_88 rfl rfl ?_
    refine yg_0_11 F i_X13 w_0 dX13_readClause_89 ?_
    refine g_iconst F 2 dX13_readClause_92 (by decide) ?_
    refine g_aload_n F 0 dX13_readClause_93 rfl rfl ?_
    refine g_iconst F 1 dX13_readClause_94 (by decide) ?_
    refine g_bipush F 99 dX13_readClause_95 (by decide) ?_
    refine ux_calliv (k := 0) (n := 0) (b := a 0) (As := [.int 1, .int 99]) (st := [.int 2, .ref (a 4)]) F (fun sz => S_X13_number l D K a G 1 1 99 99 rfl rfl (by (first | omega | (simp only [Int32.reduceToInt, true_and, and_true, ne_eq, not_true_eq_false, false_and, or_false, false_or, true_or, or_true, false_implies] <;> omega))) hI sz) (cwV 2 hts gT_X13_readClause_X13_number rfl rfl rfl (by decide +kernel) ⟨Nat.le_of_ble_eq_true rfl, Nat.le_of_ble_eq_true rfl⟩) rfl 0 yc_0 rfl (Nat.le_of_ble_eq_true rfl) ⟨Nat.zero_le _, Nat.zero_le _⟩ dX13_readClause_97 hex hA hQ (fun u9 h9 => ⟨h9.1, gu_un.tr gu_un.rf (gu_un.su h9.2.1 rfl), (yKp.un yKp.rf h9.2.1 rfl), (by rw [show s0 = 2 by omega]; exact yClT.one (by decide) (by decide) (by decide) (by decide) (by decide) h9.2.2.1), (h9.2.2.2)⟩) (fun r41 G43 hw42 => ?_)
    have hI44 : yI G43 := hw42.1
    have hU45 : gu_un ycd [5, 6, 7, 8, 9, 10] G G43 := hw42.2.1
    have hp46 := hw42.2.2
    have q47 : ((1 : Int) ≤ r41.toInt ∧ r41.toInt ≤ (99 : Int)) := hp46.2.1
    have b48 : (0 : Int) ≤ (G43 0 5).toInt ∧ (G43 0 5).toInt ≤ 1000 := hI44 0 5
    have b49 : (0 : Int) ≤ (G43 0 6).toInt ∧ (G43 0 6).toInt ≤ 4 := hI44 0 6
    have q50 : ((G43 0 5).toInt ≤ (G 0 3).toInt ∧ (G 0 5).toInt ≤ (G43 0 5).toInt ∧ ((G43 0 6).toInt = 0 ∨ (G 0 5).toInt < (G43 0 5).toInt)) := hp46.2.2.1
    have b51 : (0 : Int) ≤ (G 0 6).toInt ∧ (G 0 6).toInt ≤ 4 := hI 0 6
    have b52 : (0 : Int) ≤ (G 0 7).toInt ∧ (G 0 7).toInt ≤ 9999 := hI 0 7
    have q53 : ((G 0 6).toInt = 2 ∧ r41.toInt = (G 0 7).toInt) := hp46.2.2.2.1
    have b54 : (0 : Int) ≤ (G43 0 4).toInt ∧ (G43 0 4).toInt ≤ 1000 := hI44 0 4
    have b55 : (0 : Int) ≤ (G43 0 7).toInt ∧ (G43 0 7).toInt ≤ 9999 := hI44 0 7
    have q56 : tTok (G 2) (G 0 3).toInt (G 0 5).toInt (G43 0 6).toInt (G43 0 4).toInt (G43 0 7).toInt (G43 0 5).toInt := hp46.2.2.2.2.1
    have q57 : yFf G G43 := hp46.2.2.2.2.2
    have rg58 := hp46.1
    clear hp46 hw42
    refine u_iast F 4 0 yc_4 rfl 2 rfl (by decide) (by decide) (yW K a (gu_up G43 4 2 r41)) (ys_4 _) dX13_readClause_100 ?_
    refine g_goto F 246 dX13_readClause_101 (by decide) ?_
    exact ux_vret F hA hQ hr (gu_up G43 4 2 r41) (⟨(gu_I.up (j := 4) (k := 2) (v := r41) hI44 (show (1 : Int) ≤ Int32.toInt r41 by omega) (show Int32.toInt r41 ≤ 99 by omega)), (gu_un.up (j := 4) (k := 2) (v := r41) (gu_un.tr gu_un.rf (gu_un.su hU45 rfl)) (show (400 : Nat) ∈ ([5, 6, 7, 8, 9, 10, 21, 22, 400, 600, 800, 1000, 1100, 1200] : List Nat) by decide)), (by show (((gu_up G43 4 2 r41) 0 5).toInt ≤ (G 0 3).toInt ∧ (G 0 5).toInt ≤ ((gu_up G43 4 2 r41) 0 5).toInt ∧ (((gu_up G43 4 2 r41) 0 6).toInt = 0 ∨ (G 0 5).toInt < ((gu_up G43 4 2 r41) 0 5).toInt)); have e9_0_5 : (gu_up G43 4 2 r41) 0 5 = (G43 0 5) := rfl; have e9_0_6 : (gu_up G43 4 2 r41) 0 6 = (G43 0 6) := rfl; (try simp only [e9_0_5, e9_0_6, true_and, and_true]) <;> (first | omega | (simp only [Int32.reduceToInt, true_and, and_true, ne_eq, not_true_eq_false, false_and, or_false, false_or, true_or, or_true, false_implies] <;> omega))), ((yV3.un v3 (show gu_un ycd [5, 6, 7, 8, 9, 10, 400] G (gu_up G43 4 2 r41) from (gu_un.up (j := 4) (k := 2) (v := r41) (gu_un.tr gu_un.rf (gu_un.su hU45 rfl)) (show (400 : Nat) ∈ ([5, 6, 7, 8, 9, 10, 400] : List Nat) by decide))) rfl)), ((yKp.un yKp.rf (show gu_un ycd [5, 6, 7, 8, 9, 10, 400] G (gu_up G43 4 2 r41) from (gu_un.up (j := 4) (k := 2) (v := r41) (gu_un.tr gu_un.rf (gu_un.su hU45 rfl)) (show (400 : Nat) ∈ ([5, 6, 7, 8, 9, 10, 400] : List Nat) by decide))) rfl)), (by rw [show s0 = 2 by omega]; have e1 := (by decide : hLo 2 = 1); have e2 := (by decide : hHi 2 = 99); exact yCl.one (a := 2) (by decide) (by decide) (by decide) (by decide) (by decide) (show yStp [] G G G43 from ⟨(show gu_un ycd [] G G from gu_un.rf), rfl, by exact q56, funext fun k_ => hU45 2 k_ (by simp [ycd]), hU45 0 3 (by decide)⟩) q53.1 q53.2 (by omega) (by omega) (show gu_un ycd [400] G43 (gu_up G43 4 2 r41) from (gu_un.up (j := 4) (k := 2) (v := r41) gu_un.rf (show (400 : Nat) ∈ ([400] : List Nat) by decide))) rfl (show (gu_up G43 4 2 r41) 4 = (upd (G 4) 2 r41) from (congrArg (fun f_ => upd f_ 2 r41) ((show G43 4 = G 4 from funext fun k_ => hU45 4 k_ (by simp [ycd])).trans (show G 4 = (G 4) from rfl)))) (show (gu_up G43 4 2 r41) 6 = (G 6) from ((show G43 6 = G 6 from funext fun k_ => hU45 6 k_ (by simp [ycd])).trans (show G 6 = (G 6) from rfl))) (show (gu_up G43 4 2 r41) 8 = (G 8) from ((show G43 8 = G 8 from funext fun k_ => hU45 8 k_ (by simp [ycd])).trans (show G 8 = (G 8) from rfl))) (yMq_un (show gu_un ycd [5, 6, 7, 8, 9, 10, 400] G (gu_up G43 4 2 r41) from (gu_un.up (j := 4) (k := 2) (v := r41) (gu_un.tr gu_un.rf (gu_un.su hU45 rfl)) (show (400 : Nat) ∈ ([5, 6, 7, 8, 9, 10, 400] : List Nat) by decide))) rfl)), ((yFf.tr (show yFf G G from yFf.rf) q57))⟩) rfl rfl dX13_readClause_246
  · have c4' : Int32.toInt p0 = 3 := (e0).trans c4
    refine g_tableIn F 104 dX13_readClause_1 (by rw [c4']; decide) (by rw [c4']; decide) (by rw [c4']; rfl) (by decide) ?_
    refine g_aload_n F 0 dX13_readClause_104 rfl rfl ?_
    refine g_iconst F 3 dX13_readClause_105 (by decide) ?_
    refine ux_callvv (k := 0) (n := 0) (b := a 0) (As := [.int 3]) (st := []) F (fun sz => S_X13_readSpan_v3 l D K a G  (by (first | omega | (simp only [Int32.reduceToInt, true_and, and_true, ne_eq, not_true_eq_false, false_and, or_false, false_or, true_or, or_true, false_implies] <;> omega))) hI sz) (cwV 1 hts gT_X13_readClause_X13_readSpan rfl rfl rfl (by decide +kernel) ⟨Nat.le_of_ble_eq_true rfl, Nat.le_of_ble_eq_true rfl⟩) rfl 0 yc_0 rfl (Nat.le_of_ble_eq_true rfl) ⟨Nat.zero_le _, Nat.zero_le _⟩ dX13_readClause_106 hex hA hQ (fun u9 h9 => ⟨h9.1, gu_un.tr gu_un.rf (gu_un.su h9.2.1 rfl), (yKp.un yKp.rf h9.2.1 rfl), (by rw [show s0 = 3 by omega]; exact h9.2.2.1), (h9.2.2.2)⟩) (fun G61 hw60 => ?_)
    have hI62 : yI G61 := hw60.1
    have hU63 : gu_un ycd [5, 6, 7, 8, 9, 10, 400] G G61 := hw60.2.1
    have hp64 := hw60.2.2
    have b65 : (0 : Int) ≤ (G61 0 5).toInt ∧ (G61 0 5).toInt ≤ 1000 := hI62 0 5
    have b66 : (0 : Int) ≤ (G61 0 6).toInt ∧ (G61 0 6).toInt ≤ 4 := hI62 0 6
    have q67 : ((G61 0 5).toInt ≤ (G 0 3).toInt ∧ (G 0 5).toInt ≤ (G61 0 5).toInt ∧ ((G61 0 6).toInt = 0 ∨ (G 0 5).toInt < (G61 0 5).toInt)) := hp64.1
    have q68 : yCl 3 G G61 := hp64.2.1
    have q69 : yFf G G61 := hp64.2.2
    clear hp64 hw60
    refine g_goto F 246 dX13_readClause_109 (by decide) ?_
    exact ux_vret F hA hQ hr G61 (⟨hI62, (gu_un.tr gu_un.rf (gu_un.su hU63 rfl)), (by show ((G61 0 5).toInt ≤ (G 0 3).toInt ∧ (G 0 5).toInt ≤ (G61 0 5).toInt ∧ ((G61 0 6).toInt = 0 ∨ (G 0 5).toInt < (G61 0 5).toInt)); (first | omega | (simp only [Int32.reduceToInt, true_and, and_true, ne_eq, not_true_eq_false, false_and, or_false, false_or, true_or, or_true, false_implies] <;> omega))), ((yV3.un v3 (show gu_un ycd [5, 6, 7, 8, 9, 10, 400] G G61 from (gu_un.tr gu_un.rf (gu_un.su hU63 rfl))) rfl)), ((yKp.un yKp.rf (show gu_un ycd [5, 6, 7, 8, 9, 10, 400] G G61 from (gu_un.tr gu_un.rf (gu_un.su hU63 rfl))) rfl)), (by rw [show s0 = 3 by omega]; exact q68), ((yFf.tr (show yFf G G from yFf.rf) q69))⟩) rfl rfl dX13_readClause_246
  · have c4' : Int32.toInt p0 = 4 := (e0).trans c4
    refine g_tableIn F 112 dX13_readClause_1 (by rw [c4']; decide) (by rw [c4']; decide) (by rw [c4']; rfl) (by decide) ?_
    refine g_aload_n F 0 dX13_readClause_112 rfl rfl ?_
    refine g_iconst F 5 dX13_readClause_113 (by decide) ?_
    refine ux_callvv (k := 0) (n := 0) (b := a 0) (As := [.int 5]) (st := []) F (fun sz => S_X13_readSpan_v5 l D K a G  (by (first | omega | (simp only [Int32.reduceToInt, true_and, and_true, ne_eq, not_true_eq_false, false_and, or_false, false_or, true_or, or_true, false_implies] <;> omega))) hI sz) (cwV 1 hts gT_X13_readClause_X13_readSpan rfl rfl rfl (by decide +kernel) ⟨Nat.le_of_ble_eq_true rfl, Nat.le_of_ble_eq_true rfl⟩) rfl 0 yc_0 rfl (Nat.le_of_ble_eq_true rfl) ⟨Nat.zero_le _, Nat.zero_le _⟩ dX13_readClause_114 hex hA hQ (fun u9 h9 => ⟨h9.1, gu_un.tr gu_un.rf (gu_un.su h9.2.1 rfl), (yKp.un yKp.rf h9.2.1 rfl), (by rw [show s0 = 4 by omega]; exact h9.2.2.1), (h9.2.2.2)⟩) (fun G72 hw71 => ?_)
    have hI73 : yI G72 := hw71.1
    have hU74 : gu_un ycd [5, 6, 7, 8, 9, 10, 400] G G72 := hw71.2.1
    have hp75 := hw71.2.2
    have b76 : (0 : Int) ≤ (G72 0 5).toInt ∧ (G72 0 5).toInt ≤ 1000 := hI73 0 5
    have b77 : (0 : Int) ≤ (G72 0 6).toInt ∧ (G72 0 6).toInt ≤ 4 := hI73 0 6
    have q78 : ((G72 0 5).toInt ≤ (G 0 3).toInt ∧ (G 0 5).toInt ≤ (G72 0 5).toInt ∧ ((G72 0 6).toInt = 0 ∨ (G 0 5).toInt < (G72 0 5).toInt)) := hp75.1
    have q79 : yCl 4 G G72 := hp75.2.1
    have q80 : yFf G G72 := hp75.2.2
    clear hp75 hw71
    refine g_goto F 246 dX13_readClause_117 (by decide) ?_
    exact ux_vret F hA hQ hr G72 (⟨hI73, (gu_un.tr gu_un.rf (gu_un.su hU74 rfl)), (by show ((G72 0 5).toInt ≤ (G 0 3).toInt ∧ (G 0 5).toInt ≤ (G72 0 5).toInt ∧ ((G72 0 6).toInt = 0 ∨ (G 0 5).toInt < (G72 0 5).toInt)); (first | omega | (simp only [Int32.reduceToInt, true_and, and_true, ne_eq, not_true_eq_false, false_and, or_false, false_or, true_or, or_true, false_implies] <;> omega))), ((yV3.un v3 (show gu_un ycd [5, 6, 7, 8, 9, 10, 400] G G72 from (gu_un.tr gu_un.rf (gu_un.su hU74 rfl))) rfl)), ((yKp.un yKp.rf (show gu_un ycd [5, 6, 7, 8, 9, 10, 400] G G72 from (gu_un.tr gu_un.rf (gu_un.su hU74 rfl))) rfl)), (by rw [show s0 = 4 by omega]; exact q79), ((yFf.tr (show yFf G G from yFf.rf) q80))⟩) rfl rfl dX13_readClause_246
  · have c4' : Int32.toInt p0 = 5 := (e0).trans c4
    refine g_tableIn F 120 dX13_readClause_1 (by rw [c4']; decide) (by rw [c4']; decide) (by rw [c4']; rfl) (by decide) ?_
    refine g_aload_n F 0 dX13_readClause_120 rfl rfl ?_
    refine yg_0_11 F i_X13 w_0 dX13_readClause_121 ?_
    refine g_bipush F 7 dX13_readClause_124 (by decide) ?_
    refine g_aload_n F 0 dX13_readClause_126 rfl rfl ?_
    refine g_iconst F 1 dX13_readClause_127 (by decide) ?_
    refine g_sipush F 9999 dX13_readClause_128 (by decide) ?_
    refine ux_calliv (k := 0) (n := 0) (b := a 0) (As := [.int 1, .int 9999]) (st := [.int 7, .ref (a 4)]) F (fun sz => S_X13_number l D K a G 1 1 9999 9999 rfl rfl (by (first | omega | (simp only [Int32.reduceToInt, true_and, and_true, ne_eq, not_true_eq_false, false_and, or_false, false_or, true_or, or_true, false_implies] <;> omega))) hI sz) (cwV 2 hts gT_X13_readClause_X13_number rfl rfl rfl (by decide +kernel) ⟨Nat.le_of_ble_eq_true rfl, Nat.le_of_ble_eq_true rfl⟩) rfl 0 yc_0 rfl (Nat.le_of_ble_eq_true rfl) ⟨Nat.zero_le _, Nat.zero_le _⟩ dX13_readClause_131 hex hA hQ (fun u9 h9 => ⟨h9.1, gu_un.tr gu_un.rf (gu_un.su h9.2.1 rfl), (yKp.un yKp.rf h9.2.1 rfl), (by rw [show s0 = 5 by omega]; exact yClT.one (by decide) (by decide) (by decide) (by decide) (by decide) h9.2.2.1), (h9.2.2.2)⟩) (fun r81 G83 hw82 => ?_)
    have hI84 : yI G83 := hw82.1
    have hU85 : gu_un ycd [5, 6, 7, 8, 9, 10] G G83 := hw82.2.1
    have hp86 := hw82.2.2
    have q87 : ((1 : Int) ≤ r81.toInt ∧ r81.toInt ≤ (9999 : Int)) := hp86.2.1
    have b88 : (0 : Int) ≤ (G83 0 5).toInt ∧ (G83 0 5).toInt ≤ 1000 := hI84 0 5
    have b89 : (0 : Int) ≤ (G83 0 6).toInt ∧ (G83 0 6).toInt ≤ 4 := hI84 0 6
    have q90 : ((G83 0 5).toInt ≤ (G 0 3).toInt ∧ (G 0 5).toInt ≤ (G83 0 5).toInt ∧ ((G83 0 6).toInt = 0 ∨ (G 0 5).toInt < (G83 0 5).toInt)) := hp86.2.2.1
    have b91 : (0 : Int) ≤ (G 0 6).toInt ∧ (G 0 6).toInt ≤ 4 := hI 0 6
    have b92 : (0 : Int) ≤ (G 0 7).toInt ∧ (G 0 7).toInt ≤ 9999 := hI 0 7
    have q93 : ((G 0 6).toInt = 2 ∧ r81.toInt = (G 0 7).toInt) := hp86.2.2.2.1
    have b94 : (0 : Int) ≤ (G83 0 4).toInt ∧ (G83 0 4).toInt ≤ 1000 := hI84 0 4
    have b95 : (0 : Int) ≤ (G83 0 7).toInt ∧ (G83 0 7).toInt ≤ 9999 := hI84 0 7
    have q96 : tTok (G 2) (G 0 3).toInt (G 0 5).toInt (G83 0 6).toInt (G83 0 4).toInt (G83 0 7).toInt (G83 0 5).toInt := hp86.2.2.2.2.1
    have q97 : yFf G G83 := hp86.2.2.2.2.2
    have rg98 := hp86.1
    clear hp86 hw82
    refine u_iast F 4 0 yc_4 rfl 7 rfl (by decide) (by decide) (yW K a (gu_up G83 4 7 r81)) (ys_4 _) dX13_readClause_134 ?_
    refine g_goto F 246 dX13_readClause_135 (by decide) ?_
    exact ux_vret F hA hQ hr (gu_up G83 4 7 r81) (⟨(gu_I.up (j := 4) (k := 7) (v := r81) hI84 (show (1 : Int) ≤ Int32.toInt r81 by omega) (show Int32.toInt r81 ≤ 9999 by omega)), (gu_un.up (j := 4) (k := 7) (v := r81) (gu_un.tr gu_un.rf (gu_un.su hU85 rfl)) (show (400 : Nat) ∈ ([5, 6, 7, 8, 9, 10, 21, 22, 400, 600, 800, 1000, 1100, 1200] : List Nat) by decide)), (by show (((gu_up G83 4 7 r81) 0 5).toInt ≤ (G 0 3).toInt ∧ (G 0 5).toInt ≤ ((gu_up G83 4 7 r81) 0 5).toInt ∧ (((gu_up G83 4 7 r81) 0 6).toInt = 0 ∨ (G 0 5).toInt < ((gu_up G83 4 7 r81) 0 5).toInt)); have e9_0_5 : (gu_up G83 4 7 r81) 0 5 = (G83 0 5) := rfl; have e9_0_6 : (gu_up G83 4 7 r81) 0 6 = (G83 0 6) := rfl; (try simp only [e9_0_5, e9_0_6, true_and, and_true]) <;> (first | omega | (simp only [Int32.reduceToInt, true_and, and_true, ne_eq, not_true_eq_false, false_and, or_false, false_or, true_or, or_true, false_implies] <;> omega))), ((yV3.un v3 (show gu_un ycd [5, 6, 7, 8, 9, 10, 400] G (gu_up G83 4 7 r81) from (gu_un.up (j := 4) (k := 7) (v := r81) (gu_un.tr gu_un.rf (gu_un.su hU85 rfl)) (show (400 : Nat) ∈ ([5, 6, 7, 8, 9, 10, 400] : List Nat) by decide))) rfl)), ((yKp.un yKp.rf (show gu_un ycd [5, 6, 7, 8, 9, 10, 400] G (gu_up G83 4 7 r81) from (gu_un.up (j := 4) (k := 7) (v := r81) (gu_un.tr gu_un.rf (gu_un.su hU85 rfl)) (show (400 : Nat) ∈ ([5, 6, 7, 8, 9, 10, 400] : List Nat) by decide))) rfl)), (by rw [show s0 = 5 by omega]; have e1 := (by decide : hLo 5 = 1); have e2 := (by decide : hHi 5 = 9999); exact yCl.one (a := 7) (by decide) (by decide) (by decide) (by decide) (by decide) (show yStp [] G G G83 from ⟨(show gu_un ycd [] G G from gu_un.rf), rfl, by exact q96, funext fun k_ => hU85 2 k_ (by simp [ycd]), hU85 0 3 (by decide)⟩) q93.1 q93.2 (by omega) (by omega) (show gu_un ycd [400] G83 (gu_up G83 4 7 r81) from (gu_un.up (j := 4) (k := 7) (v := r81) gu_un.rf (show (400 : Nat) ∈ ([400] : List Nat) by decide))) rfl (show (gu_up G83 4 7 r81) 4 = (upd (G 4) 7 r81) from (congrArg (fun f_ => upd f_ 7 r81) ((show G83 4 = G 4 from funext fun k_ => hU85 4 k_ (by simp [ycd])).trans (show G 4 = (G 4) from rfl)))) (show (gu_up G83 4 7 r81) 6 = (G 6) from ((show G83 6 = G 6 from funext fun k_ => hU85 6 k_ (by simp [ycd])).trans (show G 6 = (G 6) from rfl))) (show (gu_up G83 4 7 r81) 8 = (G 8) from ((show G83 8 = G 8 from funext fun k_ => hU85 8 k_ (by simp [ycd])).trans (show G 8 = (G 8) from rfl))) (yMq_un (show gu_un ycd [5, 6, 7, 8, 9, 10, 400] G (gu_up G83 4 7 r81) from (gu_un.up (j := 4) (k := 7) (v := r81) (gu_un.tr gu_un.rf (gu_un.su hU85 rfl)) (show (400 : Nat) ∈ ([5, 6, 7, 8, 9, 10, 400] : List Nat) by decide))) rfl)), ((yFf.tr (show yFf G G from yFf.rf) q97))⟩) rfl rfl dX13_readClause_246
  · have c4' : Int32.toInt p0 = 6 := (e0).trans c4
    refine g_tableIn F 138 dX13_readClause_1 (by rw [c4']; decide) (by rw [c4']; decide) (by rw [c4']; rfl) (by decide) ?_
    refine g_aload_n F 0 dX13_readClause_138 rfl rfl ?_
    refine yg_0_11 F i_X13 w_0 dX13_readClause_139 ?_
    refine g_bipush F 8 dX13_readClause_142 (by decide) ?_
    refine g_aload_n F 0 dX13_readClause_144 rfl rfl ?_
    refine g_iconst F 0 dX13_readClause_145 (by decide) ?_
    refine g_sipush F 9999 dX13_readClause_146 (by decide) ?_
    refine ux_calliv (k := 0) (n := 0) (b := a 0) (As := [.int 0, .int 9999]) (st := [.int 8, .ref (a 4)]) F (fun sz => S_X13_number l D K a G 0 0 9999 9999 rfl rfl (by (first | omega | (simp only [Int32.reduceToInt, true_and, and_true, ne_eq, not_true_eq_false, false_and, or_false, false_or, true_or, or_true, false_implies] <;> omega))) hI sz) (cwV 2 hts gT_X13_readClause_X13_number rfl rfl rfl (by decide +kernel) ⟨Nat.le_of_ble_eq_true rfl, Nat.le_of_ble_eq_true rfl⟩) rfl 0 yc_0 rfl (Nat.le_of_ble_eq_true rfl) ⟨Nat.zero_le _, Nat.zero_le _⟩ dX13_readClause_149 hex hA hQ (fun u9 h9 => ⟨h9.1, gu_un.tr gu_un.rf (gu_un.su h9.2.1 rfl), (yKp.un yKp.rf h9.2.1 rfl), (by rw [show s0 = 6 by omega]; exact yClT.one (by decide) (by decide) (by decide) (by decide) (by decide) h9.2.2.1), (h9.2.2.2)⟩) (fun r99 G101 hw100 => ?_)
    have hI102 : yI G101 := hw100.1
    have hU103 : gu_un ycd [5, 6, 7, 8, 9, 10] G G101 := hw100.2.1
    have hp104 := hw100.2.2
    have q105 : ((0 : Int) ≤ r99.toInt ∧ r99.toInt ≤ (9999 : Int)) := hp104.2.1
    have b106 : (0 : Int) ≤ (G101 0 5).toInt ∧ (G101 0 5).toInt ≤ 1000 := hI102 0 5
    have b107 : (0 : Int) ≤ (G101 0 6).toInt ∧ (G101 0 6).toInt ≤ 4 := hI102 0 6
    have q108 : ((G101 0 5).toInt ≤ (G 0 3).toInt ∧ (G 0 5).toInt ≤ (G101 0 5).toInt ∧ ((G101 0 6).toInt = 0 ∨ (G 0 5).toInt < (G101 0 5).toInt)) := hp104.2.2.1
    have b109 : (0 : Int) ≤ (G 0 6).toInt ∧ (G 0 6).toInt ≤ 4 := hI 0 6
    have b110 : (0 : Int) ≤ (G 0 7).toInt ∧ (G 0 7).toInt ≤ 9999 := hI 0 7
    have q111 : ((G 0 6).toInt = 2 ∧ r99.toInt = (G 0 7).toInt) := hp104.2.2.2.1
    have b112 : (0 : Int) ≤ (G101 0 4).toInt ∧ (G101 0 4).toInt ≤ 1000 := hI102 0 4
    have b113 : (0 : Int) ≤ (G101 0 7).toInt ∧ (G101 0 7).toInt ≤ 9999 := hI102 0 7
    have q114 : tTok (G 2) (G 0 3).toInt (G 0 5).toInt (G101 0 6).toInt (G101 0 4).toInt (G101 0 7).toInt (G101 0 5).toInt := hp104.2.2.2.2.1
    have q115 : yFf G G101 := hp104.2.2.2.2.2
    have rg116 := hp104.1
    clear hp104 hw100
    refine u_iast F 4 0 yc_4 rfl 8 rfl (by decide) (by decide) (yW K a (gu_up G101 4 8 r99)) (ys_4 _) dX13_readClause_152 ?_
    refine g_goto F 246 dX13_readClause_153 (by decide) ?_
    exact ux_vret F hA hQ hr (gu_up G101 4 8 r99) (⟨(gu_I.up (j := 4) (k := 8) (v := r99) hI102 (show (0 : Int) ≤ Int32.toInt r99 by omega) (show Int32.toInt r99 ≤ 9999 by omega)), (gu_un.up (j := 4) (k := 8) (v := r99) (gu_un.tr gu_un.rf (gu_un.su hU103 rfl)) (show (400 : Nat) ∈ ([5, 6, 7, 8, 9, 10, 21, 22, 400, 600, 800, 1000, 1100, 1200] : List Nat) by decide)), (by show (((gu_up G101 4 8 r99) 0 5).toInt ≤ (G 0 3).toInt ∧ (G 0 5).toInt ≤ ((gu_up G101 4 8 r99) 0 5).toInt ∧ (((gu_up G101 4 8 r99) 0 6).toInt = 0 ∨ (G 0 5).toInt < ((gu_up G101 4 8 r99) 0 5).toInt)); have e9_0_5 : (gu_up G101 4 8 r99) 0 5 = (G101 0 5) := rfl; have e9_0_6 : (gu_up G101 4 8 r99) 0 6 = (G101 0 6) := rfl; (try simp only [e9_0_5, e9_0_6, true_and, and_true]) <;> (first | omega | (simp only [Int32.reduceToInt, true_and, and_true, ne_eq, not_true_eq_false, false_and, or_false, false_or, true_or, or_true, false_implies] <;> omega))), ((yV3.un v3 (show gu_un ycd [5, 6, 7, 8, 9, 10, 400] G (gu_up G101 4 8 r99) from (gu_un.up (j := 4) (k := 8) (v := r99) (gu_un.tr gu_un.rf (gu_un.su hU103 rfl)) (show (400 : Nat) ∈ ([5, 6, 7, 8, 9, 10, 400] : List Nat) by decide))) rfl)), ((yKp.un yKp.rf (show gu_un ycd [5, 6, 7, 8, 9, 10, 400] G (gu_up G101 4 8 r99) from (gu_un.up (j := 4) (k := 8) (v := r99) (gu_un.tr gu_un.rf (gu_un.su hU103 rfl)) (show (400 : Nat) ∈ ([5, 6, 7, 8, 9, 10, 400] : List Nat) by decide))) rfl)), (by rw [show s0 = 6 by omega]; have e1 := (by decide : hLo 6 = 0); have e2 := (by decide : hHi 6 = 9999); exact yCl.one (a := 8) (by decide) (by decide) (by decide) (by decide) (by decide) (show yStp [] G G G101 from ⟨(show gu_un ycd [] G G from gu_un.rf), rfl, by exact q114, funext fun k_ => hU103 2 k_ (by simp [ycd]), hU103 0 3 (by decide)⟩) q111.1 q111.2 (by omega) (by omega) (show gu_un ycd [400] G101 (gu_up G101 4 8 r99) from (gu_un.up (j := 4) (k := 8) (v := r99) gu_un.rf (show (400 : Nat) ∈ ([400] : List Nat) by decide))) rfl (show (gu_up G101 4 8 r99) 4 = (upd (G 4) 8 r99) from (congrArg (fun f_ => upd f_ 8 r99) ((show G101 4 = G 4 from funext fun k_ => hU103 4 k_ (by simp [ycd])).trans (show G 4 = (G 4) from rfl)))) (show (gu_up G101 4 8 r99) 6 = (G 6) from ((show G101 6 = G 6 from funext fun k_ => hU103 6 k_ (by simp [ycd])).trans (show G 6 = (G 6) from rfl))) (show (gu_up G101 4 8 r99) 8 = (G 8) from ((show G101 8 = G 8 from funext fun k_ => hU103 8 k_ (by simp [ycd])).trans (show G 8 = (G 8) from rfl))) (yMq_un (show gu_un ycd [5, 6, 7, 8, 9, 10, 400] G (gu_up G101 4 8 r99) from (gu_un.up (j := 4) (k := 8) (v := r99) (gu_un.tr gu_un.rf (gu_un.su hU103 rfl)) (show (400 : Nat) ∈ ([5, 6, 7, 8, 9, 10, 400] : List Nat) by decide))) rfl)), ((yFf.tr (show yFf G G from yFf.rf) q115))⟩) rfl rfl dX13_readClause_246
  · have c4' : Int32.toInt p0 = 7 := (e0).trans c4
    refine g_tableIn F 156 dX13_readClause_1 (by rw [c4']; decide) (by rw [c4']; decide) (by rw [c4']; rfl) (by decide) ?_
    refine g_aload_n F 0 dX13_readClause_156 rfl rfl ?_
    refine yg_0_11 F i_X13 w_0 dX13_readClause_157 ?_
    refine g_bipush F 9 dX13_readClause_160 (by decide) ?_
    refine g_aload_n F 0 dX13_readClause_162 rfl rfl ?_
    refine g_iconst F 1 dX13_readClause_163 (by decide) ?_
    refine g_bipush F 12 dX13_readClause_164 (by decide) ?_
    refine ux_calliv (k := 0) (n := 0) (b := a 0) (As := [.int 1, .int 12]) (st := [.int 9, .ref (a 4)]) F (fun sz => S_X13_number l D K a G 1 1 12 12 rfl rfl (by (first | omega | (simp only [Int32.reduceToInt, true_and, and_true, ne_eq, not_true_eq_false, false_and, or_false, false_or, true_or, or_true, false_implies] <;> omega))) hI sz) (cwV 2 hts gT_X13_readClause_X13_number rfl rfl rfl (by decide +kernel) ⟨Nat.le_of_ble_eq_true rfl, Nat.le_of_ble_eq_true rfl⟩) rfl 0 yc_0 rfl (Nat.le_of_ble_eq_true rfl) ⟨Nat.zero_le _, Nat.zero_le _⟩ dX13_readClause_166 hex hA hQ (fun u9 h9 => ⟨h9.1, gu_un.tr gu_un.rf (gu_un.su h9.2.1 rfl), (yKp.un yKp.rf h9.2.1 rfl), (by rw [show s0 = 7 by omega]; exact yClT.one (by decide) (by decide) (by decide) (by decide) (by decide) h9.2.2.1), (h9.2.2.2)⟩) (fun r117 G119 hw118 => ?_)
    have hI120 : yI G119 := hw118.1
    have hU121 : gu_un ycd [5, 6, 7, 8, 9, 10] G G119 := hw118.2.1
    have hp122 := hw118.2.2
    have q123 : ((1 : Int) ≤ r117.toInt ∧ r117.toInt ≤ (12 : Int)) := hp122.2.1
    have b124 : (0 : Int) ≤ (G119 0 5).toInt ∧ (G119 0 5).toInt ≤ 1000 := hI120 0 5
    have b125 : (0 : Int) ≤ (G119 0 6).toInt ∧ (G119 0 6).toInt ≤ 4 := hI120 0 6
    have q126 : ((G119 0 5).toInt ≤ (G 0 3).toInt ∧ (G 0 5).toInt ≤ (G119 0 5).toInt ∧ ((G119 0 6).toInt = 0 ∨ (G 0 5).toInt < (G119 0 5).toInt)) := hp122.2.2.1
    have b127 : (0 : Int) ≤ (G 0 6).toInt ∧ (G 0 6).toInt ≤ 4 := hI 0 6
    have b128 : (0 : Int) ≤ (G 0 7).toInt ∧ (G 0 7).toInt ≤ 9999 := hI 0 7
    have q129 : ((G 0 6).toInt = 2 ∧ r117.toInt = (G 0 7).toInt) := hp122.2.2.2.1
    have b130 : (0 : Int) ≤ (G119 0 4).toInt ∧ (G119 0 4).toInt ≤ 1000 := hI120 0 4
    have b131 : (0 : Int) ≤ (G119 0 7).toInt ∧ (G119 0 7).toInt ≤ 9999 := hI120 0 7
    have q132 : tTok (G 2) (G 0 3).toInt (G 0 5).toInt (G119 0 6).toInt (G119 0 4).toInt (G119 0 7).toInt (G119 0 5).toInt := hp122.2.2.2.2.1
    have q133 : yFf G G119 := hp122.2.2.2.2.2
    have rg134 := hp122.1
    clear hp122 hw118
    refine u_iast F 4 0 yc_4 rfl 9 rfl (by decide) (by decide) (yW K a (gu_up G119 4 9 r117)) (ys_4 _) dX13_readClause_169 ?_
    refine g_goto F 246 dX13_readClause_170 (by decide) ?_
    exact ux_vret F hA hQ hr (gu_up G119 4 9 r117) (⟨(gu_I.up (j := 4) (k := 9) (v := r117) hI120 (show (1 : Int) ≤ Int32.toInt r117 by omega) (show Int32.toInt r117 ≤ 12 by omega)), (gu_un.up (j := 4) (k := 9) (v := r117) (gu_un.tr gu_un.rf (gu_un.su hU121 rfl)) (show (400 : Nat) ∈ ([5, 6, 7, 8, 9, 10, 21, 22, 400, 600, 800, 1000, 1100, 1200] : List Nat) by decide)), (by show (((gu_up G119 4 9 r117) 0 5).toInt ≤ (G 0 3).toInt ∧ (G 0 5).toInt ≤ ((gu_up G119 4 9 r117) 0 5).toInt ∧ (((gu_up G119 4 9 r117) 0 6).toInt = 0 ∨ (G 0 5).toInt < ((gu_up G119 4 9 r117) 0 5).toInt)); have e9_0_5 : (gu_up G119 4 9 r117) 0 5 = (G119 0 5) := rfl; have e9_0_6 : (gu_up G119 4 9 r117) 0 6 = (G119 0 6) := rfl; (try simp only [e9_0_5, e9_0_6, true_and, and_true]) <;> (first | omega | (simp only [Int32.reduceToInt, true_and, and_true, ne_eq, not_true_eq_false, false_and, or_false, false_or, true_or, or_true, false_implies] <;> omega))), ((yV3.un v3 (show gu_un ycd [5, 6, 7, 8, 9, 10, 400] G (gu_up G119 4 9 r117) from (gu_un.up (j := 4) (k := 9) (v := r117) (gu_un.tr gu_un.rf (gu_un.su hU121 rfl)) (show (400 : Nat) ∈ ([5, 6, 7, 8, 9, 10, 400] : List Nat) by decide))) rfl)), ((yKp.un yKp.rf (show gu_un ycd [5, 6, 7, 8, 9, 10, 400] G (gu_up G119 4 9 r117) from (gu_un.up (j := 4) (k := 9) (v := r117) (gu_un.tr gu_un.rf (gu_un.su hU121 rfl)) (show (400 : Nat) ∈ ([5, 6, 7, 8, 9, 10, 400] : List Nat) by decide))) rfl)), (by rw [show s0 = 7 by omega]; have e1 := (by decide : hLo 7 = 1); have e2 := (by decide : hHi 7 = 12); exact yCl.one (a := 9) (by decide) (by decide) (by decide) (by decide) (by decide) (show yStp [] G G G119 from ⟨(show gu_un ycd [] G G from gu_un.rf), rfl, by exact q132, funext fun k_ => hU121 2 k_ (by simp [ycd]), hU121 0 3 (by decide)⟩) q129.1 q129.2 (by omega) (by omega) (show gu_un ycd [400] G119 (gu_up G119 4 9 r117) from (gu_un.up (j := 4) (k := 9) (v := r117) gu_un.rf (show (400 : Nat) ∈ ([400] : List Nat) by decide))) rfl (show (gu_up G119 4 9 r117) 4 = (upd (G 4) 9 r117) from (congrArg (fun f_ => upd f_ 9 r117) ((show G119 4 = G 4 from funext fun k_ => hU121 4 k_ (by simp [ycd])).trans (show G 4 = (G 4) from rfl)))) (show (gu_up G119 4 9 r117) 6 = (G 6) from ((show G119 6 = G 6 from funext fun k_ => hU121 6 k_ (by simp [ycd])).trans (show G 6 = (G 6) from rfl))) (show (gu_up G119 4 9 r117) 8 = (G 8) from ((show G119 8 = G 8 from funext fun k_ => hU121 8 k_ (by simp [ycd])).trans (show G 8 = (G 8) from rfl))) (yMq_un (show gu_un ycd [5, 6, 7, 8, 9, 10, 400] G (gu_up G119 4 9 r117) from (gu_un.up (j := 4) (k := 9) (v := r117) (gu_un.tr gu_un.rf (gu_un.su hU121 rfl)) (show (400 : Nat) ∈ ([5, 6, 7, 8, 9, 10, 400] : List Nat) by decide))) rfl)), ((yFf.tr (show yFf G G from yFf.rf) q133))⟩) rfl rfl dX13_readClause_246
  · have c4' : Int32.toInt p0 = 8 := (e0).trans c4
    refine g_tableIn F 173 dX13_readClause_1 (by rw [c4']; decide) (by rw [c4']; decide) (by rw [c4']; rfl) (by decide) ?_
    refine g_aload_n F 0 dX13_readClause_173 rfl rfl ?_
    refine yg_0_11 F i_X13 w_0 dX13_readClause_174 ?_
    refine g_bipush F 10 dX13_readClause_177 (by decide) ?_
    refine g_aload_n F 0 dX13_readClause_179 rfl rfl ?_
    refine g_aload_n F 0 dX13_readClause_180 rfl rfl ?_
    refine yg_0_13 F i_X13 w_1 dX13_readClause_181 ?_
    refine g_iconst F 4 dX13_readClause_184 (by decide) ?_
    refine g_bipush F 15 dX13_readClause_185 (by decide) ?_
    refine ux_calliv (k := 0) (n := 0) (b := a 0) (As := [.ref (a 6), .int 4, .int 15]) (st := [.int 10, .ref (a 4)]) F (fun sz => S_X13_readRow_6_v4_v15 l D K a G  (by (first | omega | (simp only [Int32.reduceToInt, true_and, and_true, ne_eq, not_true_eq_false, false_and, or_false, false_or, true_or, or_true, false_implies] <;> omega))) hI sz) (cwV 3 hts gT_X13_readClause_X13_readRow rfl rfl rfl (by decide +kernel) ⟨Nat.le_of_ble_eq_true rfl, Nat.le_of_ble_eq_true rfl⟩) rfl 0 yc_0 rfl (Nat.le_of_ble_eq_true rfl) ⟨Nat.zero_le _, Nat.zero_le _⟩ dX13_readClause_187 hex hA hQ (fun u9 h9 => ⟨h9.1, gu_un.tr gu_un.rf (gu_un.su h9.2.1 rfl), (yKp.un yKp.rf h9.2.1 rfl), (by rw [show s0 = 8 by omega]; exact yClT.num (by decide) h9.2.2.1), (h9.2.2.2)⟩) (fun r135 G137 hw136 => ?_)
    have hI138 : yI G137 := hw136.1
    have hU139 : gu_un ycd [5, 6, 7, 8, 9, 10, 600] G G137 := hw136.2.1
    have hp140 := hw136.2.2
    have b141 : (0 : Int) ≤ (G137 0 5).toInt ∧ (G137 0 5).toInt ≤ 1000 := hI138 0 5
    have b142 : (0 : Int) ≤ (G137 0 6).toInt ∧ (G137 0 6).toInt ≤ 4 := hI138 0 6
    have q143 : ((G137 0 5).toInt ≤ (G 0 3).toInt ∧ (G 0 5).toInt ≤ (G137 0 5).toInt ∧ ((G137 0 6).toInt = 0 ∨ (G 0 5).toInt < (G137 0 5).toInt)) := hp140.2.1
    have q144 : yRo 8 20 6 r135.toInt G G137 := hp140.2.2.1
    have q145 : (0 < r135.toInt ∧ r135.toInt ≤ 4 ∧ (G137 0 6).toInt ≠ 2) := hp140.2.2.2.1
    have q146 : yFf G G137 := hp140.2.2.2.2
    have rg147 := hp140.1
    clear hp140 hw136
    refine u_iast F 4 0 yc_4 rfl 10 rfl (by decide) (by decide) (yW K a (gu_up G137 4 10 r135)) (ys_4 _) dX13_readClause_190 ?_
    refine g_goto F 246 dX13_readClause_191 (by decide) ?_
    exact ux_vret F hA hQ hr (gu_up G137 4 10 r135) (⟨(gu_I.up (j := 4) (k := 10) (v := r135) hI138 (show (1 : Int) ≤ Int32.toInt r135 by omega) (show Int32.toInt r135 ≤ 4 by omega)), (gu_un.up (j := 4) (k := 10) (v := r135) (gu_un.tr gu_un.rf (gu_un.su hU139 rfl)) (show (400 : Nat) ∈ ([5, 6, 7, 8, 9, 10, 21, 22, 400, 600, 800, 1000, 1100, 1200] : List Nat) by decide)), (by show (((gu_up G137 4 10 r135) 0 5).toInt ≤ (G 0 3).toInt ∧ (G 0 5).toInt ≤ ((gu_up G137 4 10 r135) 0 5).toInt ∧ (((gu_up G137 4 10 r135) 0 6).toInt = 0 ∨ (G 0 5).toInt < ((gu_up G137 4 10 r135) 0 5).toInt)); have e9_0_5 : (gu_up G137 4 10 r135) 0 5 = (G137 0 5) := rfl; have e9_0_6 : (gu_up G137 4 10 r135) 0 6 = (G137 0 6) := rfl; (try simp only [e9_0_5, e9_0_6, true_and, and_true]) <;> (first | omega | (simp only [Int32.reduceToInt, true_and, and_true, ne_eq, not_true_eq_false, false_and, or_false, false_or, true_or, or_true, false_implies] <;> omega))), ((yV3.un v3 (show gu_un ycd [5, 6, 7, 8, 9, 10, 400, 600] G (gu_up G137 4 10 r135) from (gu_un.up (j := 4) (k := 10) (v := r135) (gu_un.tr gu_un.rf (gu_un.su hU139 rfl)) (show (400 : Nat) ∈ ([5, 6, 7, 8, 9, 10, 400, 600] : List Nat) by decide))) rfl)), ((yKp.un yKp.rf (show gu_un ycd [5, 6, 7, 8, 9, 10, 400, 600] G (gu_up G137 4 10 r135) from (gu_un.up (j := 4) (k := 10) (v := r135) (gu_un.tr gu_un.rf (gu_un.su hU139 rfl)) (show (400 : Nat) ∈ ([5, 6, 7, 8, 9, 10, 400, 600] : List Nat) by decide))) rfl)), (by rw [show s0 = 8 by omega]; exact yCl.row8 q144 q145.1 q145.2.1 q145.2.2 (show gu_un ycd [400] G137 (gu_up G137 4 10 r135) from (gu_un.up (j := 4) (k := 10) (v := r135) gu_un.rf (show (400 : Nat) ∈ ([400] : List Nat) by decide))) rfl rfl (show (gu_up G137 4 10 r135) 4 = (upd (G 4) 10 r135) from (congrArg (fun f_ => upd f_ 10 r135) ((show G137 4 = G 4 from funext fun k_ => hU139 4 k_ (by simp [ycd])).trans (show G 4 = (G 4) from rfl)))) (show (gu_up G137 4 10 r135) 6 = G137 6 from rfl) (show (gu_up G137 4 10 r135) 8 = (G 8) from ((show G137 8 = G 8 from funext fun k_ => hU139 8 k_ (by simp [ycd])).trans (show G 8 = (G 8) from rfl))) (yMq_un (show gu_un ycd [5, 6, 7, 8, 9, 10, 400, 600] G (gu_up G137 4 10 r135) from (gu_un.up (j := 4) (k := 10) (v := r135) (gu_un.tr gu_un.rf (gu_un.su hU139 rfl)) (show (400 : Nat) ∈ ([5, 6, 7, 8, 9, 10, 400, 600] : List Nat) by decide))) rfl)), ((yFf.tr (show yFf G G from yFf.rf) q146))⟩) rfl rfl dX13_readClause_246
  · have c4' : Int32.toInt p0 = 9 := (e0).trans c4
    refine g_tableIn F 194 dX13_readClause_1 (by rw [c4']; decide) (by rw [c4']; decide) (by rw [c4']; rfl) (by decide) ?_
    refine g_aload_n F 0 dX13_readClause_194 rfl rfl ?_
    refine yg_0_11 F i_X13 w_0 dX13_readClause_195 ?_
    refine g_bipush F 11 dX13_readClause_198 (by decide) ?_
    refine g_aload_n F 0 dX13_readClause_200 rfl rfl ?_
    refine g_aload_n F 0 dX13_readClause_201 rfl rfl ?_
    refine yg_0_15 F i_X13 w_2 dX13_readClause_202 ?_
    refine g_bipush F 6 dX13_readClause_205 (by decide) ?_
    refine g_bipush F 9 dX13_readClause_207 (by decide) ?_
    refine ux_calliv (k := 0) (n := 0) (b := a 0) (As := [.ref (a 8), .int 6, .int 9]) (st := [.int 11, .ref (a 4)]) F (fun sz => S_X13_readRow_8_v6_v9 l D K a G  (by (first | omega | (simp only [Int32.reduceToInt, true_and, and_true, ne_eq, not_true_eq_false, false_and, or_false, false_or, true_or, or_true, false_implies] <;> omega))) hI sz) (cwV 3 hts gT_X13_readClause_X13_readRow rfl rfl rfl (by decide +kernel) ⟨Nat.le_of_ble_eq_true rfl, Nat.le_of_ble_eq_true rfl⟩) rfl 0 yc_0 rfl (Nat.le_of_ble_eq_true rfl) ⟨Nat.zero_le _, Nat.zero_le _⟩ dX13_readClause_209 hex hA hQ (fun u9 h9 => ⟨h9.1, gu_un.tr gu_un.rf (gu_un.su h9.2.1 rfl), (yKp.un yKp.rf h9.2.1 rfl), (by rw [show s0 = 9 by omega]; exact yClT.num (by decide) h9.2.2.1), (h9.2.2.2)⟩) (fun r148 G150 hw149 => ?_)
    have hI151 : yI G150 := hw149.1
    have hU152 : gu_un ycd [5, 6, 7, 8, 9, 10, 800] G G150 := hw149.2.1
    have hp153 := hw149.2.2
    have b154 : (0 : Int) ≤ (G150 0 5).toInt ∧ (G150 0 5).toInt ≤ 1000 := hI151 0 5
    have b155 : (0 : Int) ≤ (G150 0 6).toInt ∧ (G150 0 6).toInt ≤ 4 := hI151 0 6
    have q156 : ((G150 0 5).toInt ≤ (G 0 3).toInt ∧ (G 0 5).toInt ≤ (G150 0 5).toInt ∧ ((G150 0 6).toInt = 0 ∨ (G 0 5).toInt < (G150 0 5).toInt)) := hp153.2.1
    have q157 : yRo 9 30 8 r148.toInt G G150 := hp153.2.2.1
    have q158 : (0 < r148.toInt ∧ r148.toInt ≤ 6 ∧ (G150 0 6).toInt ≠ 2) := hp153.2.2.2.1
    have q159 : yFf G G150 := hp153.2.2.2.2
    have rg160 := hp153.1
    clear hp153 hw149
    refine u_iast F 4 0 yc_4 rfl 11 rfl (by decide) (by decide) (yW K a (gu_up G150 4 11 r148)) (ys_4 _) dX13_readClause_212 ?_
    refine g_goto F 246 dX13_readClause_213 (by decide) ?_
    exact ux_vret F hA hQ hr (gu_up G150 4 11 r148) (⟨(gu_I.up (j := 4) (k := 11) (v := r148) hI151 (show (1 : Int) ≤ Int32.toInt r148 by omega) (show Int32.toInt r148 ≤ 6 by omega)), (gu_un.up (j := 4) (k := 11) (v := r148) (gu_un.tr gu_un.rf (gu_un.su hU152 rfl)) (show (400 : Nat) ∈ ([5, 6, 7, 8, 9, 10, 21, 22, 400, 600, 800, 1000, 1100, 1200] : List Nat) by decide)), (by show (((gu_up G150 4 11 r148) 0 5).toInt ≤ (G 0 3).toInt ∧ (G 0 5).toInt ≤ ((gu_up G150 4 11 r148) 0 5).toInt ∧ (((gu_up G150 4 11 r148) 0 6).toInt = 0 ∨ (G 0 5).toInt < ((gu_up G150 4 11 r148) 0 5).toInt)); have e9_0_5 : (gu_up G150 4 11 r148) 0 5 = (G150 0 5) := rfl; have e9_0_6 : (gu_up G150 4 11 r148) 0 6 = (G150 0 6) := rfl; (try simp only [e9_0_5, e9_0_6, true_and, and_true]) <;> (first | omega | (simp only [Int32.reduceToInt, true_and, and_true, ne_eq, not_true_eq_false, false_and, or_false, false_or, true_or, or_true, false_implies] <;> omega))), ((yV3.un v3 (show gu_un ycd [5, 6, 7, 8, 9, 10, 400, 800] G (gu_up G150 4 11 r148) from (gu_un.up (j := 4) (k := 11) (v := r148) (gu_un.tr gu_un.rf (gu_un.su hU152 rfl)) (show (400 : Nat) ∈ ([5, 6, 7, 8, 9, 10, 400, 800] : List Nat) by decide))) rfl)), ((yKp.un yKp.rf (show gu_un ycd [5, 6, 7, 8, 9, 10, 400, 800] G (gu_up G150 4 11 r148) from (gu_un.up (j := 4) (k := 11) (v := r148) (gu_un.tr gu_un.rf (gu_un.su hU152 rfl)) (show (400 : Nat) ∈ ([5, 6, 7, 8, 9, 10, 400, 800] : List Nat) by decide))) rfl)), (by rw [show s0 = 9 by omega]; exact yCl.row9 q157 (show (G 4 10).toInt ≤ 10 by omega) q158.1 q158.2.2 (show gu_un ycd [400] G150 (gu_up G150 4 11 r148) from (gu_un.up (j := 4) (k := 11) (v := r148) gu_un.rf (show (400 : Nat) ∈ ([400] : List Nat) by decide))) rfl rfl (show (gu_up G150 4 11 r148) 4 = (upd (G 4) 11 r148) from (congrArg (fun f_ => upd f_ 11 r148) ((show G150 4 = G 4 from funext fun k_ => hU152 4 k_ (by simp [ycd])).trans (show G 4 = (G 4) from rfl)))) (show (gu_up G150 4 11 r148) 6 = (G 6) from ((show G150 6 = G 6 from funext fun k_ => hU152 6 k_ (by simp [ycd])).trans (show G 6 = (G 6) from rfl))) (show (gu_up G150 4 11 r148) 8 = G150 8 from rfl) (yMq_un (show gu_un ycd [5, 6, 7, 8, 9, 10, 400, 800] G (gu_up G150 4 11 r148) from (gu_un.up (j := 4) (k := 11) (v := r148) (gu_un.tr gu_un.rf (gu_un.su hU152 rfl)) (show (400 : Nat) ∈ ([5, 6, 7, 8, 9, 10, 400, 800] : List Nat) by decide))) rfl)), ((yFf.tr (show yFf G G from yFf.rf) q159))⟩) rfl rfl dX13_readClause_246
  · refine g_tableOut F 216 dX13_readClause_1 (by rw [e0]; exact c4) (by decide) ?_
    refine g_aload_n F 0 dX13_readClause_216 rfl rfl ?_
    refine g_iconst F 3 dX13_readClause_217 (by decide) ?_
    refine g_iload_n F 1 dX13_readClause_218 rfl rfl ?_
    refine u_iadd F dX13_readClause_219 3 s0 rfl e0 (by omega) (by omega) (fun y161 ey161 => ?_)
    refine g_bipush F 10 dX13_readClause_220 (by decide) ?_
    refine u_isub F dX13_readClause_222 y161.toInt 10 rfl rfl (by omega) (by omega) (fun y162 ey162 => ?_)
    refine yp_0_20 F i_X13 w_3 dX13_readClause_223 ?_
    refine g_aload_n F 0 dX13_readClause_226 rfl rfl ?_
    refine yg_0_19 F i_X13 w_4 dX13_readClause_227 ?_
    refine g_aload_n F 0 dX13_readClause_230 rfl rfl ?_
    refine yg_0_20 F i_X13 w_3 dX13_readClause_231 y162 (rfl) ?_
    refine g_iconst F 0 dX13_readClause_234 (by decide) ?_
    refine u_iast F 12 0 yc_12 rfl y162.toInt rfl (by omega) (by omega) (yW K a (gu_up (gu_up G 0 20 y162) 12 (y162.toInt).toNat 0)) (ys_12 _) dX13_readClause_235 ?_
    refine g_aload_n F 0 dX13_readClause_236 rfl rfl ?_
    refine g_iconst F 0 dX13_readClause_237 (by decide) ?_
    refine yp_0_21 F i_X13 w_5 dX13_readClause_238 ?_
    refine g_aload_n F 0 dX13_readClause_241 rfl rfl ?_
    have kp163 : yKp G (gu_up (gu_up (gu_up G 0 20 y162) 12 (y162.toInt).toNat 0) 0 21 0) := ⟨fun i _ => ⟨rfl, rfl⟩, fun q hq => show upd (G 12) (y162.toInt).toNat 0 q = G 12 q from if_neg (by omega)⟩
    refine g_iconst F 0 dX13_readClause_242 (by decide) ?_
    refine uxz_callvv (k := 0) (n := 0) (b := a 0) (As := [.int 0]) (st := []) F yZ_st hZ (fun sz => S_X13_readSum_v0 l D K a (gu_up (gu_up (gu_up G 0 20 y162) 12 (y162.toInt).toNat 0) 0 21 0) qs vs  (by have e9_0_3 : (gu_up (gu_up (gu_up G 0 20 y162) 12 (y162.toInt).toNat 0) 0 21 0) 0 3 = (G 0 3) := rfl; have e9_0_5 : (gu_up (gu_up (gu_up G 0 20 y162) 12 (y162.toInt).toNat 0) 0 21 0) 0 5 = (G 0 5) := rfl; (try simp only [e9_0_3, e9_0_5, true_and, and_true]) <;> (first | omega | (simp only [Int32.reduceToInt, true_and, and_true, ne_eq, not_true_eq_false, false_and, or_false, false_or, true_or, or_true, false_implies] <;> omega))) (by have e9_0_20 : (gu_up (gu_up (gu_up G 0 20 y162) 12 (y162.toInt).toNat 0) 0 21 0) 0 20 = y162 := rfl; (try simp only [e9_0_20, true_and, and_true]) <;> (first | omega | (simp only [Int32.reduceToInt, true_and, and_true, ne_eq, not_true_eq_false, false_and, or_false, false_or, true_or, or_true, false_implies] <;> omega))) (by show (upd (G 12) (y162.toInt).toNat 0 (y162.toInt).toNat).toInt ≤ 6 * (0 : Int32).toInt; rw [show upd (G 12) (y162.toInt).toNat 0 (y162.toInt).toNat = 0 from if_pos rfl]; decide) (gu_I.up (j := 0) (k := 21) (v := 0) (gu_I.up (j := 12) (k := (y162.toInt).toNat) (v := 0) (gu_I.up (j := 0) (k := 20) (v := y162) hI (show (0 : Int) ≤ Int32.toInt y162 by omega) (show Int32.toInt y162 ≤ 5 by omega)) (show (0 : Int) ≤ (0 : Int32).toInt by decide) (show (0 : Int32).toInt ≤ 80 by decide)) (show (0 : Int) ≤ (0 : Int32).toInt by decide) (show (0 : Int32).toInt ≤ 12 by decide)) sz) (cwV 1 hts gT_X13_readClause_X13_readSum rfl rfl rfl (by decide +kernel) ⟨Nat.le_of_ble_eq_true rfl, Nat.le_of_ble_eq_true rfl⟩) rfl 0 yc_0 rfl (Nat.le_of_ble_eq_true rfl) ⟨Nat.zero_le _, Nat.zero_le _⟩ dX13_readClause_243 hex hA hQ (fun u9 h9 => ⟨h9.1, gu_un.tr (gu_un.up (j := 0) (k := 21) (v := 0) (gu_un.up (j := 12) (k := (y162.toInt).toNat) (v := 0) (gu_un.up (j := 0) (k := 20) (v := y162) gu_un.rf (show (21 : Nat) ∈ ([5, 6, 7, 8, 9, 10, 21, 22, 400, 600, 800, 1000, 1100, 1200] : List Nat) by decide)) (show (1200 : Nat) ∈ ([5, 6, 7, 8, 9, 10, 21, 22, 400, 600, 800, 1000, 1100, 1200] : List Nat) by decide)) (show (22 : Nat) ∈ ([5, 6, 7, 8, 9, 10, 21, 22, 400, 600, 800, 1000, 1100, 1200] : List Nat) by decide)) (gu_un.su h9.2.1 rfl), (yKp.tr kp163 h9.2.2.1), (by rw [show s0 = 10 + (((y162.toInt - 3).toNat : Nat) : Int) by omega]; have h9 := h9.2.2.2.1; (try rw [show (gu_up (gu_up (gu_up G 0 20 y162) 12 (y162.toInt).toNat 0) 0 21 0) 0 20 = y162 from rfl] at h9); (try rw [show (gu_up (gu_up (gu_up G 0 20 y162) 12 (y162.toInt).toNat 0) 0 21 0) 0 21 = 0 from rfl] at h9); rw [mL_0 (G := (gu_up (gu_up (gu_up G 0 20 y162) 12 (y162.toInt).toNat 0) 0 21 0)) (show (upd (G 12) (y162.toInt).toNat 0 (y162.toInt).toNat).toInt = 0 by rw [show upd (G 12) (y162.toInt).toNat 0 (y162.toInt).toNat = 0 from if_pos rfl]; rfl)] at h9; exact yClT.sum (yThr.un0 (show yThr cS (y162.toInt - 3).toNat (qW 0 0 []) _ _ from h9) (show gu_un ycd [21, 22, 1200] G (gu_up (gu_up (gu_up G 0 20 y162) 12 (y162.toInt).toNat 0) 0 21 0) from (gu_un.up (j := 0) (k := 21) (v := 0) (gu_un.up (j := 12) (k := (y162.toInt).toNat) (v := 0) (gu_un.up (j := 0) (k := 20) (v := y162) gu_un.rf (show (21 : Nat) ∈ ([21, 22, 1200] : List Nat) by decide)) (show (1200 : Nat) ∈ ([21, 22, 1200] : List Nat) by decide)) (show (22 : Nat) ∈ ([21, 22, 1200] : List Nat) by decide))) rfl)), (h9.2.2.2.2)⟩) (fun G166 hw165 => ?_)
    have hI167 : yI G166 := hw165.1
    have hU168 : gu_un ycd [5, 6, 7, 8, 9, 10, 22, 1000, 1100, 1200] (gu_up (gu_up (gu_up G 0 20 y162) 12 (y162.toInt).toNat 0) 0 21 0) G166 := hw165.2.1
    have hp169 := hw165.2.2
    have b170 : (0 : Int) ≤ (G166 0 5).toInt ∧ (G166 0 5).toInt ≤ 1000 := hI167 0 5
    have b171 : (0 : Int) ≤ (G166 0 6).toInt ∧ (G166 0 6).toInt ≤ 4 := hI167 0 6
    have q172 : ((G166 0 5).toInt ≤ (G 0 3).toInt ∧ (G 0 5).toInt ≤ (G166 0 5).toInt ∧ ((G166 0 6).toInt = 0 ∨ (G 0 5).toInt < (G166 0 5).toInt)) := hp169.1
    have q173 : ySg 6 y162.toInt (gu_up (gu_up (gu_up G 0 20 y162) 12 (y162.toInt).toNat 0) 0 21 0) G166 := hp169.2.1
    have q174 : yKp (gu_up (gu_up (gu_up G 0 20 y162) 12 (y162.toInt).toNat 0) 0 21 0) G166 := hp169.2.2.1
    have b175 : (0 : Int) ≤ (G166 0 21).toInt ∧ (G166 0 21).toInt ≤ 12 := hI167 0 21
    have q176 : ySim cS (y162.toInt - 3).toNat (qW 0 (0 : Int) (mL y162.toInt (gu_up (gu_up (gu_up G 0 20 y162) 12 (y162.toInt).toNat 0) 0 21 0))) (qD 0 (G166 0 21).toInt (mL y162.toInt G166)) (gu_up (gu_up (gu_up G 0 20 y162) 12 (y162.toInt).toNat 0) 0 21 0) G166 := hp169.2.2.2.1
    have b177 : (0 : Int) ≤ (G166 0 7).toInt ∧ (G166 0 7).toInt ≤ 9999 := hI167 0 7
    have q178 : ((G166 0 6).toInt ≠ 3 ∨ xsg (G166 0 7).toInt = 0) := hp169.2.2.2.2.1
    have q179 : yFf (gu_up (gu_up (gu_up G 0 20 y162) 12 (y162.toInt).toNat 0) 0 21 0) G166 := hp169.2.2.2.2.2
    have kp180 : yKp G G166 := yKp.tr kp163 q174
    clear hp169 hw165
    exact ux_vret F hA hQ hr G166 (⟨hI167, (gu_un.tr (gu_un.up (j := 0) (k := 21) (v := 0) (gu_un.up (j := 12) (k := (y162.toInt).toNat) (v := 0) (gu_un.up (j := 0) (k := 20) (v := y162) gu_un.rf (show (21 : Nat) ∈ ([5, 6, 7, 8, 9, 10, 21, 22, 400, 600, 800, 1000, 1100, 1200] : List Nat) by decide)) (show (1200 : Nat) ∈ ([5, 6, 7, 8, 9, 10, 21, 22, 400, 600, 800, 1000, 1100, 1200] : List Nat) by decide)) (show (22 : Nat) ∈ ([5, 6, 7, 8, 9, 10, 21, 22, 400, 600, 800, 1000, 1100, 1200] : List Nat) by decide)) (gu_un.su hU168 rfl)), (by show ((G166 0 5).toInt ≤ (G 0 3).toInt ∧ (G 0 5).toInt ≤ (G166 0 5).toInt ∧ ((G166 0 6).toInt = 0 ∨ (G 0 5).toInt < (G166 0 5).toInt)); (first | omega | (simp only [Int32.reduceToInt, true_and, and_true, ne_eq, not_true_eq_false, false_and, or_false, false_or, true_or, or_true, false_implies] <;> omega))), (yV3.sum (G1 := (gu_up (gu_up (gu_up G 0 20 y162) 12 (y162.toInt).toNat 0) 0 21 0)) v3 hI (by omega) (by omega) rfl rfl (fun q hq => show upd (G 12) (y162.toInt).toNat 0 q = _ from if_neg hq) (by show (upd (G 12) (y162.toInt).toNat 0 (y162.toInt).toNat).toInt = 0; rw [show upd (G 12) (y162.toInt).toNat 0 (y162.toInt).toNat = 0 from if_pos rfl]; rfl) q173), (kp180), (by rw [show s0 = 10 + (((y162.toInt - 3).toNat : Nat) : Int) by omega]; exact yCl.sum (by omega) ((show ySim cS (y162.toInt - 3).toNat (qW 0 0 []) _ _ _ by have h9 := q176; rw [mL_0 (G := (gu_up (gu_up (gu_up G 0 20 y162) 12 (y162.toInt).toNat 0) 0 21 0)) (show (upd (G 12) (y162.toInt).toNat 0 (y162.toInt).toNat).toInt = 0 by rw [show upd (G 12) (y162.toInt).toNat 0 (y162.toInt).toNat = 0 from if_pos rfl]; rfl)] at h9; exact h9).un0 (show gu_un ycd [21, 22, 1200] G (gu_up (gu_up (gu_up G 0 20 y162) 12 (y162.toInt).toNat 0) 0 21 0) from (gu_un.up (j := 0) (k := 21) (v := 0) (gu_un.up (j := 12) (k := (y162.toInt).toNat) (v := 0) (gu_un.up (j := 0) (k := 20) (v := y162) gu_un.rf (show (21 : Nat) ∈ ([21, 22, 1200] : List Nat) by decide)) (show (1200 : Nat) ∈ ([21, 22, 1200] : List Nat) by decide)) (show (22 : Nat) ∈ ([21, 22, 1200] : List Nat) by decide))) rfl) q178 (fun nu sg hN => yNu.sm (G := G) (by omega) q173 rfl rfl (fun q hq => show upd (G 12) (y162.toInt).toNat 0 q = _ from if_neg hq) (by show (0 : Int) ≤ (upd (G 12) (y162.toInt).toNat 0 (y162.toInt).toNat).toInt; have h9 := (show (upd (G 12) (y162.toInt).toNat 0 (y162.toInt).toNat).toInt = 0 by rw [show upd (G 12) (y162.toInt).toNat 0 (y162.toInt).toNat = 0 from if_pos rfl]; rfl); omega) hI (show G166 4 = (G 4) from ((show G166 4 = (gu_up (gu_up (gu_up G 0 20 y162) 12 (y162.toInt).toNat 0) 0 21 0) 4 from funext fun k_ => hU168 4 k_ (by simp [ycd])).trans (show (gu_up (gu_up (gu_up G 0 20 y162) 12 (y162.toInt).toNat 0) 0 21 0) 4 = (G 4) from rfl))) (show G166 6 = (G 6) from ((show G166 6 = (gu_up (gu_up (gu_up G 0 20 y162) 12 (y162.toInt).toNat 0) 0 21 0) 6 from funext fun k_ => hU168 6 k_ (by simp [ycd])).trans (show (gu_up (gu_up (gu_up G 0 20 y162) 12 (y162.toInt).toNat 0) 0 21 0) 6 = (G 6) from rfl))) (show G166 8 = (G 8) from ((show G166 8 = (gu_up (gu_up (gu_up G 0 20 y162) 12 (y162.toInt).toNat 0) 0 21 0) 8 from funext fun k_ => hU168 8 k_ (by simp [ycd])).trans (show (gu_up (gu_up (gu_up G 0 20 y162) 12 (y162.toInt).toNat 0) 0 21 0) 8 = (G 8) from rfl))) hN)), ((yFf.tr (show yFf G (gu_up (gu_up (gu_up G 0 20 y162) 12 (y162.toInt).toNat 0) 0 21 0) from yFf.rf) q179))⟩) rfl rfl dX13_readClause_246

theorem dX13_readShop_0 : decode cX13_readShop 0 = .ok (.aload_n 0, 1) := by decide +kernel
theorem dX13_readShop_1 : decode cX13_readShop 1 = .ok (.invokevirtual 190, 3) := by decide +kernel
theorem dX13_readShop_4 : decode cX13_readShop 4 = .ok (.iconst 0, 1) := by decide +kernel
theorem dX13_readShop_5 : decode cX13_readShop 5 = .ok (.istore_n 1, 1) := by decide +kernel
theorem dX13_readShop_6 : decode cX13_readShop 6 = .ok (.aload_n 0, 1) := by decide +kernel
theorem dX13_readShop_7 : decode cX13_readShop 7 = .ok (.getfield 31, 3) := by decide +kernel
theorem dX13_readShop_10 : decode cX13_readShop 10 = .ok (.ifCond .eq 79, 3) := by decide +kernel
theorem dX13_readShop_13 : decode cX13_readShop 13 = .ok (.aload_n 0, 1) := by decide +kernel
theorem dX13_readShop_14 : decode cX13_readShop 14 = .ok (.invokevirtual 193, 3) := by decide +kernel
theorem dX13_readShop_17 : decode cX13_readShop 17 = .ok (.istore_n 2, 1) := by decide +kernel
theorem dX13_readShop_18 : decode cX13_readShop 18 = .ok (.aload_n 0, 1) := by decide +kernel
theorem dX13_readShop_19 : decode cX13_readShop 19 = .ok (.iload_n 2, 1) := by decide +kernel
theorem dX13_readShop_20 : decode cX13_readShop 20 = .ok (.iconst (-1), 1) := by decide +kernel
theorem dX13_readShop_21 : decode cX13_readShop 21 = .ok (.if_icmp .eq 7, 3) := by decide +kernel
theorem dX13_readShop_24 : decode cX13_readShop 24 = .ok (.iconst 1, 1) := by decide +kernel
theorem dX13_readShop_25 : decode cX13_readShop 25 = .ok (.goto 4, 3) := by decide +kernel
theorem dX13_readShop_28 : decode cX13_readShop 28 = .ok (.iconst 0, 1) := by decide +kernel
theorem dX13_readShop_29 : decode cX13_readShop 29 = .ok (.iconst 1, 1) := by decide +kernel
theorem dX13_readShop_30 : decode cX13_readShop 30 = .ok (.invokevirtual 57, 3) := by decide +kernel
theorem dX13_readShop_33 : decode cX13_readShop 33 = .ok (.aload_n 0, 1) := by decide +kernel
theorem dX13_readShop_34 : decode cX13_readShop 34 = .ok (.aload_n 0, 1) := by decide +kernel
theorem dX13_readShop_35 : decode cX13_readShop 35 = .ok (.getfield 96, 3) := by decide +kernel
theorem dX13_readShop_38 : decode cX13_readShop 38 = .ok (.iload_n 2, 1) := by decide +kernel
theorem dX13_readShop_39 : decode cX13_readShop 39 = .ok (.baload, 1) := by decide +kernel
theorem dX13_readShop_40 : decode cX13_readShop 40 = .ok (.ifCond .ne 7, 3) := by decide +kernel
theorem dX13_readShop_43 : decode cX13_readShop 43 = .ok (.iconst 1, 1) := by decide +kernel
theorem dX13_readShop_44 : decode cX13_readShop 44 = .ok (.goto 4, 3) := by decide +kernel
theorem dX13_readShop_47 : decode cX13_readShop 47 = .ok (.iconst 0, 1) := by decide +kernel
theorem dX13_readShop_48 : decode cX13_readShop 48 = .ok (.iconst 3, 1) := by decide +kernel
theorem dX13_readShop_49 : decode cX13_readShop 49 = .ok (.invokevirtual 57, 3) := by decide +kernel
theorem dX13_readShop_52 : decode cX13_readShop 52 = .ok (.aload_n 0, 1) := by decide +kernel
theorem dX13_readShop_53 : decode cX13_readShop 53 = .ok (.getfield 96, 3) := by decide +kernel
theorem dX13_readShop_56 : decode cX13_readShop 56 = .ok (.iload_n 2, 1) := by decide +kernel
theorem dX13_readShop_57 : decode cX13_readShop 57 = .ok (.iconst 1, 1) := by decide +kernel
theorem dX13_readShop_58 : decode cX13_readShop 58 = .ok (.bastore, 1) := by decide +kernel
theorem dX13_readShop_59 : decode cX13_readShop 59 = .ok (.aload_n 0, 1) := by decide +kernel
theorem dX13_readShop_60 : decode cX13_readShop 60 = .ok (.invokevirtual 69, 3) := by decide +kernel
theorem dX13_readShop_63 : decode cX13_readShop 63 = .ok (.aload_n 0, 1) := by decide +kernel
theorem dX13_readShop_64 : decode cX13_readShop 64 = .ok (.iload_n 2, 1) := by decide +kernel
theorem dX13_readShop_65 : decode cX13_readShop 65 = .ok (.invokevirtual 196, 3) := by decide +kernel
theorem dX13_readShop_68 : decode cX13_readShop 68 = .ok (.aload_n 0, 1) := by decide +kernel
theorem dX13_readShop_69 : decode cX13_readShop 69 = .ok (.aload_n 0, 1) := by decide +kernel
theorem dX13_readShop_70 : decode cX13_readShop 70 = .ok (.bipush 59, 2) := by decide +kernel
theorem dX13_readShop_72 : decode cX13_readShop 72 = .ok (.invokevirtual 110, 3) := by decide +kernel
theorem dX13_readShop_75 : decode cX13_readShop 75 = .ok (.iconst 1, 1) := by decide +kernel
theorem dX13_readShop_76 : decode cX13_readShop 76 = .ok (.invokevirtual 57, 3) := by decide +kernel
theorem dX13_readShop_79 : decode cX13_readShop 79 = .ok (.aload_n 0, 1) := by decide +kernel
theorem dX13_readShop_80 : decode cX13_readShop 80 = .ok (.invokevirtual 69, 3) := by decide +kernel
theorem dX13_readShop_83 : decode cX13_readShop 83 = .ok (.iinc 1 1, 3) := by decide +kernel
theorem dX13_readShop_86 : decode cX13_readShop 86 = .ok (.goto (-80), 3) := by decide +kernel
theorem dX13_readShop_89 : decode cX13_readShop 89 = .ok (.iload_n 1, 1) := by decide +kernel
theorem dX13_readShop_90 : decode cX13_readShop 90 = .ok (.ireturn, 1) := by decide +kernel
set_option maxRecDepth 20000 in
theorem ggX13_readShop_X13_clauseAtHand : GoodIn wsX13_readShop wsX13_clauseAtHand := goodIn_r _ [22, 23, 24, 25, 6, 26, 1, 27, 28, 29, 30, 31, 32, 33, 34, 35, 36, 37, 38, 39, 40, 41, 42, 43, 44, 45, 46, 47, 48, 49, 50, 51, 52, 53, 54, 55, 56, 57, 58, 59, 60, 61, 62, 63, 64, 65, 66, 67, 68, 69, 70, 71, 72, 73, 74, 75, 76, 77, 78, 147, 148, 149, 150, 151, 152, 153, 154, 155, 156, 157, 158, 159, 160, 161, 162, 163, 164, 165, 166, 167, 168, 169, 170, 171, 172, 173, 174, 175, 176, 177, 178, 179, 180, 181, 182, 183, 184, 185, 186, 187, 188, 189, 190, 191, 192, 193, 194, 195, 196, 197, 198, 199, 200, 201, 202, 203, 204, 205, 206, 207, 208, 209, 210, 211, 212, 213, 214, 215, 216, 217, 218, 219] rfl (by decide +kernel)
set_option maxRecDepth 20000 in
theorem gX13_readShop_X13_clauseAtHand : GoodIn wsX13_readShop (wsV RX13 193 RX13 yX13_clauseAtHand wsX13_clauseAtHand) := goodIn_app (goodIn_of _ (by decide +kernel)) ggX13_readShop_X13_clauseAtHand
set_option maxRecDepth 20000 in
theorem ggX13_readShop_X13_isSign : GoodIn wsX13_readShop wsX13_isSign := goodIn_r _ [137, 1, 88, 147, 148, 149, 150, 151, 152, 153, 154, 155, 156, 157, 158, 159, 160, 161, 162, 163, 164, 165, 166, 167, 168, 169, 170, 171, 172, 173, 174, 175, 176, 177, 178, 179, 180, 181, 182, 183, 184, 185, 186, 187, 188, 189, 190, 191, 192, 193, 194, 195, 196, 197, 198, 199, 200, 201, 202, 203, 204, 205, 206, 207, 208, 209, 210, 211, 212, 213, 214, 215, 216, 217, 218, 219] rfl (by decide +kernel)
set_option maxRecDepth 20000 in
theorem gX13_readShop_X13_isSign : GoodIn wsX13_readShop (wsV RX13 110 RX13 yX13_isSign wsX13_isSign) := goodIn_app (goodIn_of _ (by decide +kernel)) ggX13_readShop_X13_isSign
set_option maxRecDepth 20000 in
theorem ggX13_readShop_X13_need : GoodIn wsX13_readShop wsX13_need := goodIn_r _ [82] rfl (by decide +kernel)
set_option maxRecDepth 20000 in
theorem gX13_readShop_X13_need : GoodIn wsX13_readShop (wsV RX13 57 RX13 yX13_need wsX13_need) := goodIn_app (goodIn_of _ (by decide +kernel)) ggX13_readShop_X13_need
set_option maxRecDepth 20000 in
theorem ggX13_readShop_X13_plain : GoodIn wsX13_readShop wsX13_plain := goodIn_r _ [7, 8, 9, 10, 11, 12, 2, 13, 14, 15, 6, 16, 17, 18, 147, 148, 149, 150, 151, 152, 153, 154, 155, 156, 157, 158, 159, 160, 161, 162, 163, 164, 165, 166, 167, 168, 169, 170, 171, 172, 173, 174, 175, 176, 177, 178, 179, 180, 181, 182, 183, 184, 185, 186, 187, 188, 189, 190, 191, 192, 193, 194, 195, 196, 197, 198, 199, 200, 201, 202, 203, 204, 205, 206, 207, 208, 209, 210, 211, 212, 213, 214, 215, 216, 217, 218, 219] rfl (by decide +kernel)
set_option maxRecDepth 20000 in
theorem gX13_readShop_X13_plain : GoodIn wsX13_readShop (wsV RX13 190 RX13 yX13_plain wsX13_plain) := goodIn_app (goodIn_of _ (by decide +kernel)) ggX13_readShop_X13_plain
set_option maxRecDepth 20000 in
theorem ggX13_readShop_X13_readClause : GoodIn wsX13_readShop wsX13_readClause := goodIn_r _ [102, 8, 9, 10, 12, 11, 103, 104, 105, 106, 6, 107, 108, 109, 110, 111, 1, 88, 79, 80, 81, 82, 112, 113, 114, 83, 84, 85, 86, 27, 87, 29, 28, 89, 90, 91, 92, 93, 94, 95, 96, 97, 98, 115, 116, 117, 118, 119, 120, 121, 122, 123, 124, 125, 126, 127, 128, 129, 130, 131, 132, 133, 134, 135, 136, 137, 13, 14, 15, 16, 17, 18, 138, 139, 140, 141, 142, 143, 144, 145, 23, 24, 25, 26, 30, 31, 32, 33, 34, 35, 36, 37, 38, 39, 40, 41, 42, 43, 44, 45, 46, 47, 48, 49, 50, 51, 52, 53, 54, 55, 56, 57, 58, 59, 60, 61, 62, 63, 64, 65, 66, 67, 68, 69, 70, 71, 72, 73, 74, 75, 76, 77, 78, 146, 147, 148, 149, 150, 151, 152, 153, 154, 155, 156, 157, 158, 159, 160, 161, 162, 163, 164, 165, 166, 167, 168, 169, 170, 171, 172, 173, 174, 175, 176, 177, 178, 179, 180, 181, 182, 183, 184, 185, 186, 187, 188, 189, 190, 191, 192, 193, 194, 195, 196, 197, 198, 199, 200, 201, 202, 203, 204, 205, 206, 207, 208, 209, 210, 211, 212, 213, 214, 215, 216, 217, 218, 219] rfl (by decide +kernel)
set_option maxRecDepth 20000 in
theorem gX13_readShop_X13_readClause : GoodIn wsX13_readShop (wsV RX13 196 RX13 yX13_readClause wsX13_readClause) := goodIn_app (goodIn_of _ (by decide +kernel)) ggX13_readShop_X13_readClause
set_option maxRecDepth 20000 in
theorem ggX13_readShop_X13_scan : GoodIn wsX13_readShop wsX13_scan := goodIn_r _ [86, 27, 87, 29, 28, 1, 88, 89, 90, 91, 6, 92, 93, 94, 95, 96, 97, 98, 147, 148, 149, 150, 151, 152, 153, 154, 155, 156, 157, 158, 159, 160, 161, 162, 163, 164, 165, 166, 167, 168, 169, 170, 171, 172, 173, 174, 175, 176, 177, 178, 179, 180, 181, 182, 183, 184, 185, 186, 187, 188, 189, 190, 191, 192, 193, 194, 195, 196, 197, 198, 199, 200, 201, 202, 203, 204, 205, 206, 207, 208, 209, 210, 211, 212, 213, 214, 215, 216, 217, 218, 219] rfl (by decide +kernel)
set_option maxRecDepth 20000 in
theorem gX13_readShop_X13_scan : GoodIn wsX13_readShop (wsV RX13 69 RX13 yX13_scan wsX13_scan) := goodIn_app (goodIn_of _ (by decide +kernel)) ggX13_readShop_X13_scan
def wsT_X13_readShop : List Cond := wsX13_readShop ++ wsT_nx
theorem gT_X13_readShop_X13_need : GoodIn wsT_X13_readShop (wsV RX13 57 RX13 yX13_need wsT_X13_need) := gT_call gX13_readShop_X13_need gT_nx
theorem gT_X13_readShop_X13_readClause : GoodIn wsT_X13_readShop (wsV RX13 196 RX13 yX13_readClause wsT_X13_readClause) := gT_call gX13_readShop_X13_readClause gT_nx
set_option maxHeartbeats 4000000 in
set_option maxRecDepth 100000 in
theorem S_X13_readShop (l : Launch) (D : va_G) (K : Nat → ClassId) (a : Nat → Nat) (G : gS) (qs vs : Nat → Nat) (pb : ((G 0 5).toInt ≤ (G 0 3).toInt)) (pq : ((G 0 4).toInt ≤ (G 0 5).toInt)) (hI : yI G) (sz : Nat) : KxiZ (yZ qs vs) l yX13_readShop wsT_X13_readShop 23 525 D [.ref (a 0)] (yW K a G) (tK K) sz (fun (r : Int32) (G' : gS) => (yI G') ∧ (gu_un ycd [5, 6, 7, 8, 9, 10, 21, 22, 400, 600, 800, 900, 1000, 1100, 1200] G G') ∧ (0 ≤ r.toInt ∧ r.toInt ≤ 1000) ∧ (yV3 G') ∧ (yKp G G') ∧ (yDn r.toInt G G') ∧ (yFf G G')) (fun (G' : gS) => (yI G') ∧ (gu_un ycd [5, 6, 7, 8, 9, 10, 21, 22, 400, 600, 800, 900, 1000, 1100, 1200] G G') ∧ (yKp G G') ∧ (yRdT G G') ∧ (((G' 0 8).toInt ≠ 0))) (a 1) (fun (G' : gS) => (yW K a G')) := by
  unfold KxiZ
  refine gxz_ofW (cc := cX13_readShop) (lv := [(0, .ref (a 0))]) (by decide) rfl (Nat.le_of_ble_eq_true rfl) rfl ?_
  intro p e s m args below meth c A Q hA hQ hZ F hr hex
  have hts := F.2.2.2.2.1
  have w_0 : (Cond.fieldLink RX13 31 "QuietCutModel" "hand" "I").before args s = true := hts _ (List.mem_of_getElem? (i := 1) rfl)
  have i_X13 : ∀ w ∈ u_ws RX13 TX13 73, w ∈ wsT_X13_readShop := fun w h => List.mem_append_left _ ((show ∀ w ∈ u_ws RX13 TX13 73, w ∈ wsX13_readShop from fun _ h => List.mem_cons_of_mem _ (List.mem_append_right _ h)) w h)
  have w_1 : (Cond.fieldLink RX13 96 "QuietCutModel" "isTold" "[Z").before args s = true := hts _ (List.mem_of_getElem? (i := 2) rfl)
  have b1 : (0 : Int) ≤ (G 0 3).toInt ∧ (G 0 3).toInt ≤ 1000 := hI 0 3
  have b2 : (0 : Int) ≤ (G 0 5).toInt ∧ (G 0 5).toInt ≤ 1000 := hI 0 5
  have b3 : (0 : Int) ≤ (G 0 6).toInt ∧ (G 0 6).toInt ≤ 4 := hI 0 6
  have J_6 : ∀ (fuel : Nat) (x6_1 : Int32) (Gj6 : gS), (8 * (1000 - (Gj6 0 5).toInt) + (Gj6 0 6).toInt).toNat < fuel → (0 ≤ x6_1.toInt ∧ x6_1.toInt ≤ 1000) → (yI Gj6) → (gu_un ycd [5, 6, 7, 8, 9, 10, 21, 22, 400, 600, 800, 900, 1000, 1100, 1200] G Gj6) → (yV3 Gj6) → (yKp G Gj6) → (yRd x6_1.toInt G Gj6) → ((x6_1.toInt ≤ (Gj6 0 5).toInt)) → (yFf G Gj6) → (((Gj6 0 5).toInt ≤ (G 0 3).toInt)) → (((Gj6 0 4).toInt ≤ (Gj6 0 5).toInt)) → gG p l e (gR 23 0 0 525) s m args below meth c D A 3 Q 0 0 (yW K a Gj6) (tK K) [(0, .ref (a 0)), (1, .int x6_1)] 6 [] := by
    intro fuel
    induction fuel with
    | zero => intro x6_1 Gj6 hm; exact absurd hm (Nat.not_lt_zero _)
    | succ fuel_6 ih_6 =>
      intro x6_1 Gj6 hm_6 h6_1 jI6 jU6 v3_6 kp6 rd6 cn ff6 bl_6 pq2_6
      refine g_aload_n F 0 dX13_readShop_6 rfl rfl ?_
      refine yg_0_6 F i_X13 w_0 dX13_readShop_7 (Gj6 0 6) (rfl) ?_
      have b4 : (0 : Int) ≤ (Gj6 0 6).toInt ∧ (Gj6 0 6).toInt ≤ 4 := jI6 0 6
      refine v_if_eq F 89 dX13_readShop_10 (by decide) (Gj6 0 6).toInt rfl (fun c5 => ?_) (fun c5 => ?_)
      · refine g_iload_n F 1 dX13_readShop_89 rfl rfl ?_
        exact ux_iret F hA hQ hr Gj6 (⟨jI6, (gu_un.tr gu_un.rf (gu_un.su jU6 rfl)), (by have h9 := ti_rng x6_1; omega), (v3_6), (kp6), (yRd.fin rd6 (by omega)), (ff6)⟩) rfl rfl dX13_readShop_90
      · refine g_aload_n F 0 dX13_readShop_13 rfl rfl ?_
        have b6 : (0 : Int) ≤ (Gj6 0 5).toInt ∧ (Gj6 0 5).toInt ≤ 1000 := jI6 0 5
        have b7 : (0 : Int) ≤ (Gj6 0 4).toInt ∧ (Gj6 0 4).toInt ≤ 1000 := jI6 0 4
        refine uz_callVi (k := 0) (n := 0) (b := a 0) (As := []) (st := []) F yZ_st hZ (fun sz => S_X13_clauseAtHand l D K a Gj6 qs vs  (by have e9_0_3 : Gj6 0 3 = (G 0 3) := jU6 0 3 (by decide); (try simp only [e9_0_3, true_and, and_true]) <;> (first | omega | (simp only [Int32.reduceToInt, true_and, and_true, ne_eq, not_true_eq_false, false_and, or_false, false_or, true_or, or_true, false_implies] <;> omega))) (by (first | omega | (simp only [Int32.reduceToInt, true_and, and_true, ne_eq, not_true_eq_false, false_and, or_false, false_or, true_or, or_true, false_implies] <;> omega))) jI6 sz) (cwV 0 hts (gT_left gX13_readShop_X13_clauseAtHand) rfl rfl rfl (by decide +kernel) ⟨Nat.le_of_ble_eq_true rfl, Nat.le_of_ble_eq_true rfl⟩) rfl 0 yc_0 rfl (Nat.le_of_ble_eq_true rfl) ⟨Nat.zero_le _, Nat.zero_le _⟩ dX13_readShop_14 (fun r8 _ hw9 => ?_)
        have q11 : (r8.toInt = yCi Gj6) := hw9.2
        have rg12 := hw9.1
        clear hw9
        refine g_istore_n F [(2, .int r8), (0, .ref (a 0)), (1, .int x6_1)] dX13_readShop_17 rfl (by decide) rfl ?_
        refine g_aload_n F 1 dX13_readShop_18 rfl rfl ?_
        refine g_iload_n F 0 dX13_readShop_19 rfl rfl ?_
        refine g_iconst F (-1) dX13_readShop_20 (by decide) ?_
        refine v_icmp_eq F 28 dX13_readShop_21 (by decide) r8.toInt (-1) rfl rfl (fun c13 => ?_) (fun c13 => ?_)
        · refine g_iconst F 0 dX13_readShop_28 (by decide) ?_
          refine g_iconst F 1 dX13_readShop_29 (by decide) ?_
          refine ux_callvi (k := 0) (n := 0) (b := a 0) (As := [.int 0, .int 1]) (st := []) F (fun sz => S_X13_need l D K a Gj6 0 0 1 1 rfl (by decide) rfl jI6 sz) (cwV 2 hts gT_X13_readShop_X13_need rfl rfl rfl (by decide +kernel) ⟨Nat.le_of_ble_eq_true rfl, Nat.le_of_ble_eq_true rfl⟩) rfl 0 yc_0 rfl (Nat.le_of_ble_eq_true rfl) ⟨Nat.zero_le _, Nat.zero_le _⟩ dX13_readShop_30 hex hA hQ (fun u9 h9 => ⟨h9.1, gu_un.tr (gu_un.tr gu_un.rf (gu_un.su jU6 rfl)) (gu_un.su h9.2.1 rfl), (yKp.un kp6 h9.2.1 rfl), (yRd.t1 rd6 (by omega) (by rw [← q11]; omega) (show gu_un ycd [] Gj6 Gj6 from gu_un.rf) rfl h9.2.2.2.1 h9.2.2.2.2), (by have h9 := h9.2.2.2.1; omega)⟩) (fun G16 hw15 => ?_)
          have hI17 : yI G16 := hw15.1
          have hU18 : gu_un ycd [9, 10] Gj6 G16 := hw15.2.1
          have hp19 := hw15.2.2
          have q20 : ((0 : Int) ≠ 0) := hp19.1
          have q21 : yFf Gj6 G16 := hp19.2
          exfalso; omega
        · refine g_iconst F 1 dX13_readShop_24 (by decide) ?_
          refine g_goto F 29 dX13_readShop_25 (by decide) ?_
          refine g_iconst F 1 dX13_readShop_29 (by decide) ?_
          refine ux_callvi (k := 0) (n := 0) (b := a 0) (As := [.int 1, .int 1]) (st := []) F (fun sz => S_X13_need l D K a Gj6 1 1 1 1 rfl (by decide) rfl jI6 sz) (cwV 2 hts gT_X13_readShop_X13_need rfl rfl rfl (by decide +kernel) ⟨Nat.le_of_ble_eq_true rfl, Nat.le_of_ble_eq_true rfl⟩) rfl 0 yc_0 rfl (Nat.le_of_ble_eq_true rfl) ⟨Nat.zero_le _, Nat.zero_le _⟩ dX13_readShop_30 hex hA hQ (fun u9 h9 => ⟨h9.1, gu_un.tr (gu_un.tr gu_un.rf (gu_un.su jU6 rfl)) (gu_un.su h9.2.1 rfl), (yKp.un kp6 h9.2.1 rfl), (absurd h9.2.2.1 (by decide)), (absurd h9.2.2.1 (by decide))⟩) (fun G24 hw23 => ?_)
          have hI25 : yI G24 := hw23.1
          have hU26 : gu_un ycd [9, 10] Gj6 G24 := hw23.2.1
          have hp27 := hw23.2.2
          have q28 : ((1 : Int) ≠ 0) := hp27.1
          have q29 : yFf Gj6 G24 := hp27.2
          clear hp27 hw23
          refine g_aload_n F 1 dX13_readShop_33 rfl rfl ?_
          refine g_aload_n F 1 dX13_readShop_34 rfl rfl ?_
          refine yg_0_16 F i_X13 w_1 dX13_readShop_35 ?_
          refine g_iload_n F 0 dX13_readShop_38 rfl rfl ?_
          refine u1_zald F 9 3 yc_9 rfl r8.toInt rfl (by omega) (by omega) dX13_readShop_39 ((Gj6 9) (r8.toInt).toNat) (congrFun ((show G24 9 = Gj6 9 from funext fun k_ => hU26 9 k_ (show (900 : Nat) ∉ ([9, 10] : List Nat) by decide))) _) ?_
          have b30 : (0 : Int) ≤ ((Gj6 9) (r8.toInt).toNat).toInt ∧ ((Gj6 9) (r8.toInt).toNat).toInt ≤ 1 := jI6 9 _
          refine v_if_ne F 47 dX13_readShop_40 (by decide) ((Gj6 9) (r8.toInt).toNat).toInt rfl (fun c31 => ?_) (fun c31 => ?_)
          · refine g_iconst F 0 dX13_readShop_47 (by decide) ?_
            refine g_iconst F 3 dX13_readShop_48 (by decide) ?_
            refine ux_callvi (k := 0) (n := 0) (b := a 0) (As := [.int 0, .int 3]) (st := []) F (fun sz => S_X13_need l D K a G24 0 0 3 3 rfl (by decide) rfl hI25 sz) (cwV 2 hts gT_X13_readShop_X13_need rfl rfl rfl (by decide +kernel) ⟨Nat.le_of_ble_eq_true rfl, Nat.le_of_ble_eq_true rfl⟩) rfl 0 yc_0 rfl (Nat.le_of_ble_eq_true rfl) ⟨Nat.zero_le _, Nat.zero_le _⟩ dX13_readShop_49 hex hA hQ (fun u9 h9 => ⟨h9.1, gu_un.tr (gu_un.tr (gu_un.tr gu_un.rf (gu_un.su jU6 rfl)) (gu_un.su hU26 rfl)) (gu_un.su h9.2.1 rfl), (yKp.un (yKp.un kp6 (show gu_un ycd [9, 10] Gj6 G24 from (gu_un.tr gu_un.rf (gu_un.su hU26 rfl))) rfl) h9.2.1 rfl), (yRd.t3 rd6 (by omega) q11.symm (by omega) (by omega) (by omega) (show gu_un ycd [9, 10] Gj6 G24 from (gu_un.tr gu_un.rf (gu_un.su hU26 rfl))) rfl h9.2.2.2.1 h9.2.2.2.2), (by have h9 := h9.2.2.2.1; omega)⟩) (fun G34 hw33 => ?_)
            have hI35 : yI G34 := hw33.1
            have hU36 : gu_un ycd [9, 10] G24 G34 := hw33.2.1
            have hp37 := hw33.2.2
            have q38 : ((0 : Int) ≠ 0) := hp37.1
            have q39 : yFf G24 G34 := hp37.2
            exfalso; omega
          · refine g_iconst F 1 dX13_readShop_43 (by decide) ?_
            refine g_goto F 48 dX13_readShop_44 (by decide) ?_
            refine g_iconst F 3 dX13_readShop_48 (by decide) ?_
            refine ux_callvi (k := 0) (n := 0) (b := a 0) (As := [.int 1, .int 3]) (st := []) F (fun sz => S_X13_need l D K a G24 1 1 3 3 rfl (by decide) rfl hI25 sz) (cwV 2 hts gT_X13_readShop_X13_need rfl rfl rfl (by decide +kernel) ⟨Nat.le_of_ble_eq_true rfl, Nat.le_of_ble_eq_true rfl⟩) rfl 0 yc_0 rfl (Nat.le_of_ble_eq_true rfl) ⟨Nat.zero_le _, Nat.zero_le _⟩ dX13_readShop_49 hex hA hQ (fun u9 h9 => ⟨h9.1, gu_un.tr (gu_un.tr (gu_un.tr gu_un.rf (gu_un.su jU6 rfl)) (gu_un.su hU26 rfl)) (gu_un.su h9.2.1 rfl), (yKp.un (yKp.un kp6 (show gu_un ycd [9, 10] Gj6 G24 from (gu_un.tr gu_un.rf (gu_un.su hU26 rfl))) rfl) h9.2.1 rfl), (absurd h9.2.2.1 (by decide)), (absurd h9.2.2.1 (by decide))⟩) (fun G42 hw41 => ?_)
            have hI43 : yI G42 := hw41.1
            have hU44 : gu_un ycd [9, 10] G24 G42 := hw41.2.1
            have hp45 := hw41.2.2
            have q46 : ((1 : Int) ≠ 0) := hp45.1
            have q47 : yFf G24 G42 := hp45.2
            clear hp45 hw41
            refine g_aload_n F 1 dX13_readShop_52 rfl rfl ?_
            refine yg_0_16 F i_X13 w_1 dX13_readShop_53 ?_
            refine g_iload_n F 0 dX13_readShop_56 rfl rfl ?_
            refine g_iconst F 1 dX13_readShop_57 (by decide) ?_
            refine u_zast F 9 3 yc_9 rfl r8.toInt rfl (by omega) (by omega) (yW K a (gu_up G42 9 (r8.toInt).toNat (vp_nar .boolean 1))) (ys_9 _) dX13_readShop_58 ?_
            refine g_aload_n F 1 dX13_readShop_59 rfl rfl ?_
            refine u_callVv (k := 0) (n := 0) (b := a 0) (As := []) (st := []) F (fun sz => S_X13_scan l D K a (gu_up G42 9 (r8.toInt).toNat (vp_nar .boolean 1))  (by have e9_0_3 : (gu_up G42 9 (r8.toInt).toNat (vp_nar .boolean 1)) 0 3 = (G 0 3) := (hU44 0 3 (by decide)).trans ((hU26 0 3 (by decide)).trans (jU6 0 3 (by decide))); have e9_0_5 : (gu_up G42 9 (r8.toInt).toNat (vp_nar .boolean 1)) 0 5 = (Gj6 0 5) := (hU44 0 5 (by decide)).trans (hU26 0 5 (by decide)); (try simp only [e9_0_3, e9_0_5, true_and, and_true]) <;> (first | omega | (simp only [Int32.reduceToInt, true_and, and_true, ne_eq, not_true_eq_false, false_and, or_false, false_or, true_or, or_true, false_implies] <;> omega))) (gu_I.up (j := 9) (k := (r8.toInt).toNat) (v := (vp_nar .boolean 1)) hI43 ((vp_narZ _).1) ((vp_narZ _).2)) sz) (cwV 0 hts (gT_left gX13_readShop_X13_scan) rfl rfl rfl (by decide +kernel) ⟨Nat.le_of_ble_eq_true rfl, Nat.le_of_ble_eq_true rfl⟩) rfl 0 yc_0 rfl (Nat.le_of_ble_eq_true rfl) ⟨Nat.zero_le _, Nat.zero_le _⟩ dX13_readShop_60 (fun G50 hw49 => ?_)
            have hI51 : yI G50 := hw49.1
            have hU52 : gu_un ycd [5, 6, 7, 8] (gu_up G42 9 (r8.toInt).toNat (vp_nar .boolean 1)) G50 := hw49.2.1
            have hp53 := hw49.2.2
            have b54 : (0 : Int) ≤ (G50 0 5).toInt ∧ (G50 0 5).toInt ≤ 1000 := hI51 0 5
            have b55 : (0 : Int) ≤ (G50 0 4).toInt ∧ (G50 0 4).toInt ≤ 1000 := hI51 0 4
            have q56 : ((G50 0 5).toInt ≤ (G 0 3).toInt ∧ (Gj6 0 5).toInt ≤ (G50 0 4).toInt ∧ (G50 0 4).toInt ≤ (G50 0 5).toInt) := by have h9 := hp53.1; (try simp only [(show (gu_up G42 9 (r8.toInt).toNat (vp_nar .boolean 1)) 0 3 = (G 0 3) from (hU44 0 3 (by decide)).trans ((hU26 0 3 (by decide)).trans (jU6 0 3 (by decide)))), (show (gu_up G42 9 (r8.toInt).toNat (vp_nar .boolean 1)) 0 5 = (Gj6 0 5) from (hU44 0 5 (by decide)).trans (hU26 0 5 (by decide)))] at h9); first | exact h9 | omega
            have b57 : (0 : Int) ≤ (G50 0 6).toInt ∧ (G50 0 6).toInt ≤ 4 := hI51 0 6
            have q58 : (((G50 0 6).toInt = 0 ∧ (G50 0 4).toInt = (G 0 3).toInt) ∨ ((G50 0 6).toInt ≠ 0 ∧ (G50 0 4).toInt < (G50 0 5).toInt)) := by have h9 := hp53.2.1; (try simp only [(show (gu_up G42 9 (r8.toInt).toNat (vp_nar .boolean 1)) 0 3 = (G 0 3) from (hU44 0 3 (by decide)).trans ((hU26 0 3 (by decide)).trans (jU6 0 3 (by decide))))] at h9); first | exact h9 | omega
            have b59 : (0 : Int) ≤ (G50 0 7).toInt ∧ (G50 0 7).toInt ≤ 9999 := hI51 0 7
            have q60 : tTok (G 2) (G 0 3).toInt (Gj6 0 5).toInt (G50 0 6).toInt (G50 0 4).toInt (G50 0 7).toInt (G50 0 5).toInt := by have h9 := hp53.2.2; (try simp only [(show (gu_up G42 9 (r8.toInt).toNat (vp_nar .boolean 1)) 0 3 = (G 0 3) from (hU44 0 3 (by decide)).trans ((hU26 0 3 (by decide)).trans (jU6 0 3 (by decide)))), (show (gu_up G42 9 (r8.toInt).toNat (vp_nar .boolean 1)) 0 5 = (Gj6 0 5) from (hU44 0 5 (by decide)).trans (hU26 0 5 (by decide))), (show (gu_up G42 9 (r8.toInt).toNat (vp_nar .boolean 1)) 2 = (G 2) from (show G42 2 = G24 2 from funext fun k_ => hU44 2 k_ (show (200 : Nat) ∉ ([9, 10] : List Nat) by decide)).trans ((show G24 2 = Gj6 2 from funext fun k_ => hU26 2 k_ (show (200 : Nat) ∉ ([9, 10] : List Nat) by decide)).trans ((show Gj6 2 = G 2 from funext fun k_ => jU6 2 k_ (show (200 : Nat) ∉ ([5, 6, 7, 8, 9, 10, 21, 22, 400, 600, 800, 900, 1000, 1100, 1200] : List Nat) by decide)))))] at h9); first | exact h9 | omega
            clear hp53 hw49
            refine g_aload_n F 1 dX13_readShop_63 rfl rfl ?_
            refine g_iload_n F 0 dX13_readShop_64 rfl rfl ?_
            refine uxz_callvi (k := 0) (n := 0) (b := a 0) (As := [.int r8]) (st := []) F yZ_st hZ (fun sz => S_X13_readClause l D K a G50 qs vs r8 r8.toInt rfl (by omega) (by have e9_0_3 : G50 0 3 = (G 0 3) := (hU52 0 3 (by decide)).trans ((hU44 0 3 (by decide)).trans ((hU26 0 3 (by decide)).trans (jU6 0 3 (by decide)))); (try simp only [e9_0_3, true_and, and_true]) <;> (first | omega | (simp only [Int32.reduceToInt, true_and, and_true, ne_eq, not_true_eq_false, false_and, or_false, false_or, true_or, or_true, false_implies] <;> omega))) ((yV3.un v3_6 (show gu_un ycd [5, 6, 7, 8, 9, 10, 900] Gj6 G50 from (gu_un.tr (gu_un.up (j := 9) (k := (r8.toInt).toNat) (v := (vp_nar .boolean 1)) (gu_un.tr (gu_un.tr gu_un.rf (gu_un.su hU26 rfl)) (gu_un.su hU44 rfl)) (show (900 : Nat) ∈ ([5, 6, 7, 8, 9, 10, 900] : List Nat) by decide)) (gu_un.su hU52 rfl))) rfl)) hI51 sz) (cwV 1 hts gT_X13_readShop_X13_readClause rfl rfl rfl (by decide +kernel) ⟨Nat.le_of_ble_eq_true rfl, Nat.le_of_ble_eq_true rfl⟩) rfl 0 yc_0 rfl (Nat.le_of_ble_eq_true rfl) ⟨Nat.zero_le _, Nat.zero_le _⟩ dX13_readShop_65 hex hA hQ (fun u9 h9 => ⟨h9.1, gu_un.tr (gu_un.tr (gu_un.up (j := 9) (k := (r8.toInt).toNat) (v := (vp_nar .boolean 1)) (gu_un.tr (gu_un.tr (gu_un.tr gu_un.rf (gu_un.su jU6 rfl)) (gu_un.su hU26 rfl)) (gu_un.su hU44 rfl)) (show (900 : Nat) ∈ ([5, 6, 7, 8, 9, 10, 21, 22, 400, 600, 800, 900, 1000, 1100, 1200] : List Nat) by decide)) (gu_un.su hU52 rfl)) (gu_un.su h9.2.1 rfl), (yKp.tr (yKp.un kp6 (show gu_un ycd [5, 6, 7, 8, 9, 10, 900] Gj6 G50 from (gu_un.tr (gu_un.up (j := 9) (k := (r8.toInt).toNat) (v := (vp_nar .boolean 1)) (gu_un.tr (gu_un.tr gu_un.rf (gu_un.su hU26 rfl)) (gu_un.su hU44 rfl)) (show (900 : Nat) ∈ ([5, 6, 7, 8, 9, 10, 900] : List Nat) by decide)) (gu_un.su hU52 rfl))) rfl) h9.2.2.1), (yRw.thr (yRd.word rd6 (by omega) q11.symm (by omega) (by omega) (by omega) (show yStp [9, 10, 900] Gj6 (gu_up G42 9 (r8.toInt).toNat (vp_nar .boolean 1)) G50 from ⟨(show gu_un ycd [9, 10, 900] Gj6 (gu_up G42 9 (r8.toInt).toNat (vp_nar .boolean 1)) from (gu_un.up (j := 9) (k := (r8.toInt).toNat) (v := (vp_nar .boolean 1)) (gu_un.tr (gu_un.tr gu_un.rf (gu_un.su hU26 rfl)) (gu_un.su hU44 rfl)) (show (900 : Nat) ∈ ([9, 10, 900] : List Nat) by decide))), rfl, by (try rw [show (gu_up G42 9 (r8.toInt).toNat (vp_nar .boolean 1)) 2 = (G 2) from (show G42 2 = G24 2 from funext fun k_ => hU44 2 k_ (show (200 : Nat) ∉ ([9, 10] : List Nat) by decide)).trans ((show G24 2 = Gj6 2 from funext fun k_ => hU26 2 k_ (show (200 : Nat) ∉ ([9, 10] : List Nat) by decide)).trans ((show Gj6 2 = G 2 from funext fun k_ => jU6 2 k_ (show (200 : Nat) ∉ ([5, 6, 7, 8, 9, 10, 21, 22, 400, 600, 800, 900, 1000, 1100, 1200] : List Nat) by decide))))]); (try rw [show (gu_up G42 9 (r8.toInt).toNat (vp_nar .boolean 1)) 0 3 = (G 0 3) from (hU44 0 3 (by decide)).trans ((hU26 0 3 (by decide)).trans (jU6 0 3 (by decide)))]); (try rw [show (gu_up G42 9 (r8.toInt).toNat (vp_nar .boolean 1)) 0 5 = (Gj6 0 5) from (hU44 0 5 (by decide)).trans (hU26 0 5 (by decide))]); exact q60, funext fun k_ => hU52 2 k_ (by simp [ycd]), hU52 0 3 (by decide)⟩) (show gu_un ycd [5, 6, 7, 8, 9, 10, 900] Gj6 G50 from (gu_un.tr (gu_un.up (j := 9) (k := (r8.toInt).toNat) (v := (vp_nar .boolean 1)) (gu_un.tr (gu_un.tr gu_un.rf (gu_un.su hU26 rfl)) (gu_un.su hU44 rfl)) (show (900 : Nat) ∈ ([5, 6, 7, 8, 9, 10, 900] : List Nat) by decide)) (gu_un.su hU52 rfl))) rfl (fun q hq => by rw [(show G50 9 = (upd (Gj6 9) (r8.toInt).toNat (vp_nar .boolean 1)) from ((show G50 9 = (gu_up G42 9 (r8.toInt).toNat (vp_nar .boolean 1)) 9 from funext fun k_ => hU52 9 k_ (by simp [ycd])).trans (show (gu_up G42 9 (r8.toInt).toNat (vp_nar .boolean 1)) 9 = (upd (Gj6 9) (r8.toInt).toNat (vp_nar .boolean 1)) from (congrArg (fun f_ => upd f_ (r8.toInt).toNat (vp_nar .boolean 1)) ((show G42 9 = G24 9 from funext fun k_ => hU44 9 k_ (by simp [ycd])).trans (show G24 9 = (Gj6 9) from ((show G24 9 = Gj6 9 from funext fun k_ => hU26 9 k_ (by simp [ycd])).trans (show Gj6 9 = (Gj6 9) from rfl))))))))]; exact y_td)) h9.2.2.2.1), (h9.2.2.2.2)⟩) (fun G63 hw62 => ?_)
            have hI64 : yI G63 := hw62.1
            have hU65 : gu_un ycd [5, 6, 7, 8, 9, 10, 21, 22, 400, 600, 800, 1000, 1100, 1200] G50 G63 := hw62.2.1
            have hp66 := hw62.2.2
            have b67 : (0 : Int) ≤ (G63 0 5).toInt ∧ (G63 0 5).toInt ≤ 1000 := hI64 0 5
            have b68 : (0 : Int) ≤ (G63 0 6).toInt ∧ (G63 0 6).toInt ≤ 4 := hI64 0 6
            have q69 : ((G63 0 5).toInt ≤ (G 0 3).toInt ∧ (G50 0 5).toInt ≤ (G63 0 5).toInt ∧ ((G63 0 6).toInt = 0 ∨ (G50 0 5).toInt < (G63 0 5).toInt)) := by have h9 := hp66.1; (try simp only [(show G50 0 3 = (G 0 3) from (hU52 0 3 (by decide)).trans ((hU44 0 3 (by decide)).trans ((hU26 0 3 (by decide)).trans (jU6 0 3 (by decide)))))] at h9); first | exact h9 | omega
            have q70 : yV3 G63 := hp66.2.1
            have q71 : yKp G50 G63 := hp66.2.2.1
            have q72 : yCl r8.toInt G50 G63 := hp66.2.2.2.1
            have q73 : yFf G50 G63 := hp66.2.2.2.2
            have kp74 : yKp G G63 := yKp.tr (yKp.un kp6 (show gu_un ycd [5, 6, 7, 8, 9, 10, 900] Gj6 G50 from (gu_un.tr (gu_un.up (j := 9) (k := (r8.toInt).toNat) (v := (vp_nar .boolean 1)) (gu_un.tr (gu_un.tr gu_un.rf (gu_un.su hU26 rfl)) (gu_un.su hU44 rfl)) (show (900 : Nat) ∈ ([5, 6, 7, 8, 9, 10, 900] : List Nat) by decide)) (gu_un.su hU52 rfl))) rfl) q71
            clear hp66 hw62
            refine g_aload_n F 1 dX13_readShop_68 rfl rfl ?_
            refine g_aload_n F 1 dX13_readShop_69 rfl rfl ?_
            refine g_bipush F 59 dX13_readShop_70 (by decide) ?_
            refine u_callVi (k := 0) (n := 0) (b := a 0) (As := [.int 59]) (st := [.ref (a 0)]) F (fun sz => S_X13_isSign l D K a G63 59 59 rfl hI64 sz) (cwV 1 hts (gT_left gX13_readShop_X13_isSign) rfl rfl rfl (by decide +kernel) ⟨Nat.le_of_ble_eq_true rfl, Nat.le_of_ble_eq_true rfl⟩) rfl 0 yc_0 rfl (Nat.le_of_ble_eq_true rfl) ⟨Nat.zero_le _, Nat.zero_le _⟩ dX13_readShop_72 (fun r75 _ hw76 => ?_)
            rcases hw76 with ⟨rfl, q78⟩ | ⟨rfl, q79⟩
            · have b80 : (0 : Int) ≤ (G63 0 7).toInt ∧ (G63 0 7).toInt ≤ 9999 := hI64 0 7
              have q78 : ((G63 0 6).toInt = 3 ∧ (G63 0 7).toInt = (59 : Int)) := q78
              refine g_iconst F 1 dX13_readShop_75 (by decide) ?_
              refine ux_callvi (k := 0) (n := 0) (b := a 0) (As := [.int 1, .int 1]) (st := []) F (fun sz => S_X13_need l D K a G63 1 1 1 1 rfl (by decide) rfl hI64 sz) (cwV 2 hts gT_X13_readShop_X13_need rfl rfl rfl (by decide +kernel) ⟨Nat.le_of_ble_eq_true rfl, Nat.le_of_ble_eq_true rfl⟩) rfl 0 yc_0 rfl (Nat.le_of_ble_eq_true rfl) ⟨Nat.zero_le _, Nat.zero_le _⟩ dX13_readShop_76 hex hA hQ (fun u9 h9 => ⟨h9.1, gu_un.tr (gu_un.tr (gu_un.tr (gu_un.up (j := 9) (k := (r8.toInt).toNat) (v := (vp_nar .boolean 1)) (gu_un.tr (gu_un.tr (gu_un.tr gu_un.rf (gu_un.su jU6 rfl)) (gu_un.su hU26 rfl)) (gu_un.su hU44 rfl)) (show (900 : Nat) ∈ ([5, 6, 7, 8, 9, 10, 21, 22, 400, 600, 800, 900, 1000, 1100, 1200] : List Nat) by decide)) (gu_un.su hU52 rfl)) (gu_un.su hU65 rfl)) (gu_un.su h9.2.1 rfl), (yKp.un kp74 h9.2.1 rfl), (absurd h9.2.2.1 (by decide)), (absurd h9.2.2.1 (by decide))⟩) (fun G83 hw82 => ?_)
              have hI84 : yI G83 := hw82.1
              have hU85 : gu_un ycd [9, 10] G63 G83 := hw82.2.1
              have hp86 := hw82.2.2
              have q87 : ((1 : Int) ≠ 0) := hp86.1
              have q88 : yFf G63 G83 := hp86.2
              clear hp86 hw82
              refine g_aload_n F 1 dX13_readShop_79 rfl rfl ?_
              refine u_callVv (k := 0) (n := 0) (b := a 0) (As := []) (st := []) F (fun sz => S_X13_scan l D K a G83  (by have e9_0_3 : G83 0 3 = (G 0 3) := (hU85 0 3 (by decide)).trans ((hU65 0 3 (by decide)).trans ((hU52 0 3 (by decide)).trans ((hU44 0 3 (by decide)).trans ((hU26 0 3 (by decide)).trans (jU6 0 3 (by decide)))))); have e9_0_5 : G83 0 5 = (G63 0 5) := hU85 0 5 (by decide); (try simp only [e9_0_3, e9_0_5, true_and, and_true]) <;> (first | omega | (simp only [Int32.reduceToInt, true_and, and_true, ne_eq, not_true_eq_false, false_and, or_false, false_or, true_or, or_true, false_implies] <;> omega))) hI84 sz) (cwV 0 hts (gT_left gX13_readShop_X13_scan) rfl rfl rfl (by decide +kernel) ⟨Nat.le_of_ble_eq_true rfl, Nat.le_of_ble_eq_true rfl⟩) rfl 0 yc_0 rfl (Nat.le_of_ble_eq_true rfl) ⟨Nat.zero_le _, Nat.zero_le _⟩ dX13_readShop_80 (fun G91 hw90 => ?_)
              have hI92 : yI G91 := hw90.1
              have hU93 : gu_un ycd [5, 6, 7, 8] G83 G91 := hw90.2.1
              have hp94 := hw90.2.2
              have b95 : (0 : Int) ≤ (G91 0 5).toInt ∧ (G91 0 5).toInt ≤ 1000 := hI92 0 5
              have b96 : (0 : Int) ≤ (G91 0 4).toInt ∧ (G91 0 4).toInt ≤ 1000 := hI92 0 4
              have q97 : ((G91 0 5).toInt ≤ (G 0 3).toInt ∧ (G63 0 5).toInt ≤ (G91 0 4).toInt ∧ (G91 0 4).toInt ≤ (G91 0 5).toInt) := by have h9 := hp94.1; (try simp only [(show G83 0 3 = (G 0 3) from (hU85 0 3 (by decide)).trans ((hU65 0 3 (by decide)).trans ((hU52 0 3 (by decide)).trans ((hU44 0 3 (by decide)).trans ((hU26 0 3 (by decide)).trans (jU6 0 3 (by decide))))))), (show G83 0 5 = (G63 0 5) from hU85 0 5 (by decide))] at h9); first | exact h9 | omega
              have b98 : (0 : Int) ≤ (G91 0 6).toInt ∧ (G91 0 6).toInt ≤ 4 := hI92 0 6
              have q99 : (((G91 0 6).toInt = 0 ∧ (G91 0 4).toInt = (G 0 3).toInt) ∨ ((G91 0 6).toInt ≠ 0 ∧ (G91 0 4).toInt < (G91 0 5).toInt)) := by have h9 := hp94.2.1; (try simp only [(show G83 0 3 = (G 0 3) from (hU85 0 3 (by decide)).trans ((hU65 0 3 (by decide)).trans ((hU52 0 3 (by decide)).trans ((hU44 0 3 (by decide)).trans ((hU26 0 3 (by decide)).trans (jU6 0 3 (by decide)))))))] at h9); first | exact h9 | omega
              have b100 : (0 : Int) ≤ (G91 0 7).toInt ∧ (G91 0 7).toInt ≤ 9999 := hI92 0 7
              have q101 : tTok (G 2) (G 0 3).toInt (G63 0 5).toInt (G91 0 6).toInt (G91 0 4).toInt (G91 0 7).toInt (G91 0 5).toInt := by have h9 := hp94.2.2; (try simp only [(show G83 0 3 = (G 0 3) from (hU85 0 3 (by decide)).trans ((hU65 0 3 (by decide)).trans ((hU52 0 3 (by decide)).trans ((hU44 0 3 (by decide)).trans ((hU26 0 3 (by decide)).trans (jU6 0 3 (by decide))))))), (show G83 0 5 = (G63 0 5) from hU85 0 5 (by decide)), (show G83 2 = (G 2) from (show G83 2 = G63 2 from funext fun k_ => hU85 2 k_ (show (200 : Nat) ∉ ([9, 10] : List Nat) by decide)).trans ((show G63 2 = G50 2 from funext fun k_ => hU65 2 k_ (show (200 : Nat) ∉ ([5, 6, 7, 8, 9, 10, 21, 22, 400, 600, 800, 1000, 1100, 1200] : List Nat) by decide)).trans ((show G50 2 = (gu_up G42 9 (r8.toInt).toNat (vp_nar .boolean 1)) 2 from funext fun k_ => hU52 2 k_ (show (200 : Nat) ∉ ([5, 6, 7, 8] : List Nat) by decide)).trans ((show G42 2 = G24 2 from funext fun k_ => hU44 2 k_ (show (200 : Nat) ∉ ([9, 10] : List Nat) by decide)).trans ((show G24 2 = Gj6 2 from funext fun k_ => hU26 2 k_ (show (200 : Nat) ∉ ([9, 10] : List Nat) by decide)).trans ((show Gj6 2 = G 2 from funext fun k_ => jU6 2 k_ (show (200 : Nat) ∉ ([5, 6, 7, 8, 9, 10, 21, 22, 400, 600, 800, 900, 1000, 1100, 1200] : List Nat) by decide))))))))] at h9); first | exact h9 | omega
              clear hp94 hw90
              refine u_iinc F (fun v_ => [(1, .int v_), (2, .int r8), (0, .ref (a 0))]) dX13_readShop_83 (j := 2) rfl x6_1.toInt 1 rfl rfl (by omega) (by omega) (by decide) (fun _ => rfl) (fun y102 ey102 => ?_)
              refine g_goto F 6 dX13_readShop_86 (by decide) ?_
              refine g_locals [(0, .ref (a 0)), (1, .int y102)] [2, 0] rfl ?_
              exact ih_6 y102 G91 (by omega) (by have h9 := ti_rng y102; omega) hI92 (gu_un.tr (gu_un.tr (gu_un.tr (gu_un.tr (gu_un.up (j := 9) (k := (r8.toInt).toNat) (v := (vp_nar .boolean 1)) (gu_un.tr (gu_un.tr (gu_un.tr gu_un.rf (gu_un.su jU6 rfl)) (gu_un.su hU26 rfl)) (gu_un.su hU44 rfl)) (show (900 : Nat) ∈ ([5, 6, 7, 8, 9, 10, 21, 22, 400, 600, 800, 900, 1000, 1100, 1200] : List Nat) by decide)) (gu_un.su hU52 rfl)) (gu_un.su hU65 rfl)) (gu_un.su hU85 rfl)) (gu_un.su hU93 rfl)) ((yV3.un q70 (show gu_un ycd [5, 6, 7, 8, 9, 10] G63 G91 from (gu_un.tr (gu_un.tr gu_un.rf (gu_un.su hU85 rfl)) (gu_un.su hU93 rfl))) rfl)) ((yKp.un kp74 (show gu_un ycd [5, 6, 7, 8, 9, 10] G63 G91 from (gu_un.tr (gu_un.tr gu_un.rf (gu_un.su hU85 rfl)) (gu_un.su hU93 rfl))) rfl)) (yRw.step (yRd.word rd6 (by omega) q11.symm (by omega) (by omega) (by omega) (show yStp [9, 10, 900] Gj6 (gu_up G42 9 (r8.toInt).toNat (vp_nar .boolean 1)) G50 from ⟨(show gu_un ycd [9, 10, 900] Gj6 (gu_up G42 9 (r8.toInt).toNat (vp_nar .boolean 1)) from (gu_un.up (j := 9) (k := (r8.toInt).toNat) (v := (vp_nar .boolean 1)) (gu_un.tr (gu_un.tr gu_un.rf (gu_un.su hU26 rfl)) (gu_un.su hU44 rfl)) (show (900 : Nat) ∈ ([9, 10, 900] : List Nat) by decide))), rfl, by (try rw [show (gu_up G42 9 (r8.toInt).toNat (vp_nar .boolean 1)) 2 = (G 2) from (show G42 2 = G24 2 from funext fun k_ => hU44 2 k_ (show (200 : Nat) ∉ ([9, 10] : List Nat) by decide)).trans ((show G24 2 = Gj6 2 from funext fun k_ => hU26 2 k_ (show (200 : Nat) ∉ ([9, 10] : List Nat) by decide)).trans ((show Gj6 2 = G 2 from funext fun k_ => jU6 2 k_ (show (200 : Nat) ∉ ([5, 6, 7, 8, 9, 10, 21, 22, 400, 600, 800, 900, 1000, 1100, 1200] : List Nat) by decide))))]); (try rw [show (gu_up G42 9 (r8.toInt).toNat (vp_nar .boolean 1)) 0 3 = (G 0 3) from (hU44 0 3 (by decide)).trans ((hU26 0 3 (by decide)).trans (jU6 0 3 (by decide)))]); (try rw [show (gu_up G42 9 (r8.toInt).toNat (vp_nar .boolean 1)) 0 5 = (Gj6 0 5) from (hU44 0 5 (by decide)).trans (hU26 0 5 (by decide))]); exact q60, funext fun k_ => hU52 2 k_ (by simp [ycd]), hU52 0 3 (by decide)⟩) (show gu_un ycd [5, 6, 7, 8, 9, 10, 900] Gj6 G50 from (gu_un.tr (gu_un.up (j := 9) (k := (r8.toInt).toNat) (v := (vp_nar .boolean 1)) (gu_un.tr (gu_un.tr gu_un.rf (gu_un.su hU26 rfl)) (gu_un.su hU44 rfl)) (show (900 : Nat) ∈ ([5, 6, 7, 8, 9, 10, 900] : List Nat) by decide)) (gu_un.su hU52 rfl))) rfl (fun q hq => by rw [(show G50 9 = (upd (Gj6 9) (r8.toInt).toNat (vp_nar .boolean 1)) from ((show G50 9 = (gu_up G42 9 (r8.toInt).toNat (vp_nar .boolean 1)) 9 from funext fun k_ => hU52 9 k_ (by simp [ycd])).trans (show (gu_up G42 9 (r8.toInt).toNat (vp_nar .boolean 1)) 9 = (upd (Gj6 9) (r8.toInt).toNat (vp_nar .boolean 1)) from (congrArg (fun f_ => upd f_ (r8.toInt).toNat (vp_nar .boolean 1)) ((show G42 9 = G24 9 from funext fun k_ => hU44 9 k_ (by simp [ycd])).trans (show G24 9 = (Gj6 9) from ((show G24 9 = Gj6 9 from funext fun k_ => hU26 9 k_ (by simp [ycd])).trans (show Gj6 9 = (Gj6 9) from rfl))))))))]; exact y_td)) q72 (by omega) (by omega) (show gu_un ycd [5, 6, 7, 8, 9, 10, 21, 22, 400, 600, 800, 1000, 1100, 1200] G50 G63 from (gu_un.tr gu_un.rf (gu_un.su hU65 rfl))) rfl (show yStp [9, 10] G63 G83 G91 from ⟨(show gu_un ycd [9, 10] G63 G83 from (gu_un.tr gu_un.rf (gu_un.su hU85 rfl))), rfl, by (try rw [show G83 2 = (G 2) from (show G83 2 = G63 2 from funext fun k_ => hU85 2 k_ (show (200 : Nat) ∉ ([9, 10] : List Nat) by decide)).trans ((show G63 2 = G50 2 from funext fun k_ => hU65 2 k_ (show (200 : Nat) ∉ ([5, 6, 7, 8, 9, 10, 21, 22, 400, 600, 800, 1000, 1100, 1200] : List Nat) by decide)).trans ((show G50 2 = (gu_up G42 9 (r8.toInt).toNat (vp_nar .boolean 1)) 2 from funext fun k_ => hU52 2 k_ (show (200 : Nat) ∉ ([5, 6, 7, 8] : List Nat) by decide)).trans ((show G42 2 = G24 2 from funext fun k_ => hU44 2 k_ (show (200 : Nat) ∉ ([9, 10] : List Nat) by decide)).trans ((show G24 2 = Gj6 2 from funext fun k_ => hU26 2 k_ (show (200 : Nat) ∉ ([9, 10] : List Nat) by decide)).trans ((show Gj6 2 = G 2 from funext fun k_ => jU6 2 k_ (show (200 : Nat) ∉ ([5, 6, 7, 8, 9, 10, 21, 22, 400, 600, 800, 900, 1000, 1100, 1200] : List Nat) by decide)))))))]); (try rw [show G83 0 3 = (G 0 3) from (hU85 0 3 (by decide)).trans ((hU65 0 3 (by decide)).trans ((hU52 0 3 (by decide)).trans ((hU44 0 3 (by decide)).trans ((hU26 0 3 (by decide)).trans (jU6 0 3 (by decide))))))]); (try rw [show G83 0 5 = (G63 0 5) from hU85 0 5 (by decide)]); exact q101, funext fun k_ => hU93 2 k_ (by simp [ycd]), hU93 0 3 (by decide)⟩) (show gu_un ycd [5, 6, 7, 8, 9, 10] G63 G91 from (gu_un.tr (gu_un.tr gu_un.rf (gu_un.su hU85 rfl)) (gu_un.su hU93 rfl))) rfl rfl (by omega)) (by (first | omega | (simp only [Int32.reduceToInt, true_and, and_true, ne_eq, not_true_eq_false, false_and, or_false, false_or, true_or, or_true, false_implies] <;> omega))) ((yFf.tr (show yFf G G83 from (yFf.tr (show yFf G G63 from (yFf.tr (show yFf G G50 from (yFf.tr (show yFf G (gu_up G42 9 (r8.toInt).toNat (vp_nar .boolean 1)) from (yFf.tr (show yFf G G24 from (yFf.tr (show yFf G Gj6 from ff6) q29)) q47)) (show yFf _ G50 from yFf.un hU52 rfl))) q73)) q88)) (show yFf _ G91 from yFf.un hU93 rfl))) (by have e9_0_3 : G91 0 3 = (G 0 3) := (hU93 0 3 (by decide)).trans ((hU85 0 3 (by decide)).trans ((hU65 0 3 (by decide)).trans ((hU52 0 3 (by decide)).trans ((hU44 0 3 (by decide)).trans ((hU26 0 3 (by decide)).trans (jU6 0 3 (by decide))))))); (try simp only [e9_0_3, true_and, and_true]) <;> (first | omega | (simp only [Int32.reduceToInt, true_and, and_true, ne_eq, not_true_eq_false, false_and, or_false, false_or, true_or, or_true, false_implies] <;> omega))) (by (first | omega | (simp only [Int32.reduceToInt, true_and, and_true, ne_eq, not_true_eq_false, false_and, or_false, false_or, true_or, or_true, false_implies] <;> omega)))
            · have b103 : (0 : Int) ≤ (G63 0 7).toInt ∧ (G63 0 7).toInt ≤ 9999 := hI64 0 7
              have q79 : ((G63 0 6).toInt ≠ 3 ∨ (G63 0 7).toInt ≠ (59 : Int)) := q79
              refine g_iconst F 1 dX13_readShop_75 (by decide) ?_
              refine ux_callvi (k := 0) (n := 0) (b := a 0) (As := [.int 0, .int 1]) (st := []) F (fun sz => S_X13_need l D K a G63 0 0 1 1 rfl (by decide) rfl hI64 sz) (cwV 2 hts gT_X13_readShop_X13_need rfl rfl rfl (by decide +kernel) ⟨Nat.le_of_ble_eq_true rfl, Nat.le_of_ble_eq_true rfl⟩) rfl 0 yc_0 rfl (Nat.le_of_ble_eq_true rfl) ⟨Nat.zero_le _, Nat.zero_le _⟩ dX13_readShop_76 hex hA hQ (fun u9 h9 => ⟨h9.1, gu_un.tr (gu_un.tr (gu_un.tr (gu_un.up (j := 9) (k := (r8.toInt).toNat) (v := (vp_nar .boolean 1)) (gu_un.tr (gu_un.tr (gu_un.tr gu_un.rf (gu_un.su jU6 rfl)) (gu_un.su hU26 rfl)) (gu_un.su hU44 rfl)) (show (900 : Nat) ∈ ([5, 6, 7, 8, 9, 10, 21, 22, 400, 600, 800, 900, 1000, 1100, 1200] : List Nat) by decide)) (gu_un.su hU52 rfl)) (gu_un.su hU65 rfl)) (gu_un.su h9.2.1 rfl), (yKp.un kp74 h9.2.1 rfl), (yRw.t5 (yRd.word rd6 (by omega) q11.symm (by omega) (by omega) (by omega) (show yStp [9, 10, 900] Gj6 (gu_up G42 9 (r8.toInt).toNat (vp_nar .boolean 1)) G50 from ⟨(show gu_un ycd [9, 10, 900] Gj6 (gu_up G42 9 (r8.toInt).toNat (vp_nar .boolean 1)) from (gu_un.up (j := 9) (k := (r8.toInt).toNat) (v := (vp_nar .boolean 1)) (gu_un.tr (gu_un.tr gu_un.rf (gu_un.su hU26 rfl)) (gu_un.su hU44 rfl)) (show (900 : Nat) ∈ ([9, 10, 900] : List Nat) by decide))), rfl, by (try rw [show (gu_up G42 9 (r8.toInt).toNat (vp_nar .boolean 1)) 2 = (G 2) from (show G42 2 = G24 2 from funext fun k_ => hU44 2 k_ (show (200 : Nat) ∉ ([9, 10] : List Nat) by decide)).trans ((show G24 2 = Gj6 2 from funext fun k_ => hU26 2 k_ (show (200 : Nat) ∉ ([9, 10] : List Nat) by decide)).trans ((show Gj6 2 = G 2 from funext fun k_ => jU6 2 k_ (show (200 : Nat) ∉ ([5, 6, 7, 8, 9, 10, 21, 22, 400, 600, 800, 900, 1000, 1100, 1200] : List Nat) by decide))))]); (try rw [show (gu_up G42 9 (r8.toInt).toNat (vp_nar .boolean 1)) 0 3 = (G 0 3) from (hU44 0 3 (by decide)).trans ((hU26 0 3 (by decide)).trans (jU6 0 3 (by decide)))]); (try rw [show (gu_up G42 9 (r8.toInt).toNat (vp_nar .boolean 1)) 0 5 = (Gj6 0 5) from (hU44 0 5 (by decide)).trans (hU26 0 5 (by decide))]); exact q60, funext fun k_ => hU52 2 k_ (by simp [ycd]), hU52 0 3 (by decide)⟩) (show gu_un ycd [5, 6, 7, 8, 9, 10, 900] Gj6 G50 from (gu_un.tr (gu_un.up (j := 9) (k := (r8.toInt).toNat) (v := (vp_nar .boolean 1)) (gu_un.tr (gu_un.tr gu_un.rf (gu_un.su hU26 rfl)) (gu_un.su hU44 rfl)) (show (900 : Nat) ∈ ([5, 6, 7, 8, 9, 10, 900] : List Nat) by decide)) (gu_un.su hU52 rfl))) rfl (fun q hq => by rw [(show G50 9 = (upd (Gj6 9) (r8.toInt).toNat (vp_nar .boolean 1)) from ((show G50 9 = (gu_up G42 9 (r8.toInt).toNat (vp_nar .boolean 1)) 9 from funext fun k_ => hU52 9 k_ (by simp [ycd])).trans (show (gu_up G42 9 (r8.toInt).toNat (vp_nar .boolean 1)) 9 = (upd (Gj6 9) (r8.toInt).toNat (vp_nar .boolean 1)) from (congrArg (fun f_ => upd f_ (r8.toInt).toNat (vp_nar .boolean 1)) ((show G42 9 = G24 9 from funext fun k_ => hU44 9 k_ (by simp [ycd])).trans (show G24 9 = (Gj6 9) from ((show G24 9 = Gj6 9 from funext fun k_ => hU26 9 k_ (by simp [ycd])).trans (show Gj6 9 = (Gj6 9) from rfl))))))))]; exact y_td)) q72 (by omega) (show gu_un ycd [] G63 G63 from gu_un.rf) rfl h9.2.2.2.1 h9.2.2.2.2), (by have h9 := h9.2.2.2.1; omega)⟩) (fun G106 hw105 => ?_)
              have hI107 : yI G106 := hw105.1
              have hU108 : gu_un ycd [9, 10] G63 G106 := hw105.2.1
              have hp109 := hw105.2.2
              have q110 : ((0 : Int) ≠ 0) := hp109.1
              have q111 : yFf G63 G106 := hp109.2
              exfalso; omega
  refine g_aload_n F 0 dX13_readShop_0 rfl rfl ?_
  refine u_callVv (k := 0) (n := 0) (b := a 0) (As := []) (st := []) F (fun sz => S_X13_plain l D K a G  hI sz) (cwV 0 hts (gT_left gX13_readShop_X13_plain) rfl rfl rfl (by decide +kernel) ⟨Nat.le_of_ble_eq_true rfl, Nat.le_of_ble_eq_true rfl⟩) rfl 0 yc_0 rfl (Nat.le_of_ble_eq_true rfl) ⟨Nat.zero_le _, Nat.zero_le _⟩ dX13_readShop_1 (fun G114 hw113 => ?_)
  have hI115 : yI G114 := hw113.1
  have hU116 : gu_un ycd [21, 400, 600, 800, 900, 1000, 1100, 1200] G G114 := hw113.2.1
  have hp117 := hw113.2.2
  have q118 : yV3 G114 := hp117.1
  have q119 : yKp G G114 := hp117.2.1
  have q120 : yPn G114 := hp117.2.2
  have kp121 : yKp G G114 := yKp.tr yKp.rf q119
  clear hp117 hw113
  refine g_iconst F 0 dX13_readShop_4 (by decide) ?_
  refine g_istore_n F [(1, .int 0), (0, .ref (a 0))] dX13_readShop_5 rfl (by decide) rfl ?_
  refine g_locals [(0, .ref (a 0)), (1, .int 0)] [1, 0] rfl ?_
  have b122 : (0 : Int) ≤ (G 0 4).toInt ∧ (G 0 4).toInt ≤ 1000 := hI 0 4
  exact J_6 _ 0 G114 (Nat.lt_succ_self _) (by decide) hI115 (gu_un.tr gu_un.rf (gu_un.su hU116 rfl)) (q118) (kp121) (yRd.at0 q120 (show gu_un ycd [21, 400, 600, 800, 900, 1000, 1100, 1200] G G114 from (gu_un.tr gu_un.rf (gu_un.su hU116 rfl))) rfl) (by have e9_0_5 : G114 0 5 = (G 0 5) := hU116 0 5 (by decide); (try simp only [e9_0_5, true_and, and_true]) <;> (first | omega | (simp only [Int32.reduceToInt, true_and, and_true, ne_eq, not_true_eq_false, false_and, or_false, false_or, true_or, or_true, false_implies] <;> omega))) ((yFf.tr (show yFf G G from yFf.rf) (show yFf _ G114 from yFf.un hU116 rfl))) (by have e9_0_3 : G114 0 3 = (G 0 3) := hU116 0 3 (by decide); have e9_0_5 : G114 0 5 = (G 0 5) := hU116 0 5 (by decide); (try simp only [e9_0_3, e9_0_5, true_and, and_true]) <;> (first | omega | (simp only [Int32.reduceToInt, true_and, and_true, ne_eq, not_true_eq_false, false_and, or_false, false_or, true_or, or_true, false_implies] <;> omega))) (by have e9_0_4 : G114 0 4 = (G 0 4) := hU116 0 4 (by decide); have e9_0_5 : G114 0 5 = (G 0 5) := hU116 0 5 (by decide); (try simp only [e9_0_4, e9_0_5, true_and, and_true]) <;> (first | omega | (simp only [Int32.reduceToInt, true_and, and_true, ne_eq, not_true_eq_false, false_and, or_false, false_or, true_or, or_true, false_implies] <;> omega)))

theorem dX13_shop_0 : decode cX13_shop 0 = .ok (.aload_n 0, 1) := by decide +kernel
theorem dX13_shop_1 : decode cX13_shop 1 = .ok (.invokevirtual 325, 3) := by decide +kernel
theorem dX13_shop_4 : decode cX13_shop 4 = .ok (.aload_n 0, 1) := by decide +kernel
theorem dX13_shop_5 : decode cX13_shop 5 = .ok (.invokevirtual 328, 3) := by decide +kernel
theorem dX13_shop_8 : decode cX13_shop 8 = .ok (.istore_n 1, 1) := by decide +kernel
theorem dX13_shop_9 : decode cX13_shop 9 = .ok (.goto 6, 3) := by decide +kernel
theorem dX13_shop_12 : decode cX13_shop 12 = .ok (.astore_n 2, 1) := by decide +kernel
theorem dX13_shop_13 : decode cX13_shop 13 = .ok (.iconst (-1), 1) := by decide +kernel
theorem dX13_shop_14 : decode cX13_shop 14 = .ok (.ireturn, 1) := by decide +kernel
theorem dX13_shop_15 : decode cX13_shop 15 = .ok (.aload_n 0, 1) := by decide +kernel
theorem dX13_shop_16 : decode cX13_shop 16 = .ok (.invokevirtual 316, 3) := by decide +kernel
theorem dX13_shop_19 : decode cX13_shop 19 = .ok (.aload_n 0, 1) := by decide +kernel
theorem dX13_shop_20 : decode cX13_shop 20 = .ok (.sipush 1000, 3) := by decide +kernel
theorem dX13_shop_23 : decode cX13_shop 23 = .ok (.invokevirtual 319, 3) := by decide +kernel
theorem dX13_shop_26 : decode cX13_shop 26 = .ok (.aload_n 0, 1) := by decide +kernel
theorem dX13_shop_27 : decode cX13_shop 27 = .ok (.iconst 0, 1) := by decide +kernel
theorem dX13_shop_28 : decode cX13_shop 28 = .ok (.putfield 331, 3) := by decide +kernel
theorem dX13_shop_31 : decode cX13_shop 31 = .ok (.aload_n 0, 1) := by decide +kernel
theorem dX13_shop_32 : decode cX13_shop 32 = .ok (.iconst 0, 1) := by decide +kernel
theorem dX13_shop_33 : decode cX13_shop 33 = .ok (.putfield 334, 3) := by decide +kernel
theorem dX13_shop_36 : decode cX13_shop 36 = .ok (.aload_n 0, 1) := by decide +kernel
theorem dX13_shop_37 : decode cX13_shop 37 = .ok (.iconst 0, 1) := by decide +kernel
theorem dX13_shop_38 : decode cX13_shop 38 = .ok (.putfield 338, 3) := by decide +kernel
theorem dX13_shop_41 : decode cX13_shop 41 = .ok (.aload_n 0, 1) := by decide +kernel
theorem dX13_shop_42 : decode cX13_shop 42 = .ok (.iconst 0, 1) := by decide +kernel
theorem dX13_shop_43 : decode cX13_shop 43 = .ok (.putfield 341, 3) := by decide +kernel
theorem dX13_shop_46 : decode cX13_shop 46 = .ok (.aload_n 0, 1) := by decide +kernel
theorem dX13_shop_47 : decode cX13_shop 47 = .ok (.iconst 0, 1) := by decide +kernel
theorem dX13_shop_48 : decode cX13_shop 48 = .ok (.putfield 344, 3) := by decide +kernel
theorem dX13_shop_51 : decode cX13_shop 51 = .ok (.aload_n 0, 1) := by decide +kernel
theorem dX13_shop_52 : decode cX13_shop 52 = .ok (.iconst 0, 1) := by decide +kernel
theorem dX13_shop_53 : decode cX13_shop 53 = .ok (.putfield 347, 3) := by decide +kernel
theorem dX13_shop_56 : decode cX13_shop 56 = .ok (.iload_n 1, 1) := by decide +kernel
theorem dX13_shop_57 : decode cX13_shop 57 = .ok (.ireturn, 1) := by decide +kernel
set_option maxRecDepth 20000 in
theorem ggX13_shop_X13_begin : GoodIn wsX13_shop wsX13_begin := goodIn_r _ [11, 12, 13, 14, 15, 16, 17, 18, 19, 10, 20, 21, 22, 23, 24, 25, 26, 27, 28, 29, 30, 31, 32, 33, 34, 179, 180, 181, 182, 183, 184, 185, 186, 187, 188, 189, 190, 191, 192, 193, 194, 195, 196, 197, 198, 199, 200, 201, 202, 203, 204, 205, 206, 207, 208, 209, 210, 211, 212, 213, 214, 215, 216, 217, 218, 219, 220, 221, 222, 223, 224, 225, 226, 227, 228, 229, 230, 231, 232, 233, 234, 235, 236, 237, 238, 239, 240, 241, 242, 243, 244, 245, 246, 247, 248, 249, 250, 251] rfl (by decide +kernel)
set_option maxRecDepth 20000 in
theorem gX13_shop_X13_begin : GoodIn wsX13_shop (wsV RX13 325 RX13 yX13_begin wsX13_begin) := goodIn_app (goodIn_of _ (by decide +kernel)) ggX13_shop_X13_begin
set_option maxRecDepth 20000 in
theorem ggX13_shop_X13_fresh : GoodIn wsX13_shop wsX13_fresh := goodIn_r _ [174, 175, 176, 177, 178, 179, 180, 181, 182, 183, 184, 185, 186, 187, 188, 189, 190, 191, 192, 193, 194, 195, 196, 197, 198, 199, 200, 201, 202, 203, 204, 205, 206, 207, 208, 209, 210, 211, 212, 213, 214, 215, 216, 217, 218, 219, 220, 221, 222, 223, 224, 225, 226, 227, 228, 229, 230, 231, 232, 233, 234, 235, 236, 237, 238, 239, 240, 241, 242, 243, 244, 245, 246, 247, 248, 249, 250, 251] rfl (by decide +kernel)
set_option maxRecDepth 20000 in
theorem gX13_shop_X13_fresh : GoodIn wsX13_shop (wsV RX13 319 RX13 yX13_fresh wsX13_fresh) := goodIn_app (goodIn_of _ (by decide +kernel)) ggX13_shop_X13_fresh
set_option maxRecDepth 20000 in
theorem ggX13_shop_X13_readShop : GoodIn wsX13_shop wsX13_readShop := goodIn_r _ [38, 23, 39, 40, 41, 42, 10, 43, 44, 45, 46, 47, 48, 49, 50, 51, 52, 53, 54, 55, 56, 57, 58, 59, 60, 61, 62, 14, 22, 21, 63, 64, 65, 66, 67, 68, 69, 70, 71, 72, 73, 74, 75, 76, 77, 78, 79, 80, 81, 82, 83, 84, 85, 86, 87, 88, 89, 90, 91, 92, 93, 94, 95, 96, 97, 98, 99, 100, 101, 102, 103, 104, 105, 106, 107, 108, 109, 110, 111, 112, 113, 114, 115, 17, 18, 19, 20, 13, 24, 25, 26, 27, 28, 29, 30, 31, 32, 33, 34, 116, 117, 118, 119, 120, 121, 122, 123, 124, 125, 126, 127, 128, 129, 130, 131, 132, 133, 134, 135, 136, 137, 138, 139, 140, 141, 142, 143, 144, 145, 146, 147, 148, 149, 150, 151, 152, 153, 154, 155, 156, 157, 158, 159, 160, 161, 162, 163, 179, 180, 181, 182, 183, 184, 185, 186, 187, 188, 189, 190, 191, 192, 193, 194, 195, 196, 197, 198, 199, 200, 201, 202, 203, 204, 205, 206, 207, 208, 209, 210, 211, 212, 213, 214, 215, 216, 217, 218, 219, 220, 221, 222, 223, 224, 225, 226, 227, 228, 229, 230, 231, 232, 233, 234, 235, 236, 237, 238, 239, 240, 241, 242, 243, 244, 245, 246, 247, 248, 249, 250, 251] rfl (by decide +kernel)
set_option maxRecDepth 20000 in
theorem gX13_shop_X13_readShop : GoodIn wsX13_shop (wsV RX13 328 RX13 yX13_readShop wsX13_readShop) := goodIn_app (goodIn_of _ (by decide +kernel)) ggX13_shop_X13_readShop
set_option maxRecDepth 20000 in
theorem ggX13_shop_X13_takeShop : GoodIn wsX13_shop wsX13_takeShop := goodIn_r _ [167, 168, 44, 169, 45, 170, 46, 47, 53, 54, 179, 180, 181, 182, 183, 184, 185, 186, 187, 188, 189, 190, 191, 192, 193, 194, 195, 196, 197, 198, 199, 200, 201, 202, 203, 204, 205, 206, 207, 208, 209, 210, 211, 212, 213, 214, 215, 216, 217, 218, 219, 220, 221, 222, 223, 224, 225, 226, 227, 228, 229, 230, 231, 232, 233, 234, 235, 236, 237, 238, 239, 240, 241, 242, 243, 244, 245, 246, 247, 248, 249, 250, 251] rfl (by decide +kernel)
set_option maxRecDepth 20000 in
theorem gX13_shop_X13_takeShop : GoodIn wsX13_shop (wsV RX13 316 RX13 yX13_takeShop wsX13_takeShop) := goodIn_app (goodIn_of _ (by decide +kernel)) ggX13_shop_X13_takeShop
def wsT_X13_shop : List Cond := wsX13_shop ++ (wsT_nx ++ [.classLink RX13 211 RX12])
theorem gT_X13_shop_X13_readShop : GoodIn wsT_X13_shop (wsV RX13 328 RX13 yX13_readShop wsT_X13_readShop) := gT_call gX13_shop_X13_readShop (gT_left gT_nx)
set_option maxHeartbeats 4000000 in
set_option maxRecDepth 100000 in
theorem S_X13_shop (l : Launch) (D : va_G) (K : Nat → ClassId) (a : Nat → Nat) (G : gS) (qs vs : Nat → Nat) (wf : yW3 G) (hI : yI G) (sz : Nat) : KiZ (yZ qs vs) l yX13_shop wsT_X13_shop 24 547 D [.ref (a 0)] (yW K a G) (tK K) sz (fun (r : Int32) (G' : gS) => (yI G') ∧ (gu_un ycd [3, 4, 5, 6, 7, 8, 9, 10, 21, 22, 29, 30, 46, 54, 56, 57, 58, 59, 300, 400, 500, 600, 700, 800, 900, 1000, 1100, 1200, 1400, 1500] G G') ∧ ((-1) ≤ r.toInt ∧ r.toInt ≤ 1000) ∧ (((G' 0 2).toInt = 0)) ∧ (yW3 G') ∧ ((∀ (ts : List hTk), tL (G 2) (G 0 2).toInt 0 ts → ∀ (cnt lat : Int) (nu : Nat → Int32) (sg : Nat → sSt), hSt nu sg → ((r.toInt = -1 ∧ (G' 0 8).toInt ≠ 0 ∧ hO ts (-1) cnt lat 0 (fun _ => 0) nu sg = hBad (G' 0 8).toInt (G' 0 9).toInt ∧ G' 3 = (G 3) ∧ G' 5 = (G 5) ∧ G' 7 = (G 7) ∧ (∀ w : Int, 0 ≤ w → w ≤ 2 → mL w G' = mL w G)) ∨ ((G' 0 8).toInt = 0 ∧ (G' 0 9).toInt = -1 ∧ ∃ nu' : Nat → Int32, hO ts (-1) cnt lat 0 (fun _ => 0) nu sg = (0, -1, r.toInt, nu', mL 0 G', mL 1 G', mL 2 G') ∧ yNm nu' G')))) ∧ ((((G' 0 8).toInt ≠ 0 ∧ (G' 0 45).toInt = (G 0 45).toInt) ∨ ((G' 0 8).toInt = 0 ∧ (G' 0 45).toInt = 0))) ∧ ((((G' 0 8).toInt = 0 ∧ pcF 1000 (yPc G')) ∨ ((G' 0 8).toInt ≠ 0 ∧ pcB (yPc G) (yPc G'))))) (fun (G' : gS) => (yW K a G')) := by
  unfold KiZ
  refine gwz_ofWx (hh := [(0, 9, 12, 211)]) (cc := cX13_shop) (lv := [(0, .ref (a 0))]) (by decide) rfl (Nat.le_of_ble_eq_true rfl) rfl ?_
  intro p e s m args below meth c A Q hA hQ hZ F hr hnm hexx
  have hts := F.2.2.2.2.1
  have w_0 : (Cond.classLink RX13 211 RX12).before args s = true := hts _ (by decide +kernel)
  have w_1 : (Cond.fieldLink RX13 331 "QuietCutModel" "jobs" "I").before args s = true := hts _ (List.mem_of_getElem? (i := 1) rfl)
  have i_X13 : ∀ w ∈ u_ws RX13 TX13 73, w ∈ wsT_X13_shop := fun w h => List.mem_append_left _ ((show ∀ w ∈ u_ws RX13 TX13 73, w ∈ wsX13_shop from fun _ h => List.mem_cons_of_mem _ (List.mem_append_right _ h)) w h)
  have w_2 : (Cond.fieldLink RX13 334 "QuietCutModel" "hasOrder" "Z").before args s = true := hts _ (List.mem_of_getElem? (i := 2) rfl)
  have w_3 : (Cond.fieldLink RX13 338 "QuietCutModel" "offers" "I").before args s = true := hts _ (List.mem_of_getElem? (i := 3) rfl)
  have w_4 : (Cond.fieldLink RX13 341 "QuietCutModel" "heards" "I").before args s = true := hts _ (List.mem_of_getElem? (i := 4) rfl)
  have w_5 : (Cond.fieldLink RX13 344 "QuietCutModel" "rights" "I").before args s = true := hts _ (List.mem_of_getElem? (i := 5) rfl)
  have w_6 : (Cond.fieldLink RX13 347 "QuietCutModel" "telling" "I").before args s = true := hts _ (List.mem_of_getElem? (i := 6) rfl)
  have b1 : (0 : Int) ≤ (G 0 2).toInt ∧ (G 0 2).toInt ≤ 1000 := hI 0 2
  refine g_aload_n F 0 dX13_shop_0 rfl rfl ?_
  refine u_callVv (k := 0) (n := 0) (b := a 0) (As := []) (st := []) F (fun sz => S_X13_begin l D K a G  hI sz) (cwV 0 hts (gT_left gX13_shop_X13_begin) rfl rfl rfl (by decide +kernel) ⟨Nat.le_of_ble_eq_true rfl, Nat.le_of_ble_eq_true rfl⟩) rfl 0 yc_0 rfl (Nat.le_of_ble_eq_true rfl) ⟨Nat.zero_le _, Nat.zero_le _⟩ dX13_shop_1 (fun G4 hw3 => ?_)
  have hI5 : yI G4 := hw3.1
  have hU6 : gu_un ycd [3, 4, 5, 6, 7, 8, 9, 10] G G4 := hw3.2.1
  have hp7 := hw3.2.2
  have b8 : (0 : Int) ≤ (G4 0 5).toInt ∧ (G4 0 5).toInt ≤ 1000 := hI5 0 5
  have b9 : (0 : Int) ≤ (G4 0 3).toInt ∧ (G4 0 3).toInt ≤ 1000 := hI5 0 3
  have b10 : (0 : Int) ≤ (G4 0 2).toInt ∧ (G4 0 2).toInt ≤ 1000 := hI5 0 2
  have q11 : ((G4 0 5).toInt ≤ (G4 0 3).toInt ∧ (G4 0 2).toInt = 0) := hp7.1
  have b12 : (0 : Int) ≤ (G4 0 4).toInt ∧ (G4 0 4).toInt ≤ 1000 := hI5 0 4
  have q13 : ((G4 0 4).toInt ≤ (G4 0 5).toInt) := hp7.2.1
  have b14 : (0 : Int) ≤ (G4 0 6).toInt ∧ (G4 0 6).toInt ≤ 4 := hI5 0 6
  have b15 : (0 : Int) ≤ (G4 0 7).toInt ∧ (G4 0 7).toInt ≤ 9999 := hI5 0 7
  have q16 : ((G4 0 6).toInt ≠ 2 ∨ (0 ≤ (G4 0 7).toInt ∧ (G4 0 7).toInt ≤ 9999)) := hp7.2.2.1
  have q17 : ((G4 0 3).toInt = (G 0 2).toInt ∧ (G4 0 8).toInt = 0 ∧ (G4 0 9).toInt = -1) := hp7.2.2.2.1
  have q18 : tTok (G 2) (G 0 2).toInt 0 (G4 0 6).toInt (G4 0 4).toInt (G4 0 7).toInt (G4 0 5).toInt := hp7.2.2.2.2
  clear hp7 hw3
  refine g_aload_n F 0 dX13_shop_4 rfl rfl ?_
  obtain ⟨r0, htab, hr1, hr2, hr3, hr4⟩ := gt_row hexx
  refine uxz_catchi (k := 0) (n := 0) (b := a 0) (As := []) (st := []) F yZ_st hZ (fun sz => S_X13_readShop l D K a G4 qs vs  (by (first | omega | (simp only [Int32.reduceToInt, true_and, and_true, ne_eq, not_true_eq_false, false_and, or_false, false_or, true_or, or_true, false_implies] <;> omega))) (by (first | omega | (simp only [Int32.reduceToInt, true_and, and_true, ne_eq, not_true_eq_false, false_and, or_false, false_or, true_or, or_true, false_implies] <;> omega))) hI5 sz) (cwV 0 hts gT_X13_shop_X13_readShop rfl rfl rfl (by decide +kernel) ⟨Nat.le_of_ble_eq_true rfl, Nat.le_of_ble_eq_true rfl⟩) rfl 0 yc_0 rfl (Nat.le_of_ble_eq_true rfl) ⟨Nat.zero_le _, Nat.zero_le _⟩ dX13_shop_5 htab (by simp [covers, hr1, hr2]) (by rw [hr4]; decide) (cn := RX12) (by rw [hr4]; exact w_0) rfl 1 (fun _ => yc_1) 12 hr3 (fun r19 G21 hw20 => ?_) (fun G23 hT22 => ?_)
  · have hI26 : yI G21 := hw20.1
    have hU27 : gu_un ycd [5, 6, 7, 8, 9, 10, 21, 22, 400, 600, 800, 900, 1000, 1100, 1200] G4 G21 := hw20.2.1
    have hp28 := hw20.2.2
    have q29 : yV3 G21 := hp28.2.1
    have q30 : yKp G4 G21 := hp28.2.2.1
    have q31 : yDn r19.toInt G4 G21 := hp28.2.2.2.1
    have q32 : yFf G4 G21 := hp28.2.2.2.2
    have kp33 : yKp G G21 := yKp.tr (yKp.un yKp.rf (show gu_un ycd [3, 4, 5, 6, 7, 8, 9, 10] G G4 from (gu_un.tr gu_un.rf (gu_un.su hU6 rfl))) rfl) q30
    have ff1 := congrArg Int32.toInt q32.1
    have ff2 := congrArg Int32.toInt q32.2
    have rg34 := hp28.1
    clear hp28 hw20
    refine g_istore_n F [(1, .int r19), (0, .ref (a 0))] dX13_shop_8 rfl (by decide) rfl ?_
    refine g_goto F 15 dX13_shop_9 (by decide) ?_
    refine g_aload_n F 1 dX13_shop_15 rfl rfl ?_
    refine u_callVv (k := 0) (n := 0) (b := a 0) (As := []) (st := []) F (fun sz => S_X13_takeShop l D K a G21  (q29) hI26 sz) (cwV 0 hts (gT_left gX13_shop_X13_takeShop) rfl rfl rfl (by decide +kernel) ⟨Nat.le_of_ble_eq_true rfl, Nat.le_of_ble_eq_true rfl⟩) rfl 0 yc_0 rfl (Nat.le_of_ble_eq_true rfl) ⟨Nat.zero_le _, Nat.zero_le _⟩ dX13_shop_16 (fun G37 hw36 => ?_)
    have hI38 : yI G37 := hw36.1
    have hU39 : gu_un ycd [300, 500, 700, 1000, 1100, 1200] G21 G37 := hw36.2.1
    have hp40 := hw36.2.2
    have q41 : yW3 G37 := hp40.1
    have q42 : yTkn G21 G37 := hp40.2
    clear hp40 hw36
    refine g_aload_n F 1 dX13_shop_19 rfl rfl ?_
    refine g_sipush F 1000 dX13_shop_20 (by decide) ?_
    refine u_callVv (k := 0) (n := 0) (b := a 0) (As := [.int 1000]) (st := []) F (fun sz => S_X13_fresh l D K a G37 1000 1000 rfl (by decide) hI38 sz) (cwV 1 hts (gT_left gX13_shop_X13_fresh) rfl rfl rfl (by decide +kernel) ⟨Nat.le_of_ble_eq_true rfl, Nat.le_of_ble_eq_true rfl⟩) rfl 0 yc_0 rfl (Nat.le_of_ble_eq_true rfl) ⟨Nat.zero_le _, Nat.zero_le _⟩ dX13_shop_23 (fun G45 hw44 => ?_)
    have hI46 : yI G45 := hw44.1
    have hU47 : gu_un ycd [29, 30, 1400, 1500] G37 G45 := hw44.2.1
    have hp48 := hw44.2.2
    have q49 : pcF 1000 (yPc G45) := hp48
    clear hp48 hw44
    refine g_aload_n F 1 dX13_shop_26 rfl rfl ?_
    refine g_iconst F 0 dX13_shop_27 (by decide) ?_
    refine yp_0_45 F i_X13 w_1 dX13_shop_28 ?_
    refine g_aload_n F 1 dX13_shop_31 rfl rfl ?_
    refine g_iconst F 0 dX13_shop_32 (by decide) ?_
    refine yp_0_53 F i_X13 w_2 dX13_shop_33 (by decide) ?_
    refine g_aload_n F 1 dX13_shop_36 rfl rfl ?_
    refine g_iconst F 0 dX13_shop_37 (by decide) ?_
    refine yp_0_55 F i_X13 w_3 dX13_shop_38 ?_
    refine g_aload_n F 1 dX13_shop_41 rfl rfl ?_
    refine g_iconst F 0 dX13_shop_42 (by decide) ?_
    refine yp_0_56 F i_X13 w_4 dX13_shop_43 ?_
    refine g_aload_n F 1 dX13_shop_46 rfl rfl ?_
    refine g_iconst F 0 dX13_shop_47 (by decide) ?_
    refine yp_0_57 F i_X13 w_5 dX13_shop_48 ?_
    refine g_aload_n F 1 dX13_shop_51 rfl rfl ?_
    refine g_iconst F 0 dX13_shop_52 (by decide) ?_
    refine yp_0_58 F i_X13 w_6 dX13_shop_53 ?_
    refine g_iload_n F 0 dX13_shop_56 rfl rfl ?_
    exact u_iret F hA hQ hr (gu_up (gu_up (gu_up (gu_up (gu_up (gu_up G45 0 45 0) 0 53 0) 0 55 0) 0 56 0) 0 57 0) 0 58 0) (⟨(gu_I.up (j := 0) (k := 58) (v := 0) (gu_I.up (j := 0) (k := 57) (v := 0) (gu_I.up (j := 0) (k := 56) (v := 0) (gu_I.up (j := 0) (k := 55) (v := 0) (gu_I.up (j := 0) (k := 53) (v := 0) (gu_I.up (j := 0) (k := 45) (v := 0) hI46 (show (0 : Int) ≤ (0 : Int32).toInt by decide) (show (0 : Int32).toInt ≤ 5 by decide)) (show (0 : Int) ≤ (0 : Int32).toInt by decide) (show (0 : Int32).toInt ≤ 1 by decide)) (show (0 : Int) ≤ (0 : Int32).toInt by decide) (show (0 : Int32).toInt ≤ 10 by decide)) (show (0 : Int) ≤ (0 : Int32).toInt by decide) (show (0 : Int32).toInt ≤ 30 by decide)) (show (0 : Int) ≤ (0 : Int32).toInt by decide) (show (0 : Int32).toInt ≤ 20 by decide)) (ti_rng _).1 (ti_rng _).2), (gu_un.up (j := 0) (k := 58) (v := 0) (gu_un.up (j := 0) (k := 57) (v := 0) (gu_un.up (j := 0) (k := 56) (v := 0) (gu_un.up (j := 0) (k := 55) (v := 0) (gu_un.up (j := 0) (k := 53) (v := 0) (gu_un.up (j := 0) (k := 45) (v := 0) (gu_un.tr (gu_un.tr (gu_un.tr (gu_un.tr gu_un.rf (gu_un.su hU6 rfl)) (gu_un.su hU27 rfl)) (gu_un.su hU39 rfl)) (gu_un.su hU47 rfl)) (show (46 : Nat) ∈ ([3, 4, 5, 6, 7, 8, 9, 10, 21, 22, 29, 30, 46, 54, 56, 57, 58, 59, 300, 400, 500, 600, 700, 800, 900, 1000, 1100, 1200, 1400, 1500] : List Nat) by decide)) (show (54 : Nat) ∈ ([3, 4, 5, 6, 7, 8, 9, 10, 21, 22, 29, 30, 46, 54, 56, 57, 58, 59, 300, 400, 500, 600, 700, 800, 900, 1000, 1100, 1200, 1400, 1500] : List Nat) by decide)) (show (56 : Nat) ∈ ([3, 4, 5, 6, 7, 8, 9, 10, 21, 22, 29, 30, 46, 54, 56, 57, 58, 59, 300, 400, 500, 600, 700, 800, 900, 1000, 1100, 1200, 1400, 1500] : List Nat) by decide)) (show (57 : Nat) ∈ ([3, 4, 5, 6, 7, 8, 9, 10, 21, 22, 29, 30, 46, 54, 56, 57, 58, 59, 300, 400, 500, 600, 700, 800, 900, 1000, 1100, 1200, 1400, 1500] : List Nat) by decide)) (show (58 : Nat) ∈ ([3, 4, 5, 6, 7, 8, 9, 10, 21, 22, 29, 30, 46, 54, 56, 57, 58, 59, 300, 400, 500, 600, 700, 800, 900, 1000, 1100, 1200, 1400, 1500] : List Nat) by decide)) (show (59 : Nat) ∈ ([3, 4, 5, 6, 7, 8, 9, 10, 21, 22, 29, 30, 46, 54, 56, 57, 58, 59, 300, 400, 500, 600, 700, 800, 900, 1000, 1100, 1200, 1400, 1500] : List Nat) by decide)), (by have h9 := ti_rng r19; omega), (by show (((gu_up (gu_up (gu_up (gu_up (gu_up (gu_up G45 0 45 0) 0 53 0) 0 55 0) 0 56 0) 0 57 0) 0 58 0) 0 2).toInt = 0); have e9_0_2 : (gu_up (gu_up (gu_up (gu_up (gu_up (gu_up G45 0 45 0) 0 53 0) 0 55 0) 0 56 0) 0 57 0) 0 58 0) 0 2 = (G4 0 2) := (hU47 0 2 (by decide)).trans ((hU39 0 2 (by decide)).trans (hU27 0 2 (by decide))); (try simp only [e9_0_2, true_and, and_true]) <;> (first | omega | (simp only [Int32.reduceToInt, true_and, and_true, ne_eq, not_true_eq_false, false_and, or_false, false_or, true_or, or_true, false_implies] <;> omega))), (yW3.un q41 (show gu_un ycd [29, 30, 46, 54, 56, 57, 58, 59, 1400, 1500] G37 (gu_up (gu_up (gu_up (gu_up (gu_up (gu_up G45 0 45 0) 0 53 0) 0 55 0) 0 56 0) 0 57 0) 0 58 0) from (gu_un.up (j := 0) (k := 58) (v := 0) (gu_un.up (j := 0) (k := 57) (v := 0) (gu_un.up (j := 0) (k := 56) (v := 0) (gu_un.up (j := 0) (k := 55) (v := 0) (gu_un.up (j := 0) (k := 53) (v := 0) (gu_un.up (j := 0) (k := 45) (v := 0) (gu_un.tr gu_un.rf (gu_un.su hU47 rfl)) (show (46 : Nat) ∈ ([29, 30, 46, 54, 56, 57, 58, 59, 1400, 1500] : List Nat) by decide)) (show (54 : Nat) ∈ ([29, 30, 46, 54, 56, 57, 58, 59, 1400, 1500] : List Nat) by decide)) (show (56 : Nat) ∈ ([29, 30, 46, 54, 56, 57, 58, 59, 1400, 1500] : List Nat) by decide)) (show (57 : Nat) ∈ ([29, 30, 46, 54, 56, 57, 58, 59, 1400, 1500] : List Nat) by decide)) (show (58 : Nat) ∈ ([29, 30, 46, 54, 56, 57, 58, 59, 1400, 1500] : List Nat) by decide)) (show (59 : Nat) ∈ ([29, 30, 46, 54, 56, 57, 58, 59, 1400, 1500] : List Nat) by decide))) rfl), (fun ts ht cnt lat nu sg hs => by obtain ⟨nu', sg', a1, a2⟩ := q31 ts (show yTs G4 ts from ⟨0, by decide, by have h8 : (0 : Int) ≤ (G4 0 3).toInt := (hI5 0 3).1; exact h8, by rw [show G4 2 = G 2 from (show G4 2 = G 2 from funext fun k_ => hU6 2 k_ (show (200 : Nat) ∉ ([3, 4, 5, 6, 7, 8, 9, 10] : List Nat) by decide)), show (G4 0 3).toInt = (G 0 2).toInt by omega]; exact q18, by rw [show G4 2 = G 2 from (show G4 2 = G 2 from funext fun k_ => hU6 2 k_ (show (200 : Nat) ∉ ([3, 4, 5, 6, 7, 8, 9, 10] : List Nat) by decide)), show (G4 0 3).toInt = (G 0 2).toInt by omega]; exact ht⟩) cnt lat nu sg hs; refine Or.inr ⟨by have e9_0_8 : (gu_up (gu_up (gu_up (gu_up (gu_up (gu_up G45 0 45 0) 0 53 0) 0 55 0) 0 56 0) 0 57 0) 0 58 0) 0 8 = (G21 0 8) := (hU47 0 8 (by decide)).trans (hU39 0 8 (by decide)); (try simp only [e9_0_8, true_and, and_true]) <;> (first | omega | (simp only [Int32.reduceToInt, true_and, and_true, ne_eq, not_true_eq_false, false_and, or_false, false_or, true_or, or_true, false_implies] <;> omega)), by have e9_0_9 : (gu_up (gu_up (gu_up (gu_up (gu_up (gu_up G45 0 45 0) 0 53 0) 0 55 0) 0 56 0) 0 57 0) 0 58 0) 0 9 = (G21 0 9) := (hU47 0 9 (by decide)).trans (hU39 0 9 (by decide)); (try simp only [e9_0_9, true_and, and_true]) <;> (first | omega | (simp only [Int32.reduceToInt, true_and, and_true, ne_eq, not_true_eq_false, false_and, or_false, false_or, true_or, or_true, false_implies] <;> omega)), nu', ?_, ?_⟩ <;> first | (rw [(show mL 0 (gu_up (gu_up (gu_up (gu_up (gu_up (gu_up G45 0 45 0) 0 53 0) 0 55 0) 0 56 0) 0 57 0) 0 58 0) = mL 3 G21 from (mL_un (show gu_un ycd [29, 30, 46, 54, 56, 57, 58, 59, 1400, 1500] G37 (gu_up (gu_up (gu_up (gu_up (gu_up (gu_up G45 0 45 0) 0 53 0) 0 55 0) 0 56 0) 0 57 0) 0 58 0) from (gu_un.up (j := 0) (k := 58) (v := 0) (gu_un.up (j := 0) (k := 57) (v := 0) (gu_un.up (j := 0) (k := 56) (v := 0) (gu_un.up (j := 0) (k := 55) (v := 0) (gu_un.up (j := 0) (k := 53) (v := 0) (gu_un.up (j := 0) (k := 45) (v := 0) (gu_un.tr gu_un.rf (gu_un.su hU47 rfl)) (show (46 : Nat) ∈ ([29, 30, 46, 54, 56, 57, 58, 59, 1400, 1500] : List Nat) by decide)) (show (54 : Nat) ∈ ([29, 30, 46, 54, 56, 57, 58, 59, 1400, 1500] : List Nat) by decide)) (show (56 : Nat) ∈ ([29, 30, 46, 54, 56, 57, 58, 59, 1400, 1500] : List Nat) by decide)) (show (57 : Nat) ∈ ([29, 30, 46, 54, 56, 57, 58, 59, 1400, 1500] : List Nat) by decide)) (show (58 : Nat) ∈ ([29, 30, 46, 54, 56, 57, 58, 59, 1400, 1500] : List Nat) by decide)) (show (59 : Nat) ∈ ([29, 30, 46, 54, 56, 57, 58, 59, 1400, 1500] : List Nat) by decide))) rfl).trans (q42.2.2.2.1)), (show mL 1 (gu_up (gu_up (gu_up (gu_up (gu_up (gu_up G45 0 45 0) 0 53 0) 0 55 0) 0 56 0) 0 57 0) 0 58 0) = mL 4 G21 from (mL_un (show gu_un ycd [29, 30, 46, 54, 56, 57, 58, 59, 1400, 1500] G37 (gu_up (gu_up (gu_up (gu_up (gu_up (gu_up G45 0 45 0) 0 53 0) 0 55 0) 0 56 0) 0 57 0) 0 58 0) from (gu_un.up (j := 0) (k := 58) (v := 0) (gu_un.up (j := 0) (k := 57) (v := 0) (gu_un.up (j := 0) (k := 56) (v := 0) (gu_un.up (j := 0) (k := 55) (v := 0) (gu_un.up (j := 0) (k := 53) (v := 0) (gu_un.up (j := 0) (k := 45) (v := 0) (gu_un.tr gu_un.rf (gu_un.su hU47 rfl)) (show (46 : Nat) ∈ ([29, 30, 46, 54, 56, 57, 58, 59, 1400, 1500] : List Nat) by decide)) (show (54 : Nat) ∈ ([29, 30, 46, 54, 56, 57, 58, 59, 1400, 1500] : List Nat) by decide)) (show (56 : Nat) ∈ ([29, 30, 46, 54, 56, 57, 58, 59, 1400, 1500] : List Nat) by decide)) (show (57 : Nat) ∈ ([29, 30, 46, 54, 56, 57, 58, 59, 1400, 1500] : List Nat) by decide)) (show (58 : Nat) ∈ ([29, 30, 46, 54, 56, 57, 58, 59, 1400, 1500] : List Nat) by decide)) (show (59 : Nat) ∈ ([29, 30, 46, 54, 56, 57, 58, 59, 1400, 1500] : List Nat) by decide))) rfl).trans (q42.2.2.2.2.1)), (show mL 2 (gu_up (gu_up (gu_up (gu_up (gu_up (gu_up G45 0 45 0) 0 53 0) 0 55 0) 0 56 0) 0 57 0) 0 58 0) = mL 5 G21 from (mL_un (show gu_un ycd [29, 30, 46, 54, 56, 57, 58, 59, 1400, 1500] G37 (gu_up (gu_up (gu_up (gu_up (gu_up (gu_up G45 0 45 0) 0 53 0) 0 55 0) 0 56 0) 0 57 0) 0 58 0) from (gu_un.up (j := 0) (k := 58) (v := 0) (gu_un.up (j := 0) (k := 57) (v := 0) (gu_un.up (j := 0) (k := 56) (v := 0) (gu_un.up (j := 0) (k := 55) (v := 0) (gu_un.up (j := 0) (k := 53) (v := 0) (gu_un.up (j := 0) (k := 45) (v := 0) (gu_un.tr gu_un.rf (gu_un.su hU47 rfl)) (show (46 : Nat) ∈ ([29, 30, 46, 54, 56, 57, 58, 59, 1400, 1500] : List Nat) by decide)) (show (54 : Nat) ∈ ([29, 30, 46, 54, 56, 57, 58, 59, 1400, 1500] : List Nat) by decide)) (show (56 : Nat) ∈ ([29, 30, 46, 54, 56, 57, 58, 59, 1400, 1500] : List Nat) by decide)) (show (57 : Nat) ∈ ([29, 30, 46, 54, 56, 57, 58, 59, 1400, 1500] : List Nat) by decide)) (show (58 : Nat) ∈ ([29, 30, 46, 54, 56, 57, 58, 59, 1400, 1500] : List Nat) by decide)) (show (59 : Nat) ∈ ([29, 30, 46, 54, 56, 57, 58, 59, 1400, 1500] : List Nat) by decide))) rfl).trans (q42.2.2.2.2.2))]; exact a2) | (have a3 := yTkn.nm q42 a1; unfold yNm at a3 ⊢; rw [show (gu_up (gu_up (gu_up (gu_up (gu_up (gu_up G45 0 45 0) 0 53 0) 0 55 0) 0 56 0) 0 57 0) 0 58 0) 3 = G37 3 from funext fun k_ => (show gu_un ycd [29, 30, 46, 54, 56, 57, 58, 59, 1400, 1500] G37 (gu_up (gu_up (gu_up (gu_up (gu_up (gu_up G45 0 45 0) 0 53 0) 0 55 0) 0 56 0) 0 57 0) 0 58 0) from (gu_un.up (j := 0) (k := 58) (v := 0) (gu_un.up (j := 0) (k := 57) (v := 0) (gu_un.up (j := 0) (k := 56) (v := 0) (gu_un.up (j := 0) (k := 55) (v := 0) (gu_un.up (j := 0) (k := 53) (v := 0) (gu_un.up (j := 0) (k := 45) (v := 0) (gu_un.tr gu_un.rf (gu_un.su hU47 rfl)) (show (46 : Nat) ∈ ([29, 30, 46, 54, 56, 57, 58, 59, 1400, 1500] : List Nat) by decide)) (show (54 : Nat) ∈ ([29, 30, 46, 54, 56, 57, 58, 59, 1400, 1500] : List Nat) by decide)) (show (56 : Nat) ∈ ([29, 30, 46, 54, 56, 57, 58, 59, 1400, 1500] : List Nat) by decide)) (show (57 : Nat) ∈ ([29, 30, 46, 54, 56, 57, 58, 59, 1400, 1500] : List Nat) by decide)) (show (58 : Nat) ∈ ([29, 30, 46, 54, 56, 57, 58, 59, 1400, 1500] : List Nat) by decide)) (show (59 : Nat) ∈ ([29, 30, 46, 54, 56, 57, 58, 59, 1400, 1500] : List Nat) by decide))) 3 k_ (by simp [ycd]), show (gu_up (gu_up (gu_up (gu_up (gu_up (gu_up G45 0 45 0) 0 53 0) 0 55 0) 0 56 0) 0 57 0) 0 58 0) 5 = G37 5 from funext fun k_ => (show gu_un ycd [29, 30, 46, 54, 56, 57, 58, 59, 1400, 1500] G37 (gu_up (gu_up (gu_up (gu_up (gu_up (gu_up G45 0 45 0) 0 53 0) 0 55 0) 0 56 0) 0 57 0) 0 58 0) from (gu_un.up (j := 0) (k := 58) (v := 0) (gu_un.up (j := 0) (k := 57) (v := 0) (gu_un.up (j := 0) (k := 56) (v := 0) (gu_un.up (j := 0) (k := 55) (v := 0) (gu_un.up (j := 0) (k := 53) (v := 0) (gu_un.up (j := 0) (k := 45) (v := 0) (gu_un.tr gu_un.rf (gu_un.su hU47 rfl)) (show (46 : Nat) ∈ ([29, 30, 46, 54, 56, 57, 58, 59, 1400, 1500] : List Nat) by decide)) (show (54 : Nat) ∈ ([29, 30, 46, 54, 56, 57, 58, 59, 1400, 1500] : List Nat) by decide)) (show (56 : Nat) ∈ ([29, 30, 46, 54, 56, 57, 58, 59, 1400, 1500] : List Nat) by decide)) (show (57 : Nat) ∈ ([29, 30, 46, 54, 56, 57, 58, 59, 1400, 1500] : List Nat) by decide)) (show (58 : Nat) ∈ ([29, 30, 46, 54, 56, 57, 58, 59, 1400, 1500] : List Nat) by decide)) (show (59 : Nat) ∈ ([29, 30, 46, 54, 56, 57, 58, 59, 1400, 1500] : List Nat) by decide))) 5 k_ (by simp [ycd]), show (gu_up (gu_up (gu_up (gu_up (gu_up (gu_up G45 0 45 0) 0 53 0) 0 55 0) 0 56 0) 0 57 0) 0 58 0) 7 = G37 7 from funext fun k_ => (show gu_un ycd [29, 30, 46, 54, 56, 57, 58, 59, 1400, 1500] G37 (gu_up (gu_up (gu_up (gu_up (gu_up (gu_up G45 0 45 0) 0 53 0) 0 55 0) 0 56 0) 0 57 0) 0 58 0) from (gu_un.up (j := 0) (k := 58) (v := 0) (gu_un.up (j := 0) (k := 57) (v := 0) (gu_un.up (j := 0) (k := 56) (v := 0) (gu_un.up (j := 0) (k := 55) (v := 0) (gu_un.up (j := 0) (k := 53) (v := 0) (gu_un.up (j := 0) (k := 45) (v := 0) (gu_un.tr gu_un.rf (gu_un.su hU47 rfl)) (show (46 : Nat) ∈ ([29, 30, 46, 54, 56, 57, 58, 59, 1400, 1500] : List Nat) by decide)) (show (54 : Nat) ∈ ([29, 30, 46, 54, 56, 57, 58, 59, 1400, 1500] : List Nat) by decide)) (show (56 : Nat) ∈ ([29, 30, 46, 54, 56, 57, 58, 59, 1400, 1500] : List Nat) by decide)) (show (57 : Nat) ∈ ([29, 30, 46, 54, 56, 57, 58, 59, 1400, 1500] : List Nat) by decide)) (show (58 : Nat) ∈ ([29, 30, 46, 54, 56, 57, 58, 59, 1400, 1500] : List Nat) by decide)) (show (59 : Nat) ∈ ([29, 30, 46, 54, 56, 57, 58, 59, 1400, 1500] : List Nat) by decide))) 7 k_ (by simp [ycd])]; exact a3)), (by show ((((gu_up (gu_up (gu_up (gu_up (gu_up (gu_up G45 0 45 0) 0 53 0) 0 55 0) 0 56 0) 0 57 0) 0 58 0) 0 8).toInt ≠ 0 ∧ ((gu_up (gu_up (gu_up (gu_up (gu_up (gu_up G45 0 45 0) 0 53 0) 0 55 0) 0 56 0) 0 57 0) 0 58 0) 0 45).toInt = (G 0 45).toInt) ∨ (((gu_up (gu_up (gu_up (gu_up (gu_up (gu_up G45 0 45 0) 0 53 0) 0 55 0) 0 56 0) 0 57 0) 0 58 0) 0 8).toInt = 0 ∧ ((gu_up (gu_up (gu_up (gu_up (gu_up (gu_up G45 0 45 0) 0 53 0) 0 55 0) 0 56 0) 0 57 0) 0 58 0) 0 45).toInt = 0)); have e9_0_8 : (gu_up (gu_up (gu_up (gu_up (gu_up (gu_up G45 0 45 0) 0 53 0) 0 55 0) 0 56 0) 0 57 0) 0 58 0) 0 8 = (G21 0 8) := (hU47 0 8 (by decide)).trans (hU39 0 8 (by decide)); have e9_0_45 : (gu_up (gu_up (gu_up (gu_up (gu_up (gu_up G45 0 45 0) 0 53 0) 0 55 0) 0 56 0) 0 57 0) 0 58 0) 0 45 = 0 := rfl; (try simp only [e9_0_8, e9_0_45, true_and, and_true]) <;> (first | omega | (simp only [Int32.reduceToInt, true_and, and_true, ne_eq, not_true_eq_false, false_and, or_false, false_or, true_or, or_true, false_implies] <;> omega))), (Or.inl ⟨by have e9_0_8 : (gu_up (gu_up (gu_up (gu_up (gu_up (gu_up G45 0 45 0) 0 53 0) 0 55 0) 0 56 0) 0 57 0) 0 58 0) 0 8 = (G21 0 8) := (hU47 0 8 (by decide)).trans (hU39 0 8 (by decide)); (try simp only [e9_0_8, true_and, and_true]) <;> (first | omega | (simp only [Int32.reduceToInt, true_and, and_true, ne_eq, not_true_eq_false, false_and, or_false, false_or, true_or, or_true, false_implies] <;> omega)), pcF.yun q49 (show gu_un ycd [46, 54, 56, 57, 58, 59] G45 (gu_up (gu_up (gu_up (gu_up (gu_up (gu_up G45 0 45 0) 0 53 0) 0 55 0) 0 56 0) 0 57 0) 0 58 0) from (gu_un.up (j := 0) (k := 58) (v := 0) (gu_un.up (j := 0) (k := 57) (v := 0) (gu_un.up (j := 0) (k := 56) (v := 0) (gu_un.up (j := 0) (k := 55) (v := 0) (gu_un.up (j := 0) (k := 53) (v := 0) (gu_un.up (j := 0) (k := 45) (v := 0) gu_un.rf (show (46 : Nat) ∈ ([46, 54, 56, 57, 58, 59] : List Nat) by decide)) (show (54 : Nat) ∈ ([46, 54, 56, 57, 58, 59] : List Nat) by decide)) (show (56 : Nat) ∈ ([46, 54, 56, 57, 58, 59] : List Nat) by decide)) (show (57 : Nat) ∈ ([46, 54, 56, 57, 58, 59] : List Nat) by decide)) (show (58 : Nat) ∈ ([46, 54, 56, 57, 58, 59] : List Nat) by decide)) (show (59 : Nat) ∈ ([46, 54, 56, 57, 58, 59] : List Nat) by decide))) rfl⟩)⟩) rfl rfl dX13_shop_57
  · have hI24 : yI G23 := hT22.1
    have hU25 : gu_un ycd [5, 6, 7, 8, 9, 10, 21, 22, 400, 600, 800, 900, 1000, 1100, 1200] G4 G23 := hT22.2.1
    skip
    refine g_astore_n F [(2, .ref (a 1)), (0, .ref (a 0))] dX13_shop_12 rfl (by decide) rfl ?_
    refine g_iconst F (-1) dX13_shop_13 (by decide) ?_
    have b50 : (0 : Int) ≤ (G 0 45).toInt ∧ (G 0 45).toInt ≤ 5 := hI 0 45
    exact u_iret F hA hQ hr G23 (⟨hI24, (gu_un.tr (gu_un.tr gu_un.rf (gu_un.su hU6 rfl)) (gu_un.su hU25 rfl)), (by decide), (by show ((G23 0 2).toInt = 0); have e9_0_2 : G23 0 2 = (G4 0 2) := hU25 0 2 (by decide); (try simp only [e9_0_2, true_and, and_true]) <;> (first | omega | (simp only [Int32.reduceToInt, true_and, and_true, ne_eq, not_true_eq_false, false_and, or_false, false_or, true_or, or_true, false_implies] <;> omega))), (yKp.w3 (yKp.tr (yKp.un yKp.rf (show gu_un ycd [3, 4, 5, 6, 7, 8, 9, 10] G G4 from (gu_un.tr gu_un.rf (gu_un.su hU6 rfl))) rfl) hT22.2.2.1) wf hI), (fun ts ht cnt lat nu sg hs => Or.inl ⟨by decide, hT22.2.2.2.2, hT22.2.2.2.1 ts (show yTs G4 ts from ⟨0, by decide, by have h8 : (0 : Int) ≤ (G4 0 3).toInt := (hI5 0 3).1; exact h8, by rw [show G4 2 = G 2 from (show G4 2 = G 2 from funext fun k_ => hU6 2 k_ (show (200 : Nat) ∉ ([3, 4, 5, 6, 7, 8, 9, 10] : List Nat) by decide)), show (G4 0 3).toInt = (G 0 2).toInt by omega]; exact q18, by rw [show G4 2 = G 2 from (show G4 2 = G 2 from funext fun k_ => hU6 2 k_ (show (200 : Nat) ∉ ([3, 4, 5, 6, 7, 8, 9, 10] : List Nat) by decide)), show (G4 0 3).toInt = (G 0 2).toInt by omega]; exact ht⟩) cnt lat nu sg hs, (show G23 3 = (G 3) from ((show G23 3 = G4 3 from funext fun k_ => hU25 3 k_ (by simp [ycd])).trans (show G4 3 = (G 3) from ((show G4 3 = G 3 from funext fun k_ => hU6 3 k_ (by simp [ycd])).trans (show G 3 = (G 3) from rfl))))), (show G23 5 = (G 5) from ((show G23 5 = G4 5 from funext fun k_ => hU25 5 k_ (by simp [ycd])).trans (show G4 5 = (G 5) from ((show G4 5 = G 5 from funext fun k_ => hU6 5 k_ (by simp [ycd])).trans (show G 5 = (G 5) from rfl))))), (show G23 7 = (G 7) from ((show G23 7 = G4 7 from funext fun k_ => hU25 7 k_ (by simp [ycd])).trans (show G4 7 = (G 7) from ((show G4 7 = G 7 from funext fun k_ => hU6 7 k_ (by simp [ycd])).trans (show G 7 = (G 7) from rfl))))), fun w h1 h2 => mL_kp h1 h2 (yKp.tr (yKp.un yKp.rf (show gu_un ycd [3, 4, 5, 6, 7, 8, 9, 10] G G4 from (gu_un.tr gu_un.rf (gu_un.su hU6 rfl))) rfl) hT22.2.2.1) (hI 12 w.toNat)⟩), (by show (((G23 0 8).toInt ≠ 0 ∧ (G23 0 45).toInt = (G 0 45).toInt) ∨ ((G23 0 8).toInt = 0 ∧ (G23 0 45).toInt = 0)); have e9_0_45 : G23 0 45 = (G 0 45) := (hU25 0 45 (by decide)).trans (hU6 0 45 (by decide)); (try simp only [e9_0_45, true_and, and_true]) <;> (first | omega | (simp only [Int32.reduceToInt, true_and, and_true, ne_eq, not_true_eq_false, false_and, or_false, false_or, true_or, or_true, false_implies] <;> omega))), (Or.inr ⟨hT22.2.2.2.2, pcB.yun (show gu_un ycd [3, 4, 5, 6, 7, 8, 9, 10, 21, 22, 400, 600, 800, 900, 1000, 1100, 1200] G G23 from (gu_un.tr (gu_un.tr gu_un.rf (gu_un.su hU6 rfl)) (gu_un.su hU25 rfl))) rfl⟩)⟩) rfl rfl dX13_shop_14
