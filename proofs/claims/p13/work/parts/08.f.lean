theorem dX13_orderFrom_0 : decode cX13_orderFrom 0 = .ok (.iload_n 1, 1) := by decide +kernel
theorem dX13_orderFrom_1 : decode cX13_orderFrom 1 = .ok (.aload_n 0, 1) := by decide +kernel
theorem dX13_orderFrom_2 : decode cX13_orderFrom 2 = .ok (.getfield 331, 3) := by decide +kernel
theorem dX13_orderFrom_5 : decode cX13_orderFrom 5 = .ok (.if_icmp .ne 50, 3) := by decide +kernel
theorem dX13_orderFrom_8 : decode cX13_orderFrom 8 = .ok (.iload_n 3, 1) := by decide +kernel
theorem dX13_orderFrom_9 : decode cX13_orderFrom 9 = .ok (.aload_n 0, 1) := by decide +kernel
theorem dX13_orderFrom_10 : decode cX13_orderFrom 10 = .ok (.getfield 493, 3) := by decide +kernel
theorem dX13_orderFrom_13 : decode cX13_orderFrom 13 = .ok (.if_icmp .lt 4, 3) := by decide +kernel
theorem dX13_orderFrom_16 : decode cX13_orderFrom 16 = .ok (.return_, 1) := by decide +kernel
theorem dX13_orderFrom_17 : decode cX13_orderFrom 17 = .ok (.aload_n 0, 1) := by decide +kernel
theorem dX13_orderFrom_18 : decode cX13_orderFrom 18 = .ok (.iload_n 3, 1) := by decide +kernel
theorem dX13_orderFrom_19 : decode cX13_orderFrom 19 = .ok (.putfield 493, 3) := by decide +kernel
theorem dX13_orderFrom_22 : decode cX13_orderFrom 22 = .ok (.iconst 0, 1) := by decide +kernel
theorem dX13_orderFrom_23 : decode cX13_orderFrom 23 = .ok (.istore 6, 2) := by decide +kernel
theorem dX13_orderFrom_25 : decode cX13_orderFrom 25 = .ok (.iload 6, 2) := by decide +kernel
theorem dX13_orderFrom_27 : decode cX13_orderFrom 27 = .ok (.aload_n 0, 1) := by decide +kernel
theorem dX13_orderFrom_28 : decode cX13_orderFrom 28 = .ok (.getfield 331, 3) := by decide +kernel
theorem dX13_orderFrom_31 : decode cX13_orderFrom 31 = .ok (.if_icmp .ge 23, 3) := by decide +kernel
theorem dX13_orderFrom_34 : decode cX13_orderFrom 34 = .ok (.aload_n 0, 1) := by decide +kernel
theorem dX13_orderFrom_35 : decode cX13_orderFrom 35 = .ok (.getfield 271, 3) := by decide +kernel
theorem dX13_orderFrom_38 : decode cX13_orderFrom 38 = .ok (.iload 6, 2) := by decide +kernel
theorem dX13_orderFrom_40 : decode cX13_orderFrom 40 = .ok (.aload_n 0, 1) := by decide +kernel
theorem dX13_orderFrom_41 : decode cX13_orderFrom 41 = .ok (.getfield 268, 3) := by decide +kernel
theorem dX13_orderFrom_44 : decode cX13_orderFrom 44 = .ok (.iload 6, 2) := by decide +kernel
theorem dX13_orderFrom_46 : decode cX13_orderFrom 46 = .ok (.iaload, 1) := by decide +kernel
theorem dX13_orderFrom_47 : decode cX13_orderFrom 47 = .ok (.iastore, 1) := by decide +kernel
theorem dX13_orderFrom_48 : decode cX13_orderFrom 48 = .ok (.iinc 6 1, 3) := by decide +kernel
theorem dX13_orderFrom_51 : decode cX13_orderFrom 51 = .ok (.goto (-26), 3) := by decide +kernel
theorem dX13_orderFrom_54 : decode cX13_orderFrom 54 = .ok (.return_, 1) := by decide +kernel
theorem dX13_orderFrom_55 : decode cX13_orderFrom 55 = .ok (.iconst 0, 1) := by decide +kernel
theorem dX13_orderFrom_56 : decode cX13_orderFrom 56 = .ok (.istore 6, 2) := by decide +kernel
theorem dX13_orderFrom_58 : decode cX13_orderFrom 58 = .ok (.iload 6, 2) := by decide +kernel
theorem dX13_orderFrom_60 : decode cX13_orderFrom 60 = .ok (.aload_n 0, 1) := by decide +kernel
theorem dX13_orderFrom_61 : decode cX13_orderFrom 61 = .ok (.getfield 331, 3) := by decide +kernel
theorem dX13_orderFrom_64 : decode cX13_orderFrom 64 = .ok (.if_icmp .ge 135, 3) := by decide +kernel
theorem dX13_orderFrom_67 : decode cX13_orderFrom 67 = .ok (.iload_n 2, 1) := by decide +kernel
theorem dX13_orderFrom_68 : decode cX13_orderFrom 68 = .ok (.iload 6, 2) := by decide +kernel
theorem dX13_orderFrom_70 : decode cX13_orderFrom 70 = .ok (.ishr, 1) := by decide +kernel
theorem dX13_orderFrom_71 : decode cX13_orderFrom 71 = .ok (.iconst 1, 1) := by decide +kernel
theorem dX13_orderFrom_72 : decode cX13_orderFrom 72 = .ok (.iand, 1) := by decide +kernel
theorem dX13_orderFrom_73 : decode cX13_orderFrom 73 = .ok (.iconst 1, 1) := by decide +kernel
theorem dX13_orderFrom_74 : decode cX13_orderFrom 74 = .ok (.if_icmp .eq 119, 3) := by decide +kernel
theorem dX13_orderFrom_77 : decode cX13_orderFrom 77 = .ok (.aload_n 0, 1) := by decide +kernel
theorem dX13_orderFrom_78 : decode cX13_orderFrom 78 = .ok (.aload_n 0, 1) := by decide +kernel
theorem dX13_orderFrom_79 : decode cX13_orderFrom 79 = .ok (.getfield 256, 3) := by decide +kernel
theorem dX13_orderFrom_82 : decode cX13_orderFrom 82 = .ok (.iload 6, 2) := by decide +kernel
theorem dX13_orderFrom_84 : decode cX13_orderFrom 84 = .ok (.iaload, 1) := by decide +kernel
theorem dX13_orderFrom_85 : decode cX13_orderFrom 85 = .ok (.aload_n 0, 1) := by decide +kernel
theorem dX13_orderFrom_86 : decode cX13_orderFrom 86 = .ok (.getfield 262, 3) := by decide +kernel
theorem dX13_orderFrom_89 : decode cX13_orderFrom 89 = .ok (.iload 6, 2) := by decide +kernel
theorem dX13_orderFrom_91 : decode cX13_orderFrom 91 = .ok (.iaload, 1) := by decide +kernel
theorem dX13_orderFrom_92 : decode cX13_orderFrom 92 = .ok (.aload_n 0, 1) := by decide +kernel
theorem dX13_orderFrom_93 : decode cX13_orderFrom 93 = .ok (.getfield 265, 3) := by decide +kernel
theorem dX13_orderFrom_96 : decode cX13_orderFrom 96 = .ok (.iload 6, 2) := by decide +kernel
theorem dX13_orderFrom_98 : decode cX13_orderFrom 98 = .ok (.iaload, 1) := by decide +kernel
theorem dX13_orderFrom_99 : decode cX13_orderFrom 99 = .ok (.invokevirtual 438, 3) := by decide +kernel
theorem dX13_orderFrom_102 : decode cX13_orderFrom 102 = .ok (.ifCond .ne 6, 3) := by decide +kernel
theorem dX13_orderFrom_105 : decode cX13_orderFrom 105 = .ok (.goto 88, 3) := by decide +kernel
theorem dX13_orderFrom_108 : decode cX13_orderFrom 108 = .ok (.aload_n 0, 1) := by decide +kernel
theorem dX13_orderFrom_109 : decode cX13_orderFrom 109 = .ok (.invokevirtual 412, 3) := by decide +kernel
theorem dX13_orderFrom_112 : decode cX13_orderFrom 112 = .ok (.aload_n 0, 1) := by decide +kernel
theorem dX13_orderFrom_113 : decode cX13_orderFrom 113 = .ok (.aload_n 0, 1) := by decide +kernel
theorem dX13_orderFrom_114 : decode cX13_orderFrom 114 = .ok (.getfield 256, 3) := by decide +kernel
theorem dX13_orderFrom_117 : decode cX13_orderFrom 117 = .ok (.iload 6, 2) := by decide +kernel
theorem dX13_orderFrom_119 : decode cX13_orderFrom 119 = .ok (.iaload, 1) := by decide +kernel
theorem dX13_orderFrom_120 : decode cX13_orderFrom 120 = .ok (.aload_n 0, 1) := by decide +kernel
theorem dX13_orderFrom_121 : decode cX13_orderFrom 121 = .ok (.getfield 259, 3) := by decide +kernel
theorem dX13_orderFrom_124 : decode cX13_orderFrom 124 = .ok (.iload 6, 2) := by decide +kernel
theorem dX13_orderFrom_126 : decode cX13_orderFrom 126 = .ok (.iaload, 1) := by decide +kernel
theorem dX13_orderFrom_127 : decode cX13_orderFrom 127 = .ok (.aload_n 0, 1) := by decide +kernel
theorem dX13_orderFrom_128 : decode cX13_orderFrom 128 = .ok (.getfield 262, 3) := by decide +kernel
theorem dX13_orderFrom_131 : decode cX13_orderFrom 131 = .ok (.iload 6, 2) := by decide +kernel
theorem dX13_orderFrom_133 : decode cX13_orderFrom 133 = .ok (.iaload, 1) := by decide +kernel
theorem dX13_orderFrom_134 : decode cX13_orderFrom 134 = .ok (.aload_n 0, 1) := by decide +kernel
theorem dX13_orderFrom_135 : decode cX13_orderFrom 135 = .ok (.getfield 265, 3) := by decide +kernel
theorem dX13_orderFrom_138 : decode cX13_orderFrom 138 = .ok (.iload 6, 2) := by decide +kernel
theorem dX13_orderFrom_140 : decode cX13_orderFrom 140 = .ok (.iaload, 1) := by decide +kernel
theorem dX13_orderFrom_141 : decode cX13_orderFrom 141 = .ok (.iload 4, 2) := by decide +kernel
theorem dX13_orderFrom_143 : decode cX13_orderFrom 143 = .ok (.iload 5, 2) := by decide +kernel
theorem dX13_orderFrom_145 : decode cX13_orderFrom 145 = .ok (.iconst (-1), 1) := by decide +kernel
theorem dX13_orderFrom_146 : decode cX13_orderFrom 146 = .ok (.invokevirtual 415, 3) := by decide +kernel
theorem dX13_orderFrom_149 : decode cX13_orderFrom 149 = .ok (.istore 7, 2) := by decide +kernel
theorem dX13_orderFrom_151 : decode cX13_orderFrom 151 = .ok (.aload_n 0, 1) := by decide +kernel
theorem dX13_orderFrom_152 : decode cX13_orderFrom 152 = .ok (.getfield 268, 3) := by decide +kernel
theorem dX13_orderFrom_155 : decode cX13_orderFrom 155 = .ok (.iload_n 1, 1) := by decide +kernel
theorem dX13_orderFrom_156 : decode cX13_orderFrom 156 = .ok (.iload 6, 2) := by decide +kernel
theorem dX13_orderFrom_158 : decode cX13_orderFrom 158 = .ok (.iastore, 1) := by decide +kernel
theorem dX13_orderFrom_159 : decode cX13_orderFrom 159 = .ok (.iload 7, 2) := by decide +kernel
theorem dX13_orderFrom_161 : decode cX13_orderFrom 161 = .ok (.ifCond .ne 28, 3) := by decide +kernel
theorem dX13_orderFrom_164 : decode cX13_orderFrom 164 = .ok (.aload_n 0, 1) := by decide +kernel
theorem dX13_orderFrom_165 : decode cX13_orderFrom 165 = .ok (.iload_n 1, 1) := by decide +kernel
theorem dX13_orderFrom_166 : decode cX13_orderFrom 166 = .ok (.iconst 1, 1) := by decide +kernel
theorem dX13_orderFrom_167 : decode cX13_orderFrom 167 = .ok (.iadd, 1) := by decide +kernel
theorem dX13_orderFrom_168 : decode cX13_orderFrom 168 = .ok (.iload_n 2, 1) := by decide +kernel
theorem dX13_orderFrom_169 : decode cX13_orderFrom 169 = .ok (.iconst 1, 1) := by decide +kernel
theorem dX13_orderFrom_170 : decode cX13_orderFrom 170 = .ok (.iload 6, 2) := by decide +kernel
theorem dX13_orderFrom_172 : decode cX13_orderFrom 172 = .ok (.ishl, 1) := by decide +kernel
theorem dX13_orderFrom_173 : decode cX13_orderFrom 173 = .ok (.ior, 1) := by decide +kernel
theorem dX13_orderFrom_174 : decode cX13_orderFrom 174 = .ok (.iload_n 3, 1) := by decide +kernel
theorem dX13_orderFrom_175 : decode cX13_orderFrom 175 = .ok (.aload_n 0, 1) := by decide +kernel
theorem dX13_orderFrom_176 : decode cX13_orderFrom 176 = .ok (.getfield 235, 3) := by decide +kernel
theorem dX13_orderFrom_179 : decode cX13_orderFrom 179 = .ok (.iconst 0, 1) := by decide +kernel
theorem dX13_orderFrom_180 : decode cX13_orderFrom 180 = .ok (.iaload, 1) := by decide +kernel
theorem dX13_orderFrom_181 : decode cX13_orderFrom 181 = .ok (.iadd, 1) := by decide +kernel
theorem dX13_orderFrom_182 : decode cX13_orderFrom 182 = .ok (.iload 4, 2) := by decide +kernel
theorem dX13_orderFrom_184 : decode cX13_orderFrom 184 = .ok (.iload 5, 2) := by decide +kernel
theorem dX13_orderFrom_186 : decode cX13_orderFrom 186 = .ok (.invokevirtual 496, 3) := by decide +kernel
theorem dX13_orderFrom_189 : decode cX13_orderFrom 189 = .ok (.aload_n 0, 1) := by decide +kernel
theorem dX13_orderFrom_190 : decode cX13_orderFrom 190 = .ok (.invokevirtual 419, 3) := by decide +kernel
theorem dX13_orderFrom_193 : decode cX13_orderFrom 193 = .ok (.iinc 6 1, 3) := by decide +kernel
theorem dX13_orderFrom_196 : decode cX13_orderFrom 196 = .ok (.goto (-138), 3) := by decide +kernel
theorem dX13_orderFrom_199 : decode cX13_orderFrom 199 = .ok (.return_, 1) := by decide +kernel
set_option maxHeartbeats 4000000 in
set_option maxRecDepth 100000 in
theorem S_X13_orderFrom_v5 (l : Launch) (D : va_G) (K : Nat → ClassId) (a : Nat → Nat) (G : gS) (p1 : Int32) (s1 : Int) (p2 : Int32) (s2 : Int) (p3 : Int32) (s3 : Int) (p4 : Int32) (s4 : Int) (e1 : p1.toInt = s1) (e2 : p2.toInt = s2) (e3 : p3.toInt = s3) (h3 : 0 ≤ s3 ∧ s3 ≤ 300) (e4 : p4.toInt = s4) (h4 : 0 ≤ s4 ∧ s4 ≤ 300) (wf : yW3 G) (nj : (5 ≤ (G 0 45).toInt ∧ (G 0 32).toInt = 5)) (hI : yI G) (sz : Nat) : Kv l yX13_orderFrom wsX13_orderFrom 1 40 0 0 D [.ref (a 0), .int 5, .int p1, .int p2, .int p3, .int p4] (yW K a G) (tK K) sz (fun (G' : gS) => (yI G') ∧ (gu_un ycd [47, 3300] G G') ∧ (yNh G G') ∧ (((G' 0 32).toInt = (G 0 32).toInt))) (fun (G' : gS) => (yW K a G')) (fun _ => (tK K)) := by
  unfold Kv
  refine g_ofW (cc := cX13_orderFrom) (lv := [(0, .ref (a 0)), (1, .int 5), (2, .int p1), (3, .int p2), (4, .int p3), (5, .int p4)]) (by decide) rfl (Nat.le_of_ble_eq_true rfl) rfl ?_
  intro p e s m args below meth c A Q hA hQ F hr hnm
  have hts := F.2.2.2.2.1
  have w_0 : (Cond.fieldLink RX13 331 "QuietCutModel" "jobs" "I").before args s = true := hts _ (List.mem_of_getElem? (i := 1) rfl)
  have i_X13 : ∀ w ∈ u_ws RX13 TX13 73, w ∈ wsX13_orderFrom := fun _ h => List.mem_cons_of_mem _ (List.mem_append_right _ h)
  have w_1 : (Cond.fieldLink RX13 271 "QuietCutModel" "bestRow" "[I").before args s = true := hts _ (List.mem_of_getElem? (i := 3) rfl)
  have w_2 : (Cond.fieldLink RX13 268 "QuietCutModel" "orderRow" "[I").before args s = true := hts _ (List.mem_of_getElem? (i := 4) rfl)
  have w_3 : (Cond.fieldLink RX13 493 "QuietCutModel" "orderBest" "I").before args s = true := hts _ (List.mem_of_getElem? (i := 2) rfl)
  have rg1 : -2147483648 ≤ s1 ∧ s1 ≤ 2147483647 := e1 ▸ ti_rng p1
  have rg2 : -2147483648 ≤ s2 ∧ s2 ≤ 2147483647 := e2 ▸ ti_rng p2
  have b1 : (0 : Int) ≤ (G 0 45).toInt ∧ (G 0 45).toInt ≤ 5 := hI 0 45
  have b2 : (0 : Int) ≤ (G 0 32).toInt ∧ (G 0 32).toInt ≤ 7 := hI 0 32
  have b3 : (4 : Int) ≤ (G 3 0).toInt ∧ (G 3 0).toInt ≤ 16 := hI 3 0
  have J_25 : ∀ (fuel : Nat) (x25_6 : Int32) (Gj25 : gS), (2147483647 - x25_6.toInt).toNat < fuel → (0 ≤ x25_6.toInt ∧ x25_6.toInt ≤ 5) → (yI Gj25) → (gu_un ycd [47, 3300] G Gj25) → (((G 0 32).toInt = (G 0 32).toInt)) → gG p l e (gR 1 0 0 40) s m args below meth c D A 8 Q 0 0 (yW K a Gj25) (tK K) [(0, .ref (a 0)), (6, .int x25_6)] 25 [] := by
    intro fuel
    induction fuel with
    | zero => intro x25_6 Gj25 hm; exact absurd hm (Nat.not_lt_zero _)
    | succ fuel_25 ih_25 =>
      intro x25_6 Gj25 hm_25 h25_6 jI25 jU25 dc_25
      refine g_iload F 1 dX13_orderFrom_25 rfl ?_
      refine g_aload_n F 0 dX13_orderFrom_27 rfl rfl ?_
      refine yg_0_45 F i_X13 w_0 dX13_orderFrom_28 (G 0 45) (jU25 0 45 (by decide)) ?_
      refine v_icmp_ge F 54 dX13_orderFrom_31 (by decide) x25_6.toInt (G 0 45).toInt rfl rfl (fun c4 => ?_) (fun c4 => ?_)
      · exact u_vret F hA hQ hr Gj25 (⟨jI25, (gu_un.tr gu_un.rf (gu_un.su jU25 rfl)), ((yNh.tr (show yNh G G from yNh.rf) (show yNh G Gj25 from (yNh.un jU25 rfl)))), (by show ((Gj25 0 32).toInt = (G 0 32).toInt); have e9_0_32 : Gj25 0 32 = (G 0 32) := jU25 0 32 (by decide); (try simp only [e9_0_32, true_and, and_true]) <;> (first | omega | (simp only [Int32.reduceToInt, true_and, and_true, ne_eq, not_true_eq_false, false_and, or_false, false_or, true_or, or_true, false_implies] <;> omega)))⟩) rfl rfl dX13_orderFrom_54
      · refine g_aload_n F 0 dX13_orderFrom_34 rfl rfl ?_
        refine yg_0_52 F i_X13 w_1 dX13_orderFrom_35 ?_
        refine g_iload F 1 dX13_orderFrom_38 rfl ?_
        refine g_aload_n F 0 dX13_orderFrom_40 rfl rfl ?_
        refine yg_0_51 F i_X13 w_2 dX13_orderFrom_41 ?_
        refine g_iload F 1 dX13_orderFrom_44 rfl ?_
        refine u_iald F 32 0 yc_32 rfl x25_6.toInt rfl (by omega) (by omega) dX13_orderFrom_46 (fun _ => True) (fun _ => trivial) (fun y5 by5 => ?_)
        refine u_iast F 33 0 yc_33 rfl x25_6.toInt rfl (by omega) (by omega) (yW K a (gu_up Gj25 33 (x25_6.toInt).toNat y5)) (ys_33 _) dX13_orderFrom_47 ?_
        refine u_iinc F (fun v_ => [(6, .int v_), (0, .ref (a 0))]) dX13_orderFrom_48 (j := 1) rfl x25_6.toInt 1 rfl rfl (by omega) (by omega) (by decide) (fun _ => rfl) (fun y6 ey6 => ?_)
        refine g_goto F 25 dX13_orderFrom_51 (by decide) ?_
        refine g_locals [(0, .ref (a 0)), (6, .int y6)] [1, 0] rfl ?_
        exact ih_25 y6 (gu_up Gj25 33 (x25_6.toInt).toNat y5) (by omega) (by have h9 := ti_rng y6; omega) (gu_I.up (j := 33) (k := (x25_6.toInt).toNat) (v := y5) jI25 (ti_rng _).1 (ti_rng _).2) (gu_un.up (j := 33) (k := (x25_6.toInt).toNat) (v := y5) (gu_un.tr gu_un.rf (gu_un.su jU25 rfl)) (show (3300 : Nat) ∈ ([47, 3300] : List Nat) by decide)) (by have e9_0_32 : (gu_up Gj25 33 (x25_6.toInt).toNat y5) 0 32 = (G 0 32) := jU25 0 32 (by decide); (try simp only [e9_0_32, true_and, and_true]) <;> (first | omega | (simp only [Int32.reduceToInt, true_and, and_true, ne_eq, not_true_eq_false, false_and, or_false, false_or, true_or, or_true, false_implies] <;> omega)))
  refine g_iload_n F 1 dX13_orderFrom_0 rfl rfl ?_
  refine g_aload_n F 0 dX13_orderFrom_1 rfl rfl ?_
  refine yg_0_45 F i_X13 w_0 dX13_orderFrom_2 (G 0 45) (rfl) ?_
  refine v_icmp_ne F 55 dX13_orderFrom_5 (by decide) 5 (G 0 45).toInt rfl rfl (fun c7 => absurd c7 (by omega)) (fun c7 => ?_)
  refine g_iload_n F 3 dX13_orderFrom_8 rfl rfl ?_
  refine g_aload_n F 0 dX13_orderFrom_9 rfl rfl ?_
  refine yg_0_46 F i_X13 w_3 dX13_orderFrom_10 (G 0 46) (rfl) ?_
  have b8 := ti_rng (G 0 46)
  refine v_icmp_lt F 17 dX13_orderFrom_13 (by decide) s2 (G 0 46).toInt e2 rfl (fun c9 => ?_) (fun c9 => ?_)
  · refine g_aload_n F 0 dX13_orderFrom_17 rfl rfl ?_
    refine g_iload_n F 3 dX13_orderFrom_18 rfl rfl ?_
    refine yp_0_46 F i_X13 w_3 dX13_orderFrom_19 ?_
    refine g_iconst F 0 dX13_orderFrom_22 (by decide) ?_
    refine g_istore F [(6, .int 0), (0, .ref (a 0)), (1, .int 5), (2, .int p1), (3, .int p2), (4, .int p3), (5, .int p4)] dX13_orderFrom_23 (by decide) rfl ?_
    refine g_locals [(0, .ref (a 0)), (6, .int 0)] [1, 0] rfl ?_
    exact J_25 _ 0 (gu_up G 0 46 p2) (Nat.lt_succ_self _) (by decide) (gu_I.up (j := 0) (k := 46) (v := p2) hI (ti_rng _).1 (ti_rng _).2) (gu_un.up (j := 0) (k := 46) (v := p2) gu_un.rf (show (47 : Nat) ∈ ([47, 3300] : List Nat) by decide)) (by have e9_0_32 : (gu_up G 0 46 p2) 0 32 = (G 0 32) := rfl; (try simp only [e9_0_32, true_and, and_true]) <;> (first | omega | (simp only [Int32.reduceToInt, true_and, and_true, ne_eq, not_true_eq_false, false_and, or_false, false_or, true_or, or_true, false_implies] <;> omega)))
  · exact u_vret F hA hQ hr G (⟨hI, gu_un.rf, (yNh.rf), (by show ((G 0 32).toInt = (G 0 32).toInt); (first | omega | (simp only [Int32.reduceToInt, true_and, and_true, ne_eq, not_true_eq_false, false_and, or_false, false_or, true_or, or_true, false_implies] <;> omega)))⟩) rfl rfl dX13_orderFrom_16

set_option maxRecDepth 20000 in
theorem ggX13_orderFrom_X13_canBe : GoodIn wsX13_orderFrom wsX13_canBe := goodIn_r _ [14, 15, 16, 17, 13, 18, 19, 20, 21, 22, 23, 24, 25, 26, 27, 93, 94, 95, 96, 97, 98, 99, 100, 101, 102, 103, 104, 105, 106, 107, 108, 109, 110, 111, 112, 113, 114, 115, 116, 117, 118, 119, 120, 121, 122, 123, 124, 125, 126, 127, 128, 129, 130, 131, 132, 133, 134, 135, 136, 137, 138, 139, 140, 141, 142, 143, 144, 145, 146, 147, 148, 149, 150, 151, 152, 153, 154, 155, 156, 157, 158, 159, 160, 161, 162, 163, 164, 165] rfl (by decide +kernel)
set_option maxRecDepth 20000 in
theorem gX13_orderFrom_X13_canBe : GoodIn wsX13_orderFrom (wsV RX13 438 RX13 yX13_canBe wsX13_canBe) := goodIn_app (goodIn_of _ (by decide +kernel)) ggX13_orderFrom_X13_canBe
set_option maxRecDepth 20000 in
theorem ggX13_orderFrom_X13_go : GoodIn wsX13_orderFrom wsX13_go := goodIn_r _ [39, 20, 9, 40, 41, 19, 42, 43, 44, 23, 45, 21, 22, 24, 35, 15, 16, 17, 13, 18, 25, 26, 27, 46, 47, 48, 49, 50, 51, 52, 53, 54, 55, 56, 57, 58, 59, 60, 61, 62, 63, 64, 65, 66, 67, 68, 69, 70, 71, 72, 73, 74, 75, 76, 77, 78, 79, 80, 81, 82, 83, 84, 85, 93, 94, 95, 96, 97, 98, 99, 100, 101, 102, 103, 104, 105, 106, 107, 108, 109, 110, 111, 112, 113, 114, 115, 116, 117, 118, 119, 120, 121, 122, 123, 124, 125, 126, 127, 128, 129, 130, 131, 132, 133, 134, 135, 136, 137, 138, 139, 140, 141, 142, 143, 144, 145, 146, 147, 148, 149, 150, 151, 152, 153, 154, 155, 156, 157, 158, 159, 160, 161, 162, 163, 164, 165] rfl (by decide +kernel)
set_option maxRecDepth 20000 in
theorem gX13_orderFrom_X13_go : GoodIn wsX13_orderFrom (wsV RX13 415 RX13 yX13_go wsX13_go) := goodIn_app (goodIn_of _ (by decide +kernel)) ggX13_orderFrom_X13_go
set_option maxRecDepth 20000 in
theorem ggX13_orderFrom_X13_orderFrom : GoodIn wsX13_orderFrom wsX13_orderFrom := goodIn_r _ [0, 1, 2, 3, 4, 5, 6, 7, 8, 9, 10, 11, 12, 13, 14, 15, 16, 17, 18, 19, 20, 21, 22, 23, 24, 25, 26, 27, 28, 29, 30, 31, 32, 33, 34, 35, 36, 37, 38, 39, 40, 41, 42, 43, 44, 45, 46, 47, 48, 49, 50, 51, 52, 53, 54, 55, 56, 57, 58, 59, 60, 61, 62, 63, 64, 65, 66, 67, 68, 69, 70, 71, 72, 73, 74, 75, 76, 77, 78, 79, 80, 81, 82, 83, 84, 85, 86, 87, 88, 89, 90, 91, 92, 93, 94, 95, 96, 97, 98, 99, 100, 101, 102, 103, 104, 105, 106, 107, 108, 109, 110, 111, 112, 113, 114, 115, 116, 117, 118, 119, 120, 121, 122, 123, 124, 125, 126, 127, 128, 129, 130, 131, 132, 133, 134, 135, 136, 137, 138, 139, 140, 141, 142, 143, 144, 145, 146, 147, 148, 149, 150, 151, 152, 153, 154, 155, 156, 157, 158, 159, 160, 161, 162, 163, 164, 165] rfl (by decide +kernel)
set_option maxRecDepth 20000 in
theorem gX13_orderFrom_X13_orderFrom : GoodIn wsX13_orderFrom (wsV RX13 496 RX13 yX13_orderFrom wsX13_orderFrom) := goodIn_app (goodIn_of _ (by decide +kernel)) ggX13_orderFrom_X13_orderFrom
set_option maxRecDepth 20000 in
theorem ggX13_orderFrom_X13_putBack : GoodIn wsX13_orderFrom wsX13_putBack := goodIn_r _ [92, 33, 19, 32, 34, 35, 93, 94, 95, 96, 97, 98, 99, 100, 101, 102, 103, 104, 105, 106, 107, 108, 109, 110, 111, 112, 113, 114, 115, 116, 117, 118, 119, 120, 121, 122, 123, 124, 125, 126, 127, 128, 129, 130, 131, 132, 133, 134, 135, 136, 137, 138, 139, 140, 141, 142, 143, 144, 145, 146, 147, 148, 149, 150, 151, 152, 153, 154, 155, 156, 157, 158, 159, 160, 161, 162, 163, 164, 165] rfl (by decide +kernel)
set_option maxRecDepth 20000 in
theorem gX13_orderFrom_X13_putBack : GoodIn wsX13_orderFrom (wsV RX13 419 RX13 yX13_putBack wsX13_putBack) := goodIn_app (goodIn_of _ (by decide +kernel)) ggX13_orderFrom_X13_putBack
set_option maxRecDepth 20000 in
theorem ggX13_orderFrom_X13_putBy : GoodIn wsX13_orderFrom wsX13_putBy := goodIn_r _ [31, 32, 33, 19, 34, 35, 93, 94, 95, 96, 97, 98, 99, 100, 101, 102, 103, 104, 105, 106, 107, 108, 109, 110, 111, 112, 113, 114, 115, 116, 117, 118, 119, 120, 121, 122, 123, 124, 125, 126, 127, 128, 129, 130, 131, 132, 133, 134, 135, 136, 137, 138, 139, 140, 141, 142, 143, 144, 145, 146, 147, 148, 149, 150, 151, 152, 153, 154, 155, 156, 157, 158, 159, 160, 161, 162, 163, 164, 165] rfl (by decide +kernel)
set_option maxRecDepth 20000 in
theorem gX13_orderFrom_X13_putBy : GoodIn wsX13_orderFrom (wsV RX13 412 RX13 yX13_putBy wsX13_putBy) := goodIn_app (goodIn_of _ (by decide +kernel)) ggX13_orderFrom_X13_putBy
set_option maxHeartbeats 4000000 in
set_option maxRecDepth 100000 in
theorem S_X13_orderFrom_v4 (l : Launch) (D : va_G) (K : Nat → ClassId) (a : Nat → Nat) (G : gS) (p1 : Int32) (s1 : Int) (p2 : Int32) (s2 : Int) (p3 : Int32) (s3 : Int) (p4 : Int32) (s4 : Int) (e1 : p1.toInt = s1) (e2 : p2.toInt = s2) (e3 : p3.toInt = s3) (h3 : 0 ≤ s3 ∧ s3 ≤ 300) (e4 : p4.toInt = s4) (h4 : 0 ≤ s4 ∧ s4 ≤ 300) (wf : yW3 G) (nj : (4 ≤ (G 0 45).toInt ∧ (G 0 32).toInt = 4)) (hI : yI G) (sz : Nat) : Kv l yX13_orderFrom wsX13_orderFrom 6 177 0 0 D [.ref (a 0), .int 4, .int p1, .int p2, .int p3, .int p4] (yW K a G) (tK K) sz (fun (G' : gS) => (yI G') ∧ (gu_un ycd [29, 33, 36, 37, 47, 1300, 1400, 1500, 1600, 1700, 1800, 1900, 2000, 2100, 3200, 3300] G G') ∧ (yNh G G') ∧ (((G' 0 32).toInt = (G 0 32).toInt))) (fun (G' : gS) => (yW K a G')) (fun _ => (tK K)) := by
  unfold Kv
  refine g_ofW (cc := cX13_orderFrom) (lv := [(0, .ref (a 0)), (1, .int 4), (2, .int p1), (3, .int p2), (4, .int p3), (5, .int p4)]) (by decide) rfl (Nat.le_of_ble_eq_true rfl) rfl ?_
  intro p e s m args below meth c A Q hA hQ F hr hnm
  have hts := F.2.2.2.2.1
  have w_0 : (Cond.fieldLink RX13 331 "QuietCutModel" "jobs" "I").before args s = true := hts _ (List.mem_of_getElem? (i := 1) rfl)
  have i_X13 : ∀ w ∈ u_ws RX13 TX13 73, w ∈ wsX13_orderFrom := fun _ h => List.mem_cons_of_mem _ (List.mem_append_right _ h)
  have w_1 : (Cond.fieldLink RX13 256 "QuietCutModel" "jobRing" "[I").before args s = true := hts _ (List.mem_of_getElem? (i := 5) rfl)
  have w_2 : (Cond.fieldLink RX13 262 "QuietCutModel" "jobFeed" "[I").before args s = true := hts _ (List.mem_of_getElem? (i := 6) rfl)
  have w_3 : (Cond.fieldLink RX13 265 "QuietCutModel" "jobTurns" "[I").before args s = true := hts _ (List.mem_of_getElem? (i := 7) rfl)
  have w_4 : (Cond.fieldLink RX13 259 "QuietCutModel" "jobSpeed" "[I").before args s = true := hts _ (List.mem_of_getElem? (i := 8) rfl)
  have w_5 : (Cond.fieldLink RX13 268 "QuietCutModel" "orderRow" "[I").before args s = true := hts _ (List.mem_of_getElem? (i := 4) rfl)
  have w_6 : (Cond.fieldLink RX13 235 "QuietCutModel" "now" "[I").before args s = true := hts _ (List.mem_of_getElem? (i := 9) rfl)
  have w_7 : (Cond.fieldLink RX13 271 "QuietCutModel" "bestRow" "[I").before args s = true := hts _ (List.mem_of_getElem? (i := 3) rfl)
  have w_8 : (Cond.fieldLink RX13 493 "QuietCutModel" "orderBest" "I").before args s = true := hts _ (List.mem_of_getElem? (i := 2) rfl)
  have rg1 : -2147483648 ≤ s1 ∧ s1 ≤ 2147483647 := e1 ▸ ti_rng p1
  have rg2 : -2147483648 ≤ s2 ∧ s2 ≤ 2147483647 := e2 ▸ ti_rng p2
  have b1 : (0 : Int) ≤ (G 0 45).toInt ∧ (G 0 45).toInt ≤ 5 := hI 0 45
  have b2 : (0 : Int) ≤ (G 0 32).toInt ∧ (G 0 32).toInt ≤ 7 := hI 0 32
  have b3 : (4 : Int) ≤ (G 3 0).toInt ∧ (G 3 0).toInt ≤ 16 := hI 3 0
  have J_58 : ∀ (fuel : Nat) (x58_6 : Int32) (Gj58 : gS), (2147483647 - x58_6.toInt).toNat < fuel → (0 ≤ x58_6.toInt ∧ x58_6.toInt ≤ 5) → (yI Gj58) → (gu_un ycd [29, 33, 36, 37, 47, 1300, 1400, 1500, 1600, 1700, 1800, 1900, 2000, 2100, 3200, 3300] G Gj58) → (((Gj58 0 32).toInt = (G 0 32).toInt)) → ((4 < (G 0 45).toInt)) → (yNh G Gj58) → gG p l e (gR 6 0 0 177) s m args below meth c D A 8 Q 0 0 (yW K a Gj58) (tK K) [(0, .ref (a 0)), (1, .int 4), (2, .int p1), (3, .int p2), (4, .int p3), (5, .int p4), (6, .int x58_6)] 58 [] := by
    intro fuel
    induction fuel with
    | zero => intro x58_6 Gj58 hm; exact absurd hm (Nat.not_lt_zero _)
    | succ fuel_58 ih_58 =>
      intro x58_6 Gj58 hm_58 h58_6 jI58 jU58 dc_58 nl_58 nh58
      have J_193 : ∀  (Gj193 : gS), (0 ≤ x58_6.toInt ∧ x58_6.toInt ≤ 4) → (yI Gj193) → (gu_un ycd [29, 33, 36, 37, 47, 1300, 1400, 1500, 1600, 1700, 1800, 1900, 2000, 2100, 3200, 3300] Gj58 Gj193) → (((Gj193 0 32).toInt = (G 0 32).toInt)) → ((4 < (G 0 45).toInt)) → (yNh G Gj193) → gG p l e (gR 6 0 0 177) s m args below meth c D A 8 Q 0 0 (yW K a Gj193) (tK K) [(0, .ref (a 0)), (1, .int 4), (2, .int p1), (3, .int p2), (4, .int p3), (5, .int p4), (6, .int x58_6)] 193 [] := by
        intro Gj193 k193_6 jI193 jU193 dc_193 nl_193 nh193
        refine u_iinc F (fun v_ => [(6, .int v_), (0, .ref (a 0)), (1, .int 4), (2, .int p1), (3, .int p2), (4, .int p3), (5, .int p4)]) dX13_orderFrom_193 (j := 6) rfl x58_6.toInt 1 rfl rfl (by omega) (by omega) (by decide) (fun _ => rfl) (fun y4 ey4 => ?_)
        refine g_goto F 58 dX13_orderFrom_196 (by decide) ?_
        refine g_locals [(0, .ref (a 0)), (1, .int 4), (2, .int p1), (3, .int p2), (4, .int p3), (5, .int p4), (6, .int y4)] [1, 2, 3, 4, 5, 6, 0] rfl ?_
        have b5 : (0 : Int) ≤ (Gj193 0 32).toInt ∧ (Gj193 0 32).toInt ≤ 7 := jI193 0 32
        exact ih_58 y4 Gj193 (by omega) (by have h9 := ti_rng y4; omega) jI193 (gu_un.tr (gu_un.tr gu_un.rf (gu_un.su jU58 rfl)) (gu_un.su jU193 rfl)) (by (first | omega | (simp only [Int32.reduceToInt, true_and, and_true, ne_eq, not_true_eq_false, false_and, or_false, false_or, true_or, or_true, false_implies] <;> omega))) (by have e9_0_45 : Gj193 0 45 = (G 0 45) := (jU193 0 45 (by decide)).trans (jU58 0 45 (by decide)); (try simp only [e9_0_45, true_and, and_true]) <;> (first | omega | (simp only [Int32.reduceToInt, true_and, and_true, ne_eq, not_true_eq_false, false_and, or_false, false_or, true_or, or_true, false_implies] <;> omega))) (nh193)
      refine g_iload F 6 dX13_orderFrom_58 rfl ?_
      refine g_aload_n F 0 dX13_orderFrom_60 rfl rfl ?_
      refine yg_0_45 F i_X13 w_0 dX13_orderFrom_61 (G 0 45) (jU58 0 45 (by decide)) ?_
      refine v_icmp_ge F 199 dX13_orderFrom_64 (by decide) x58_6.toInt (G 0 45).toInt rfl rfl (fun c6 => ?_) (fun c6 => ?_)
      · have b7 : (0 : Int) ≤ (Gj58 0 32).toInt ∧ (Gj58 0 32).toInt ≤ 7 := jI58 0 32
        exact u_vret F hA hQ hr Gj58 (⟨jI58, (gu_un.tr gu_un.rf (gu_un.su jU58 rfl)), (nh58), (by show ((Gj58 0 32).toInt = (G 0 32).toInt); (first | omega | (simp only [Int32.reduceToInt, true_and, and_true, ne_eq, not_true_eq_false, false_and, or_false, false_or, true_or, or_true, false_implies] <;> omega)))⟩) rfl rfl dX13_orderFrom_199
      · refine g_iload_n F 2 dX13_orderFrom_67 rfl rfl ?_
        refine g_iload F 6 dX13_orderFrom_68 rfl ?_
        refine u0_ishr F dX13_orderFrom_70 (fun y8 => ?_)
        refine g_iconst F 1 dX13_orderFrom_71 (by decide) ?_
        refine u_iand F dX13_orderFrom_72 _ 1 rfl rfl (by omega) (fun y9 ey9 => ?_)
        refine g_iconst F 1 dX13_orderFrom_73 (by decide) ?_
        refine v_icmp_eq F 193 dX13_orderFrom_74 (by decide) y9.toInt 1 rfl rfl (fun c10 => ?_) (fun c10 => ?_)
        · have b11 : (0 : Int) ≤ (Gj58 0 32).toInt ∧ (Gj58 0 32).toInt ≤ 7 := jI58 0 32
          exact J_193 Gj58 (by have h9 := ti_rng x58_6; omega) jI58 gu_un.rf (by (first | omega | (simp only [Int32.reduceToInt, true_and, and_true, ne_eq, not_true_eq_false, false_and, or_false, false_or, true_or, or_true, false_implies] <;> omega))) (by have e9_0_45 : Gj58 0 45 = (G 0 45) := jU58 0 45 (by decide); (try simp only [e9_0_45, true_and, and_true]) <;> (first | omega | (simp only [Int32.reduceToInt, true_and, and_true, ne_eq, not_true_eq_false, false_and, or_false, false_or, true_or, or_true, false_implies] <;> omega))) (nh58)
        · refine g_aload_n F 0 dX13_orderFrom_77 rfl rfl ?_
          refine g_aload_n F 0 dX13_orderFrom_78 rfl rfl ?_
          refine yg_0_47 F i_X13 w_1 dX13_orderFrom_79 ?_
          refine g_iload F 6 dX13_orderFrom_82 rfl ?_
          refine u1_iald F 28 0 yc_28 rfl x58_6.toInt rfl (by omega) (by omega) dX13_orderFrom_84 ((G 28) (x58_6.toInt).toNat) (congrFun ((show Gj58 28 = G 28 from funext fun k_ => jU58 28 k_ (show (2800 : Nat) ∉ ([29, 33, 36, 37, 47, 1300, 1400, 1500, 1600, 1700, 1800, 1900, 2000, 2100, 3200, 3300] : List Nat) by decide))) _) ?_
          have b12 : (0 : Int) ≤ ((G 28) (x58_6.toInt).toNat).toInt ∧ ((G 28) (x58_6.toInt).toNat).toInt ≤ 5 := hI 28 _
          refine g_aload_n F 0 dX13_orderFrom_85 rfl rfl ?_
          refine yg_0_49 F i_X13 w_2 dX13_orderFrom_86 ?_
          refine g_iload F 6 dX13_orderFrom_89 rfl ?_
          refine u1_iald F 30 0 yc_30 rfl x58_6.toInt rfl (by omega) (by omega) dX13_orderFrom_91 ((G 30) (x58_6.toInt).toNat) (congrFun ((show Gj58 30 = G 30 from funext fun k_ => jU58 30 k_ (show (3000 : Nat) ∉ ([29, 33, 36, 37, 47, 1300, 1400, 1500, 1600, 1700, 1800, 1900, 2000, 2100, 3200, 3300] : List Nat) by decide))) _) ?_
          have b13 : (0 : Int) ≤ ((G 30) (x58_6.toInt).toNat).toInt ∧ ((G 30) (x58_6.toInt).toNat).toInt ≤ 20 := hI 30 _
          refine g_aload_n F 0 dX13_orderFrom_92 rfl rfl ?_
          refine yg_0_50 F i_X13 w_3 dX13_orderFrom_93 ?_
          refine g_iload F 6 dX13_orderFrom_96 rfl ?_
          refine u1_iald F 31 0 yc_31 rfl x58_6.toInt rfl (by omega) (by omega) dX13_orderFrom_98 ((G 31) (x58_6.toInt).toNat) (congrFun ((show Gj58 31 = G 31 from funext fun k_ => jU58 31 k_ (show (3100 : Nat) ∉ ([29, 33, 36, 37, 47, 1300, 1400, 1500, 1600, 1700, 1800, 1900, 2000, 2100, 3200, 3300] : List Nat) by decide))) _) ?_
          have b14 : (0 : Int) ≤ ((G 31) (x58_6.toInt).toNat).toInt ∧ ((G 31) (x58_6.toInt).toNat).toInt ≤ 12 := hI 31 _
          refine u_callVi (k := 0) (n := 0) (b := a 0) (As := [.int ((G 28) (x58_6.toInt).toNat), .int ((G 30) (x58_6.toInt).toNat), .int ((G 31) (x58_6.toInt).toNat)]) (st := []) F (fun sz => S_X13_canBe l D K a Gj58 ((G 28) (x58_6.toInt).toNat) ((G 28) (x58_6.toInt).toNat).toInt ((G 30) (x58_6.toInt).toNat) ((G 30) (x58_6.toInt).toNat).toInt ((G 31) (x58_6.toInt).toNat) ((G 31) (x58_6.toInt).toNat).toInt rfl (by omega) rfl (by omega) rfl (by omega) jI58 sz) (cwV 3 hts gX13_orderFrom_X13_canBe rfl rfl rfl (by decide +kernel) ⟨Nat.le_of_ble_eq_true rfl, Nat.le_of_ble_eq_true rfl⟩) rfl 0 yc_0 rfl (Nat.le_of_ble_eq_true rfl) ⟨Nat.zero_le _, Nat.zero_le _⟩ dX13_orderFrom_99 (fun r15 _ hw16 => ?_)
          rcases hw16 with ⟨rfl, q18⟩ | ⟨rfl, q19⟩
          · have q18 : (1 ≤ psMx (psHr (Gj58 14) ((G 28) (x58_6.toInt).toNat).toInt (G 3 0).toInt) ((G 3 0).toInt - 1).toNat - ((G 30) (x58_6.toInt).toNat).toInt * ((G 31) (x58_6.toInt).toNat).toInt) := by have h9 := q18; (try simp only [(show Gj58 3 0 = (G 3 0) from jU58 3 0 (by decide)), (show Gj58 3 0 = (G 3 0) from jU58 3 0 (by decide))] at h9); exact h9
            refine v_if_ne F 108 dX13_orderFrom_102 (by decide) 1 rfl (fun c20 => ?_) (fun c20 => absurd c20 (by decide))
            refine g_aload_n F 0 dX13_orderFrom_108 rfl rfl ?_
            have b21 : (0 : Int) ≤ (Gj58 0 32).toInt ∧ (Gj58 0 32).toInt ≤ 7 := jI58 0 32
            refine u_callVv (k := 0) (n := 0) (b := a 0) (As := []) (st := []) F (fun sz => S_X13_putBy l D K a Gj58  (by (first | omega | (simp only [Int32.reduceToInt, true_and, and_true, ne_eq, not_true_eq_false, false_and, or_false, false_or, true_or, or_true, false_implies] <;> omega))) jI58 sz) (cwV 0 hts gX13_orderFrom_X13_putBy rfl rfl rfl (by decide +kernel) ⟨Nat.le_of_ble_eq_true rfl, Nat.le_of_ble_eq_true rfl⟩) rfl 0 yc_0 rfl (Nat.le_of_ble_eq_true rfl) ⟨Nat.zero_le _, Nat.zero_le _⟩ dX13_orderFrom_109 (fun G24 hw23 => ?_)
            have hI25 : yI G24 := hw23.1
            have hU26 : gu_un ycd [33, 1900, 2000] Gj58 G24 := hw23.2.1
            have hp27 := hw23.2.2
            have b28 : (0 : Int) ≤ (G24 0 32).toInt ∧ (G24 0 32).toInt ≤ 7 := hI25 0 32
            have q29 : ((G24 0 32).toInt = (Gj58 0 32).toInt + 1) := hp27.1
            have q30 : ((∀ q : Nat, G24 19 q = sRow (Gj58 19) (Gj58 14) (96 * (Gj58 0 32).toInt) 96 q) ∧ G24 20 = upd (Gj58 20) ((Gj58 0 32).toInt).toNat (Gj58 0 28)) := hp27.2.1
            have q31 : ((G24 15 = Gj58 15 ∧ G24 16 = Gj58 16 ∧ G24 17 = Gj58 17 ∧ G24 18 = Gj58 18) ∧ G24 14 = Gj58 14 ∧ G24 0 28 = Gj58 0 28) := hp27.2.2
            clear hp27 hw23
            refine g_aload_n F 0 dX13_orderFrom_112 rfl rfl ?_
            refine g_aload_n F 0 dX13_orderFrom_113 rfl rfl ?_
            refine yg_0_47 F i_X13 w_1 dX13_orderFrom_114 ?_
            refine g_iload F 6 dX13_orderFrom_117 rfl ?_
            refine u1_iald F 28 0 yc_28 rfl x58_6.toInt rfl (by omega) (by omega) dX13_orderFrom_119 ((G 28) (x58_6.toInt).toNat) (congrFun ((show G24 28 = Gj58 28 from funext fun k_ => hU26 28 k_ (show (2800 : Nat) ∉ ([33, 1900, 2000] : List Nat) by decide)).trans ((show Gj58 28 = G 28 from funext fun k_ => jU58 28 k_ (show (2800 : Nat) ∉ ([29, 33, 36, 37, 47, 1300, 1400, 1500, 1600, 1700, 1800, 1900, 2000, 2100, 3200, 3300] : List Nat) by decide)))) _) ?_
            have b32 : (0 : Int) ≤ ((G 28) (x58_6.toInt).toNat).toInt ∧ ((G 28) (x58_6.toInt).toNat).toInt ≤ 5 := hI 28 _
            refine g_aload_n F 0 dX13_orderFrom_120 rfl rfl ?_
            refine yg_0_48 F i_X13 w_4 dX13_orderFrom_121 ?_
            refine g_iload F 6 dX13_orderFrom_124 rfl ?_
            refine u_iald F 29 0 yc_29 rfl x58_6.toInt rfl (by omega) (by omega) dX13_orderFrom_126 (fun z => (0 : Int) ≤ z.toInt ∧ z.toInt ≤ 9) (fun k_ => hI25 29 k_) (fun y33 by33 => ?_)
            refine g_aload_n F 0 dX13_orderFrom_127 rfl rfl ?_
            refine yg_0_49 F i_X13 w_2 dX13_orderFrom_128 ?_
            refine g_iload F 6 dX13_orderFrom_131 rfl ?_
            refine u1_iald F 30 0 yc_30 rfl x58_6.toInt rfl (by omega) (by omega) dX13_orderFrom_133 ((G 30) (x58_6.toInt).toNat) (congrFun ((show G24 30 = Gj58 30 from funext fun k_ => hU26 30 k_ (show (3000 : Nat) ∉ ([33, 1900, 2000] : List Nat) by decide)).trans ((show Gj58 30 = G 30 from funext fun k_ => jU58 30 k_ (show (3000 : Nat) ∉ ([29, 33, 36, 37, 47, 1300, 1400, 1500, 1600, 1700, 1800, 1900, 2000, 2100, 3200, 3300] : List Nat) by decide)))) _) ?_
            have b34 : (0 : Int) ≤ ((G 30) (x58_6.toInt).toNat).toInt ∧ ((G 30) (x58_6.toInt).toNat).toInt ≤ 20 := hI 30 _
            refine g_aload_n F 0 dX13_orderFrom_134 rfl rfl ?_
            refine yg_0_50 F i_X13 w_3 dX13_orderFrom_135 ?_
            refine g_iload F 6 dX13_orderFrom_138 rfl ?_
            refine u1_iald F 31 0 yc_31 rfl x58_6.toInt rfl (by omega) (by omega) dX13_orderFrom_140 ((G 31) (x58_6.toInt).toNat) (congrFun ((show G24 31 = Gj58 31 from funext fun k_ => hU26 31 k_ (show (3100 : Nat) ∉ ([33, 1900, 2000] : List Nat) by decide)).trans ((show Gj58 31 = G 31 from funext fun k_ => jU58 31 k_ (show (3100 : Nat) ∉ ([29, 33, 36, 37, 47, 1300, 1400, 1500, 1600, 1700, 1800, 1900, 2000, 2100, 3200, 3300] : List Nat) by decide)))) _) ?_
            have b35 : (0 : Int) ≤ ((G 31) (x58_6.toInt).toNat).toInt ∧ ((G 31) (x58_6.toInt).toNat).toInt ≤ 12 := hI 31 _
            refine g_iload F 4 dX13_orderFrom_141 rfl ?_
            refine g_iload F 5 dX13_orderFrom_143 rfl ?_
            refine g_iconst F (-1) dX13_orderFrom_145 (by decide) ?_
            refine u_callVi (k := 0) (n := 0) (b := a 0) (As := [.int ((G 28) (x58_6.toInt).toNat), .int y33, .int ((G 30) (x58_6.toInt).toNat), .int ((G 31) (x58_6.toInt).toNat), .int p3, .int p4, .int (-1)]) (st := []) F (fun sz => S_X13_go l D K a G24 ((G 28) (x58_6.toInt).toNat) ((G 28) (x58_6.toInt).toNat).toInt y33 y33.toInt ((G 30) (x58_6.toInt).toNat) ((G 30) (x58_6.toInt).toNat).toInt ((G 31) (x58_6.toInt).toNat) ((G 31) (x58_6.toInt).toNat).toInt p3 s3 p4 s4 (-1) (-1) rfl (by omega) rfl (by omega) rfl (by omega) rfl (by omega) e3 (by omega) e4 (by omega) rfl (yW3.un wf (show gu_un ycd [29, 33, 36, 37, 47, 1300, 1400, 1500, 1600, 1700, 1800, 1900, 2000, 2100, 3200, 3300] G G24 from (gu_un.tr (gu_un.tr gu_un.rf (gu_un.su jU58 rfl)) (gu_un.su hU26 rfl))) rfl) (by rw [show G24 14 = Gj58 14 from q31.2.1, (show G24 3 0 = G 3 0 from (show gu_un ycd [29, 33, 36, 37, 47, 1300, 1400, 1500, 1600, 1700, 1800, 1900, 2000, 2100, 3200, 3300] G G24 from (gu_un.tr (gu_un.tr gu_un.rf (gu_un.su jU58 rfl)) (gu_un.su hU26 rfl))) 3 0 (by decide))]; omega) hI25 sz) (cwV 7 hts gX13_orderFrom_X13_go rfl rfl rfl (by decide +kernel) ⟨Nat.le_of_ble_eq_true rfl, Nat.le_of_ble_eq_true rfl⟩) rfl 0 yc_0 rfl (Nat.le_of_ble_eq_true rfl) ⟨Nat.zero_le _, Nat.zero_le _⟩ dX13_orderFrom_146 (fun r36 G38 hw37 => ?_)
            have hI39 : yI G38 := hw37.1
            have hU40 : gu_un ycd [29, 36, 37, 1300, 1400, 1500, 1600, 1700, 1800, 2100] G24 G38 := hw37.2.1
            have hp41 := hw37.2.2
            have q42 : yOut G24 ((G 28) (x58_6.toInt).toNat).toInt (-1) ((G 30) (x58_6.toInt).toNat) y33 ((G 31) (x58_6.toInt).toNat) p3 p4 G38 r36.toInt := hp41.2.1
            have q43 : yOt ((G 28) (x58_6.toInt).toNat).toInt (G 3 0).toInt G24 G38 := by have h9 := hp41.2.2.1; (try simp only [(show G24 3 0 = (G 3 0) from (hU26 3 0 (by decide)).trans (jU58 3 0 (by decide)))] at h9); first | exact h9 | omega
            have q44 : ((-1 : Int) = -1 → G38 15 = G24 15 ∧ G38 16 = G24 16 ∧ G38 17 = G24 17 ∧ G38 18 = G24 18) := hp41.2.2.2
            have rg45 := hp41.1
            clear hp41 hw37
            refine g_istore F [(7, .int r36), (0, .ref (a 0)), (1, .int 4), (2, .int p1), (3, .int p2), (4, .int p3), (5, .int p4), (6, .int x58_6)] dX13_orderFrom_149 (by decide) rfl ?_
            refine g_aload_n F 1 dX13_orderFrom_151 rfl rfl ?_
            refine yg_0_51 F i_X13 w_5 dX13_orderFrom_152 ?_
            refine g_iload_n F 2 dX13_orderFrom_155 rfl rfl ?_
            refine g_iload F 7 dX13_orderFrom_156 rfl ?_
            refine u_iast F 32 0 yc_32 rfl 4 rfl (by decide) (by decide) (yW K a (gu_up G38 32 4 x58_6)) (ys_32 _) dX13_orderFrom_158 ?_
            refine g_iload F 0 dX13_orderFrom_159 rfl ?_
            refine v_if_ne F 189 dX13_orderFrom_161 (by decide) r36.toInt rfl (fun c46 => ?_) (fun c46 => ?_)
            · refine g_aload_n F 1 dX13_orderFrom_189 rfl rfl ?_
              refine u_callVv (k := 0) (n := 0) (b := a 0) (As := []) (st := []) F (fun sz => S_X13_putBack l D K a (gu_up G38 32 4 x58_6)  (by have e9_0_32 : (gu_up G38 32 4 x58_6) 0 32 = (G24 0 32) := hU40 0 32 (by decide); (try simp only [e9_0_32, true_and, and_true]) <;> (first | omega | (simp only [Int32.reduceToInt, true_and, and_true, ne_eq, not_true_eq_false, false_and, or_false, false_or, true_or, or_true, false_implies] <;> omega))) (gu_I.up (j := 32) (k := 4) (v := x58_6) hI39 (ti_rng _).1 (ti_rng _).2) sz) (cwV 0 hts gX13_orderFrom_X13_putBack rfl rfl rfl (by decide +kernel) ⟨Nat.le_of_ble_eq_true rfl, Nat.le_of_ble_eq_true rfl⟩) rfl 0 yc_0 rfl (Nat.le_of_ble_eq_true rfl) ⟨Nat.zero_le _, Nat.zero_le _⟩ dX13_orderFrom_190 (fun G49 hw48 => ?_)
              have hI50 : yI G49 := hw48.1
              have hU51 : gu_un ycd [29, 33, 1400] (gu_up G38 32 4 x58_6) G49 := hw48.2.1
              have hp52 := hw48.2.2
              have b53 : (0 : Int) ≤ (G49 0 32).toInt ∧ (G49 0 32).toInt ≤ 7 := hI50 0 32
              have q54 : ((G49 0 32).toInt = (G24 0 32).toInt - 1) := by have h9 := hp52.1; (try simp only [(show (gu_up G38 32 4 x58_6) 0 32 = (G24 0 32) from hU40 0 32 (by decide))] at h9); first | exact h9 | omega
              have q55 : ((∀ q : Nat, q < 96 → G49 14 q = (G24 19) (96 * ((G24 0 32).toInt - 1) + (q : Int)).toNat) ∧ G49 0 28 = (G24 20) ((G24 0 32).toInt - 1).toNat) := by have h9 := hp52.2.1; (try simp only [(show (gu_up G38 32 4 x58_6) 0 32 = (G24 0 32) from hU40 0 32 (by decide)), (show (gu_up G38 32 4 x58_6) 0 32 = (G24 0 32) from hU40 0 32 (by decide)), (show (gu_up G38 32 4 x58_6) 19 = (G24 19) from (show G38 19 = G24 19 from funext fun k_ => hU40 19 k_ (show (1900 : Nat) ∉ ([29, 36, 37, 1300, 1400, 1500, 1600, 1700, 1800, 2100] : List Nat) by decide))), (show (gu_up G38 32 4 x58_6) 20 = (G24 20) from (show G38 20 = G24 20 from funext fun k_ => hU40 20 k_ (show (2000 : Nat) ∉ ([29, 36, 37, 1300, 1400, 1500, 1600, 1700, 1800, 2100] : List Nat) by decide)))] at h9); first | exact h9 | omega
              have q56 : ((G49 15 = (gu_up G38 32 4 x58_6) 15 ∧ G49 16 = (gu_up G38 32 4 x58_6) 16 ∧ G49 17 = (gu_up G38 32 4 x58_6) 17 ∧ G49 18 = (gu_up G38 32 4 x58_6) 18) ∧ G49 19 = (gu_up G38 32 4 x58_6) 19 ∧ G49 20 = (gu_up G38 32 4 x58_6) 20) := hp52.2.2
              have bk57 : yNh Gj58 G49 := yNh.back (G := G24) (d := (Gj58 0 32).toInt) (yNd.by q30.1 q30.2 q31.1 (by omega)) (yKe.by q30.1 q30.2 (by omega)) rfl (fun q hq => by have h9 := q55.1 q hq; rw [show (G24 0 32).toInt - 1 = (Gj58 0 32).toInt by omega] at h9; exact h9) (by have h9 := q55.2; rw [show (G24 0 32).toInt - 1 = (Gj58 0 32).toInt by omega] at h9; exact h9) (yNd.tr (yNd.tr (yNd.tr yNd.rf (show yNd _ G24 G38 from (yNd.go (q44 rfl) hU40 rfl)) (Int.le_refl _)) (yNd.un (show gu_un ycd [3200] G38 (gu_up G38 32 4 x58_6) from (gu_un.up (j := 32) (k := 4) (v := x58_6) gu_un.rf (show (3200 : Nat) ∈ ([3200] : List Nat) by decide))) rfl) (Int.le_refl _)) (yNd.pl q56) (Int.le_refl _)) (by omega)
              clear hp52 hw48
              refine g_locals [(0, .ref (a 0)), (1, .int 4), (2, .int p1), (3, .int p2), (4, .int p3), (5, .int p4), (6, .int x58_6)] [1, 2, 3, 4, 5, 6, 7] rfl ?_
              exact J_193 G49 (by have h9 := ti_rng x58_6; omega) hI50 (gu_un.tr (gu_un.up (j := 32) (k := 4) (v := x58_6) (gu_un.tr (gu_un.tr gu_un.rf (gu_un.su hU26 rfl)) (gu_un.su hU40 rfl)) (show (3200 : Nat) ∈ ([29, 33, 36, 37, 47, 1300, 1400, 1500, 1600, 1700, 1800, 1900, 2000, 2100, 3200, 3300] : List Nat) by decide)) (gu_un.su hU51 rfl)) (by (first | omega | (simp only [Int32.reduceToInt, true_and, and_true, ne_eq, not_true_eq_false, false_and, or_false, false_or, true_or, or_true, false_implies] <;> omega))) (by have e9_0_45 : G49 0 45 = (G 0 45) := (hU51 0 45 (by decide)).trans ((hU40 0 45 (by decide)).trans ((hU26 0 45 (by decide)).trans (jU58 0 45 (by decide)))); (try simp only [e9_0_45, true_and, and_true]) <;> (first | omega | (simp only [Int32.reduceToInt, true_and, and_true, ne_eq, not_true_eq_false, false_and, or_false, false_or, true_or, or_true, false_implies] <;> omega))) ((yNh.tr (show yNh G Gj58 from nh58) (show yNh Gj58 G49 from bk57)))
            · refine g_aload_n F 1 dX13_orderFrom_164 rfl rfl ?_
              refine g_iload_n F 2 dX13_orderFrom_165 rfl rfl ?_
              refine g_iconst F 1 dX13_orderFrom_166 (by decide) ?_
              refine g_iadd F dX13_orderFrom_167 ?_
              refine g_fold 5 (by decide) ?_
              refine g_iload_n F 3 dX13_orderFrom_168 rfl rfl ?_
              refine g_iconst F 1 dX13_orderFrom_169 (by decide) ?_
              refine g_iload F 7 dX13_orderFrom_170 rfl ?_
              refine u0_ishl F dX13_orderFrom_172 (fun y58 => ?_)
              refine u0_ior F dX13_orderFrom_173 (fun y59 => ?_)
              refine g_iload_n F 4 dX13_orderFrom_174 rfl rfl ?_
              refine g_aload_n F 1 dX13_orderFrom_175 rfl rfl ?_
              refine yg_0_33 F i_X13 w_6 dX13_orderFrom_176 ?_
              refine g_iconst F 0 dX13_orderFrom_179 (by decide) ?_
              refine u1_iald F 21 0 yc_21 rfl 0 rfl (by decide) (by decide) dX13_orderFrom_180 (G38 21 0) (rfl) ?_
              refine u0_iadd F dX13_orderFrom_181 (fun y60 => ?_)
              refine g_iload F 5 dX13_orderFrom_182 rfl ?_
              refine g_iload F 6 dX13_orderFrom_184 rfl ?_
              refine u_callVv (k := 0) (n := 0) (b := a 0) (As := [.int 5, .int y59, .int y60, .int p3, .int p4]) (st := []) F (fun sz => S_X13_orderFrom_v5 l D K a (gu_up G38 32 4 x58_6) y59 y59.toInt y60 y60.toInt p3 s3 p4 s4 rfl rfl e3 (by omega) e4 (by omega) (yW3.un wf (show gu_un ycd [29, 33, 36, 37, 47, 1300, 1400, 1500, 1600, 1700, 1800, 1900, 2000, 2100, 3200, 3300] G (gu_up G38 32 4 x58_6) from (gu_un.up (j := 32) (k := 4) (v := x58_6) (gu_un.tr (gu_un.tr (gu_un.tr gu_un.rf (gu_un.su jU58 rfl)) (gu_un.su hU26 rfl)) (gu_un.su hU40 rfl)) (show (3200 : Nat) ∈ ([29, 33, 36, 37, 47, 1300, 1400, 1500, 1600, 1700, 1800, 1900, 2000, 2100, 3200, 3300] : List Nat) by decide))) rfl) (by have e9_0_32 : (gu_up G38 32 4 x58_6) 0 32 = (G24 0 32) := hU40 0 32 (by decide); have e9_0_45 : (gu_up G38 32 4 x58_6) 0 45 = (G 0 45) := (hU40 0 45 (by decide)).trans ((hU26 0 45 (by decide)).trans (jU58 0 45 (by decide))); (try simp only [e9_0_32, e9_0_45, true_and, and_true]) <;> (first | omega | (simp only [Int32.reduceToInt, true_and, and_true, ne_eq, not_true_eq_false, false_and, or_false, false_or, true_or, or_true, false_implies] <;> omega))) (gu_I.up (j := 32) (k := 4) (v := x58_6) hI39 (ti_rng _).1 (ti_rng _).2) sz) (cwV 5 hts gX13_orderFrom_X13_orderFrom rfl rfl rfl (by decide +kernel) ⟨Nat.le_of_ble_eq_true rfl, Nat.le_of_ble_eq_true rfl⟩) rfl 0 yc_0 rfl (Nat.le_of_ble_eq_true rfl) ⟨Nat.zero_le _, Nat.zero_le _⟩ dX13_orderFrom_186 (fun G63 hw62 => ?_)
              have hI64 : yI G63 := hw62.1
              have hU65 : gu_un ycd [47, 3300] (gu_up G38 32 4 x58_6) G63 := hw62.2.1
              have hp66 := hw62.2.2
              have q67 : yNh (gu_up G38 32 4 x58_6) G63 := hp66.1
              have q68 : ((G24 0 32).toInt = (G24 0 32).toInt) := by have h9 := hp66.2; (try simp only [(show (gu_up G38 32 4 x58_6) 0 32 = (G24 0 32) from hU40 0 32 (by decide)), (show G63 0 32 = (G24 0 32) from (hU65 0 32 (by decide)).trans (hU40 0 32 (by decide)))] at h9); first | exact h9 | omega
              clear hp66 hw62
              refine g_aload_n F 1 dX13_orderFrom_189 rfl rfl ?_
              refine u_callVv (k := 0) (n := 0) (b := a 0) (As := []) (st := []) F (fun sz => S_X13_putBack l D K a G63  (by have e9_0_32 : G63 0 32 = (G24 0 32) := (hU65 0 32 (by decide)).trans (hU40 0 32 (by decide)); (try simp only [e9_0_32, true_and, and_true]) <;> (first | omega | (simp only [Int32.reduceToInt, true_and, and_true, ne_eq, not_true_eq_false, false_and, or_false, false_or, true_or, or_true, false_implies] <;> omega))) hI64 sz) (cwV 0 hts gX13_orderFrom_X13_putBack rfl rfl rfl (by decide +kernel) ⟨Nat.le_of_ble_eq_true rfl, Nat.le_of_ble_eq_true rfl⟩) rfl 0 yc_0 rfl (Nat.le_of_ble_eq_true rfl) ⟨Nat.zero_le _, Nat.zero_le _⟩ dX13_orderFrom_190 (fun G71 hw70 => ?_)
              have hI72 : yI G71 := hw70.1
              have hU73 : gu_un ycd [29, 33, 1400] G63 G71 := hw70.2.1
              have hp74 := hw70.2.2
              have b75 : (0 : Int) ≤ (G71 0 32).toInt ∧ (G71 0 32).toInt ≤ 7 := hI72 0 32
              have q76 : ((G71 0 32).toInt = (G24 0 32).toInt - 1) := by have h9 := hp74.1; (try simp only [(show G63 0 32 = (G24 0 32) from (hU65 0 32 (by decide)).trans (hU40 0 32 (by decide)))] at h9); first | exact h9 | omega
              have q77 : ((∀ q : Nat, q < 96 → G71 14 q = (G24 19) (96 * ((G24 0 32).toInt - 1) + (q : Int)).toNat) ∧ G71 0 28 = (G24 20) ((G24 0 32).toInt - 1).toNat) := by have h9 := hp74.2.1; (try simp only [(show G63 0 32 = (G24 0 32) from (hU65 0 32 (by decide)).trans (hU40 0 32 (by decide))), (show G63 0 32 = (G24 0 32) from (hU65 0 32 (by decide)).trans (hU40 0 32 (by decide))), (show G63 19 = (G24 19) from (show G63 19 = (gu_up G38 32 4 x58_6) 19 from funext fun k_ => hU65 19 k_ (show (1900 : Nat) ∉ ([47, 3300] : List Nat) by decide)).trans ((show G38 19 = G24 19 from funext fun k_ => hU40 19 k_ (show (1900 : Nat) ∉ ([29, 36, 37, 1300, 1400, 1500, 1600, 1700, 1800, 2100] : List Nat) by decide)))), (show G63 20 = (G24 20) from (show G63 20 = (gu_up G38 32 4 x58_6) 20 from funext fun k_ => hU65 20 k_ (show (2000 : Nat) ∉ ([47, 3300] : List Nat) by decide)).trans ((show G38 20 = G24 20 from funext fun k_ => hU40 20 k_ (show (2000 : Nat) ∉ ([29, 36, 37, 1300, 1400, 1500, 1600, 1700, 1800, 2100] : List Nat) by decide))))] at h9); first | exact h9 | omega
              have q78 : ((G71 15 = G63 15 ∧ G71 16 = G63 16 ∧ G71 17 = G63 17 ∧ G71 18 = G63 18) ∧ G71 19 = G63 19 ∧ G71 20 = G63 20) := hp74.2.2
              have bk79 : yNh Gj58 G71 := yNh.back (G := G24) (d := (Gj58 0 32).toInt) (yNd.by q30.1 q30.2 q31.1 (by omega)) (yKe.by q30.1 q30.2 (by omega)) rfl (fun q hq => by have h9 := q77.1 q hq; rw [show (G24 0 32).toInt - 1 = (Gj58 0 32).toInt by omega] at h9; exact h9) (by have h9 := q77.2; rw [show (G24 0 32).toInt - 1 = (Gj58 0 32).toInt by omega] at h9; exact h9) (yNd.tr (yNd.tr (yNd.tr (yNd.tr yNd.rf (show yNd _ G24 G38 from (yNd.go (q44 rfl) hU40 rfl)) (Int.le_refl _)) (yNd.un (show gu_un ycd [3200] G38 (gu_up G38 32 4 x58_6) from (gu_un.up (j := 32) (k := 4) (v := x58_6) gu_un.rf (show (3200 : Nat) ∈ ([3200] : List Nat) by decide))) rfl) (Int.le_refl _)) (show yNd _ (gu_up G38 32 4 x58_6) G63 from (yNd.un hU65 rfl)) (Int.le_refl _)) (yNd.pl q78) (Int.le_refl _)) (by omega)
              clear hp74 hw70
              refine g_locals [(0, .ref (a 0)), (1, .int 4), (2, .int p1), (3, .int p2), (4, .int p3), (5, .int p4), (6, .int x58_6)] [1, 2, 3, 4, 5, 6, 7] rfl ?_
              exact J_193 G71 (by have h9 := ti_rng x58_6; omega) hI72 (gu_un.tr (gu_un.tr (gu_un.up (j := 32) (k := 4) (v := x58_6) (gu_un.tr (gu_un.tr gu_un.rf (gu_un.su hU26 rfl)) (gu_un.su hU40 rfl)) (show (3200 : Nat) ∈ ([29, 33, 36, 37, 47, 1300, 1400, 1500, 1600, 1700, 1800, 1900, 2000, 2100, 3200, 3300] : List Nat) by decide)) (gu_un.su hU65 rfl)) (gu_un.su hU73 rfl)) (by (first | omega | (simp only [Int32.reduceToInt, true_and, and_true, ne_eq, not_true_eq_false, false_and, or_false, false_or, true_or, or_true, false_implies] <;> omega))) (by have e9_0_45 : G71 0 45 = (G 0 45) := (hU73 0 45 (by decide)).trans ((hU65 0 45 (by decide)).trans ((hU40 0 45 (by decide)).trans ((hU26 0 45 (by decide)).trans (jU58 0 45 (by decide))))); (try simp only [e9_0_45, true_and, and_true]) <;> (first | omega | (simp only [Int32.reduceToInt, true_and, and_true, ne_eq, not_true_eq_false, false_and, or_false, false_or, true_or, or_true, false_implies] <;> omega))) ((yNh.tr (show yNh G Gj58 from nh58) (show yNh Gj58 G71 from bk79)))
          · have q19 : (psMx (psHr (Gj58 14) ((G 28) (x58_6.toInt).toNat).toInt (G 3 0).toInt) ((G 3 0).toInt - 1).toNat - ((G 30) (x58_6.toInt).toNat).toInt * ((G 31) (x58_6.toInt).toNat).toInt < 1) := by have h9 := q19; (try simp only [(show Gj58 3 0 = (G 3 0) from jU58 3 0 (by decide)), (show Gj58 3 0 = (G 3 0) from jU58 3 0 (by decide))] at h9); exact h9
            refine v_if_ne F 108 dX13_orderFrom_102 (by decide) 0 rfl (fun c80 => absurd c80 (by decide)) (fun c80 => ?_)
            refine g_goto F 193 dX13_orderFrom_105 (by decide) ?_
            have b81 : (0 : Int) ≤ (Gj58 0 32).toInt ∧ (Gj58 0 32).toInt ≤ 7 := jI58 0 32
            exact J_193 Gj58 (by have h9 := ti_rng x58_6; omega) jI58 gu_un.rf (by (first | omega | (simp only [Int32.reduceToInt, true_and, and_true, ne_eq, not_true_eq_false, false_and, or_false, false_or, true_or, or_true, false_implies] <;> omega))) (by have e9_0_45 : Gj58 0 45 = (G 0 45) := jU58 0 45 (by decide); (try simp only [e9_0_45, true_and, and_true]) <;> (first | omega | (simp only [Int32.reduceToInt, true_and, and_true, ne_eq, not_true_eq_false, false_and, or_false, false_or, true_or, or_true, false_implies] <;> omega))) (nh58)
  have J_25 : ∀ (fuel : Nat) (x25_6 : Int32) (Gj25 : gS), (2147483647 - x25_6.toInt).toNat < fuel → (0 ≤ x25_6.toInt ∧ x25_6.toInt ≤ 5) → (yI Gj25) → (gu_un ycd [47, 3300] G Gj25) → (((G 0 32).toInt = (G 0 32).toInt)) → gG p l e (gR 6 0 0 177) s m args below meth c D A 8 Q 0 0 (yW K a Gj25) (tK K) [(0, .ref (a 0)), (6, .int x25_6)] 25 [] := by
    intro fuel
    induction fuel with
    | zero => intro x25_6 Gj25 hm; exact absurd hm (Nat.not_lt_zero _)
    | succ fuel_25 ih_25 =>
      intro x25_6 Gj25 hm_25 h25_6 jI25 jU25 dc_25
      refine g_iload F 1 dX13_orderFrom_25 rfl ?_
      refine g_aload_n F 0 dX13_orderFrom_27 rfl rfl ?_
      refine yg_0_45 F i_X13 w_0 dX13_orderFrom_28 (G 0 45) (jU25 0 45 (by decide)) ?_
      refine v_icmp_ge F 54 dX13_orderFrom_31 (by decide) x25_6.toInt (G 0 45).toInt rfl rfl (fun c82 => ?_) (fun c82 => ?_)
      · exact u_vret F hA hQ hr Gj25 (⟨jI25, (gu_un.tr gu_un.rf (gu_un.su jU25 rfl)), ((yNh.tr (show yNh G G from yNh.rf) (show yNh G Gj25 from (yNh.un jU25 rfl)))), (by show ((Gj25 0 32).toInt = (G 0 32).toInt); have e9_0_32 : Gj25 0 32 = (G 0 32) := jU25 0 32 (by decide); (try simp only [e9_0_32, true_and, and_true]) <;> (first | omega | (simp only [Int32.reduceToInt, true_and, and_true, ne_eq, not_true_eq_false, false_and, or_false, false_or, true_or, or_true, false_implies] <;> omega)))⟩) rfl rfl dX13_orderFrom_54
      · refine g_aload_n F 0 dX13_orderFrom_34 rfl rfl ?_
        refine yg_0_52 F i_X13 w_7 dX13_orderFrom_35 ?_
        refine g_iload F 1 dX13_orderFrom_38 rfl ?_
        refine g_aload_n F 0 dX13_orderFrom_40 rfl rfl ?_
        refine yg_0_51 F i_X13 w_5 dX13_orderFrom_41 ?_
        refine g_iload F 1 dX13_orderFrom_44 rfl ?_
        refine u_iald F 32 0 yc_32 rfl x25_6.toInt rfl (by omega) (by omega) dX13_orderFrom_46 (fun _ => True) (fun _ => trivial) (fun y83 by83 => ?_)
        refine u_iast F 33 0 yc_33 rfl x25_6.toInt rfl (by omega) (by omega) (yW K a (gu_up Gj25 33 (x25_6.toInt).toNat y83)) (ys_33 _) dX13_orderFrom_47 ?_
        refine u_iinc F (fun v_ => [(6, .int v_), (0, .ref (a 0))]) dX13_orderFrom_48 (j := 1) rfl x25_6.toInt 1 rfl rfl (by omega) (by omega) (by decide) (fun _ => rfl) (fun y84 ey84 => ?_)
        refine g_goto F 25 dX13_orderFrom_51 (by decide) ?_
        refine g_locals [(0, .ref (a 0)), (6, .int y84)] [1, 0] rfl ?_
        exact ih_25 y84 (gu_up Gj25 33 (x25_6.toInt).toNat y83) (by omega) (by have h9 := ti_rng y84; omega) (gu_I.up (j := 33) (k := (x25_6.toInt).toNat) (v := y83) jI25 (ti_rng _).1 (ti_rng _).2) (gu_un.up (j := 33) (k := (x25_6.toInt).toNat) (v := y83) (gu_un.tr gu_un.rf (gu_un.su jU25 rfl)) (show (3300 : Nat) ∈ ([47, 3300] : List Nat) by decide)) (by have e9_0_32 : (gu_up Gj25 33 (x25_6.toInt).toNat y83) 0 32 = (G 0 32) := jU25 0 32 (by decide); (try simp only [e9_0_32, true_and, and_true]) <;> (first | omega | (simp only [Int32.reduceToInt, true_and, and_true, ne_eq, not_true_eq_false, false_and, or_false, false_or, true_or, or_true, false_implies] <;> omega)))
  refine g_iload_n F 1 dX13_orderFrom_0 rfl rfl ?_
  refine g_aload_n F 0 dX13_orderFrom_1 rfl rfl ?_
  refine yg_0_45 F i_X13 w_0 dX13_orderFrom_2 (G 0 45) (rfl) ?_
  refine v_icmp_ne F 55 dX13_orderFrom_5 (by decide) 4 (G 0 45).toInt rfl rfl (fun c85 => ?_) (fun c85 => ?_)
  · refine g_iconst F 0 dX13_orderFrom_55 (by decide) ?_
    refine g_istore F [(6, .int 0), (0, .ref (a 0)), (1, .int 4), (2, .int p1), (3, .int p2), (4, .int p3), (5, .int p4)] dX13_orderFrom_56 (by decide) rfl ?_
    refine g_locals [(0, .ref (a 0)), (1, .int 4), (2, .int p1), (3, .int p2), (4, .int p3), (5, .int p4), (6, .int 0)] [1, 2, 3, 4, 5, 6, 0] rfl ?_
    exact J_58 _ 0 G (Nat.lt_succ_self _) (by decide) hI gu_un.rf (by (first | omega | (simp only [Int32.reduceToInt, true_and, and_true, ne_eq, not_true_eq_false, false_and, or_false, false_or, true_or, or_true, false_implies] <;> omega))) (by (first | omega | (simp only [Int32.reduceToInt, true_and, and_true, ne_eq, not_true_eq_false, false_and, or_false, false_or, true_or, or_true, false_implies] <;> omega))) (yNh.rf)
  · refine g_iload_n F 3 dX13_orderFrom_8 rfl rfl ?_
    refine g_aload_n F 0 dX13_orderFrom_9 rfl rfl ?_
    refine yg_0_46 F i_X13 w_8 dX13_orderFrom_10 (G 0 46) (rfl) ?_
    have b86 := ti_rng (G 0 46)
    refine v_icmp_lt F 17 dX13_orderFrom_13 (by decide) s2 (G 0 46).toInt e2 rfl (fun c87 => ?_) (fun c87 => ?_)
    · refine g_aload_n F 0 dX13_orderFrom_17 rfl rfl ?_
      refine g_iload_n F 3 dX13_orderFrom_18 rfl rfl ?_
      refine yp_0_46 F i_X13 w_8 dX13_orderFrom_19 ?_
      refine g_iconst F 0 dX13_orderFrom_22 (by decide) ?_
      refine g_istore F [(6, .int 0), (0, .ref (a 0)), (1, .int 4), (2, .int p1), (3, .int p2), (4, .int p3), (5, .int p4)] dX13_orderFrom_23 (by decide) rfl ?_
      refine g_locals [(0, .ref (a 0)), (6, .int 0)] [1, 0] rfl ?_
      exact J_25 _ 0 (gu_up G 0 46 p2) (Nat.lt_succ_self _) (by decide) (gu_I.up (j := 0) (k := 46) (v := p2) hI (ti_rng _).1 (ti_rng _).2) (gu_un.up (j := 0) (k := 46) (v := p2) gu_un.rf (show (47 : Nat) ∈ ([47, 3300] : List Nat) by decide)) (by have e9_0_32 : (gu_up G 0 46 p2) 0 32 = (G 0 32) := rfl; (try simp only [e9_0_32, true_and, and_true]) <;> (first | omega | (simp only [Int32.reduceToInt, true_and, and_true, ne_eq, not_true_eq_false, false_and, or_false, false_or, true_or, or_true, false_implies] <;> omega)))
    · exact u_vret F hA hQ hr G (⟨hI, gu_un.rf, (yNh.rf), (by show ((G 0 32).toInt = (G 0 32).toInt); (first | omega | (simp only [Int32.reduceToInt, true_and, and_true, ne_eq, not_true_eq_false, false_and, or_false, false_or, true_or, or_true, false_implies] <;> omega)))⟩) rfl rfl dX13_orderFrom_16


set_option maxHeartbeats 4000000 in
set_option maxRecDepth 100000 in
theorem S_X13_orderFrom_v3 (l : Launch) (D : va_G) (K : Nat → ClassId) (a : Nat → Nat) (G : gS) (p1 : Int32) (s1 : Int) (p2 : Int32) (s2 : Int) (p3 : Int32) (s3 : Int) (p4 : Int32) (s4 : Int) (e1 : p1.toInt = s1) (e2 : p2.toInt = s2) (e3 : p3.toInt = s3) (h3 : 0 ≤ s3 ∧ s3 ≤ 300) (e4 : p4.toInt = s4) (h4 : 0 ≤ s4 ∧ s4 ≤ 300) (wf : yW3 G) (nj : (3 ≤ (G 0 45).toInt ∧ (G 0 32).toInt = 3)) (hI : yI G) (sz : Nat) : Kv l yX13_orderFrom wsX13_orderFrom 7 204 0 0 D [.ref (a 0), .int 3, .int p1, .int p2, .int p3, .int p4] (yW K a G) (tK K) sz (fun (G' : gS) => (yI G') ∧ (gu_un ycd [29, 33, 36, 37, 47, 1300, 1400, 1500, 1600, 1700, 1800, 1900, 2000, 2100, 3200, 3300] G G') ∧ (yNh G G') ∧ (((G' 0 32).toInt = (G 0 32).toInt))) (fun (G' : gS) => (yW K a G')) (fun _ => (tK K)) := by
  unfold Kv
  refine g_ofW (cc := cX13_orderFrom) (lv := [(0, .ref (a 0)), (1, .int 3), (2, .int p1), (3, .int p2), (4, .int p3), (5, .int p4)]) (by decide) rfl (Nat.le_of_ble_eq_true rfl) rfl ?_
  intro p e s m args below meth c A Q hA hQ F hr hnm
  have hts := F.2.2.2.2.1
  have w_0 : (Cond.fieldLink RX13 331 "QuietCutModel" "jobs" "I").before args s = true := hts _ (List.mem_of_getElem? (i := 1) rfl)
  have i_X13 : ∀ w ∈ u_ws RX13 TX13 73, w ∈ wsX13_orderFrom := fun _ h => List.mem_cons_of_mem _ (List.mem_append_right _ h)
  have w_1 : (Cond.fieldLink RX13 256 "QuietCutModel" "jobRing" "[I").before args s = true := hts _ (List.mem_of_getElem? (i := 5) rfl)
  have w_2 : (Cond.fieldLink RX13 262 "QuietCutModel" "jobFeed" "[I").before args s = true := hts _ (List.mem_of_getElem? (i := 6) rfl)
  have w_3 : (Cond.fieldLink RX13 265 "QuietCutModel" "jobTurns" "[I").before args s = true := hts _ (List.mem_of_getElem? (i := 7) rfl)
  have w_4 : (Cond.fieldLink RX13 259 "QuietCutModel" "jobSpeed" "[I").before args s = true := hts _ (List.mem_of_getElem? (i := 8) rfl)
  have w_5 : (Cond.fieldLink RX13 268 "QuietCutModel" "orderRow" "[I").before args s = true := hts _ (List.mem_of_getElem? (i := 4) rfl)
  have w_6 : (Cond.fieldLink RX13 235 "QuietCutModel" "now" "[I").before args s = true := hts _ (List.mem_of_getElem? (i := 9) rfl)
  have w_7 : (Cond.fieldLink RX13 271 "QuietCutModel" "bestRow" "[I").before args s = true := hts _ (List.mem_of_getElem? (i := 3) rfl)
  have w_8 : (Cond.fieldLink RX13 493 "QuietCutModel" "orderBest" "I").before args s = true := hts _ (List.mem_of_getElem? (i := 2) rfl)
  have rg1 : -2147483648 ≤ s1 ∧ s1 ≤ 2147483647 := e1 ▸ ti_rng p1
  have rg2 : -2147483648 ≤ s2 ∧ s2 ≤ 2147483647 := e2 ▸ ti_rng p2
  have b1 : (0 : Int) ≤ (G 0 45).toInt ∧ (G 0 45).toInt ≤ 5 := hI 0 45
  have b2 : (0 : Int) ≤ (G 0 32).toInt ∧ (G 0 32).toInt ≤ 7 := hI 0 32
  have b3 : (4 : Int) ≤ (G 3 0).toInt ∧ (G 3 0).toInt ≤ 16 := hI 3 0
  have J_58 : ∀ (fuel : Nat) (x58_6 : Int32) (Gj58 : gS), (2147483647 - x58_6.toInt).toNat < fuel → (0 ≤ x58_6.toInt ∧ x58_6.toInt ≤ 5) → (yI Gj58) → (gu_un ycd [29, 33, 36, 37, 47, 1300, 1400, 1500, 1600, 1700, 1800, 1900, 2000, 2100, 3200, 3300] G Gj58) → (((Gj58 0 32).toInt = (G 0 32).toInt)) → ((3 < (G 0 45).toInt)) → (yNh G Gj58) → gG p l e (gR 7 0 0 204) s m args below meth c D A 8 Q 0 0 (yW K a Gj58) (tK K) [(0, .ref (a 0)), (1, .int 3), (2, .int p1), (3, .int p2), (4, .int p3), (5, .int p4), (6, .int x58_6)] 58 [] := by
    intro fuel
    induction fuel with
    | zero => intro x58_6 Gj58 hm; exact absurd hm (Nat.not_lt_zero _)
    | succ fuel_58 ih_58 =>
      intro x58_6 Gj58 hm_58 h58_6 jI58 jU58 dc_58 nl_58 nh58
      have J_193 : ∀  (Gj193 : gS), (0 ≤ x58_6.toInt ∧ x58_6.toInt ≤ 4) → (yI Gj193) → (gu_un ycd [29, 33, 36, 37, 47, 1300, 1400, 1500, 1600, 1700, 1800, 1900, 2000, 2100, 3200, 3300] Gj58 Gj193) → (((Gj193 0 32).toInt = (G 0 32).toInt)) → ((3 < (G 0 45).toInt)) → (yNh G Gj193) → gG p l e (gR 7 0 0 204) s m args below meth c D A 8 Q 0 0 (yW K a Gj193) (tK K) [(0, .ref (a 0)), (1, .int 3), (2, .int p1), (3, .int p2), (4, .int p3), (5, .int p4), (6, .int x58_6)] 193 [] := by
        intro Gj193 k193_6 jI193 jU193 dc_193 nl_193 nh193
        refine u_iinc F (fun v_ => [(6, .int v_), (0, .ref (a 0)), (1, .int 3), (2, .int p1), (3, .int p2), (4, .int p3), (5, .int p4)]) dX13_orderFrom_193 (j := 6) rfl x58_6.toInt 1 rfl rfl (by omega) (by omega) (by decide) (fun _ => rfl) (fun y4 ey4 => ?_)
        refine g_goto F 58 dX13_orderFrom_196 (by decide) ?_
        refine g_locals [(0, .ref (a 0)), (1, .int 3), (2, .int p1), (3, .int p2), (4, .int p3), (5, .int p4), (6, .int y4)] [1, 2, 3, 4, 5, 6, 0] rfl ?_
        have b5 : (0 : Int) ≤ (Gj193 0 32).toInt ∧ (Gj193 0 32).toInt ≤ 7 := jI193 0 32
        exact ih_58 y4 Gj193 (by omega) (by have h9 := ti_rng y4; omega) jI193 (gu_un.tr (gu_un.tr gu_un.rf (gu_un.su jU58 rfl)) (gu_un.su jU193 rfl)) (by (first | omega | (simp only [Int32.reduceToInt, true_and, and_true, ne_eq, not_true_eq_false, false_and, or_false, false_or, true_or, or_true, false_implies] <;> omega))) (by have e9_0_45 : Gj193 0 45 = (G 0 45) := (jU193 0 45 (by decide)).trans (jU58 0 45 (by decide)); (try simp only [e9_0_45, true_and, and_true]) <;> (first | omega | (simp only [Int32.reduceToInt, true_and, and_true, ne_eq, not_true_eq_false, false_and, or_false, false_or, true_or, or_true, false_implies] <;> omega))) (nh193)
      refine g_iload F 6 dX13_orderFrom_58 rfl ?_
      refine g_aload_n F 0 dX13_orderFrom_60 rfl rfl ?_
      refine yg_0_45 F i_X13 w_0 dX13_orderFrom_61 (G 0 45) (jU58 0 45 (by decide)) ?_
      refine v_icmp_ge F 199 dX13_orderFrom_64 (by decide) x58_6.toInt (G 0 45).toInt rfl rfl (fun c6 => ?_) (fun c6 => ?_)
      · have b7 : (0 : Int) ≤ (Gj58 0 32).toInt ∧ (Gj58 0 32).toInt ≤ 7 := jI58 0 32
        exact u_vret F hA hQ hr Gj58 (⟨jI58, (gu_un.tr gu_un.rf (gu_un.su jU58 rfl)), (nh58), (by show ((Gj58 0 32).toInt = (G 0 32).toInt); (first | omega | (simp only [Int32.reduceToInt, true_and, and_true, ne_eq, not_true_eq_false, false_and, or_false, false_or, true_or, or_true, false_implies] <;> omega)))⟩) rfl rfl dX13_orderFrom_199
      · refine g_iload_n F 2 dX13_orderFrom_67 rfl rfl ?_
        refine g_iload F 6 dX13_orderFrom_68 rfl ?_
        refine u0_ishr F dX13_orderFrom_70 (fun y8 => ?_)
        refine g_iconst F 1 dX13_orderFrom_71 (by decide) ?_
        refine u_iand F dX13_orderFrom_72 _ 1 rfl rfl (by omega) (fun y9 ey9 => ?_)
        refine g_iconst F 1 dX13_orderFrom_73 (by decide) ?_
        refine v_icmp_eq F 193 dX13_orderFrom_74 (by decide) y9.toInt 1 rfl rfl (fun c10 => ?_) (fun c10 => ?_)
        · have b11 : (0 : Int) ≤ (Gj58 0 32).toInt ∧ (Gj58 0 32).toInt ≤ 7 := jI58 0 32
          exact J_193 Gj58 (by have h9 := ti_rng x58_6; omega) jI58 gu_un.rf (by (first | omega | (simp only [Int32.reduceToInt, true_and, and_true, ne_eq, not_true_eq_false, false_and, or_false, false_or, true_or, or_true, false_implies] <;> omega))) (by have e9_0_45 : Gj58 0 45 = (G 0 45) := jU58 0 45 (by decide); (try simp only [e9_0_45, true_and, and_true]) <;> (first | omega | (simp only [Int32.reduceToInt, true_and, and_true, ne_eq, not_true_eq_false, false_and, or_false, false_or, true_or, or_true, false_implies] <;> omega))) (nh58)
        · refine g_aload_n F 0 dX13_orderFrom_77 rfl rfl ?_
          refine g_aload_n F 0 dX13_orderFrom_78 rfl rfl ?_
          refine yg_0_47 F i_X13 w_1 dX13_orderFrom_79 ?_
          refine g_iload F 6 dX13_orderFrom_82 rfl ?_
          refine u1_iald F 28 0 yc_28 rfl x58_6.toInt rfl (by omega) (by omega) dX13_orderFrom_84 ((G 28) (x58_6.toInt).toNat) (congrFun ((show Gj58 28 = G 28 from funext fun k_ => jU58 28 k_ (show (2800 : Nat) ∉ ([29, 33, 36, 37, 47, 1300, 1400, 1500, 1600, 1700, 1800, 1900, 2000, 2100, 3200, 3300] : List Nat) by decide))) _) ?_
          have b12 : (0 : Int) ≤ ((G 28) (x58_6.toInt).toNat).toInt ∧ ((G 28) (x58_6.toInt).toNat).toInt ≤ 5 := hI 28 _
          refine g_aload_n F 0 dX13_orderFrom_85 rfl rfl ?_
          refine yg_0_49 F i_X13 w_2 dX13_orderFrom_86 ?_
          refine g_iload F 6 dX13_orderFrom_89 rfl ?_
          refine u1_iald F 30 0 yc_30 rfl x58_6.toInt rfl (by omega) (by omega) dX13_orderFrom_91 ((G 30) (x58_6.toInt).toNat) (congrFun ((show Gj58 30 = G 30 from funext fun k_ => jU58 30 k_ (show (3000 : Nat) ∉ ([29, 33, 36, 37, 47, 1300, 1400, 1500, 1600, 1700, 1800, 1900, 2000, 2100, 3200, 3300] : List Nat) by decide))) _) ?_
          have b13 : (0 : Int) ≤ ((G 30) (x58_6.toInt).toNat).toInt ∧ ((G 30) (x58_6.toInt).toNat).toInt ≤ 20 := hI 30 _
          refine g_aload_n F 0 dX13_orderFrom_92 rfl rfl ?_
          refine yg_0_50 F i_X13 w_3 dX13_orderFrom_93 ?_
          refine g_iload F 6 dX13_orderFrom_96 rfl ?_
          refine u1_iald F 31 0 yc_31 rfl x58_6.toInt rfl (by omega) (by omega) dX13_orderFrom_98 ((G 31) (x58_6.toInt).toNat) (congrFun ((show Gj58 31 = G 31 from funext fun k_ => jU58 31 k_ (show (3100 : Nat) ∉ ([29, 33, 36, 37, 47, 1300, 1400, 1500, 1600, 1700, 1800, 1900, 2000, 2100, 3200, 3300] : List Nat) by decide))) _) ?_
          have b14 : (0 : Int) ≤ ((G 31) (x58_6.toInt).toNat).toInt ∧ ((G 31) (x58_6.toInt).toNat).toInt ≤ 12 := hI 31 _
          refine u_callVi (k := 0) (n := 0) (b := a 0) (As := [.int ((G 28) (x58_6.toInt).toNat), .int ((G 30) (x58_6.toInt).toNat), .int ((G 31) (x58_6.toInt).toNat)]) (st := []) F (fun sz => S_X13_canBe l D K a Gj58 ((G 28) (x58_6.toInt).toNat) ((G 28) (x58_6.toInt).toNat).toInt ((G 30) (x58_6.toInt).toNat) ((G 30) (x58_6.toInt).toNat).toInt ((G 31) (x58_6.toInt).toNat) ((G 31) (x58_6.toInt).toNat).toInt rfl (by omega) rfl (by omega) rfl (by omega) jI58 sz) (cwV 3 hts gX13_orderFrom_X13_canBe rfl rfl rfl (by decide +kernel) ⟨Nat.le_of_ble_eq_true rfl, Nat.le_of_ble_eq_true rfl⟩) rfl 0 yc_0 rfl (Nat.le_of_ble_eq_true rfl) ⟨Nat.zero_le _, Nat.zero_le _⟩ dX13_orderFrom_99 (fun r15 _ hw16 => ?_)
          rcases hw16 with ⟨rfl, q18⟩ | ⟨rfl, q19⟩
          · have q18 : (1 ≤ psMx (psHr (Gj58 14) ((G 28) (x58_6.toInt).toNat).toInt (G 3 0).toInt) ((G 3 0).toInt - 1).toNat - ((G 30) (x58_6.toInt).toNat).toInt * ((G 31) (x58_6.toInt).toNat).toInt) := by have h9 := q18; (try simp only [(show Gj58 3 0 = (G 3 0) from jU58 3 0 (by decide)), (show Gj58 3 0 = (G 3 0) from jU58 3 0 (by decide))] at h9); exact h9
            refine v_if_ne F 108 dX13_orderFrom_102 (by decide) 1 rfl (fun c20 => ?_) (fun c20 => absurd c20 (by decide))
            refine g_aload_n F 0 dX13_orderFrom_108 rfl rfl ?_
            have b21 : (0 : Int) ≤ (Gj58 0 32).toInt ∧ (Gj58 0 32).toInt ≤ 7 := jI58 0 32
            refine u_callVv (k := 0) (n := 0) (b := a 0) (As := []) (st := []) F (fun sz => S_X13_putBy l D K a Gj58  (by (first | omega | (simp only [Int32.reduceToInt, true_and, and_true, ne_eq, not_true_eq_false, false_and, or_false, false_or, true_or, or_true, false_implies] <;> omega))) jI58 sz) (cwV 0 hts gX13_orderFrom_X13_putBy rfl rfl rfl (by decide +kernel) ⟨Nat.le_of_ble_eq_true rfl, Nat.le_of_ble_eq_true rfl⟩) rfl 0 yc_0 rfl (Nat.le_of_ble_eq_true rfl) ⟨Nat.zero_le _, Nat.zero_le _⟩ dX13_orderFrom_109 (fun G24 hw23 => ?_)
            have hI25 : yI G24 := hw23.1
            have hU26 : gu_un ycd [33, 1900, 2000] Gj58 G24 := hw23.2.1
            have hp27 := hw23.2.2
            have b28 : (0 : Int) ≤ (G24 0 32).toInt ∧ (G24 0 32).toInt ≤ 7 := hI25 0 32
            have q29 : ((G24 0 32).toInt = (Gj58 0 32).toInt + 1) := hp27.1
            have q30 : ((∀ q : Nat, G24 19 q = sRow (Gj58 19) (Gj58 14) (96 * (Gj58 0 32).toInt) 96 q) ∧ G24 20 = upd (Gj58 20) ((Gj58 0 32).toInt).toNat (Gj58 0 28)) := hp27.2.1
            have q31 : ((G24 15 = Gj58 15 ∧ G24 16 = Gj58 16 ∧ G24 17 = Gj58 17 ∧ G24 18 = Gj58 18) ∧ G24 14 = Gj58 14 ∧ G24 0 28 = Gj58 0 28) := hp27.2.2
            clear hp27 hw23
            refine g_aload_n F 0 dX13_orderFrom_112 rfl rfl ?_
            refine g_aload_n F 0 dX13_orderFrom_113 rfl rfl ?_
            refine yg_0_47 F i_X13 w_1 dX13_orderFrom_114 ?_
            refine g_iload F 6 dX13_orderFrom_117 rfl ?_
            refine u1_iald F 28 0 yc_28 rfl x58_6.toInt rfl (by omega) (by omega) dX13_orderFrom_119 ((G 28) (x58_6.toInt).toNat) (congrFun ((show G24 28 = Gj58 28 from funext fun k_ => hU26 28 k_ (show (2800 : Nat) ∉ ([33, 1900, 2000] : List Nat) by decide)).trans ((show Gj58 28 = G 28 from funext fun k_ => jU58 28 k_ (show (2800 : Nat) ∉ ([29, 33, 36, 37, 47, 1300, 1400, 1500, 1600, 1700, 1800, 1900, 2000, 2100, 3200, 3300] : List Nat) by decide)))) _) ?_
            have b32 : (0 : Int) ≤ ((G 28) (x58_6.toInt).toNat).toInt ∧ ((G 28) (x58_6.toInt).toNat).toInt ≤ 5 := hI 28 _
            refine g_aload_n F 0 dX13_orderFrom_120 rfl rfl ?_
            refine yg_0_48 F i_X13 w_4 dX13_orderFrom_121 ?_
            refine g_iload F 6 dX13_orderFrom_124 rfl ?_
            refine u_iald F 29 0 yc_29 rfl x58_6.toInt rfl (by omega) (by omega) dX13_orderFrom_126 (fun z => (0 : Int) ≤ z.toInt ∧ z.toInt ≤ 9) (fun k_ => hI25 29 k_) (fun y33 by33 => ?_)
            refine g_aload_n F 0 dX13_orderFrom_127 rfl rfl ?_
            refine yg_0_49 F i_X13 w_2 dX13_orderFrom_128 ?_
            refine g_iload F 6 dX13_orderFrom_131 rfl ?_
            refine u1_iald F 30 0 yc_30 rfl x58_6.toInt rfl (by omega) (by omega) dX13_orderFrom_133 ((G 30) (x58_6.toInt).toNat) (congrFun ((show G24 30 = Gj58 30 from funext fun k_ => hU26 30 k_ (show (3000 : Nat) ∉ ([33, 1900, 2000] : List Nat) by decide)).trans ((show Gj58 30 = G 30 from funext fun k_ => jU58 30 k_ (show (3000 : Nat) ∉ ([29, 33, 36, 37, 47, 1300, 1400, 1500, 1600, 1700, 1800, 1900, 2000, 2100, 3200, 3300] : List Nat) by decide)))) _) ?_
            have b34 : (0 : Int) ≤ ((G 30) (x58_6.toInt).toNat).toInt ∧ ((G 30) (x58_6.toInt).toNat).toInt ≤ 20 := hI 30 _
            refine g_aload_n F 0 dX13_orderFrom_134 rfl rfl ?_
            refine yg_0_50 F i_X13 w_3 dX13_orderFrom_135 ?_
            refine g_iload F 6 dX13_orderFrom_138 rfl ?_
            refine u1_iald F 31 0 yc_31 rfl x58_6.toInt rfl (by omega) (by omega) dX13_orderFrom_140 ((G 31) (x58_6.toInt).toNat) (congrFun ((show G24 31 = Gj58 31 from funext fun k_ => hU26 31 k_ (show (3100 : Nat) ∉ ([33, 1900, 2000] : List Nat) by decide)).trans ((show Gj58 31 = G 31 from funext fun k_ => jU58 31 k_ (show (3100 : Nat) ∉ ([29, 33, 36, 37, 47, 1300, 1400, 1500, 1600, 1700, 1800, 1900, 2000, 2100, 3200, 3300] : List Nat) by decide)))) _) ?_
            have b35 : (0 : Int) ≤ ((G 31) (x58_6.toInt).toNat).toInt ∧ ((G 31) (x58_6.toInt).toNat).toInt ≤ 12 := hI 31 _
            refine g_iload F 4 dX13_orderFrom_141 rfl ?_
            refine g_iload F 5 dX13_orderFrom_143 rfl ?_
            refine g_iconst F (-1) dX13_orderFrom_145 (by decide) ?_
            refine u_callVi (k := 0) (n := 0) (b := a 0) (As := [.int ((G 28) (x58_6.toInt).toNat), .int y33, .int ((G 30) (x58_6.toInt).toNat), .int ((G 31) (x58_6.toInt).toNat), .int p3, .int p4, .int (-1)]) (st := []) F (fun sz => S_X13_go l D K a G24 ((G 28) (x58_6.toInt).toNat) ((G 28) (x58_6.toInt).toNat).toInt y33 y33.toInt ((G 30) (x58_6.toInt).toNat) ((G 30) (x58_6.toInt).toNat).toInt ((G 31) (x58_6.toInt).toNat) ((G 31) (x58_6.toInt).toNat).toInt p3 s3 p4 s4 (-1) (-1) rfl (by omega) rfl (by omega) rfl (by omega) rfl (by omega) e3 (by omega) e4 (by omega) rfl (yW3.un wf (show gu_un ycd [29, 33, 36, 37, 47, 1300, 1400, 1500, 1600, 1700, 1800, 1900, 2000, 2100, 3200, 3300] G G24 from (gu_un.tr (gu_un.tr gu_un.rf (gu_un.su jU58 rfl)) (gu_un.su hU26 rfl))) rfl) (by rw [show G24 14 = Gj58 14 from q31.2.1, (show G24 3 0 = G 3 0 from (show gu_un ycd [29, 33, 36, 37, 47, 1300, 1400, 1500, 1600, 1700, 1800, 1900, 2000, 2100, 3200, 3300] G G24 from (gu_un.tr (gu_un.tr gu_un.rf (gu_un.su jU58 rfl)) (gu_un.su hU26 rfl))) 3 0 (by decide))]; omega) hI25 sz) (cwV 7 hts gX13_orderFrom_X13_go rfl rfl rfl (by decide +kernel) ⟨Nat.le_of_ble_eq_true rfl, Nat.le_of_ble_eq_true rfl⟩) rfl 0 yc_0 rfl (Nat.le_of_ble_eq_true rfl) ⟨Nat.zero_le _, Nat.zero_le _⟩ dX13_orderFrom_146 (fun r36 G38 hw37 => ?_)
            have hI39 : yI G38 := hw37.1
            have hU40 : gu_un ycd [29, 36, 37, 1300, 1400, 1500, 1600, 1700, 1800, 2100] G24 G38 := hw37.2.1
            have hp41 := hw37.2.2
            have q42 : yOut G24 ((G 28) (x58_6.toInt).toNat).toInt (-1) ((G 30) (x58_6.toInt).toNat) y33 ((G 31) (x58_6.toInt).toNat) p3 p4 G38 r36.toInt := hp41.2.1
            have q43 : yOt ((G 28) (x58_6.toInt).toNat).toInt (G 3 0).toInt G24 G38 := by have h9 := hp41.2.2.1; (try simp only [(show G24 3 0 = (G 3 0) from (hU26 3 0 (by decide)).trans (jU58 3 0 (by decide)))] at h9); first | exact h9 | omega
            have q44 : ((-1 : Int) = -1 → G38 15 = G24 15 ∧ G38 16 = G24 16 ∧ G38 17 = G24 17 ∧ G38 18 = G24 18) := hp41.2.2.2
            have rg45 := hp41.1
            clear hp41 hw37
            refine g_istore F [(7, .int r36), (0, .ref (a 0)), (1, .int 3), (2, .int p1), (3, .int p2), (4, .int p3), (5, .int p4), (6, .int x58_6)] dX13_orderFrom_149 (by decide) rfl ?_
            refine g_aload_n F 1 dX13_orderFrom_151 rfl rfl ?_
            refine yg_0_51 F i_X13 w_5 dX13_orderFrom_152 ?_
            refine g_iload_n F 2 dX13_orderFrom_155 rfl rfl ?_
            refine g_iload F 7 dX13_orderFrom_156 rfl ?_
            refine u_iast F 32 0 yc_32 rfl 3 rfl (by decide) (by decide) (yW K a (gu_up G38 32 3 x58_6)) (ys_32 _) dX13_orderFrom_158 ?_
            refine g_iload F 0 dX13_orderFrom_159 rfl ?_
            refine v_if_ne F 189 dX13_orderFrom_161 (by decide) r36.toInt rfl (fun c46 => ?_) (fun c46 => ?_)
            · refine g_aload_n F 1 dX13_orderFrom_189 rfl rfl ?_
              refine u_callVv (k := 0) (n := 0) (b := a 0) (As := []) (st := []) F (fun sz => S_X13_putBack l D K a (gu_up G38 32 3 x58_6)  (by have e9_0_32 : (gu_up G38 32 3 x58_6) 0 32 = (G24 0 32) := hU40 0 32 (by decide); (try simp only [e9_0_32, true_and, and_true]) <;> (first | omega | (simp only [Int32.reduceToInt, true_and, and_true, ne_eq, not_true_eq_false, false_and, or_false, false_or, true_or, or_true, false_implies] <;> omega))) (gu_I.up (j := 32) (k := 3) (v := x58_6) hI39 (ti_rng _).1 (ti_rng _).2) sz) (cwV 0 hts gX13_orderFrom_X13_putBack rfl rfl rfl (by decide +kernel) ⟨Nat.le_of_ble_eq_true rfl, Nat.le_of_ble_eq_true rfl⟩) rfl 0 yc_0 rfl (Nat.le_of_ble_eq_true rfl) ⟨Nat.zero_le _, Nat.zero_le _⟩ dX13_orderFrom_190 (fun G49 hw48 => ?_)
              have hI50 : yI G49 := hw48.1
              have hU51 : gu_un ycd [29, 33, 1400] (gu_up G38 32 3 x58_6) G49 := hw48.2.1
              have hp52 := hw48.2.2
              have b53 : (0 : Int) ≤ (G49 0 32).toInt ∧ (G49 0 32).toInt ≤ 7 := hI50 0 32
              have q54 : ((G49 0 32).toInt = (G24 0 32).toInt - 1) := by have h9 := hp52.1; (try simp only [(show (gu_up G38 32 3 x58_6) 0 32 = (G24 0 32) from hU40 0 32 (by decide))] at h9); first | exact h9 | omega
              have q55 : ((∀ q : Nat, q < 96 → G49 14 q = (G24 19) (96 * ((G24 0 32).toInt - 1) + (q : Int)).toNat) ∧ G49 0 28 = (G24 20) ((G24 0 32).toInt - 1).toNat) := by have h9 := hp52.2.1; (try simp only [(show (gu_up G38 32 3 x58_6) 0 32 = (G24 0 32) from hU40 0 32 (by decide)), (show (gu_up G38 32 3 x58_6) 0 32 = (G24 0 32) from hU40 0 32 (by decide)), (show (gu_up G38 32 3 x58_6) 19 = (G24 19) from (show G38 19 = G24 19 from funext fun k_ => hU40 19 k_ (show (1900 : Nat) ∉ ([29, 36, 37, 1300, 1400, 1500, 1600, 1700, 1800, 2100] : List Nat) by decide))), (show (gu_up G38 32 3 x58_6) 20 = (G24 20) from (show G38 20 = G24 20 from funext fun k_ => hU40 20 k_ (show (2000 : Nat) ∉ ([29, 36, 37, 1300, 1400, 1500, 1600, 1700, 1800, 2100] : List Nat) by decide)))] at h9); first | exact h9 | omega
              have q56 : ((G49 15 = (gu_up G38 32 3 x58_6) 15 ∧ G49 16 = (gu_up G38 32 3 x58_6) 16 ∧ G49 17 = (gu_up G38 32 3 x58_6) 17 ∧ G49 18 = (gu_up G38 32 3 x58_6) 18) ∧ G49 19 = (gu_up G38 32 3 x58_6) 19 ∧ G49 20 = (gu_up G38 32 3 x58_6) 20) := hp52.2.2
              have bk57 : yNh Gj58 G49 := yNh.back (G := G24) (d := (Gj58 0 32).toInt) (yNd.by q30.1 q30.2 q31.1 (by omega)) (yKe.by q30.1 q30.2 (by omega)) rfl (fun q hq => by have h9 := q55.1 q hq; rw [show (G24 0 32).toInt - 1 = (Gj58 0 32).toInt by omega] at h9; exact h9) (by have h9 := q55.2; rw [show (G24 0 32).toInt - 1 = (Gj58 0 32).toInt by omega] at h9; exact h9) (yNd.tr (yNd.tr (yNd.tr yNd.rf (show yNd _ G24 G38 from (yNd.go (q44 rfl) hU40 rfl)) (Int.le_refl _)) (yNd.un (show gu_un ycd [3200] G38 (gu_up G38 32 3 x58_6) from (gu_un.up (j := 32) (k := 3) (v := x58_6) gu_un.rf (show (3200 : Nat) ∈ ([3200] : List Nat) by decide))) rfl) (Int.le_refl _)) (yNd.pl q56) (Int.le_refl _)) (by omega)
              clear hp52 hw48
              refine g_locals [(0, .ref (a 0)), (1, .int 3), (2, .int p1), (3, .int p2), (4, .int p3), (5, .int p4), (6, .int x58_6)] [1, 2, 3, 4, 5, 6, 7] rfl ?_
              exact J_193 G49 (by have h9 := ti_rng x58_6; omega) hI50 (gu_un.tr (gu_un.up (j := 32) (k := 3) (v := x58_6) (gu_un.tr (gu_un.tr gu_un.rf (gu_un.su hU26 rfl)) (gu_un.su hU40 rfl)) (show (3200 : Nat) ∈ ([29, 33, 36, 37, 47, 1300, 1400, 1500, 1600, 1700, 1800, 1900, 2000, 2100, 3200, 3300] : List Nat) by decide)) (gu_un.su hU51 rfl)) (by (first | omega | (simp only [Int32.reduceToInt, true_and, and_true, ne_eq, not_true_eq_false, false_and, or_false, false_or, true_or, or_true, false_implies] <;> omega))) (by have e9_0_45 : G49 0 45 = (G 0 45) := (hU51 0 45 (by decide)).trans ((hU40 0 45 (by decide)).trans ((hU26 0 45 (by decide)).trans (jU58 0 45 (by decide)))); (try simp only [e9_0_45, true_and, and_true]) <;> (first | omega | (simp only [Int32.reduceToInt, true_and, and_true, ne_eq, not_true_eq_false, false_and, or_false, false_or, true_or, or_true, false_implies] <;> omega))) ((yNh.tr (show yNh G Gj58 from nh58) (show yNh Gj58 G49 from bk57)))
            · refine g_aload_n F 1 dX13_orderFrom_164 rfl rfl ?_
              refine g_iload_n F 2 dX13_orderFrom_165 rfl rfl ?_
              refine g_iconst F 1 dX13_orderFrom_166 (by decide) ?_
              refine g_iadd F dX13_orderFrom_167 ?_
              refine g_fold 4 (by decide) ?_
              refine g_iload_n F 3 dX13_orderFrom_168 rfl rfl ?_
              refine g_iconst F 1 dX13_orderFrom_169 (by decide) ?_
              refine g_iload F 7 dX13_orderFrom_170 rfl ?_
              refine u0_ishl F dX13_orderFrom_172 (fun y58 => ?_)
              refine u0_ior F dX13_orderFrom_173 (fun y59 => ?_)
              refine g_iload_n F 4 dX13_orderFrom_174 rfl rfl ?_
              refine g_aload_n F 1 dX13_orderFrom_175 rfl rfl ?_
              refine yg_0_33 F i_X13 w_6 dX13_orderFrom_176 ?_
              refine g_iconst F 0 dX13_orderFrom_179 (by decide) ?_
              refine u1_iald F 21 0 yc_21 rfl 0 rfl (by decide) (by decide) dX13_orderFrom_180 (G38 21 0) (rfl) ?_
              refine u0_iadd F dX13_orderFrom_181 (fun y60 => ?_)
              refine g_iload F 5 dX13_orderFrom_182 rfl ?_
              refine g_iload F 6 dX13_orderFrom_184 rfl ?_
              refine u_callVv (k := 0) (n := 0) (b := a 0) (As := [.int 4, .int y59, .int y60, .int p3, .int p4]) (st := []) F (fun sz => S_X13_orderFrom_v4 l D K a (gu_up G38 32 3 x58_6) y59 y59.toInt y60 y60.toInt p3 s3 p4 s4 rfl rfl e3 (by omega) e4 (by omega) (yW3.un wf (show gu_un ycd [29, 33, 36, 37, 47, 1300, 1400, 1500, 1600, 1700, 1800, 1900, 2000, 2100, 3200, 3300] G (gu_up G38 32 3 x58_6) from (gu_un.up (j := 32) (k := 3) (v := x58_6) (gu_un.tr (gu_un.tr (gu_un.tr gu_un.rf (gu_un.su jU58 rfl)) (gu_un.su hU26 rfl)) (gu_un.su hU40 rfl)) (show (3200 : Nat) ∈ ([29, 33, 36, 37, 47, 1300, 1400, 1500, 1600, 1700, 1800, 1900, 2000, 2100, 3200, 3300] : List Nat) by decide))) rfl) (by have e9_0_32 : (gu_up G38 32 3 x58_6) 0 32 = (G24 0 32) := hU40 0 32 (by decide); have e9_0_45 : (gu_up G38 32 3 x58_6) 0 45 = (G 0 45) := (hU40 0 45 (by decide)).trans ((hU26 0 45 (by decide)).trans (jU58 0 45 (by decide))); (try simp only [e9_0_32, e9_0_45, true_and, and_true]) <;> (first | omega | (simp only [Int32.reduceToInt, true_and, and_true, ne_eq, not_true_eq_false, false_and, or_false, false_or, true_or, or_true, false_implies] <;> omega))) (gu_I.up (j := 32) (k := 3) (v := x58_6) hI39 (ti_rng _).1 (ti_rng _).2) sz) (cwV 5 hts gX13_orderFrom_X13_orderFrom rfl rfl rfl (by decide +kernel) ⟨Nat.le_of_ble_eq_true rfl, Nat.le_of_ble_eq_true rfl⟩) rfl 0 yc_0 rfl (Nat.le_of_ble_eq_true rfl) ⟨Nat.zero_le _, Nat.zero_le _⟩ dX13_orderFrom_186 (fun G63 hw62 => ?_)
              have hI64 : yI G63 := hw62.1
              have hU65 : gu_un ycd [29, 33, 36, 37, 47, 1300, 1400, 1500, 1600, 1700, 1800, 1900, 2000, 2100, 3200, 3300] (gu_up G38 32 3 x58_6) G63 := hw62.2.1
              have hp66 := hw62.2.2
              have q67 : yNh (gu_up G38 32 3 x58_6) G63 := hp66.1
              have b68 : (0 : Int) ≤ (G63 0 32).toInt ∧ (G63 0 32).toInt ≤ 7 := hI64 0 32
              have q69 : ((G63 0 32).toInt = (G24 0 32).toInt) := by have h9 := hp66.2; (try simp only [(show (gu_up G38 32 3 x58_6) 0 32 = (G24 0 32) from hU40 0 32 (by decide))] at h9); first | exact h9 | omega
              clear hp66 hw62
              refine g_aload_n F 1 dX13_orderFrom_189 rfl rfl ?_
              refine u_callVv (k := 0) (n := 0) (b := a 0) (As := []) (st := []) F (fun sz => S_X13_putBack l D K a G63  (by (first | omega | (simp only [Int32.reduceToInt, true_and, and_true, ne_eq, not_true_eq_false, false_and, or_false, false_or, true_or, or_true, false_implies] <;> omega))) hI64 sz) (cwV 0 hts gX13_orderFrom_X13_putBack rfl rfl rfl (by decide +kernel) ⟨Nat.le_of_ble_eq_true rfl, Nat.le_of_ble_eq_true rfl⟩) rfl 0 yc_0 rfl (Nat.le_of_ble_eq_true rfl) ⟨Nat.zero_le _, Nat.zero_le _⟩ dX13_orderFrom_190 (fun G72 hw71 => ?_)
              have hI73 : yI G72 := hw71.1
              have hU74 : gu_un ycd [29, 33, 1400] G63 G72 := hw71.2.1
              have hp75 := hw71.2.2
              have b76 : (0 : Int) ≤ (G72 0 32).toInt ∧ (G72 0 32).toInt ≤ 7 := hI73 0 32
              have q77 : ((G72 0 32).toInt = (G63 0 32).toInt - 1) := hp75.1
              have q78 : ((∀ q : Nat, q < 96 → G72 14 q = (G63 19) (96 * ((G63 0 32).toInt - 1) + (q : Int)).toNat) ∧ G72 0 28 = (G63 20) ((G63 0 32).toInt - 1).toNat) := hp75.2.1
              have q79 : ((G72 15 = G63 15 ∧ G72 16 = G63 16 ∧ G72 17 = G63 17 ∧ G72 18 = G63 18) ∧ G72 19 = G63 19 ∧ G72 20 = G63 20) := hp75.2.2
              have bk80 : yNh Gj58 G72 := yNh.back (G := G63) (d := (Gj58 0 32).toInt) (yNd.tr (yNd.by q30.1 q30.2 q31.1 (by omega)) (yNd.tr (yNd.tr (yNd.tr yNd.rf (show yNd _ G24 G38 from (yNd.go (q44 rfl) hU40 rfl)) (Int.le_refl _)) (yNd.un (show gu_un ycd [3200] G38 (gu_up G38 32 3 x58_6) from (gu_un.up (j := 32) (k := 3) (v := x58_6) gu_un.rf (show (3200 : Nat) ∈ ([3200] : List Nat) by decide))) rfl) (Int.le_refl _)) (show yNd _ (gu_up G38 32 3 x58_6) G63 from (yNd.le (yNh.nd q67) (by have e9 : (gu_up G38 32 3 x58_6) 0 32 = (G24 0 32) := hU40 0 32 (by decide); rw [e9]; omega))) (Int.le_refl _)) (Int.le_refl _)) (yKe.nd (d' := (Gj58 0 32).toInt + 1) (yKe.by q30.1 q30.2 (by omega)) (yNd.tr (yNd.tr (yNd.tr yNd.rf (show yNd _ G24 G38 from (yNd.go (q44 rfl) hU40 rfl)) (Int.le_refl _)) (yNd.un (show gu_un ycd [3200] G38 (gu_up G38 32 3 x58_6) from (gu_un.up (j := 32) (k := 3) (v := x58_6) gu_un.rf (show (3200 : Nat) ∈ ([3200] : List Nat) by decide))) rfl) (Int.le_refl _)) (show yNd _ (gu_up G38 32 3 x58_6) G63 from (yNd.le (yNh.nd q67) (by have e9 : (gu_up G38 32 3 x58_6) 0 32 = (G24 0 32) := hU40 0 32 (by decide); rw [e9]; omega))) (Int.le_refl _)) (by omega) (by omega)) rfl (fun q hq => by have h9 := q78.1 q hq; rw [show (G63 0 32).toInt - 1 = (Gj58 0 32).toInt by omega] at h9; exact h9) (by have h9 := q78.2; rw [show (G63 0 32).toInt - 1 = (Gj58 0 32).toInt by omega] at h9; exact h9) (yNd.tr yNd.rf (yNd.pl q79) (Int.le_refl _)) (by omega)
              clear hp75 hw71
              refine g_locals [(0, .ref (a 0)), (1, .int 3), (2, .int p1), (3, .int p2), (4, .int p3), (5, .int p4), (6, .int x58_6)] [1, 2, 3, 4, 5, 6, 7] rfl ?_
              exact J_193 G72 (by have h9 := ti_rng x58_6; omega) hI73 (gu_un.tr (gu_un.tr (gu_un.up (j := 32) (k := 3) (v := x58_6) (gu_un.tr (gu_un.tr gu_un.rf (gu_un.su hU26 rfl)) (gu_un.su hU40 rfl)) (show (3200 : Nat) ∈ ([29, 33, 36, 37, 47, 1300, 1400, 1500, 1600, 1700, 1800, 1900, 2000, 2100, 3200, 3300] : List Nat) by decide)) (gu_un.su hU65 rfl)) (gu_un.su hU74 rfl)) (by (first | omega | (simp only [Int32.reduceToInt, true_and, and_true, ne_eq, not_true_eq_false, false_and, or_false, false_or, true_or, or_true, false_implies] <;> omega))) (by have e9_0_45 : G72 0 45 = (G 0 45) := (hU74 0 45 (by decide)).trans ((hU65 0 45 (by decide)).trans ((hU40 0 45 (by decide)).trans ((hU26 0 45 (by decide)).trans (jU58 0 45 (by decide))))); (try simp only [e9_0_45, true_and, and_true]) <;> (first | omega | (simp only [Int32.reduceToInt, true_and, and_true, ne_eq, not_true_eq_false, false_and, or_false, false_or, true_or, or_true, false_implies] <;> omega))) ((yNh.tr (show yNh G Gj58 from nh58) (show yNh Gj58 G72 from bk80)))
          · have q19 : (psMx (psHr (Gj58 14) ((G 28) (x58_6.toInt).toNat).toInt (G 3 0).toInt) ((G 3 0).toInt - 1).toNat - ((G 30) (x58_6.toInt).toNat).toInt * ((G 31) (x58_6.toInt).toNat).toInt < 1) := by have h9 := q19; (try simp only [(show Gj58 3 0 = (G 3 0) from jU58 3 0 (by decide)), (show Gj58 3 0 = (G 3 0) from jU58 3 0 (by decide))] at h9); exact h9
            refine v_if_ne F 108 dX13_orderFrom_102 (by decide) 0 rfl (fun c81 => absurd c81 (by decide)) (fun c81 => ?_)
            refine g_goto F 193 dX13_orderFrom_105 (by decide) ?_
            have b82 : (0 : Int) ≤ (Gj58 0 32).toInt ∧ (Gj58 0 32).toInt ≤ 7 := jI58 0 32
            exact J_193 Gj58 (by have h9 := ti_rng x58_6; omega) jI58 gu_un.rf (by (first | omega | (simp only [Int32.reduceToInt, true_and, and_true, ne_eq, not_true_eq_false, false_and, or_false, false_or, true_or, or_true, false_implies] <;> omega))) (by have e9_0_45 : Gj58 0 45 = (G 0 45) := jU58 0 45 (by decide); (try simp only [e9_0_45, true_and, and_true]) <;> (first | omega | (simp only [Int32.reduceToInt, true_and, and_true, ne_eq, not_true_eq_false, false_and, or_false, false_or, true_or, or_true, false_implies] <;> omega))) (nh58)
  have J_25 : ∀ (fuel : Nat) (x25_6 : Int32) (Gj25 : gS), (2147483647 - x25_6.toInt).toNat < fuel → (0 ≤ x25_6.toInt ∧ x25_6.toInt ≤ 5) → (yI Gj25) → (gu_un ycd [47, 3300] G Gj25) → (((G 0 32).toInt = (G 0 32).toInt)) → gG p l e (gR 7 0 0 204) s m args below meth c D A 8 Q 0 0 (yW K a Gj25) (tK K) [(0, .ref (a 0)), (6, .int x25_6)] 25 [] := by
    intro fuel
    induction fuel with
    | zero => intro x25_6 Gj25 hm; exact absurd hm (Nat.not_lt_zero _)
    | succ fuel_25 ih_25 =>
      intro x25_6 Gj25 hm_25 h25_6 jI25 jU25 dc_25
      refine g_iload F 1 dX13_orderFrom_25 rfl ?_
      refine g_aload_n F 0 dX13_orderFrom_27 rfl rfl ?_
      refine yg_0_45 F i_X13 w_0 dX13_orderFrom_28 (G 0 45) (jU25 0 45 (by decide)) ?_
      refine v_icmp_ge F 54 dX13_orderFrom_31 (by decide) x25_6.toInt (G 0 45).toInt rfl rfl (fun c83 => ?_) (fun c83 => ?_)
      · exact u_vret F hA hQ hr Gj25 (⟨jI25, (gu_un.tr gu_un.rf (gu_un.su jU25 rfl)), ((yNh.tr (show yNh G G from yNh.rf) (show yNh G Gj25 from (yNh.un jU25 rfl)))), (by show ((Gj25 0 32).toInt = (G 0 32).toInt); have e9_0_32 : Gj25 0 32 = (G 0 32) := jU25 0 32 (by decide); (try simp only [e9_0_32, true_and, and_true]) <;> (first | omega | (simp only [Int32.reduceToInt, true_and, and_true, ne_eq, not_true_eq_false, false_and, or_false, false_or, true_or, or_true, false_implies] <;> omega)))⟩) rfl rfl dX13_orderFrom_54
      · refine g_aload_n F 0 dX13_orderFrom_34 rfl rfl ?_
        refine yg_0_52 F i_X13 w_7 dX13_orderFrom_35 ?_
        refine g_iload F 1 dX13_orderFrom_38 rfl ?_
        refine g_aload_n F 0 dX13_orderFrom_40 rfl rfl ?_
        refine yg_0_51 F i_X13 w_5 dX13_orderFrom_41 ?_
        refine g_iload F 1 dX13_orderFrom_44 rfl ?_
        refine u_iald F 32 0 yc_32 rfl x25_6.toInt rfl (by omega) (by omega) dX13_orderFrom_46 (fun _ => True) (fun _ => trivial) (fun y84 by84 => ?_)
        refine u_iast F 33 0 yc_33 rfl x25_6.toInt rfl (by omega) (by omega) (yW K a (gu_up Gj25 33 (x25_6.toInt).toNat y84)) (ys_33 _) dX13_orderFrom_47 ?_
        refine u_iinc F (fun v_ => [(6, .int v_), (0, .ref (a 0))]) dX13_orderFrom_48 (j := 1) rfl x25_6.toInt 1 rfl rfl (by omega) (by omega) (by decide) (fun _ => rfl) (fun y85 ey85 => ?_)
        refine g_goto F 25 dX13_orderFrom_51 (by decide) ?_
        refine g_locals [(0, .ref (a 0)), (6, .int y85)] [1, 0] rfl ?_
        exact ih_25 y85 (gu_up Gj25 33 (x25_6.toInt).toNat y84) (by omega) (by have h9 := ti_rng y85; omega) (gu_I.up (j := 33) (k := (x25_6.toInt).toNat) (v := y84) jI25 (ti_rng _).1 (ti_rng _).2) (gu_un.up (j := 33) (k := (x25_6.toInt).toNat) (v := y84) (gu_un.tr gu_un.rf (gu_un.su jU25 rfl)) (show (3300 : Nat) ∈ ([47, 3300] : List Nat) by decide)) (by have e9_0_32 : (gu_up Gj25 33 (x25_6.toInt).toNat y84) 0 32 = (G 0 32) := jU25 0 32 (by decide); (try simp only [e9_0_32, true_and, and_true]) <;> (first | omega | (simp only [Int32.reduceToInt, true_and, and_true, ne_eq, not_true_eq_false, false_and, or_false, false_or, true_or, or_true, false_implies] <;> omega)))
  refine g_iload_n F 1 dX13_orderFrom_0 rfl rfl ?_
  refine g_aload_n F 0 dX13_orderFrom_1 rfl rfl ?_
  refine yg_0_45 F i_X13 w_0 dX13_orderFrom_2 (G 0 45) (rfl) ?_
  refine v_icmp_ne F 55 dX13_orderFrom_5 (by decide) 3 (G 0 45).toInt rfl rfl (fun c86 => ?_) (fun c86 => ?_)
  · refine g_iconst F 0 dX13_orderFrom_55 (by decide) ?_
    refine g_istore F [(6, .int 0), (0, .ref (a 0)), (1, .int 3), (2, .int p1), (3, .int p2), (4, .int p3), (5, .int p4)] dX13_orderFrom_56 (by decide) rfl ?_
    refine g_locals [(0, .ref (a 0)), (1, .int 3), (2, .int p1), (3, .int p2), (4, .int p3), (5, .int p4), (6, .int 0)] [1, 2, 3, 4, 5, 6, 0] rfl ?_
    exact J_58 _ 0 G (Nat.lt_succ_self _) (by decide) hI gu_un.rf (by (first | omega | (simp only [Int32.reduceToInt, true_and, and_true, ne_eq, not_true_eq_false, false_and, or_false, false_or, true_or, or_true, false_implies] <;> omega))) (by (first | omega | (simp only [Int32.reduceToInt, true_and, and_true, ne_eq, not_true_eq_false, false_and, or_false, false_or, true_or, or_true, false_implies] <;> omega))) (yNh.rf)
  · refine g_iload_n F 3 dX13_orderFrom_8 rfl rfl ?_
    refine g_aload_n F 0 dX13_orderFrom_9 rfl rfl ?_
    refine yg_0_46 F i_X13 w_8 dX13_orderFrom_10 (G 0 46) (rfl) ?_
    have b87 := ti_rng (G 0 46)
    refine v_icmp_lt F 17 dX13_orderFrom_13 (by decide) s2 (G 0 46).toInt e2 rfl (fun c88 => ?_) (fun c88 => ?_)
    · refine g_aload_n F 0 dX13_orderFrom_17 rfl rfl ?_
      refine g_iload_n F 3 dX13_orderFrom_18 rfl rfl ?_
      refine yp_0_46 F i_X13 w_8 dX13_orderFrom_19 ?_
      refine g_iconst F 0 dX13_orderFrom_22 (by decide) ?_
      refine g_istore F [(6, .int 0), (0, .ref (a 0)), (1, .int 3), (2, .int p1), (3, .int p2), (4, .int p3), (5, .int p4)] dX13_orderFrom_23 (by decide) rfl ?_
      refine g_locals [(0, .ref (a 0)), (6, .int 0)] [1, 0] rfl ?_
      exact J_25 _ 0 (gu_up G 0 46 p2) (Nat.lt_succ_self _) (by decide) (gu_I.up (j := 0) (k := 46) (v := p2) hI (ti_rng _).1 (ti_rng _).2) (gu_un.up (j := 0) (k := 46) (v := p2) gu_un.rf (show (47 : Nat) ∈ ([47, 3300] : List Nat) by decide)) (by have e9_0_32 : (gu_up G 0 46 p2) 0 32 = (G 0 32) := rfl; (try simp only [e9_0_32, true_and, and_true]) <;> (first | omega | (simp only [Int32.reduceToInt, true_and, and_true, ne_eq, not_true_eq_false, false_and, or_false, false_or, true_or, or_true, false_implies] <;> omega)))
    · exact u_vret F hA hQ hr G (⟨hI, gu_un.rf, (yNh.rf), (by show ((G 0 32).toInt = (G 0 32).toInt); (first | omega | (simp only [Int32.reduceToInt, true_and, and_true, ne_eq, not_true_eq_false, false_and, or_false, false_or, true_or, or_true, false_implies] <;> omega)))⟩) rfl rfl dX13_orderFrom_16


set_option maxHeartbeats 4000000 in
set_option maxRecDepth 100000 in
theorem S_X13_orderFrom_v2 (l : Launch) (D : va_G) (K : Nat → ClassId) (a : Nat → Nat) (G : gS) (p1 : Int32) (s1 : Int) (p2 : Int32) (s2 : Int) (p3 : Int32) (s3 : Int) (p4 : Int32) (s4 : Int) (e1 : p1.toInt = s1) (e2 : p2.toInt = s2) (e3 : p3.toInt = s3) (h3 : 0 ≤ s3 ∧ s3 ≤ 300) (e4 : p4.toInt = s4) (h4 : 0 ≤ s4 ∧ s4 ≤ 300) (wf : yW3 G) (nj : (2 ≤ (G 0 45).toInt ∧ (G 0 32).toInt = 2)) (hI : yI G) (sz : Nat) : Kv l yX13_orderFrom wsX13_orderFrom 8 231 0 0 D [.ref (a 0), .int 2, .int p1, .int p2, .int p3, .int p4] (yW K a G) (tK K) sz (fun (G' : gS) => (yI G') ∧ (gu_un ycd [29, 33, 36, 37, 47, 1300, 1400, 1500, 1600, 1700, 1800, 1900, 2000, 2100, 3200, 3300] G G') ∧ (yNh G G') ∧ (((G' 0 32).toInt = (G 0 32).toInt))) (fun (G' : gS) => (yW K a G')) (fun _ => (tK K)) := by
  unfold Kv
  refine g_ofW (cc := cX13_orderFrom) (lv := [(0, .ref (a 0)), (1, .int 2), (2, .int p1), (3, .int p2), (4, .int p3), (5, .int p4)]) (by decide) rfl (Nat.le_of_ble_eq_true rfl) rfl ?_
  intro p e s m args below meth c A Q hA hQ F hr hnm
  have hts := F.2.2.2.2.1
  have w_0 : (Cond.fieldLink RX13 331 "QuietCutModel" "jobs" "I").before args s = true := hts _ (List.mem_of_getElem? (i := 1) rfl)
  have i_X13 : ∀ w ∈ u_ws RX13 TX13 73, w ∈ wsX13_orderFrom := fun _ h => List.mem_cons_of_mem _ (List.mem_append_right _ h)
  have w_1 : (Cond.fieldLink RX13 256 "QuietCutModel" "jobRing" "[I").before args s = true := hts _ (List.mem_of_getElem? (i := 5) rfl)
  have w_2 : (Cond.fieldLink RX13 262 "QuietCutModel" "jobFeed" "[I").before args s = true := hts _ (List.mem_of_getElem? (i := 6) rfl)
  have w_3 : (Cond.fieldLink RX13 265 "QuietCutModel" "jobTurns" "[I").before args s = true := hts _ (List.mem_of_getElem? (i := 7) rfl)
  have w_4 : (Cond.fieldLink RX13 259 "QuietCutModel" "jobSpeed" "[I").before args s = true := hts _ (List.mem_of_getElem? (i := 8) rfl)
  have w_5 : (Cond.fieldLink RX13 268 "QuietCutModel" "orderRow" "[I").before args s = true := hts _ (List.mem_of_getElem? (i := 4) rfl)
  have w_6 : (Cond.fieldLink RX13 235 "QuietCutModel" "now" "[I").before args s = true := hts _ (List.mem_of_getElem? (i := 9) rfl)
  have w_7 : (Cond.fieldLink RX13 271 "QuietCutModel" "bestRow" "[I").before args s = true := hts _ (List.mem_of_getElem? (i := 3) rfl)
  have w_8 : (Cond.fieldLink RX13 493 "QuietCutModel" "orderBest" "I").before args s = true := hts _ (List.mem_of_getElem? (i := 2) rfl)
  have rg1 : -2147483648 ≤ s1 ∧ s1 ≤ 2147483647 := e1 ▸ ti_rng p1
  have rg2 : -2147483648 ≤ s2 ∧ s2 ≤ 2147483647 := e2 ▸ ti_rng p2
  have b1 : (0 : Int) ≤ (G 0 45).toInt ∧ (G 0 45).toInt ≤ 5 := hI 0 45
  have b2 : (0 : Int) ≤ (G 0 32).toInt ∧ (G 0 32).toInt ≤ 7 := hI 0 32
  have b3 : (4 : Int) ≤ (G 3 0).toInt ∧ (G 3 0).toInt ≤ 16 := hI 3 0
  have J_58 : ∀ (fuel : Nat) (x58_6 : Int32) (Gj58 : gS), (2147483647 - x58_6.toInt).toNat < fuel → (0 ≤ x58_6.toInt ∧ x58_6.toInt ≤ 5) → (yI Gj58) → (gu_un ycd [29, 33, 36, 37, 47, 1300, 1400, 1500, 1600, 1700, 1800, 1900, 2000, 2100, 3200, 3300] G Gj58) → (((Gj58 0 32).toInt = (G 0 32).toInt)) → ((2 < (G 0 45).toInt)) → (yNh G Gj58) → gG p l e (gR 8 0 0 231) s m args below meth c D A 8 Q 0 0 (yW K a Gj58) (tK K) [(0, .ref (a 0)), (1, .int 2), (2, .int p1), (3, .int p2), (4, .int p3), (5, .int p4), (6, .int x58_6)] 58 [] := by
    intro fuel
    induction fuel with
    | zero => intro x58_6 Gj58 hm; exact absurd hm (Nat.not_lt_zero _)
    | succ fuel_58 ih_58 =>
      intro x58_6 Gj58 hm_58 h58_6 jI58 jU58 dc_58 nl_58 nh58
      have J_193 : ∀  (Gj193 : gS), (0 ≤ x58_6.toInt ∧ x58_6.toInt ≤ 4) → (yI Gj193) → (gu_un ycd [29, 33, 36, 37, 47, 1300, 1400, 1500, 1600, 1700, 1800, 1900, 2000, 2100, 3200, 3300] Gj58 Gj193) → (((Gj193 0 32).toInt = (G 0 32).toInt)) → ((2 < (G 0 45).toInt)) → (yNh G Gj193) → gG p l e (gR 8 0 0 231) s m args below meth c D A 8 Q 0 0 (yW K a Gj193) (tK K) [(0, .ref (a 0)), (1, .int 2), (2, .int p1), (3, .int p2), (4, .int p3), (5, .int p4), (6, .int x58_6)] 193 [] := by
        intro Gj193 k193_6 jI193 jU193 dc_193 nl_193 nh193
        refine u_iinc F (fun v_ => [(6, .int v_), (0, .ref (a 0)), (1, .int 2), (2, .int p1), (3, .int p2), (4, .int p3), (5, .int p4)]) dX13_orderFrom_193 (j := 6) rfl x58_6.toInt 1 rfl rfl (by omega) (by omega) (by decide) (fun _ => rfl) (fun y4 ey4 => ?_)
        refine g_goto F 58 dX13_orderFrom_196 (by decide) ?_
        refine g_locals [(0, .ref (a 0)), (1, .int 2), (2, .int p1), (3, .int p2), (4, .int p3), (5, .int p4), (6, .int y4)] [1, 2, 3, 4, 5, 6, 0] rfl ?_
        have b5 : (0 : Int) ≤ (Gj193 0 32).toInt ∧ (Gj193 0 32).toInt ≤ 7 := jI193 0 32
        exact ih_58 y4 Gj193 (by omega) (by have h9 := ti_rng y4; omega) jI193 (gu_un.tr (gu_un.tr gu_un.rf (gu_un.su jU58 rfl)) (gu_un.su jU193 rfl)) (by (first | omega | (simp only [Int32.reduceToInt, true_and, and_true, ne_eq, not_true_eq_false, false_and, or_false, false_or, true_or, or_true, false_implies] <;> omega))) (by have e9_0_45 : Gj193 0 45 = (G 0 45) := (jU193 0 45 (by decide)).trans (jU58 0 45 (by decide)); (try simp only [e9_0_45, true_and, and_true]) <;> (first | omega | (simp only [Int32.reduceToInt, true_and, and_true, ne_eq, not_true_eq_false, false_and, or_false, false_or, true_or, or_true, false_implies] <;> omega))) (nh193)
      refine g_iload F 6 dX13_orderFrom_58 rfl ?_
      refine g_aload_n F 0 dX13_orderFrom_60 rfl rfl ?_
      refine yg_0_45 F i_X13 w_0 dX13_orderFrom_61 (G 0 45) (jU58 0 45 (by decide)) ?_
      refine v_icmp_ge F 199 dX13_orderFrom_64 (by decide) x58_6.toInt (G 0 45).toInt rfl rfl (fun c6 => ?_) (fun c6 => ?_)
      · have b7 : (0 : Int) ≤ (Gj58 0 32).toInt ∧ (Gj58 0 32).toInt ≤ 7 := jI58 0 32
        exact u_vret F hA hQ hr Gj58 (⟨jI58, (gu_un.tr gu_un.rf (gu_un.su jU58 rfl)), (nh58), (by show ((Gj58 0 32).toInt = (G 0 32).toInt); (first | omega | (simp only [Int32.reduceToInt, true_and, and_true, ne_eq, not_true_eq_false, false_and, or_false, false_or, true_or, or_true, false_implies] <;> omega)))⟩) rfl rfl dX13_orderFrom_199
      · refine g_iload_n F 2 dX13_orderFrom_67 rfl rfl ?_
        refine g_iload F 6 dX13_orderFrom_68 rfl ?_
        refine u0_ishr F dX13_orderFrom_70 (fun y8 => ?_)
        refine g_iconst F 1 dX13_orderFrom_71 (by decide) ?_
        refine u_iand F dX13_orderFrom_72 _ 1 rfl rfl (by omega) (fun y9 ey9 => ?_)
        refine g_iconst F 1 dX13_orderFrom_73 (by decide) ?_
        refine v_icmp_eq F 193 dX13_orderFrom_74 (by decide) y9.toInt 1 rfl rfl (fun c10 => ?_) (fun c10 => ?_)
        · have b11 : (0 : Int) ≤ (Gj58 0 32).toInt ∧ (Gj58 0 32).toInt ≤ 7 := jI58 0 32
          exact J_193 Gj58 (by have h9 := ti_rng x58_6; omega) jI58 gu_un.rf (by (first | omega | (simp only [Int32.reduceToInt, true_and, and_true, ne_eq, not_true_eq_false, false_and, or_false, false_or, true_or, or_true, false_implies] <;> omega))) (by have e9_0_45 : Gj58 0 45 = (G 0 45) := jU58 0 45 (by decide); (try simp only [e9_0_45, true_and, and_true]) <;> (first | omega | (simp only [Int32.reduceToInt, true_and, and_true, ne_eq, not_true_eq_false, false_and, or_false, false_or, true_or, or_true, false_implies] <;> omega))) (nh58)
        · refine g_aload_n F 0 dX13_orderFrom_77 rfl rfl ?_
          refine g_aload_n F 0 dX13_orderFrom_78 rfl rfl ?_
          refine yg_0_47 F i_X13 w_1 dX13_orderFrom_79 ?_
          refine g_iload F 6 dX13_orderFrom_82 rfl ?_
          refine u1_iald F 28 0 yc_28 rfl x58_6.toInt rfl (by omega) (by omega) dX13_orderFrom_84 ((G 28) (x58_6.toInt).toNat) (congrFun ((show Gj58 28 = G 28 from funext fun k_ => jU58 28 k_ (show (2800 : Nat) ∉ ([29, 33, 36, 37, 47, 1300, 1400, 1500, 1600, 1700, 1800, 1900, 2000, 2100, 3200, 3300] : List Nat) by decide))) _) ?_
          have b12 : (0 : Int) ≤ ((G 28) (x58_6.toInt).toNat).toInt ∧ ((G 28) (x58_6.toInt).toNat).toInt ≤ 5 := hI 28 _
          refine g_aload_n F 0 dX13_orderFrom_85 rfl rfl ?_
          refine yg_0_49 F i_X13 w_2 dX13_orderFrom_86 ?_
          refine g_iload F 6 dX13_orderFrom_89 rfl ?_
          refine u1_iald F 30 0 yc_30 rfl x58_6.toInt rfl (by omega) (by omega) dX13_orderFrom_91 ((G 30) (x58_6.toInt).toNat) (congrFun ((show Gj58 30 = G 30 from funext fun k_ => jU58 30 k_ (show (3000 : Nat) ∉ ([29, 33, 36, 37, 47, 1300, 1400, 1500, 1600, 1700, 1800, 1900, 2000, 2100, 3200, 3300] : List Nat) by decide))) _) ?_
          have b13 : (0 : Int) ≤ ((G 30) (x58_6.toInt).toNat).toInt ∧ ((G 30) (x58_6.toInt).toNat).toInt ≤ 20 := hI 30 _
          refine g_aload_n F 0 dX13_orderFrom_92 rfl rfl ?_
          refine yg_0_50 F i_X13 w_3 dX13_orderFrom_93 ?_
          refine g_iload F 6 dX13_orderFrom_96 rfl ?_
          refine u1_iald F 31 0 yc_31 rfl x58_6.toInt rfl (by omega) (by omega) dX13_orderFrom_98 ((G 31) (x58_6.toInt).toNat) (congrFun ((show Gj58 31 = G 31 from funext fun k_ => jU58 31 k_ (show (3100 : Nat) ∉ ([29, 33, 36, 37, 47, 1300, 1400, 1500, 1600, 1700, 1800, 1900, 2000, 2100, 3200, 3300] : List Nat) by decide))) _) ?_
          have b14 : (0 : Int) ≤ ((G 31) (x58_6.toInt).toNat).toInt ∧ ((G 31) (x58_6.toInt).toNat).toInt ≤ 12 := hI 31 _
          refine u_callVi (k := 0) (n := 0) (b := a 0) (As := [.int ((G 28) (x58_6.toInt).toNat), .int ((G 30) (x58_6.toInt).toNat), .int ((G 31) (x58_6.toInt).toNat)]) (st := []) F (fun sz => S_X13_canBe l D K a Gj58 ((G 28) (x58_6.toInt).toNat) ((G 28) (x58_6.toInt).toNat).toInt ((G 30) (x58_6.toInt).toNat) ((G 30) (x58_6.toInt).toNat).toInt ((G 31) (x58_6.toInt).toNat) ((G 31) (x58_6.toInt).toNat).toInt rfl (by omega) rfl (by omega) rfl (by omega) jI58 sz) (cwV 3 hts gX13_orderFrom_X13_canBe rfl rfl rfl (by decide +kernel) ⟨Nat.le_of_ble_eq_true rfl, Nat.le_of_ble_eq_true rfl⟩) rfl 0 yc_0 rfl (Nat.le_of_ble_eq_true rfl) ⟨Nat.zero_le _, Nat.zero_le _⟩ dX13_orderFrom_99 (fun r15 _ hw16 => ?_)
          rcases hw16 with ⟨rfl, q18⟩ | ⟨rfl, q19⟩
          · have q18 : (1 ≤ psMx (psHr (Gj58 14) ((G 28) (x58_6.toInt).toNat).toInt (G 3 0).toInt) ((G 3 0).toInt - 1).toNat - ((G 30) (x58_6.toInt).toNat).toInt * ((G 31) (x58_6.toInt).toNat).toInt) := by have h9 := q18; (try simp only [(show Gj58 3 0 = (G 3 0) from jU58 3 0 (by decide)), (show Gj58 3 0 = (G 3 0) from jU58 3 0 (by decide))] at h9); exact h9
            refine v_if_ne F 108 dX13_orderFrom_102 (by decide) 1 rfl (fun c20 => ?_) (fun c20 => absurd c20 (by decide))
            refine g_aload_n F 0 dX13_orderFrom_108 rfl rfl ?_
            have b21 : (0 : Int) ≤ (Gj58 0 32).toInt ∧ (Gj58 0 32).toInt ≤ 7 := jI58 0 32
            refine u_callVv (k := 0) (n := 0) (b := a 0) (As := []) (st := []) F (fun sz => S_X13_putBy l D K a Gj58  (by (first | omega | (simp only [Int32.reduceToInt, true_and, and_true, ne_eq, not_true_eq_false, false_and, or_false, false_or, true_or, or_true, false_implies] <;> omega))) jI58 sz) (cwV 0 hts gX13_orderFrom_X13_putBy rfl rfl rfl (by decide +kernel) ⟨Nat.le_of_ble_eq_true rfl, Nat.le_of_ble_eq_true rfl⟩) rfl 0 yc_0 rfl (Nat.le_of_ble_eq_true rfl) ⟨Nat.zero_le _, Nat.zero_le _⟩ dX13_orderFrom_109 (fun G24 hw23 => ?_)
            have hI25 : yI G24 := hw23.1
            have hU26 : gu_un ycd [33, 1900, 2000] Gj58 G24 := hw23.2.1
            have hp27 := hw23.2.2
            have b28 : (0 : Int) ≤ (G24 0 32).toInt ∧ (G24 0 32).toInt ≤ 7 := hI25 0 32
            have q29 : ((G24 0 32).toInt = (Gj58 0 32).toInt + 1) := hp27.1
            have q30 : ((∀ q : Nat, G24 19 q = sRow (Gj58 19) (Gj58 14) (96 * (Gj58 0 32).toInt) 96 q) ∧ G24 20 = upd (Gj58 20) ((Gj58 0 32).toInt).toNat (Gj58 0 28)) := hp27.2.1
            have q31 : ((G24 15 = Gj58 15 ∧ G24 16 = Gj58 16 ∧ G24 17 = Gj58 17 ∧ G24 18 = Gj58 18) ∧ G24 14 = Gj58 14 ∧ G24 0 28 = Gj58 0 28) := hp27.2.2
            clear hp27 hw23
            refine g_aload_n F 0 dX13_orderFrom_112 rfl rfl ?_
            refine g_aload_n F 0 dX13_orderFrom_113 rfl rfl ?_
            refine yg_0_47 F i_X13 w_1 dX13_orderFrom_114 ?_
            refine g_iload F 6 dX13_orderFrom_117 rfl ?_
            refine u1_iald F 28 0 yc_28 rfl x58_6.toInt rfl (by omega) (by omega) dX13_orderFrom_119 ((G 28) (x58_6.toInt).toNat) (congrFun ((show G24 28 = Gj58 28 from funext fun k_ => hU26 28 k_ (show (2800 : Nat) ∉ ([33, 1900, 2000] : List Nat) by decide)).trans ((show Gj58 28 = G 28 from funext fun k_ => jU58 28 k_ (show (2800 : Nat) ∉ ([29, 33, 36, 37, 47, 1300, 1400, 1500, 1600, 1700, 1800, 1900, 2000, 2100, 3200, 3300] : List Nat) by decide)))) _) ?_
            have b32 : (0 : Int) ≤ ((G 28) (x58_6.toInt).toNat).toInt ∧ ((G 28) (x58_6.toInt).toNat).toInt ≤ 5 := hI 28 _
            refine g_aload_n F 0 dX13_orderFrom_120 rfl rfl ?_
            refine yg_0_48 F i_X13 w_4 dX13_orderFrom_121 ?_
            refine g_iload F 6 dX13_orderFrom_124 rfl ?_
            refine u_iald F 29 0 yc_29 rfl x58_6.toInt rfl (by omega) (by omega) dX13_orderFrom_126 (fun z => (0 : Int) ≤ z.toInt ∧ z.toInt ≤ 9) (fun k_ => hI25 29 k_) (fun y33 by33 => ?_)
            refine g_aload_n F 0 dX13_orderFrom_127 rfl rfl ?_
            refine yg_0_49 F i_X13 w_2 dX13_orderFrom_128 ?_
            refine g_iload F 6 dX13_orderFrom_131 rfl ?_
            refine u1_iald F 30 0 yc_30 rfl x58_6.toInt rfl (by omega) (by omega) dX13_orderFrom_133 ((G 30) (x58_6.toInt).toNat) (congrFun ((show G24 30 = Gj58 30 from funext fun k_ => hU26 30 k_ (show (3000 : Nat) ∉ ([33, 1900, 2000] : List Nat) by decide)).trans ((show Gj58 30 = G 30 from funext fun k_ => jU58 30 k_ (show (3000 : Nat) ∉ ([29, 33, 36, 37, 47, 1300, 1400, 1500, 1600, 1700, 1800, 1900, 2000, 2100, 3200, 3300] : List Nat) by decide)))) _) ?_
            have b34 : (0 : Int) ≤ ((G 30) (x58_6.toInt).toNat).toInt ∧ ((G 30) (x58_6.toInt).toNat).toInt ≤ 20 := hI 30 _
            refine g_aload_n F 0 dX13_orderFrom_134 rfl rfl ?_
            refine yg_0_50 F i_X13 w_3 dX13_orderFrom_135 ?_
            refine g_iload F 6 dX13_orderFrom_138 rfl ?_
            refine u1_iald F 31 0 yc_31 rfl x58_6.toInt rfl (by omega) (by omega) dX13_orderFrom_140 ((G 31) (x58_6.toInt).toNat) (congrFun ((show G24 31 = Gj58 31 from funext fun k_ => hU26 31 k_ (show (3100 : Nat) ∉ ([33, 1900, 2000] : List Nat) by decide)).trans ((show Gj58 31 = G 31 from funext fun k_ => jU58 31 k_ (show (3100 : Nat) ∉ ([29, 33, 36, 37, 47, 1300, 1400, 1500, 1600, 1700, 1800, 1900, 2000, 2100, 3200, 3300] : List Nat) by decide)))) _) ?_
            have b35 : (0 : Int) ≤ ((G 31) (x58_6.toInt).toNat).toInt ∧ ((G 31) (x58_6.toInt).toNat).toInt ≤ 12 := hI 31 _
            refine g_iload F 4 dX13_orderFrom_141 rfl ?_
            refine g_iload F 5 dX13_orderFrom_143 rfl ?_
            refine g_iconst F (-1) dX13_orderFrom_145 (by decide) ?_
            refine u_callVi (k := 0) (n := 0) (b := a 0) (As := [.int ((G 28) (x58_6.toInt).toNat), .int y33, .int ((G 30) (x58_6.toInt).toNat), .int ((G 31) (x58_6.toInt).toNat), .int p3, .int p4, .int (-1)]) (st := []) F (fun sz => S_X13_go l D K a G24 ((G 28) (x58_6.toInt).toNat) ((G 28) (x58_6.toInt).toNat).toInt y33 y33.toInt ((G 30) (x58_6.toInt).toNat) ((G 30) (x58_6.toInt).toNat).toInt ((G 31) (x58_6.toInt).toNat) ((G 31) (x58_6.toInt).toNat).toInt p3 s3 p4 s4 (-1) (-1) rfl (by omega) rfl (by omega) rfl (by omega) rfl (by omega) e3 (by omega) e4 (by omega) rfl (yW3.un wf (show gu_un ycd [29, 33, 36, 37, 47, 1300, 1400, 1500, 1600, 1700, 1800, 1900, 2000, 2100, 3200, 3300] G G24 from (gu_un.tr (gu_un.tr gu_un.rf (gu_un.su jU58 rfl)) (gu_un.su hU26 rfl))) rfl) (by rw [show G24 14 = Gj58 14 from q31.2.1, (show G24 3 0 = G 3 0 from (show gu_un ycd [29, 33, 36, 37, 47, 1300, 1400, 1500, 1600, 1700, 1800, 1900, 2000, 2100, 3200, 3300] G G24 from (gu_un.tr (gu_un.tr gu_un.rf (gu_un.su jU58 rfl)) (gu_un.su hU26 rfl))) 3 0 (by decide))]; omega) hI25 sz) (cwV 7 hts gX13_orderFrom_X13_go rfl rfl rfl (by decide +kernel) ⟨Nat.le_of_ble_eq_true rfl, Nat.le_of_ble_eq_true rfl⟩) rfl 0 yc_0 rfl (Nat.le_of_ble_eq_true rfl) ⟨Nat.zero_le _, Nat.zero_le _⟩ dX13_orderFrom_146 (fun r36 G38 hw37 => ?_)
            have hI39 : yI G38 := hw37.1
            have hU40 : gu_un ycd [29, 36, 37, 1300, 1400, 1500, 1600, 1700, 1800, 2100] G24 G38 := hw37.2.1
            have hp41 := hw37.2.2
            have q42 : yOut G24 ((G 28) (x58_6.toInt).toNat).toInt (-1) ((G 30) (x58_6.toInt).toNat) y33 ((G 31) (x58_6.toInt).toNat) p3 p4 G38 r36.toInt := hp41.2.1
            have q43 : yOt ((G 28) (x58_6.toInt).toNat).toInt (G 3 0).toInt G24 G38 := by have h9 := hp41.2.2.1; (try simp only [(show G24 3 0 = (G 3 0) from (hU26 3 0 (by decide)).trans (jU58 3 0 (by decide)))] at h9); first | exact h9 | omega
            have q44 : ((-1 : Int) = -1 → G38 15 = G24 15 ∧ G38 16 = G24 16 ∧ G38 17 = G24 17 ∧ G38 18 = G24 18) := hp41.2.2.2
            have rg45 := hp41.1
            clear hp41 hw37
            refine g_istore F [(7, .int r36), (0, .ref (a 0)), (1, .int 2), (2, .int p1), (3, .int p2), (4, .int p3), (5, .int p4), (6, .int x58_6)] dX13_orderFrom_149 (by decide) rfl ?_
            refine g_aload_n F 1 dX13_orderFrom_151 rfl rfl ?_
            refine yg_0_51 F i_X13 w_5 dX13_orderFrom_152 ?_
            refine g_iload_n F 2 dX13_orderFrom_155 rfl rfl ?_
            refine g_iload F 7 dX13_orderFrom_156 rfl ?_
            refine u_iast F 32 0 yc_32 rfl 2 rfl (by decide) (by decide) (yW K a (gu_up G38 32 2 x58_6)) (ys_32 _) dX13_orderFrom_158 ?_
            refine g_iload F 0 dX13_orderFrom_159 rfl ?_
            refine v_if_ne F 189 dX13_orderFrom_161 (by decide) r36.toInt rfl (fun c46 => ?_) (fun c46 => ?_)
            · refine g_aload_n F 1 dX13_orderFrom_189 rfl rfl ?_
              refine u_callVv (k := 0) (n := 0) (b := a 0) (As := []) (st := []) F (fun sz => S_X13_putBack l D K a (gu_up G38 32 2 x58_6)  (by have e9_0_32 : (gu_up G38 32 2 x58_6) 0 32 = (G24 0 32) := hU40 0 32 (by decide); (try simp only [e9_0_32, true_and, and_true]) <;> (first | omega | (simp only [Int32.reduceToInt, true_and, and_true, ne_eq, not_true_eq_false, false_and, or_false, false_or, true_or, or_true, false_implies] <;> omega))) (gu_I.up (j := 32) (k := 2) (v := x58_6) hI39 (ti_rng _).1 (ti_rng _).2) sz) (cwV 0 hts gX13_orderFrom_X13_putBack rfl rfl rfl (by decide +kernel) ⟨Nat.le_of_ble_eq_true rfl, Nat.le_of_ble_eq_true rfl⟩) rfl 0 yc_0 rfl (Nat.le_of_ble_eq_true rfl) ⟨Nat.zero_le _, Nat.zero_le _⟩ dX13_orderFrom_190 (fun G49 hw48 => ?_)
              have hI50 : yI G49 := hw48.1
              have hU51 : gu_un ycd [29, 33, 1400] (gu_up G38 32 2 x58_6) G49 := hw48.2.1
              have hp52 := hw48.2.2
              have b53 : (0 : Int) ≤ (G49 0 32).toInt ∧ (G49 0 32).toInt ≤ 7 := hI50 0 32
              have q54 : ((G49 0 32).toInt = (G24 0 32).toInt - 1) := by have h9 := hp52.1; (try simp only [(show (gu_up G38 32 2 x58_6) 0 32 = (G24 0 32) from hU40 0 32 (by decide))] at h9); first | exact h9 | omega
              have q55 : ((∀ q : Nat, q < 96 → G49 14 q = (G24 19) (96 * ((G24 0 32).toInt - 1) + (q : Int)).toNat) ∧ G49 0 28 = (G24 20) ((G24 0 32).toInt - 1).toNat) := by have h9 := hp52.2.1; (try simp only [(show (gu_up G38 32 2 x58_6) 0 32 = (G24 0 32) from hU40 0 32 (by decide)), (show (gu_up G38 32 2 x58_6) 0 32 = (G24 0 32) from hU40 0 32 (by decide)), (show (gu_up G38 32 2 x58_6) 19 = (G24 19) from (show G38 19 = G24 19 from funext fun k_ => hU40 19 k_ (show (1900 : Nat) ∉ ([29, 36, 37, 1300, 1400, 1500, 1600, 1700, 1800, 2100] : List Nat) by decide))), (show (gu_up G38 32 2 x58_6) 20 = (G24 20) from (show G38 20 = G24 20 from funext fun k_ => hU40 20 k_ (show (2000 : Nat) ∉ ([29, 36, 37, 1300, 1400, 1500, 1600, 1700, 1800, 2100] : List Nat) by decide)))] at h9); first | exact h9 | omega
              have q56 : ((G49 15 = (gu_up G38 32 2 x58_6) 15 ∧ G49 16 = (gu_up G38 32 2 x58_6) 16 ∧ G49 17 = (gu_up G38 32 2 x58_6) 17 ∧ G49 18 = (gu_up G38 32 2 x58_6) 18) ∧ G49 19 = (gu_up G38 32 2 x58_6) 19 ∧ G49 20 = (gu_up G38 32 2 x58_6) 20) := hp52.2.2
              have bk57 : yNh Gj58 G49 := yNh.back (G := G24) (d := (Gj58 0 32).toInt) (yNd.by q30.1 q30.2 q31.1 (by omega)) (yKe.by q30.1 q30.2 (by omega)) rfl (fun q hq => by have h9 := q55.1 q hq; rw [show (G24 0 32).toInt - 1 = (Gj58 0 32).toInt by omega] at h9; exact h9) (by have h9 := q55.2; rw [show (G24 0 32).toInt - 1 = (Gj58 0 32).toInt by omega] at h9; exact h9) (yNd.tr (yNd.tr (yNd.tr yNd.rf (show yNd _ G24 G38 from (yNd.go (q44 rfl) hU40 rfl)) (Int.le_refl _)) (yNd.un (show gu_un ycd [3200] G38 (gu_up G38 32 2 x58_6) from (gu_un.up (j := 32) (k := 2) (v := x58_6) gu_un.rf (show (3200 : Nat) ∈ ([3200] : List Nat) by decide))) rfl) (Int.le_refl _)) (yNd.pl q56) (Int.le_refl _)) (by omega)
              clear hp52 hw48
              refine g_locals [(0, .ref (a 0)), (1, .int 2), (2, .int p1), (3, .int p2), (4, .int p3), (5, .int p4), (6, .int x58_6)] [1, 2, 3, 4, 5, 6, 7] rfl ?_
              exact J_193 G49 (by have h9 := ti_rng x58_6; omega) hI50 (gu_un.tr (gu_un.up (j := 32) (k := 2) (v := x58_6) (gu_un.tr (gu_un.tr gu_un.rf (gu_un.su hU26 rfl)) (gu_un.su hU40 rfl)) (show (3200 : Nat) ∈ ([29, 33, 36, 37, 47, 1300, 1400, 1500, 1600, 1700, 1800, 1900, 2000, 2100, 3200, 3300] : List Nat) by decide)) (gu_un.su hU51 rfl)) (by (first | omega | (simp only [Int32.reduceToInt, true_and, and_true, ne_eq, not_true_eq_false, false_and, or_false, false_or, true_or, or_true, false_implies] <;> omega))) (by have e9_0_45 : G49 0 45 = (G 0 45) := (hU51 0 45 (by decide)).trans ((hU40 0 45 (by decide)).trans ((hU26 0 45 (by decide)).trans (jU58 0 45 (by decide)))); (try simp only [e9_0_45, true_and, and_true]) <;> (first | omega | (simp only [Int32.reduceToInt, true_and, and_true, ne_eq, not_true_eq_false, false_and, or_false, false_or, true_or, or_true, false_implies] <;> omega))) ((yNh.tr (show yNh G Gj58 from nh58) (show yNh Gj58 G49 from bk57)))
            · refine g_aload_n F 1 dX13_orderFrom_164 rfl rfl ?_
              refine g_iload_n F 2 dX13_orderFrom_165 rfl rfl ?_
              refine g_iconst F 1 dX13_orderFrom_166 (by decide) ?_
              refine g_iadd F dX13_orderFrom_167 ?_
              refine g_fold 3 (by decide) ?_
              refine g_iload_n F 3 dX13_orderFrom_168 rfl rfl ?_
              refine g_iconst F 1 dX13_orderFrom_169 (by decide) ?_
              refine g_iload F 7 dX13_orderFrom_170 rfl ?_
              refine u0_ishl F dX13_orderFrom_172 (fun y58 => ?_)
              refine u0_ior F dX13_orderFrom_173 (fun y59 => ?_)
              refine g_iload_n F 4 dX13_orderFrom_174 rfl rfl ?_
              refine g_aload_n F 1 dX13_orderFrom_175 rfl rfl ?_
              refine yg_0_33 F i_X13 w_6 dX13_orderFrom_176 ?_
              refine g_iconst F 0 dX13_orderFrom_179 (by decide) ?_
              refine u1_iald F 21 0 yc_21 rfl 0 rfl (by decide) (by decide) dX13_orderFrom_180 (G38 21 0) (rfl) ?_
              refine u0_iadd F dX13_orderFrom_181 (fun y60 => ?_)
              refine g_iload F 5 dX13_orderFrom_182 rfl ?_
              refine g_iload F 6 dX13_orderFrom_184 rfl ?_
              refine u_callVv (k := 0) (n := 0) (b := a 0) (As := [.int 3, .int y59, .int y60, .int p3, .int p4]) (st := []) F (fun sz => S_X13_orderFrom_v3 l D K a (gu_up G38 32 2 x58_6) y59 y59.toInt y60 y60.toInt p3 s3 p4 s4 rfl rfl e3 (by omega) e4 (by omega) (yW3.un wf (show gu_un ycd [29, 33, 36, 37, 47, 1300, 1400, 1500, 1600, 1700, 1800, 1900, 2000, 2100, 3200, 3300] G (gu_up G38 32 2 x58_6) from (gu_un.up (j := 32) (k := 2) (v := x58_6) (gu_un.tr (gu_un.tr (gu_un.tr gu_un.rf (gu_un.su jU58 rfl)) (gu_un.su hU26 rfl)) (gu_un.su hU40 rfl)) (show (3200 : Nat) ∈ ([29, 33, 36, 37, 47, 1300, 1400, 1500, 1600, 1700, 1800, 1900, 2000, 2100, 3200, 3300] : List Nat) by decide))) rfl) (by have e9_0_32 : (gu_up G38 32 2 x58_6) 0 32 = (G24 0 32) := hU40 0 32 (by decide); have e9_0_45 : (gu_up G38 32 2 x58_6) 0 45 = (G 0 45) := (hU40 0 45 (by decide)).trans ((hU26 0 45 (by decide)).trans (jU58 0 45 (by decide))); (try simp only [e9_0_32, e9_0_45, true_and, and_true]) <;> (first | omega | (simp only [Int32.reduceToInt, true_and, and_true, ne_eq, not_true_eq_false, false_and, or_false, false_or, true_or, or_true, false_implies] <;> omega))) (gu_I.up (j := 32) (k := 2) (v := x58_6) hI39 (ti_rng _).1 (ti_rng _).2) sz) (cwV 5 hts gX13_orderFrom_X13_orderFrom rfl rfl rfl (by decide +kernel) ⟨Nat.le_of_ble_eq_true rfl, Nat.le_of_ble_eq_true rfl⟩) rfl 0 yc_0 rfl (Nat.le_of_ble_eq_true rfl) ⟨Nat.zero_le _, Nat.zero_le _⟩ dX13_orderFrom_186 (fun G63 hw62 => ?_)
              have hI64 : yI G63 := hw62.1
              have hU65 : gu_un ycd [29, 33, 36, 37, 47, 1300, 1400, 1500, 1600, 1700, 1800, 1900, 2000, 2100, 3200, 3300] (gu_up G38 32 2 x58_6) G63 := hw62.2.1
              have hp66 := hw62.2.2
              have q67 : yNh (gu_up G38 32 2 x58_6) G63 := hp66.1
              have b68 : (0 : Int) ≤ (G63 0 32).toInt ∧ (G63 0 32).toInt ≤ 7 := hI64 0 32
              have q69 : ((G63 0 32).toInt = (G24 0 32).toInt) := by have h9 := hp66.2; (try simp only [(show (gu_up G38 32 2 x58_6) 0 32 = (G24 0 32) from hU40 0 32 (by decide))] at h9); first | exact h9 | omega
              clear hp66 hw62
              refine g_aload_n F 1 dX13_orderFrom_189 rfl rfl ?_
              refine u_callVv (k := 0) (n := 0) (b := a 0) (As := []) (st := []) F (fun sz => S_X13_putBack l D K a G63  (by (first | omega | (simp only [Int32.reduceToInt, true_and, and_true, ne_eq, not_true_eq_false, false_and, or_false, false_or, true_or, or_true, false_implies] <;> omega))) hI64 sz) (cwV 0 hts gX13_orderFrom_X13_putBack rfl rfl rfl (by decide +kernel) ⟨Nat.le_of_ble_eq_true rfl, Nat.le_of_ble_eq_true rfl⟩) rfl 0 yc_0 rfl (Nat.le_of_ble_eq_true rfl) ⟨Nat.zero_le _, Nat.zero_le _⟩ dX13_orderFrom_190 (fun G72 hw71 => ?_)
              have hI73 : yI G72 := hw71.1
              have hU74 : gu_un ycd [29, 33, 1400] G63 G72 := hw71.2.1
              have hp75 := hw71.2.2
              have b76 : (0 : Int) ≤ (G72 0 32).toInt ∧ (G72 0 32).toInt ≤ 7 := hI73 0 32
              have q77 : ((G72 0 32).toInt = (G63 0 32).toInt - 1) := hp75.1
              have q78 : ((∀ q : Nat, q < 96 → G72 14 q = (G63 19) (96 * ((G63 0 32).toInt - 1) + (q : Int)).toNat) ∧ G72 0 28 = (G63 20) ((G63 0 32).toInt - 1).toNat) := hp75.2.1
              have q79 : ((G72 15 = G63 15 ∧ G72 16 = G63 16 ∧ G72 17 = G63 17 ∧ G72 18 = G63 18) ∧ G72 19 = G63 19 ∧ G72 20 = G63 20) := hp75.2.2
              have bk80 : yNh Gj58 G72 := yNh.back (G := G63) (d := (Gj58 0 32).toInt) (yNd.tr (yNd.by q30.1 q30.2 q31.1 (by omega)) (yNd.tr (yNd.tr (yNd.tr yNd.rf (show yNd _ G24 G38 from (yNd.go (q44 rfl) hU40 rfl)) (Int.le_refl _)) (yNd.un (show gu_un ycd [3200] G38 (gu_up G38 32 2 x58_6) from (gu_un.up (j := 32) (k := 2) (v := x58_6) gu_un.rf (show (3200 : Nat) ∈ ([3200] : List Nat) by decide))) rfl) (Int.le_refl _)) (show yNd _ (gu_up G38 32 2 x58_6) G63 from (yNd.le (yNh.nd q67) (by have e9 : (gu_up G38 32 2 x58_6) 0 32 = (G24 0 32) := hU40 0 32 (by decide); rw [e9]; omega))) (Int.le_refl _)) (Int.le_refl _)) (yKe.nd (d' := (Gj58 0 32).toInt + 1) (yKe.by q30.1 q30.2 (by omega)) (yNd.tr (yNd.tr (yNd.tr yNd.rf (show yNd _ G24 G38 from (yNd.go (q44 rfl) hU40 rfl)) (Int.le_refl _)) (yNd.un (show gu_un ycd [3200] G38 (gu_up G38 32 2 x58_6) from (gu_un.up (j := 32) (k := 2) (v := x58_6) gu_un.rf (show (3200 : Nat) ∈ ([3200] : List Nat) by decide))) rfl) (Int.le_refl _)) (show yNd _ (gu_up G38 32 2 x58_6) G63 from (yNd.le (yNh.nd q67) (by have e9 : (gu_up G38 32 2 x58_6) 0 32 = (G24 0 32) := hU40 0 32 (by decide); rw [e9]; omega))) (Int.le_refl _)) (by omega) (by omega)) rfl (fun q hq => by have h9 := q78.1 q hq; rw [show (G63 0 32).toInt - 1 = (Gj58 0 32).toInt by omega] at h9; exact h9) (by have h9 := q78.2; rw [show (G63 0 32).toInt - 1 = (Gj58 0 32).toInt by omega] at h9; exact h9) (yNd.tr yNd.rf (yNd.pl q79) (Int.le_refl _)) (by omega)
              clear hp75 hw71
              refine g_locals [(0, .ref (a 0)), (1, .int 2), (2, .int p1), (3, .int p2), (4, .int p3), (5, .int p4), (6, .int x58_6)] [1, 2, 3, 4, 5, 6, 7] rfl ?_
              exact J_193 G72 (by have h9 := ti_rng x58_6; omega) hI73 (gu_un.tr (gu_un.tr (gu_un.up (j := 32) (k := 2) (v := x58_6) (gu_un.tr (gu_un.tr gu_un.rf (gu_un.su hU26 rfl)) (gu_un.su hU40 rfl)) (show (3200 : Nat) ∈ ([29, 33, 36, 37, 47, 1300, 1400, 1500, 1600, 1700, 1800, 1900, 2000, 2100, 3200, 3300] : List Nat) by decide)) (gu_un.su hU65 rfl)) (gu_un.su hU74 rfl)) (by (first | omega | (simp only [Int32.reduceToInt, true_and, and_true, ne_eq, not_true_eq_false, false_and, or_false, false_or, true_or, or_true, false_implies] <;> omega))) (by have e9_0_45 : G72 0 45 = (G 0 45) := (hU74 0 45 (by decide)).trans ((hU65 0 45 (by decide)).trans ((hU40 0 45 (by decide)).trans ((hU26 0 45 (by decide)).trans (jU58 0 45 (by decide))))); (try simp only [e9_0_45, true_and, and_true]) <;> (first | omega | (simp only [Int32.reduceToInt, true_and, and_true, ne_eq, not_true_eq_false, false_and, or_false, false_or, true_or, or_true, false_implies] <;> omega))) ((yNh.tr (show yNh G Gj58 from nh58) (show yNh Gj58 G72 from bk80)))
          · have q19 : (psMx (psHr (Gj58 14) ((G 28) (x58_6.toInt).toNat).toInt (G 3 0).toInt) ((G 3 0).toInt - 1).toNat - ((G 30) (x58_6.toInt).toNat).toInt * ((G 31) (x58_6.toInt).toNat).toInt < 1) := by have h9 := q19; (try simp only [(show Gj58 3 0 = (G 3 0) from jU58 3 0 (by decide)), (show Gj58 3 0 = (G 3 0) from jU58 3 0 (by decide))] at h9); exact h9
            refine v_if_ne F 108 dX13_orderFrom_102 (by decide) 0 rfl (fun c81 => absurd c81 (by decide)) (fun c81 => ?_)
            refine g_goto F 193 dX13_orderFrom_105 (by decide) ?_
            have b82 : (0 : Int) ≤ (Gj58 0 32).toInt ∧ (Gj58 0 32).toInt ≤ 7 := jI58 0 32
            exact J_193 Gj58 (by have h9 := ti_rng x58_6; omega) jI58 gu_un.rf (by (first | omega | (simp only [Int32.reduceToInt, true_and, and_true, ne_eq, not_true_eq_false, false_and, or_false, false_or, true_or, or_true, false_implies] <;> omega))) (by have e9_0_45 : Gj58 0 45 = (G 0 45) := jU58 0 45 (by decide); (try simp only [e9_0_45, true_and, and_true]) <;> (first | omega | (simp only [Int32.reduceToInt, true_and, and_true, ne_eq, not_true_eq_false, false_and, or_false, false_or, true_or, or_true, false_implies] <;> omega))) (nh58)
  have J_25 : ∀ (fuel : Nat) (x25_6 : Int32) (Gj25 : gS), (2147483647 - x25_6.toInt).toNat < fuel → (0 ≤ x25_6.toInt ∧ x25_6.toInt ≤ 5) → (yI Gj25) → (gu_un ycd [47, 3300] G Gj25) → (((G 0 32).toInt = (G 0 32).toInt)) → gG p l e (gR 8 0 0 231) s m args below meth c D A 8 Q 0 0 (yW K a Gj25) (tK K) [(0, .ref (a 0)), (6, .int x25_6)] 25 [] := by
    intro fuel
    induction fuel with
    | zero => intro x25_6 Gj25 hm; exact absurd hm (Nat.not_lt_zero _)
    | succ fuel_25 ih_25 =>
      intro x25_6 Gj25 hm_25 h25_6 jI25 jU25 dc_25
      refine g_iload F 1 dX13_orderFrom_25 rfl ?_
      refine g_aload_n F 0 dX13_orderFrom_27 rfl rfl ?_
      refine yg_0_45 F i_X13 w_0 dX13_orderFrom_28 (G 0 45) (jU25 0 45 (by decide)) ?_
      refine v_icmp_ge F 54 dX13_orderFrom_31 (by decide) x25_6.toInt (G 0 45).toInt rfl rfl (fun c83 => ?_) (fun c83 => ?_)
      · exact u_vret F hA hQ hr Gj25 (⟨jI25, (gu_un.tr gu_un.rf (gu_un.su jU25 rfl)), ((yNh.tr (show yNh G G from yNh.rf) (show yNh G Gj25 from (yNh.un jU25 rfl)))), (by show ((Gj25 0 32).toInt = (G 0 32).toInt); have e9_0_32 : Gj25 0 32 = (G 0 32) := jU25 0 32 (by decide); (try simp only [e9_0_32, true_and, and_true]) <;> (first | omega | (simp only [Int32.reduceToInt, true_and, and_true, ne_eq, not_true_eq_false, false_and, or_false, false_or, true_or, or_true, false_implies] <;> omega)))⟩) rfl rfl dX13_orderFrom_54
      · refine g_aload_n F 0 dX13_orderFrom_34 rfl rfl ?_
        refine yg_0_52 F i_X13 w_7 dX13_orderFrom_35 ?_
        refine g_iload F 1 dX13_orderFrom_38 rfl ?_
        refine g_aload_n F 0 dX13_orderFrom_40 rfl rfl ?_
        refine yg_0_51 F i_X13 w_5 dX13_orderFrom_41 ?_
        refine g_iload F 1 dX13_orderFrom_44 rfl ?_
        refine u_iald F 32 0 yc_32 rfl x25_6.toInt rfl (by omega) (by omega) dX13_orderFrom_46 (fun _ => True) (fun _ => trivial) (fun y84 by84 => ?_)
        refine u_iast F 33 0 yc_33 rfl x25_6.toInt rfl (by omega) (by omega) (yW K a (gu_up Gj25 33 (x25_6.toInt).toNat y84)) (ys_33 _) dX13_orderFrom_47 ?_
        refine u_iinc F (fun v_ => [(6, .int v_), (0, .ref (a 0))]) dX13_orderFrom_48 (j := 1) rfl x25_6.toInt 1 rfl rfl (by omega) (by omega) (by decide) (fun _ => rfl) (fun y85 ey85 => ?_)
        refine g_goto F 25 dX13_orderFrom_51 (by decide) ?_
        refine g_locals [(0, .ref (a 0)), (6, .int y85)] [1, 0] rfl ?_
        exact ih_25 y85 (gu_up Gj25 33 (x25_6.toInt).toNat y84) (by omega) (by have h9 := ti_rng y85; omega) (gu_I.up (j := 33) (k := (x25_6.toInt).toNat) (v := y84) jI25 (ti_rng _).1 (ti_rng _).2) (gu_un.up (j := 33) (k := (x25_6.toInt).toNat) (v := y84) (gu_un.tr gu_un.rf (gu_un.su jU25 rfl)) (show (3300 : Nat) ∈ ([47, 3300] : List Nat) by decide)) (by have e9_0_32 : (gu_up Gj25 33 (x25_6.toInt).toNat y84) 0 32 = (G 0 32) := jU25 0 32 (by decide); (try simp only [e9_0_32, true_and, and_true]) <;> (first | omega | (simp only [Int32.reduceToInt, true_and, and_true, ne_eq, not_true_eq_false, false_and, or_false, false_or, true_or, or_true, false_implies] <;> omega)))
  refine g_iload_n F 1 dX13_orderFrom_0 rfl rfl ?_
  refine g_aload_n F 0 dX13_orderFrom_1 rfl rfl ?_
  refine yg_0_45 F i_X13 w_0 dX13_orderFrom_2 (G 0 45) (rfl) ?_
  refine v_icmp_ne F 55 dX13_orderFrom_5 (by decide) 2 (G 0 45).toInt rfl rfl (fun c86 => ?_) (fun c86 => ?_)
  · refine g_iconst F 0 dX13_orderFrom_55 (by decide) ?_
    refine g_istore F [(6, .int 0), (0, .ref (a 0)), (1, .int 2), (2, .int p1), (3, .int p2), (4, .int p3), (5, .int p4)] dX13_orderFrom_56 (by decide) rfl ?_
    refine g_locals [(0, .ref (a 0)), (1, .int 2), (2, .int p1), (3, .int p2), (4, .int p3), (5, .int p4), (6, .int 0)] [1, 2, 3, 4, 5, 6, 0] rfl ?_
    exact J_58 _ 0 G (Nat.lt_succ_self _) (by decide) hI gu_un.rf (by (first | omega | (simp only [Int32.reduceToInt, true_and, and_true, ne_eq, not_true_eq_false, false_and, or_false, false_or, true_or, or_true, false_implies] <;> omega))) (by (first | omega | (simp only [Int32.reduceToInt, true_and, and_true, ne_eq, not_true_eq_false, false_and, or_false, false_or, true_or, or_true, false_implies] <;> omega))) (yNh.rf)
  · refine g_iload_n F 3 dX13_orderFrom_8 rfl rfl ?_
    refine g_aload_n F 0 dX13_orderFrom_9 rfl rfl ?_
    refine yg_0_46 F i_X13 w_8 dX13_orderFrom_10 (G 0 46) (rfl) ?_
    have b87 := ti_rng (G 0 46)
    refine v_icmp_lt F 17 dX13_orderFrom_13 (by decide) s2 (G 0 46).toInt e2 rfl (fun c88 => ?_) (fun c88 => ?_)
    · refine g_aload_n F 0 dX13_orderFrom_17 rfl rfl ?_
      refine g_iload_n F 3 dX13_orderFrom_18 rfl rfl ?_
      refine yp_0_46 F i_X13 w_8 dX13_orderFrom_19 ?_
      refine g_iconst F 0 dX13_orderFrom_22 (by decide) ?_
      refine g_istore F [(6, .int 0), (0, .ref (a 0)), (1, .int 2), (2, .int p1), (3, .int p2), (4, .int p3), (5, .int p4)] dX13_orderFrom_23 (by decide) rfl ?_
      refine g_locals [(0, .ref (a 0)), (6, .int 0)] [1, 0] rfl ?_
      exact J_25 _ 0 (gu_up G 0 46 p2) (Nat.lt_succ_self _) (by decide) (gu_I.up (j := 0) (k := 46) (v := p2) hI (ti_rng _).1 (ti_rng _).2) (gu_un.up (j := 0) (k := 46) (v := p2) gu_un.rf (show (47 : Nat) ∈ ([47, 3300] : List Nat) by decide)) (by have e9_0_32 : (gu_up G 0 46 p2) 0 32 = (G 0 32) := rfl; (try simp only [e9_0_32, true_and, and_true]) <;> (first | omega | (simp only [Int32.reduceToInt, true_and, and_true, ne_eq, not_true_eq_false, false_and, or_false, false_or, true_or, or_true, false_implies] <;> omega)))
    · exact u_vret F hA hQ hr G (⟨hI, gu_un.rf, (yNh.rf), (by show ((G 0 32).toInt = (G 0 32).toInt); (first | omega | (simp only [Int32.reduceToInt, true_and, and_true, ne_eq, not_true_eq_false, false_and, or_false, false_or, true_or, or_true, false_implies] <;> omega)))⟩) rfl rfl dX13_orderFrom_16


set_option maxHeartbeats 4000000 in
set_option maxRecDepth 100000 in
theorem S_X13_orderFrom_v1 (l : Launch) (D : va_G) (K : Nat → ClassId) (a : Nat → Nat) (G : gS) (p1 : Int32) (s1 : Int) (p2 : Int32) (s2 : Int) (p3 : Int32) (s3 : Int) (p4 : Int32) (s4 : Int) (e1 : p1.toInt = s1) (e2 : p2.toInt = s2) (e3 : p3.toInt = s3) (h3 : 0 ≤ s3 ∧ s3 ≤ 300) (e4 : p4.toInt = s4) (h4 : 0 ≤ s4 ∧ s4 ≤ 300) (wf : yW3 G) (nj : (1 ≤ (G 0 45).toInt ∧ (G 0 32).toInt = 1)) (hI : yI G) (sz : Nat) : Kv l yX13_orderFrom wsX13_orderFrom 9 258 0 0 D [.ref (a 0), .int 1, .int p1, .int p2, .int p3, .int p4] (yW K a G) (tK K) sz (fun (G' : gS) => (yI G') ∧ (gu_un ycd [29, 33, 36, 37, 47, 1300, 1400, 1500, 1600, 1700, 1800, 1900, 2000, 2100, 3200, 3300] G G') ∧ (yNh G G') ∧ (((G' 0 32).toInt = (G 0 32).toInt))) (fun (G' : gS) => (yW K a G')) (fun _ => (tK K)) := by
  unfold Kv
  refine g_ofW (cc := cX13_orderFrom) (lv := [(0, .ref (a 0)), (1, .int 1), (2, .int p1), (3, .int p2), (4, .int p3), (5, .int p4)]) (by decide) rfl (Nat.le_of_ble_eq_true rfl) rfl ?_
  intro p e s m args below meth c A Q hA hQ F hr hnm
  have hts := F.2.2.2.2.1
  have w_0 : (Cond.fieldLink RX13 331 "QuietCutModel" "jobs" "I").before args s = true := hts _ (List.mem_of_getElem? (i := 1) rfl)
  have i_X13 : ∀ w ∈ u_ws RX13 TX13 73, w ∈ wsX13_orderFrom := fun _ h => List.mem_cons_of_mem _ (List.mem_append_right _ h)
  have w_1 : (Cond.fieldLink RX13 256 "QuietCutModel" "jobRing" "[I").before args s = true := hts _ (List.mem_of_getElem? (i := 5) rfl)
  have w_2 : (Cond.fieldLink RX13 262 "QuietCutModel" "jobFeed" "[I").before args s = true := hts _ (List.mem_of_getElem? (i := 6) rfl)
  have w_3 : (Cond.fieldLink RX13 265 "QuietCutModel" "jobTurns" "[I").before args s = true := hts _ (List.mem_of_getElem? (i := 7) rfl)
  have w_4 : (Cond.fieldLink RX13 259 "QuietCutModel" "jobSpeed" "[I").before args s = true := hts _ (List.mem_of_getElem? (i := 8) rfl)
  have w_5 : (Cond.fieldLink RX13 268 "QuietCutModel" "orderRow" "[I").before args s = true := hts _ (List.mem_of_getElem? (i := 4) rfl)
  have w_6 : (Cond.fieldLink RX13 235 "QuietCutModel" "now" "[I").before args s = true := hts _ (List.mem_of_getElem? (i := 9) rfl)
  have w_7 : (Cond.fieldLink RX13 271 "QuietCutModel" "bestRow" "[I").before args s = true := hts _ (List.mem_of_getElem? (i := 3) rfl)
  have w_8 : (Cond.fieldLink RX13 493 "QuietCutModel" "orderBest" "I").before args s = true := hts _ (List.mem_of_getElem? (i := 2) rfl)
  have rg1 : -2147483648 ≤ s1 ∧ s1 ≤ 2147483647 := e1 ▸ ti_rng p1
  have rg2 : -2147483648 ≤ s2 ∧ s2 ≤ 2147483647 := e2 ▸ ti_rng p2
  have b1 : (0 : Int) ≤ (G 0 45).toInt ∧ (G 0 45).toInt ≤ 5 := hI 0 45
  have b2 : (0 : Int) ≤ (G 0 32).toInt ∧ (G 0 32).toInt ≤ 7 := hI 0 32
  have b3 : (4 : Int) ≤ (G 3 0).toInt ∧ (G 3 0).toInt ≤ 16 := hI 3 0
  have J_58 : ∀ (fuel : Nat) (x58_6 : Int32) (Gj58 : gS), (2147483647 - x58_6.toInt).toNat < fuel → (0 ≤ x58_6.toInt ∧ x58_6.toInt ≤ 5) → (yI Gj58) → (gu_un ycd [29, 33, 36, 37, 47, 1300, 1400, 1500, 1600, 1700, 1800, 1900, 2000, 2100, 3200, 3300] G Gj58) → (((Gj58 0 32).toInt = (G 0 32).toInt)) → ((1 < (G 0 45).toInt)) → (yNh G Gj58) → gG p l e (gR 9 0 0 258) s m args below meth c D A 8 Q 0 0 (yW K a Gj58) (tK K) [(0, .ref (a 0)), (1, .int 1), (2, .int p1), (3, .int p2), (4, .int p3), (5, .int p4), (6, .int x58_6)] 58 [] := by
    intro fuel
    induction fuel with
    | zero => intro x58_6 Gj58 hm; exact absurd hm (Nat.not_lt_zero _)
    | succ fuel_58 ih_58 =>
      intro x58_6 Gj58 hm_58 h58_6 jI58 jU58 dc_58 nl_58 nh58
      have J_193 : ∀  (Gj193 : gS), (0 ≤ x58_6.toInt ∧ x58_6.toInt ≤ 4) → (yI Gj193) → (gu_un ycd [29, 33, 36, 37, 47, 1300, 1400, 1500, 1600, 1700, 1800, 1900, 2000, 2100, 3200, 3300] Gj58 Gj193) → (((Gj193 0 32).toInt = (G 0 32).toInt)) → ((1 < (G 0 45).toInt)) → (yNh G Gj193) → gG p l e (gR 9 0 0 258) s m args below meth c D A 8 Q 0 0 (yW K a Gj193) (tK K) [(0, .ref (a 0)), (1, .int 1), (2, .int p1), (3, .int p2), (4, .int p3), (5, .int p4), (6, .int x58_6)] 193 [] := by
        intro Gj193 k193_6 jI193 jU193 dc_193 nl_193 nh193
        refine u_iinc F (fun v_ => [(6, .int v_), (0, .ref (a 0)), (1, .int 1), (2, .int p1), (3, .int p2), (4, .int p3), (5, .int p4)]) dX13_orderFrom_193 (j := 6) rfl x58_6.toInt 1 rfl rfl (by omega) (by omega) (by decide) (fun _ => rfl) (fun y4 ey4 => ?_)
        refine g_goto F 58 dX13_orderFrom_196 (by decide) ?_
        refine g_locals [(0, .ref (a 0)), (1, .int 1), (2, .int p1), (3, .int p2), (4, .int p3), (5, .int p4), (6, .int y4)] [1, 2, 3, 4, 5, 6, 0] rfl ?_
        have b5 : (0 : Int) ≤ (Gj193 0 32).toInt ∧ (Gj193 0 32).toInt ≤ 7 := jI193 0 32
        exact ih_58 y4 Gj193 (by omega) (by have h9 := ti_rng y4; omega) jI193 (gu_un.tr (gu_un.tr gu_un.rf (gu_un.su jU58 rfl)) (gu_un.su jU193 rfl)) (by (first | omega | (simp only [Int32.reduceToInt, true_and, and_true, ne_eq, not_true_eq_false, false_and, or_false, false_or, true_or, or_true, false_implies] <;> omega))) (by have e9_0_45 : Gj193 0 45 = (G 0 45) := (jU193 0 45 (by decide)).trans (jU58 0 45 (by decide)); (try simp only [e9_0_45, true_and, and_true]) <;> (first | omega | (simp only [Int32.reduceToInt, true_and, and_true, ne_eq, not_true_eq_false, false_and, or_false, false_or, true_or, or_true, false_implies] <;> omega))) (nh193)
      refine g_iload F 6 dX13_orderFrom_58 rfl ?_
      refine g_aload_n F 0 dX13_orderFrom_60 rfl rfl ?_
      refine yg_0_45 F i_X13 w_0 dX13_orderFrom_61 (G 0 45) (jU58 0 45 (by decide)) ?_
      refine v_icmp_ge F 199 dX13_orderFrom_64 (by decide) x58_6.toInt (G 0 45).toInt rfl rfl (fun c6 => ?_) (fun c6 => ?_)
      · have b7 : (0 : Int) ≤ (Gj58 0 32).toInt ∧ (Gj58 0 32).toInt ≤ 7 := jI58 0 32
        exact u_vret F hA hQ hr Gj58 (⟨jI58, (gu_un.tr gu_un.rf (gu_un.su jU58 rfl)), (nh58), (by show ((Gj58 0 32).toInt = (G 0 32).toInt); (first | omega | (simp only [Int32.reduceToInt, true_and, and_true, ne_eq, not_true_eq_false, false_and, or_false, false_or, true_or, or_true, false_implies] <;> omega)))⟩) rfl rfl dX13_orderFrom_199
      · refine g_iload_n F 2 dX13_orderFrom_67 rfl rfl ?_
        refine g_iload F 6 dX13_orderFrom_68 rfl ?_
        refine u0_ishr F dX13_orderFrom_70 (fun y8 => ?_)
        refine g_iconst F 1 dX13_orderFrom_71 (by decide) ?_
        refine u_iand F dX13_orderFrom_72 _ 1 rfl rfl (by omega) (fun y9 ey9 => ?_)
        refine g_iconst F 1 dX13_orderFrom_73 (by decide) ?_
        refine v_icmp_eq F 193 dX13_orderFrom_74 (by decide) y9.toInt 1 rfl rfl (fun c10 => ?_) (fun c10 => ?_)
        · have b11 : (0 : Int) ≤ (Gj58 0 32).toInt ∧ (Gj58 0 32).toInt ≤ 7 := jI58 0 32
          exact J_193 Gj58 (by have h9 := ti_rng x58_6; omega) jI58 gu_un.rf (by (first | omega | (simp only [Int32.reduceToInt, true_and, and_true, ne_eq, not_true_eq_false, false_and, or_false, false_or, true_or, or_true, false_implies] <;> omega))) (by have e9_0_45 : Gj58 0 45 = (G 0 45) := jU58 0 45 (by decide); (try simp only [e9_0_45, true_and, and_true]) <;> (first | omega | (simp only [Int32.reduceToInt, true_and, and_true, ne_eq, not_true_eq_false, false_and, or_false, false_or, true_or, or_true, false_implies] <;> omega))) (nh58)
        · refine g_aload_n F 0 dX13_orderFrom_77 rfl rfl ?_
          refine g_aload_n F 0 dX13_orderFrom_78 rfl rfl ?_
          refine yg_0_47 F i_X13 w_1 dX13_orderFrom_79 ?_
          refine g_iload F 6 dX13_orderFrom_82 rfl ?_
          refine u1_iald F 28 0 yc_28 rfl x58_6.toInt rfl (by omega) (by omega) dX13_orderFrom_84 ((G 28) (x58_6.toInt).toNat) (congrFun ((show Gj58 28 = G 28 from funext fun k_ => jU58 28 k_ (show (2800 : Nat) ∉ ([29, 33, 36, 37, 47, 1300, 1400, 1500, 1600, 1700, 1800, 1900, 2000, 2100, 3200, 3300] : List Nat) by decide))) _) ?_
          have b12 : (0 : Int) ≤ ((G 28) (x58_6.toInt).toNat).toInt ∧ ((G 28) (x58_6.toInt).toNat).toInt ≤ 5 := hI 28 _
          refine g_aload_n F 0 dX13_orderFrom_85 rfl rfl ?_
          refine yg_0_49 F i_X13 w_2 dX13_orderFrom_86 ?_
          refine g_iload F 6 dX13_orderFrom_89 rfl ?_
          refine u1_iald F 30 0 yc_30 rfl x58_6.toInt rfl (by omega) (by omega) dX13_orderFrom_91 ((G 30) (x58_6.toInt).toNat) (congrFun ((show Gj58 30 = G 30 from funext fun k_ => jU58 30 k_ (show (3000 : Nat) ∉ ([29, 33, 36, 37, 47, 1300, 1400, 1500, 1600, 1700, 1800, 1900, 2000, 2100, 3200, 3300] : List Nat) by decide))) _) ?_
          have b13 : (0 : Int) ≤ ((G 30) (x58_6.toInt).toNat).toInt ∧ ((G 30) (x58_6.toInt).toNat).toInt ≤ 20 := hI 30 _
          refine g_aload_n F 0 dX13_orderFrom_92 rfl rfl ?_
          refine yg_0_50 F i_X13 w_3 dX13_orderFrom_93 ?_
          refine g_iload F 6 dX13_orderFrom_96 rfl ?_
          refine u1_iald F 31 0 yc_31 rfl x58_6.toInt rfl (by omega) (by omega) dX13_orderFrom_98 ((G 31) (x58_6.toInt).toNat) (congrFun ((show Gj58 31 = G 31 from funext fun k_ => jU58 31 k_ (show (3100 : Nat) ∉ ([29, 33, 36, 37, 47, 1300, 1400, 1500, 1600, 1700, 1800, 1900, 2000, 2100, 3200, 3300] : List Nat) by decide))) _) ?_
          have b14 : (0 : Int) ≤ ((G 31) (x58_6.toInt).toNat).toInt ∧ ((G 31) (x58_6.toInt).toNat).toInt ≤ 12 := hI 31 _
          refine u_callVi (k := 0) (n := 0) (b := a 0) (As := [.int ((G 28) (x58_6.toInt).toNat), .int ((G 30) (x58_6.toInt).toNat), .int ((G 31) (x58_6.toInt).toNat)]) (st := []) F (fun sz => S_X13_canBe l D K a Gj58 ((G 28) (x58_6.toInt).toNat) ((G 28) (x58_6.toInt).toNat).toInt ((G 30) (x58_6.toInt).toNat) ((G 30) (x58_6.toInt).toNat).toInt ((G 31) (x58_6.toInt).toNat) ((G 31) (x58_6.toInt).toNat).toInt rfl (by omega) rfl (by omega) rfl (by omega) jI58 sz) (cwV 3 hts gX13_orderFrom_X13_canBe rfl rfl rfl (by decide +kernel) ⟨Nat.le_of_ble_eq_true rfl, Nat.le_of_ble_eq_true rfl⟩) rfl 0 yc_0 rfl (Nat.le_of_ble_eq_true rfl) ⟨Nat.zero_le _, Nat.zero_le _⟩ dX13_orderFrom_99 (fun r15 _ hw16 => ?_)
          rcases hw16 with ⟨rfl, q18⟩ | ⟨rfl, q19⟩
          · have q18 : (1 ≤ psMx (psHr (Gj58 14) ((G 28) (x58_6.toInt).toNat).toInt (G 3 0).toInt) ((G 3 0).toInt - 1).toNat - ((G 30) (x58_6.toInt).toNat).toInt * ((G 31) (x58_6.toInt).toNat).toInt) := by have h9 := q18; (try simp only [(show Gj58 3 0 = (G 3 0) from jU58 3 0 (by decide)), (show Gj58 3 0 = (G 3 0) from jU58 3 0 (by decide))] at h9); exact h9
            refine v_if_ne F 108 dX13_orderFrom_102 (by decide) 1 rfl (fun c20 => ?_) (fun c20 => absurd c20 (by decide))
            refine g_aload_n F 0 dX13_orderFrom_108 rfl rfl ?_
            have b21 : (0 : Int) ≤ (Gj58 0 32).toInt ∧ (Gj58 0 32).toInt ≤ 7 := jI58 0 32
            refine u_callVv (k := 0) (n := 0) (b := a 0) (As := []) (st := []) F (fun sz => S_X13_putBy l D K a Gj58  (by (first | omega | (simp only [Int32.reduceToInt, true_and, and_true, ne_eq, not_true_eq_false, false_and, or_false, false_or, true_or, or_true, false_implies] <;> omega))) jI58 sz) (cwV 0 hts gX13_orderFrom_X13_putBy rfl rfl rfl (by decide +kernel) ⟨Nat.le_of_ble_eq_true rfl, Nat.le_of_ble_eq_true rfl⟩) rfl 0 yc_0 rfl (Nat.le_of_ble_eq_true rfl) ⟨Nat.zero_le _, Nat.zero_le _⟩ dX13_orderFrom_109 (fun G24 hw23 => ?_)
            have hI25 : yI G24 := hw23.1
            have hU26 : gu_un ycd [33, 1900, 2000] Gj58 G24 := hw23.2.1
            have hp27 := hw23.2.2
            have b28 : (0 : Int) ≤ (G24 0 32).toInt ∧ (G24 0 32).toInt ≤ 7 := hI25 0 32
            have q29 : ((G24 0 32).toInt = (Gj58 0 32).toInt + 1) := hp27.1
            have q30 : ((∀ q : Nat, G24 19 q = sRow (Gj58 19) (Gj58 14) (96 * (Gj58 0 32).toInt) 96 q) ∧ G24 20 = upd (Gj58 20) ((Gj58 0 32).toInt).toNat (Gj58 0 28)) := hp27.2.1
            have q31 : ((G24 15 = Gj58 15 ∧ G24 16 = Gj58 16 ∧ G24 17 = Gj58 17 ∧ G24 18 = Gj58 18) ∧ G24 14 = Gj58 14 ∧ G24 0 28 = Gj58 0 28) := hp27.2.2
            clear hp27 hw23
            refine g_aload_n F 0 dX13_orderFrom_112 rfl rfl ?_
            refine g_aload_n F 0 dX13_orderFrom_113 rfl rfl ?_
            refine yg_0_47 F i_X13 w_1 dX13_orderFrom_114 ?_
            refine g_iload F 6 dX13_orderFrom_117 rfl ?_
            refine u1_iald F 28 0 yc_28 rfl x58_6.toInt rfl (by omega) (by omega) dX13_orderFrom_119 ((G 28) (x58_6.toInt).toNat) (congrFun ((show G24 28 = Gj58 28 from funext fun k_ => hU26 28 k_ (show (2800 : Nat) ∉ ([33, 1900, 2000] : List Nat) by decide)).trans ((show Gj58 28 = G 28 from funext fun k_ => jU58 28 k_ (show (2800 : Nat) ∉ ([29, 33, 36, 37, 47, 1300, 1400, 1500, 1600, 1700, 1800, 1900, 2000, 2100, 3200, 3300] : List Nat) by decide)))) _) ?_
            have b32 : (0 : Int) ≤ ((G 28) (x58_6.toInt).toNat).toInt ∧ ((G 28) (x58_6.toInt).toNat).toInt ≤ 5 := hI 28 _
            refine g_aload_n F 0 dX13_orderFrom_120 rfl rfl ?_
            refine yg_0_48 F i_X13 w_4 dX13_orderFrom_121 ?_
            refine g_iload F 6 dX13_orderFrom_124 rfl ?_
            refine u_iald F 29 0 yc_29 rfl x58_6.toInt rfl (by omega) (by omega) dX13_orderFrom_126 (fun z => (0 : Int) ≤ z.toInt ∧ z.toInt ≤ 9) (fun k_ => hI25 29 k_) (fun y33 by33 => ?_)
            refine g_aload_n F 0 dX13_orderFrom_127 rfl rfl ?_
            refine yg_0_49 F i_X13 w_2 dX13_orderFrom_128 ?_
            refine g_iload F 6 dX13_orderFrom_131 rfl ?_
            refine u1_iald F 30 0 yc_30 rfl x58_6.toInt rfl (by omega) (by omega) dX13_orderFrom_133 ((G 30) (x58_6.toInt).toNat) (congrFun ((show G24 30 = Gj58 30 from funext fun k_ => hU26 30 k_ (show (3000 : Nat) ∉ ([33, 1900, 2000] : List Nat) by decide)).trans ((show Gj58 30 = G 30 from funext fun k_ => jU58 30 k_ (show (3000 : Nat) ∉ ([29, 33, 36, 37, 47, 1300, 1400, 1500, 1600, 1700, 1800, 1900, 2000, 2100, 3200, 3300] : List Nat) by decide)))) _) ?_
            have b34 : (0 : Int) ≤ ((G 30) (x58_6.toInt).toNat).toInt ∧ ((G 30) (x58_6.toInt).toNat).toInt ≤ 20 := hI 30 _
            refine g_aload_n F 0 dX13_orderFrom_134 rfl rfl ?_
            refine yg_0_50 F i_X13 w_3 dX13_orderFrom_135 ?_
            refine g_iload F 6 dX13_orderFrom_138 rfl ?_
            refine u1_iald F 31 0 yc_31 rfl x58_6.toInt rfl (by omega) (by omega) dX13_orderFrom_140 ((G 31) (x58_6.toInt).toNat) (congrFun ((show G24 31 = Gj58 31 from funext fun k_ => hU26 31 k_ (show (3100 : Nat) ∉ ([33, 1900, 2000] : List Nat) by decide)).trans ((show Gj58 31 = G 31 from funext fun k_ => jU58 31 k_ (show (3100 : Nat) ∉ ([29, 33, 36, 37, 47, 1300, 1400, 1500, 1600, 1700, 1800, 1900, 2000, 2100, 3200, 3300] : List Nat) by decide)))) _) ?_
            have b35 : (0 : Int) ≤ ((G 31) (x58_6.toInt).toNat).toInt ∧ ((G 31) (x58_6.toInt).toNat).toInt ≤ 12 := hI 31 _
            refine g_iload F 4 dX13_orderFrom_141 rfl ?_
            refine g_iload F 5 dX13_orderFrom_143 rfl ?_
            refine g_iconst F (-1) dX13_orderFrom_145 (by decide) ?_
            refine u_callVi (k := 0) (n := 0) (b := a 0) (As := [.int ((G 28) (x58_6.toInt).toNat), .int y33, .int ((G 30) (x58_6.toInt).toNat), .int ((G 31) (x58_6.toInt).toNat), .int p3, .int p4, .int (-1)]) (st := []) F (fun sz => S_X13_go l D K a G24 ((G 28) (x58_6.toInt).toNat) ((G 28) (x58_6.toInt).toNat).toInt y33 y33.toInt ((G 30) (x58_6.toInt).toNat) ((G 30) (x58_6.toInt).toNat).toInt ((G 31) (x58_6.toInt).toNat) ((G 31) (x58_6.toInt).toNat).toInt p3 s3 p4 s4 (-1) (-1) rfl (by omega) rfl (by omega) rfl (by omega) rfl (by omega) e3 (by omega) e4 (by omega) rfl (yW3.un wf (show gu_un ycd [29, 33, 36, 37, 47, 1300, 1400, 1500, 1600, 1700, 1800, 1900, 2000, 2100, 3200, 3300] G G24 from (gu_un.tr (gu_un.tr gu_un.rf (gu_un.su jU58 rfl)) (gu_un.su hU26 rfl))) rfl) (by rw [show G24 14 = Gj58 14 from q31.2.1, (show G24 3 0 = G 3 0 from (show gu_un ycd [29, 33, 36, 37, 47, 1300, 1400, 1500, 1600, 1700, 1800, 1900, 2000, 2100, 3200, 3300] G G24 from (gu_un.tr (gu_un.tr gu_un.rf (gu_un.su jU58 rfl)) (gu_un.su hU26 rfl))) 3 0 (by decide))]; omega) hI25 sz) (cwV 7 hts gX13_orderFrom_X13_go rfl rfl rfl (by decide +kernel) ⟨Nat.le_of_ble_eq_true rfl, Nat.le_of_ble_eq_true rfl⟩) rfl 0 yc_0 rfl (Nat.le_of_ble_eq_true rfl) ⟨Nat.zero_le _, Nat.zero_le _⟩ dX13_orderFrom_146 (fun r36 G38 hw37 => ?_)
            have hI39 : yI G38 := hw37.1
            have hU40 : gu_un ycd [29, 36, 37, 1300, 1400, 1500, 1600, 1700, 1800, 2100] G24 G38 := hw37.2.1
            have hp41 := hw37.2.2
            have q42 : yOut G24 ((G 28) (x58_6.toInt).toNat).toInt (-1) ((G 30) (x58_6.toInt).toNat) y33 ((G 31) (x58_6.toInt).toNat) p3 p4 G38 r36.toInt := hp41.2.1
            have q43 : yOt ((G 28) (x58_6.toInt).toNat).toInt (G 3 0).toInt G24 G38 := by have h9 := hp41.2.2.1; (try simp only [(show G24 3 0 = (G 3 0) from (hU26 3 0 (by decide)).trans (jU58 3 0 (by decide)))] at h9); first | exact h9 | omega
            have q44 : ((-1 : Int) = -1 → G38 15 = G24 15 ∧ G38 16 = G24 16 ∧ G38 17 = G24 17 ∧ G38 18 = G24 18) := hp41.2.2.2
            have rg45 := hp41.1
            clear hp41 hw37
            refine g_istore F [(7, .int r36), (0, .ref (a 0)), (1, .int 1), (2, .int p1), (3, .int p2), (4, .int p3), (5, .int p4), (6, .int x58_6)] dX13_orderFrom_149 (by decide) rfl ?_
            refine g_aload_n F 1 dX13_orderFrom_151 rfl rfl ?_
            refine yg_0_51 F i_X13 w_5 dX13_orderFrom_152 ?_
            refine g_iload_n F 2 dX13_orderFrom_155 rfl rfl ?_
            refine g_iload F 7 dX13_orderFrom_156 rfl ?_
            refine u_iast F 32 0 yc_32 rfl 1 rfl (by decide) (by decide) (yW K a (gu_up G38 32 1 x58_6)) (ys_32 _) dX13_orderFrom_158 ?_
            refine g_iload F 0 dX13_orderFrom_159 rfl ?_
            refine v_if_ne F 189 dX13_orderFrom_161 (by decide) r36.toInt rfl (fun c46 => ?_) (fun c46 => ?_)
            · refine g_aload_n F 1 dX13_orderFrom_189 rfl rfl ?_
              refine u_callVv (k := 0) (n := 0) (b := a 0) (As := []) (st := []) F (fun sz => S_X13_putBack l D K a (gu_up G38 32 1 x58_6)  (by have e9_0_32 : (gu_up G38 32 1 x58_6) 0 32 = (G24 0 32) := hU40 0 32 (by decide); (try simp only [e9_0_32, true_and, and_true]) <;> (first | omega | (simp only [Int32.reduceToInt, true_and, and_true, ne_eq, not_true_eq_false, false_and, or_false, false_or, true_or, or_true, false_implies] <;> omega))) (gu_I.up (j := 32) (k := 1) (v := x58_6) hI39 (ti_rng _).1 (ti_rng _).2) sz) (cwV 0 hts gX13_orderFrom_X13_putBack rfl rfl rfl (by decide +kernel) ⟨Nat.le_of_ble_eq_true rfl, Nat.le_of_ble_eq_true rfl⟩) rfl 0 yc_0 rfl (Nat.le_of_ble_eq_true rfl) ⟨Nat.zero_le _, Nat.zero_le _⟩ dX13_orderFrom_190 (fun G49 hw48 => ?_)
              have hI50 : yI G49 := hw48.1
              have hU51 : gu_un ycd [29, 33, 1400] (gu_up G38 32 1 x58_6) G49 := hw48.2.1
              have hp52 := hw48.2.2
              have b53 : (0 : Int) ≤ (G49 0 32).toInt ∧ (G49 0 32).toInt ≤ 7 := hI50 0 32
              have q54 : ((G49 0 32).toInt = (G24 0 32).toInt - 1) := by have h9 := hp52.1; (try simp only [(show (gu_up G38 32 1 x58_6) 0 32 = (G24 0 32) from hU40 0 32 (by decide))] at h9); first | exact h9 | omega
              have q55 : ((∀ q : Nat, q < 96 → G49 14 q = (G24 19) (96 * ((G24 0 32).toInt - 1) + (q : Int)).toNat) ∧ G49 0 28 = (G24 20) ((G24 0 32).toInt - 1).toNat) := by have h9 := hp52.2.1; (try simp only [(show (gu_up G38 32 1 x58_6) 0 32 = (G24 0 32) from hU40 0 32 (by decide)), (show (gu_up G38 32 1 x58_6) 0 32 = (G24 0 32) from hU40 0 32 (by decide)), (show (gu_up G38 32 1 x58_6) 19 = (G24 19) from (show G38 19 = G24 19 from funext fun k_ => hU40 19 k_ (show (1900 : Nat) ∉ ([29, 36, 37, 1300, 1400, 1500, 1600, 1700, 1800, 2100] : List Nat) by decide))), (show (gu_up G38 32 1 x58_6) 20 = (G24 20) from (show G38 20 = G24 20 from funext fun k_ => hU40 20 k_ (show (2000 : Nat) ∉ ([29, 36, 37, 1300, 1400, 1500, 1600, 1700, 1800, 2100] : List Nat) by decide)))] at h9); first | exact h9 | omega
              have q56 : ((G49 15 = (gu_up G38 32 1 x58_6) 15 ∧ G49 16 = (gu_up G38 32 1 x58_6) 16 ∧ G49 17 = (gu_up G38 32 1 x58_6) 17 ∧ G49 18 = (gu_up G38 32 1 x58_6) 18) ∧ G49 19 = (gu_up G38 32 1 x58_6) 19 ∧ G49 20 = (gu_up G38 32 1 x58_6) 20) := hp52.2.2
              have bk57 : yNh Gj58 G49 := yNh.back (G := G24) (d := (Gj58 0 32).toInt) (yNd.by q30.1 q30.2 q31.1 (by omega)) (yKe.by q30.1 q30.2 (by omega)) rfl (fun q hq => by have h9 := q55.1 q hq; rw [show (G24 0 32).toInt - 1 = (Gj58 0 32).toInt by omega] at h9; exact h9) (by have h9 := q55.2; rw [show (G24 0 32).toInt - 1 = (Gj58 0 32).toInt by omega] at h9; exact h9) (yNd.tr (yNd.tr (yNd.tr yNd.rf (show yNd _ G24 G38 from (yNd.go (q44 rfl) hU40 rfl)) (Int.le_refl _)) (yNd.un (show gu_un ycd [3200] G38 (gu_up G38 32 1 x58_6) from (gu_un.up (j := 32) (k := 1) (v := x58_6) gu_un.rf (show (3200 : Nat) ∈ ([3200] : List Nat) by decide))) rfl) (Int.le_refl _)) (yNd.pl q56) (Int.le_refl _)) (by omega)
              clear hp52 hw48
              refine g_locals [(0, .ref (a 0)), (1, .int 1), (2, .int p1), (3, .int p2), (4, .int p3), (5, .int p4), (6, .int x58_6)] [1, 2, 3, 4, 5, 6, 7] rfl ?_
              exact J_193 G49 (by have h9 := ti_rng x58_6; omega) hI50 (gu_un.tr (gu_un.up (j := 32) (k := 1) (v := x58_6) (gu_un.tr (gu_un.tr gu_un.rf (gu_un.su hU26 rfl)) (gu_un.su hU40 rfl)) (show (3200 : Nat) ∈ ([29, 33, 36, 37, 47, 1300, 1400, 1500, 1600, 1700, 1800, 1900, 2000, 2100, 3200, 3300] : List Nat) by decide)) (gu_un.su hU51 rfl)) (by (first | omega | (simp only [Int32.reduceToInt, true_and, and_true, ne_eq, not_true_eq_false, false_and, or_false, false_or, true_or, or_true, false_implies] <;> omega))) (by have e9_0_45 : G49 0 45 = (G 0 45) := (hU51 0 45 (by decide)).trans ((hU40 0 45 (by decide)).trans ((hU26 0 45 (by decide)).trans (jU58 0 45 (by decide)))); (try simp only [e9_0_45, true_and, and_true]) <;> (first | omega | (simp only [Int32.reduceToInt, true_and, and_true, ne_eq, not_true_eq_false, false_and, or_false, false_or, true_or, or_true, false_implies] <;> omega))) ((yNh.tr (show yNh G Gj58 from nh58) (show yNh Gj58 G49 from bk57)))
            · refine g_aload_n F 1 dX13_orderFrom_164 rfl rfl ?_
              refine g_iload_n F 2 dX13_orderFrom_165 rfl rfl ?_
              refine g_iconst F 1 dX13_orderFrom_166 (by decide) ?_
              refine g_iadd F dX13_orderFrom_167 ?_
              refine g_fold 2 (by decide) ?_
              refine g_iload_n F 3 dX13_orderFrom_168 rfl rfl ?_
              refine g_iconst F 1 dX13_orderFrom_169 (by decide) ?_
              refine g_iload F 7 dX13_orderFrom_170 rfl ?_
              refine u0_ishl F dX13_orderFrom_172 (fun y58 => ?_)
              refine u0_ior F dX13_orderFrom_173 (fun y59 => ?_)
              refine g_iload_n F 4 dX13_orderFrom_174 rfl rfl ?_
              refine g_aload_n F 1 dX13_orderFrom_175 rfl rfl ?_
              refine yg_0_33 F i_X13 w_6 dX13_orderFrom_176 ?_
              refine g_iconst F 0 dX13_orderFrom_179 (by decide) ?_
              refine u1_iald F 21 0 yc_21 rfl 0 rfl (by decide) (by decide) dX13_orderFrom_180 (G38 21 0) (rfl) ?_
              refine u0_iadd F dX13_orderFrom_181 (fun y60 => ?_)
              refine g_iload F 5 dX13_orderFrom_182 rfl ?_
              refine g_iload F 6 dX13_orderFrom_184 rfl ?_
              refine u_callVv (k := 0) (n := 0) (b := a 0) (As := [.int 2, .int y59, .int y60, .int p3, .int p4]) (st := []) F (fun sz => S_X13_orderFrom_v2 l D K a (gu_up G38 32 1 x58_6) y59 y59.toInt y60 y60.toInt p3 s3 p4 s4 rfl rfl e3 (by omega) e4 (by omega) (yW3.un wf (show gu_un ycd [29, 33, 36, 37, 47, 1300, 1400, 1500, 1600, 1700, 1800, 1900, 2000, 2100, 3200, 3300] G (gu_up G38 32 1 x58_6) from (gu_un.up (j := 32) (k := 1) (v := x58_6) (gu_un.tr (gu_un.tr (gu_un.tr gu_un.rf (gu_un.su jU58 rfl)) (gu_un.su hU26 rfl)) (gu_un.su hU40 rfl)) (show (3200 : Nat) ∈ ([29, 33, 36, 37, 47, 1300, 1400, 1500, 1600, 1700, 1800, 1900, 2000, 2100, 3200, 3300] : List Nat) by decide))) rfl) (by have e9_0_32 : (gu_up G38 32 1 x58_6) 0 32 = (G24 0 32) := hU40 0 32 (by decide); have e9_0_45 : (gu_up G38 32 1 x58_6) 0 45 = (G 0 45) := (hU40 0 45 (by decide)).trans ((hU26 0 45 (by decide)).trans (jU58 0 45 (by decide))); (try simp only [e9_0_32, e9_0_45, true_and, and_true]) <;> (first | omega | (simp only [Int32.reduceToInt, true_and, and_true, ne_eq, not_true_eq_false, false_and, or_false, false_or, true_or, or_true, false_implies] <;> omega))) (gu_I.up (j := 32) (k := 1) (v := x58_6) hI39 (ti_rng _).1 (ti_rng _).2) sz) (cwV 5 hts gX13_orderFrom_X13_orderFrom rfl rfl rfl (by decide +kernel) ⟨Nat.le_of_ble_eq_true rfl, Nat.le_of_ble_eq_true rfl⟩) rfl 0 yc_0 rfl (Nat.le_of_ble_eq_true rfl) ⟨Nat.zero_le _, Nat.zero_le _⟩ dX13_orderFrom_186 (fun G63 hw62 => ?_)
              have hI64 : yI G63 := hw62.1
              have hU65 : gu_un ycd [29, 33, 36, 37, 47, 1300, 1400, 1500, 1600, 1700, 1800, 1900, 2000, 2100, 3200, 3300] (gu_up G38 32 1 x58_6) G63 := hw62.2.1
              have hp66 := hw62.2.2
              have q67 : yNh (gu_up G38 32 1 x58_6) G63 := hp66.1
              have b68 : (0 : Int) ≤ (G63 0 32).toInt ∧ (G63 0 32).toInt ≤ 7 := hI64 0 32
              have q69 : ((G63 0 32).toInt = (G24 0 32).toInt) := by have h9 := hp66.2; (try simp only [(show (gu_up G38 32 1 x58_6) 0 32 = (G24 0 32) from hU40 0 32 (by decide))] at h9); first | exact h9 | omega
              clear hp66 hw62
              refine g_aload_n F 1 dX13_orderFrom_189 rfl rfl ?_
              refine u_callVv (k := 0) (n := 0) (b := a 0) (As := []) (st := []) F (fun sz => S_X13_putBack l D K a G63  (by (first | omega | (simp only [Int32.reduceToInt, true_and, and_true, ne_eq, not_true_eq_false, false_and, or_false, false_or, true_or, or_true, false_implies] <;> omega))) hI64 sz) (cwV 0 hts gX13_orderFrom_X13_putBack rfl rfl rfl (by decide +kernel) ⟨Nat.le_of_ble_eq_true rfl, Nat.le_of_ble_eq_true rfl⟩) rfl 0 yc_0 rfl (Nat.le_of_ble_eq_true rfl) ⟨Nat.zero_le _, Nat.zero_le _⟩ dX13_orderFrom_190 (fun G72 hw71 => ?_)
              have hI73 : yI G72 := hw71.1
              have hU74 : gu_un ycd [29, 33, 1400] G63 G72 := hw71.2.1
              have hp75 := hw71.2.2
              have b76 : (0 : Int) ≤ (G72 0 32).toInt ∧ (G72 0 32).toInt ≤ 7 := hI73 0 32
              have q77 : ((G72 0 32).toInt = (G63 0 32).toInt - 1) := hp75.1
              have q78 : ((∀ q : Nat, q < 96 → G72 14 q = (G63 19) (96 * ((G63 0 32).toInt - 1) + (q : Int)).toNat) ∧ G72 0 28 = (G63 20) ((G63 0 32).toInt - 1).toNat) := hp75.2.1
              have q79 : ((G72 15 = G63 15 ∧ G72 16 = G63 16 ∧ G72 17 = G63 17 ∧ G72 18 = G63 18) ∧ G72 19 = G63 19 ∧ G72 20 = G63 20) := hp75.2.2
              have bk80 : yNh Gj58 G72 := yNh.back (G := G63) (d := (Gj58 0 32).toInt) (yNd.tr (yNd.by q30.1 q30.2 q31.1 (by omega)) (yNd.tr (yNd.tr (yNd.tr yNd.rf (show yNd _ G24 G38 from (yNd.go (q44 rfl) hU40 rfl)) (Int.le_refl _)) (yNd.un (show gu_un ycd [3200] G38 (gu_up G38 32 1 x58_6) from (gu_un.up (j := 32) (k := 1) (v := x58_6) gu_un.rf (show (3200 : Nat) ∈ ([3200] : List Nat) by decide))) rfl) (Int.le_refl _)) (show yNd _ (gu_up G38 32 1 x58_6) G63 from (yNd.le (yNh.nd q67) (by have e9 : (gu_up G38 32 1 x58_6) 0 32 = (G24 0 32) := hU40 0 32 (by decide); rw [e9]; omega))) (Int.le_refl _)) (Int.le_refl _)) (yKe.nd (d' := (Gj58 0 32).toInt + 1) (yKe.by q30.1 q30.2 (by omega)) (yNd.tr (yNd.tr (yNd.tr yNd.rf (show yNd _ G24 G38 from (yNd.go (q44 rfl) hU40 rfl)) (Int.le_refl _)) (yNd.un (show gu_un ycd [3200] G38 (gu_up G38 32 1 x58_6) from (gu_un.up (j := 32) (k := 1) (v := x58_6) gu_un.rf (show (3200 : Nat) ∈ ([3200] : List Nat) by decide))) rfl) (Int.le_refl _)) (show yNd _ (gu_up G38 32 1 x58_6) G63 from (yNd.le (yNh.nd q67) (by have e9 : (gu_up G38 32 1 x58_6) 0 32 = (G24 0 32) := hU40 0 32 (by decide); rw [e9]; omega))) (Int.le_refl _)) (by omega) (by omega)) rfl (fun q hq => by have h9 := q78.1 q hq; rw [show (G63 0 32).toInt - 1 = (Gj58 0 32).toInt by omega] at h9; exact h9) (by have h9 := q78.2; rw [show (G63 0 32).toInt - 1 = (Gj58 0 32).toInt by omega] at h9; exact h9) (yNd.tr yNd.rf (yNd.pl q79) (Int.le_refl _)) (by omega)
              clear hp75 hw71
              refine g_locals [(0, .ref (a 0)), (1, .int 1), (2, .int p1), (3, .int p2), (4, .int p3), (5, .int p4), (6, .int x58_6)] [1, 2, 3, 4, 5, 6, 7] rfl ?_
              exact J_193 G72 (by have h9 := ti_rng x58_6; omega) hI73 (gu_un.tr (gu_un.tr (gu_un.up (j := 32) (k := 1) (v := x58_6) (gu_un.tr (gu_un.tr gu_un.rf (gu_un.su hU26 rfl)) (gu_un.su hU40 rfl)) (show (3200 : Nat) ∈ ([29, 33, 36, 37, 47, 1300, 1400, 1500, 1600, 1700, 1800, 1900, 2000, 2100, 3200, 3300] : List Nat) by decide)) (gu_un.su hU65 rfl)) (gu_un.su hU74 rfl)) (by (first | omega | (simp only [Int32.reduceToInt, true_and, and_true, ne_eq, not_true_eq_false, false_and, or_false, false_or, true_or, or_true, false_implies] <;> omega))) (by have e9_0_45 : G72 0 45 = (G 0 45) := (hU74 0 45 (by decide)).trans ((hU65 0 45 (by decide)).trans ((hU40 0 45 (by decide)).trans ((hU26 0 45 (by decide)).trans (jU58 0 45 (by decide))))); (try simp only [e9_0_45, true_and, and_true]) <;> (first | omega | (simp only [Int32.reduceToInt, true_and, and_true, ne_eq, not_true_eq_false, false_and, or_false, false_or, true_or, or_true, false_implies] <;> omega))) ((yNh.tr (show yNh G Gj58 from nh58) (show yNh Gj58 G72 from bk80)))
          · have q19 : (psMx (psHr (Gj58 14) ((G 28) (x58_6.toInt).toNat).toInt (G 3 0).toInt) ((G 3 0).toInt - 1).toNat - ((G 30) (x58_6.toInt).toNat).toInt * ((G 31) (x58_6.toInt).toNat).toInt < 1) := by have h9 := q19; (try simp only [(show Gj58 3 0 = (G 3 0) from jU58 3 0 (by decide)), (show Gj58 3 0 = (G 3 0) from jU58 3 0 (by decide))] at h9); exact h9
            refine v_if_ne F 108 dX13_orderFrom_102 (by decide) 0 rfl (fun c81 => absurd c81 (by decide)) (fun c81 => ?_)
            refine g_goto F 193 dX13_orderFrom_105 (by decide) ?_
            have b82 : (0 : Int) ≤ (Gj58 0 32).toInt ∧ (Gj58 0 32).toInt ≤ 7 := jI58 0 32
            exact J_193 Gj58 (by have h9 := ti_rng x58_6; omega) jI58 gu_un.rf (by (first | omega | (simp only [Int32.reduceToInt, true_and, and_true, ne_eq, not_true_eq_false, false_and, or_false, false_or, true_or, or_true, false_implies] <;> omega))) (by have e9_0_45 : Gj58 0 45 = (G 0 45) := jU58 0 45 (by decide); (try simp only [e9_0_45, true_and, and_true]) <;> (first | omega | (simp only [Int32.reduceToInt, true_and, and_true, ne_eq, not_true_eq_false, false_and, or_false, false_or, true_or, or_true, false_implies] <;> omega))) (nh58)
  have J_25 : ∀ (fuel : Nat) (x25_6 : Int32) (Gj25 : gS), (2147483647 - x25_6.toInt).toNat < fuel → (0 ≤ x25_6.toInt ∧ x25_6.toInt ≤ 5) → (yI Gj25) → (gu_un ycd [47, 3300] G Gj25) → (((G 0 32).toInt = (G 0 32).toInt)) → gG p l e (gR 9 0 0 258) s m args below meth c D A 8 Q 0 0 (yW K a Gj25) (tK K) [(0, .ref (a 0)), (6, .int x25_6)] 25 [] := by
    intro fuel
    induction fuel with
    | zero => intro x25_6 Gj25 hm; exact absurd hm (Nat.not_lt_zero _)
    | succ fuel_25 ih_25 =>
      intro x25_6 Gj25 hm_25 h25_6 jI25 jU25 dc_25
      refine g_iload F 1 dX13_orderFrom_25 rfl ?_
      refine g_aload_n F 0 dX13_orderFrom_27 rfl rfl ?_
      refine yg_0_45 F i_X13 w_0 dX13_orderFrom_28 (G 0 45) (jU25 0 45 (by decide)) ?_
      refine v_icmp_ge F 54 dX13_orderFrom_31 (by decide) x25_6.toInt (G 0 45).toInt rfl rfl (fun c83 => ?_) (fun c83 => ?_)
      · exact u_vret F hA hQ hr Gj25 (⟨jI25, (gu_un.tr gu_un.rf (gu_un.su jU25 rfl)), ((yNh.tr (show yNh G G from yNh.rf) (show yNh G Gj25 from (yNh.un jU25 rfl)))), (by show ((Gj25 0 32).toInt = (G 0 32).toInt); have e9_0_32 : Gj25 0 32 = (G 0 32) := jU25 0 32 (by decide); (try simp only [e9_0_32, true_and, and_true]) <;> (first | omega | (simp only [Int32.reduceToInt, true_and, and_true, ne_eq, not_true_eq_false, false_and, or_false, false_or, true_or, or_true, false_implies] <;> omega)))⟩) rfl rfl dX13_orderFrom_54
      · refine g_aload_n F 0 dX13_orderFrom_34 rfl rfl ?_
        refine yg_0_52 F i_X13 w_7 dX13_orderFrom_35 ?_
        refine g_iload F 1 dX13_orderFrom_38 rfl ?_
        refine g_aload_n F 0 dX13_orderFrom_40 rfl rfl ?_
        refine yg_0_51 F i_X13 w_5 dX13_orderFrom_41 ?_
        refine g_iload F 1 dX13_orderFrom_44 rfl ?_
        refine u_iald F 32 0 yc_32 rfl x25_6.toInt rfl (by omega) (by omega) dX13_orderFrom_46 (fun _ => True) (fun _ => trivial) (fun y84 by84 => ?_)
        refine u_iast F 33 0 yc_33 rfl x25_6.toInt rfl (by omega) (by omega) (yW K a (gu_up Gj25 33 (x25_6.toInt).toNat y84)) (ys_33 _) dX13_orderFrom_47 ?_
        refine u_iinc F (fun v_ => [(6, .int v_), (0, .ref (a 0))]) dX13_orderFrom_48 (j := 1) rfl x25_6.toInt 1 rfl rfl (by omega) (by omega) (by decide) (fun _ => rfl) (fun y85 ey85 => ?_)
        refine g_goto F 25 dX13_orderFrom_51 (by decide) ?_
        refine g_locals [(0, .ref (a 0)), (6, .int y85)] [1, 0] rfl ?_
        exact ih_25 y85 (gu_up Gj25 33 (x25_6.toInt).toNat y84) (by omega) (by have h9 := ti_rng y85; omega) (gu_I.up (j := 33) (k := (x25_6.toInt).toNat) (v := y84) jI25 (ti_rng _).1 (ti_rng _).2) (gu_un.up (j := 33) (k := (x25_6.toInt).toNat) (v := y84) (gu_un.tr gu_un.rf (gu_un.su jU25 rfl)) (show (3300 : Nat) ∈ ([47, 3300] : List Nat) by decide)) (by have e9_0_32 : (gu_up Gj25 33 (x25_6.toInt).toNat y84) 0 32 = (G 0 32) := jU25 0 32 (by decide); (try simp only [e9_0_32, true_and, and_true]) <;> (first | omega | (simp only [Int32.reduceToInt, true_and, and_true, ne_eq, not_true_eq_false, false_and, or_false, false_or, true_or, or_true, false_implies] <;> omega)))
  refine g_iload_n F 1 dX13_orderFrom_0 rfl rfl ?_
  refine g_aload_n F 0 dX13_orderFrom_1 rfl rfl ?_
  refine yg_0_45 F i_X13 w_0 dX13_orderFrom_2 (G 0 45) (rfl) ?_
  refine v_icmp_ne F 55 dX13_orderFrom_5 (by decide) 1 (G 0 45).toInt rfl rfl (fun c86 => ?_) (fun c86 => ?_)
  · refine g_iconst F 0 dX13_orderFrom_55 (by decide) ?_
    refine g_istore F [(6, .int 0), (0, .ref (a 0)), (1, .int 1), (2, .int p1), (3, .int p2), (4, .int p3), (5, .int p4)] dX13_orderFrom_56 (by decide) rfl ?_
    refine g_locals [(0, .ref (a 0)), (1, .int 1), (2, .int p1), (3, .int p2), (4, .int p3), (5, .int p4), (6, .int 0)] [1, 2, 3, 4, 5, 6, 0] rfl ?_
    exact J_58 _ 0 G (Nat.lt_succ_self _) (by decide) hI gu_un.rf (by (first | omega | (simp only [Int32.reduceToInt, true_and, and_true, ne_eq, not_true_eq_false, false_and, or_false, false_or, true_or, or_true, false_implies] <;> omega))) (by (first | omega | (simp only [Int32.reduceToInt, true_and, and_true, ne_eq, not_true_eq_false, false_and, or_false, false_or, true_or, or_true, false_implies] <;> omega))) (yNh.rf)
  · refine g_iload_n F 3 dX13_orderFrom_8 rfl rfl ?_
    refine g_aload_n F 0 dX13_orderFrom_9 rfl rfl ?_
    refine yg_0_46 F i_X13 w_8 dX13_orderFrom_10 (G 0 46) (rfl) ?_
    have b87 := ti_rng (G 0 46)
    refine v_icmp_lt F 17 dX13_orderFrom_13 (by decide) s2 (G 0 46).toInt e2 rfl (fun c88 => ?_) (fun c88 => ?_)
    · refine g_aload_n F 0 dX13_orderFrom_17 rfl rfl ?_
      refine g_iload_n F 3 dX13_orderFrom_18 rfl rfl ?_
      refine yp_0_46 F i_X13 w_8 dX13_orderFrom_19 ?_
      refine g_iconst F 0 dX13_orderFrom_22 (by decide) ?_
      refine g_istore F [(6, .int 0), (0, .ref (a 0)), (1, .int 1), (2, .int p1), (3, .int p2), (4, .int p3), (5, .int p4)] dX13_orderFrom_23 (by decide) rfl ?_
      refine g_locals [(0, .ref (a 0)), (6, .int 0)] [1, 0] rfl ?_
      exact J_25 _ 0 (gu_up G 0 46 p2) (Nat.lt_succ_self _) (by decide) (gu_I.up (j := 0) (k := 46) (v := p2) hI (ti_rng _).1 (ti_rng _).2) (gu_un.up (j := 0) (k := 46) (v := p2) gu_un.rf (show (47 : Nat) ∈ ([47, 3300] : List Nat) by decide)) (by have e9_0_32 : (gu_up G 0 46 p2) 0 32 = (G 0 32) := rfl; (try simp only [e9_0_32, true_and, and_true]) <;> (first | omega | (simp only [Int32.reduceToInt, true_and, and_true, ne_eq, not_true_eq_false, false_and, or_false, false_or, true_or, or_true, false_implies] <;> omega)))
    · exact u_vret F hA hQ hr G (⟨hI, gu_un.rf, (yNh.rf), (by show ((G 0 32).toInt = (G 0 32).toInt); (first | omega | (simp only [Int32.reduceToInt, true_and, and_true, ne_eq, not_true_eq_false, false_and, or_false, false_or, true_or, or_true, false_implies] <;> omega)))⟩) rfl rfl dX13_orderFrom_16


set_option maxHeartbeats 4000000 in
set_option maxRecDepth 100000 in
theorem S_X13_orderFrom_v0 (l : Launch) (D : va_G) (K : Nat → ClassId) (a : Nat → Nat) (G : gS) (p1 : Int32) (s1 : Int) (p2 : Int32) (s2 : Int) (p3 : Int32) (s3 : Int) (p4 : Int32) (s4 : Int) (e1 : p1.toInt = s1) (e2 : p2.toInt = s2) (e3 : p3.toInt = s3) (h3 : 0 ≤ s3 ∧ s3 ≤ 300) (e4 : p4.toInt = s4) (h4 : 0 ≤ s4 ∧ s4 ≤ 300) (wf : yW3 G) (nj : (0 ≤ (G 0 45).toInt ∧ (G 0 32).toInt = 0)) (hI : yI G) (sz : Nat) : Kv l yX13_orderFrom wsX13_orderFrom 10 285 0 0 D [.ref (a 0), .int 0, .int p1, .int p2, .int p3, .int p4] (yW K a G) (tK K) sz (fun (G' : gS) => (yI G') ∧ (gu_un ycd [29, 33, 36, 37, 47, 1300, 1400, 1500, 1600, 1700, 1800, 1900, 2000, 2100, 3200, 3300] G G') ∧ (yNh G G') ∧ (((G' 0 32).toInt = (G 0 32).toInt))) (fun (G' : gS) => (yW K a G')) (fun _ => (tK K)) := by
  unfold Kv
  refine g_ofW (cc := cX13_orderFrom) (lv := [(0, .ref (a 0)), (1, .int 0), (2, .int p1), (3, .int p2), (4, .int p3), (5, .int p4)]) (by decide) rfl (Nat.le_of_ble_eq_true rfl) rfl ?_
  intro p e s m args below meth c A Q hA hQ F hr hnm
  have hts := F.2.2.2.2.1
  have w_0 : (Cond.fieldLink RX13 331 "QuietCutModel" "jobs" "I").before args s = true := hts _ (List.mem_of_getElem? (i := 1) rfl)
  have i_X13 : ∀ w ∈ u_ws RX13 TX13 73, w ∈ wsX13_orderFrom := fun _ h => List.mem_cons_of_mem _ (List.mem_append_right _ h)
  have w_1 : (Cond.fieldLink RX13 256 "QuietCutModel" "jobRing" "[I").before args s = true := hts _ (List.mem_of_getElem? (i := 5) rfl)
  have w_2 : (Cond.fieldLink RX13 262 "QuietCutModel" "jobFeed" "[I").before args s = true := hts _ (List.mem_of_getElem? (i := 6) rfl)
  have w_3 : (Cond.fieldLink RX13 265 "QuietCutModel" "jobTurns" "[I").before args s = true := hts _ (List.mem_of_getElem? (i := 7) rfl)
  have w_4 : (Cond.fieldLink RX13 259 "QuietCutModel" "jobSpeed" "[I").before args s = true := hts _ (List.mem_of_getElem? (i := 8) rfl)
  have w_5 : (Cond.fieldLink RX13 268 "QuietCutModel" "orderRow" "[I").before args s = true := hts _ (List.mem_of_getElem? (i := 4) rfl)
  have w_6 : (Cond.fieldLink RX13 235 "QuietCutModel" "now" "[I").before args s = true := hts _ (List.mem_of_getElem? (i := 9) rfl)
  have w_7 : (Cond.fieldLink RX13 271 "QuietCutModel" "bestRow" "[I").before args s = true := hts _ (List.mem_of_getElem? (i := 3) rfl)
  have w_8 : (Cond.fieldLink RX13 493 "QuietCutModel" "orderBest" "I").before args s = true := hts _ (List.mem_of_getElem? (i := 2) rfl)
  have rg1 : -2147483648 ≤ s1 ∧ s1 ≤ 2147483647 := e1 ▸ ti_rng p1
  have rg2 : -2147483648 ≤ s2 ∧ s2 ≤ 2147483647 := e2 ▸ ti_rng p2
  have b1 : (0 : Int) ≤ (G 0 45).toInt ∧ (G 0 45).toInt ≤ 5 := hI 0 45
  have b2 : (0 : Int) ≤ (G 0 32).toInt ∧ (G 0 32).toInt ≤ 7 := hI 0 32
  have b3 : (4 : Int) ≤ (G 3 0).toInt ∧ (G 3 0).toInt ≤ 16 := hI 3 0
  have J_58 : ∀ (fuel : Nat) (x58_6 : Int32) (Gj58 : gS), (2147483647 - x58_6.toInt).toNat < fuel → (0 ≤ x58_6.toInt ∧ x58_6.toInt ≤ 5) → (yI Gj58) → (gu_un ycd [29, 33, 36, 37, 47, 1300, 1400, 1500, 1600, 1700, 1800, 1900, 2000, 2100, 3200, 3300] G Gj58) → (((Gj58 0 32).toInt = (G 0 32).toInt)) → ((0 < (G 0 45).toInt)) → (yNh G Gj58) → gG p l e (gR 10 0 0 285) s m args below meth c D A 8 Q 0 0 (yW K a Gj58) (tK K) [(0, .ref (a 0)), (1, .int 0), (2, .int p1), (3, .int p2), (4, .int p3), (5, .int p4), (6, .int x58_6)] 58 [] := by
    intro fuel
    induction fuel with
    | zero => intro x58_6 Gj58 hm; exact absurd hm (Nat.not_lt_zero _)
    | succ fuel_58 ih_58 =>
      intro x58_6 Gj58 hm_58 h58_6 jI58 jU58 dc_58 nl_58 nh58
      have J_193 : ∀  (Gj193 : gS), (0 ≤ x58_6.toInt ∧ x58_6.toInt ≤ 4) → (yI Gj193) → (gu_un ycd [29, 33, 36, 37, 47, 1300, 1400, 1500, 1600, 1700, 1800, 1900, 2000, 2100, 3200, 3300] Gj58 Gj193) → (((Gj193 0 32).toInt = (G 0 32).toInt)) → ((0 < (G 0 45).toInt)) → (yNh G Gj193) → gG p l e (gR 10 0 0 285) s m args below meth c D A 8 Q 0 0 (yW K a Gj193) (tK K) [(0, .ref (a 0)), (1, .int 0), (2, .int p1), (3, .int p2), (4, .int p3), (5, .int p4), (6, .int x58_6)] 193 [] := by
        intro Gj193 k193_6 jI193 jU193 dc_193 nl_193 nh193
        refine u_iinc F (fun v_ => [(6, .int v_), (0, .ref (a 0)), (1, .int 0), (2, .int p1), (3, .int p2), (4, .int p3), (5, .int p4)]) dX13_orderFrom_193 (j := 6) rfl x58_6.toInt 1 rfl rfl (by omega) (by omega) (by decide) (fun _ => rfl) (fun y4 ey4 => ?_)
        refine g_goto F 58 dX13_orderFrom_196 (by decide) ?_
        refine g_locals [(0, .ref (a 0)), (1, .int 0), (2, .int p1), (3, .int p2), (4, .int p3), (5, .int p4), (6, .int y4)] [1, 2, 3, 4, 5, 6, 0] rfl ?_
        have b5 : (0 : Int) ≤ (Gj193 0 32).toInt ∧ (Gj193 0 32).toInt ≤ 7 := jI193 0 32
        exact ih_58 y4 Gj193 (by omega) (by have h9 := ti_rng y4; omega) jI193 (gu_un.tr (gu_un.tr gu_un.rf (gu_un.su jU58 rfl)) (gu_un.su jU193 rfl)) (by (first | omega | (simp only [Int32.reduceToInt, true_and, and_true, ne_eq, not_true_eq_false, false_and, or_false, false_or, true_or, or_true, false_implies] <;> omega))) (by have e9_0_45 : Gj193 0 45 = (G 0 45) := (jU193 0 45 (by decide)).trans (jU58 0 45 (by decide)); (try simp only [e9_0_45, true_and, and_true]) <;> (first | omega | (simp only [Int32.reduceToInt, true_and, and_true, ne_eq, not_true_eq_false, false_and, or_false, false_or, true_or, or_true, false_implies] <;> omega))) (nh193)
      refine g_iload F 6 dX13_orderFrom_58 rfl ?_
      refine g_aload_n F 0 dX13_orderFrom_60 rfl rfl ?_
      refine yg_0_45 F i_X13 w_0 dX13_orderFrom_61 (G 0 45) (jU58 0 45 (by decide)) ?_
      refine v_icmp_ge F 199 dX13_orderFrom_64 (by decide) x58_6.toInt (G 0 45).toInt rfl rfl (fun c6 => ?_) (fun c6 => ?_)
      · have b7 : (0 : Int) ≤ (Gj58 0 32).toInt ∧ (Gj58 0 32).toInt ≤ 7 := jI58 0 32
        exact u_vret F hA hQ hr Gj58 (⟨jI58, (gu_un.tr gu_un.rf (gu_un.su jU58 rfl)), (nh58), (by show ((Gj58 0 32).toInt = (G 0 32).toInt); (first | omega | (simp only [Int32.reduceToInt, true_and, and_true, ne_eq, not_true_eq_false, false_and, or_false, false_or, true_or, or_true, false_implies] <;> omega)))⟩) rfl rfl dX13_orderFrom_199
      · refine g_iload_n F 2 dX13_orderFrom_67 rfl rfl ?_
        refine g_iload F 6 dX13_orderFrom_68 rfl ?_
        refine u0_ishr F dX13_orderFrom_70 (fun y8 => ?_)
        refine g_iconst F 1 dX13_orderFrom_71 (by decide) ?_
        refine u_iand F dX13_orderFrom_72 _ 1 rfl rfl (by omega) (fun y9 ey9 => ?_)
        refine g_iconst F 1 dX13_orderFrom_73 (by decide) ?_
        refine v_icmp_eq F 193 dX13_orderFrom_74 (by decide) y9.toInt 1 rfl rfl (fun c10 => ?_) (fun c10 => ?_)
        · have b11 : (0 : Int) ≤ (Gj58 0 32).toInt ∧ (Gj58 0 32).toInt ≤ 7 := jI58 0 32
          exact J_193 Gj58 (by have h9 := ti_rng x58_6; omega) jI58 gu_un.rf (by (first | omega | (simp only [Int32.reduceToInt, true_and, and_true, ne_eq, not_true_eq_false, false_and, or_false, false_or, true_or, or_true, false_implies] <;> omega))) (by have e9_0_45 : Gj58 0 45 = (G 0 45) := jU58 0 45 (by decide); (try simp only [e9_0_45, true_and, and_true]) <;> (first | omega | (simp only [Int32.reduceToInt, true_and, and_true, ne_eq, not_true_eq_false, false_and, or_false, false_or, true_or, or_true, false_implies] <;> omega))) (nh58)
        · refine g_aload_n F 0 dX13_orderFrom_77 rfl rfl ?_
          refine g_aload_n F 0 dX13_orderFrom_78 rfl rfl ?_
          refine yg_0_47 F i_X13 w_1 dX13_orderFrom_79 ?_
          refine g_iload F 6 dX13_orderFrom_82 rfl ?_
          refine u1_iald F 28 0 yc_28 rfl x58_6.toInt rfl (by omega) (by omega) dX13_orderFrom_84 ((G 28) (x58_6.toInt).toNat) (congrFun ((show Gj58 28 = G 28 from funext fun k_ => jU58 28 k_ (show (2800 : Nat) ∉ ([29, 33, 36, 37, 47, 1300, 1400, 1500, 1600, 1700, 1800, 1900, 2000, 2100, 3200, 3300] : List Nat) by decide))) _) ?_
          have b12 : (0 : Int) ≤ ((G 28) (x58_6.toInt).toNat).toInt ∧ ((G 28) (x58_6.toInt).toNat).toInt ≤ 5 := hI 28 _
          refine g_aload_n F 0 dX13_orderFrom_85 rfl rfl ?_
          refine yg_0_49 F i_X13 w_2 dX13_orderFrom_86 ?_
          refine g_iload F 6 dX13_orderFrom_89 rfl ?_
          refine u1_iald F 30 0 yc_30 rfl x58_6.toInt rfl (by omega) (by omega) dX13_orderFrom_91 ((G 30) (x58_6.toInt).toNat) (congrFun ((show Gj58 30 = G 30 from funext fun k_ => jU58 30 k_ (show (3000 : Nat) ∉ ([29, 33, 36, 37, 47, 1300, 1400, 1500, 1600, 1700, 1800, 1900, 2000, 2100, 3200, 3300] : List Nat) by decide))) _) ?_
          have b13 : (0 : Int) ≤ ((G 30) (x58_6.toInt).toNat).toInt ∧ ((G 30) (x58_6.toInt).toNat).toInt ≤ 20 := hI 30 _
          refine g_aload_n F 0 dX13_orderFrom_92 rfl rfl ?_
          refine yg_0_50 F i_X13 w_3 dX13_orderFrom_93 ?_
          refine g_iload F 6 dX13_orderFrom_96 rfl ?_
          refine u1_iald F 31 0 yc_31 rfl x58_6.toInt rfl (by omega) (by omega) dX13_orderFrom_98 ((G 31) (x58_6.toInt).toNat) (congrFun ((show Gj58 31 = G 31 from funext fun k_ => jU58 31 k_ (show (3100 : Nat) ∉ ([29, 33, 36, 37, 47, 1300, 1400, 1500, 1600, 1700, 1800, 1900, 2000, 2100, 3200, 3300] : List Nat) by decide))) _) ?_
          have b14 : (0 : Int) ≤ ((G 31) (x58_6.toInt).toNat).toInt ∧ ((G 31) (x58_6.toInt).toNat).toInt ≤ 12 := hI 31 _
          refine u_callVi (k := 0) (n := 0) (b := a 0) (As := [.int ((G 28) (x58_6.toInt).toNat), .int ((G 30) (x58_6.toInt).toNat), .int ((G 31) (x58_6.toInt).toNat)]) (st := []) F (fun sz => S_X13_canBe l D K a Gj58 ((G 28) (x58_6.toInt).toNat) ((G 28) (x58_6.toInt).toNat).toInt ((G 30) (x58_6.toInt).toNat) ((G 30) (x58_6.toInt).toNat).toInt ((G 31) (x58_6.toInt).toNat) ((G 31) (x58_6.toInt).toNat).toInt rfl (by omega) rfl (by omega) rfl (by omega) jI58 sz) (cwV 3 hts gX13_orderFrom_X13_canBe rfl rfl rfl (by decide +kernel) ⟨Nat.le_of_ble_eq_true rfl, Nat.le_of_ble_eq_true rfl⟩) rfl 0 yc_0 rfl (Nat.le_of_ble_eq_true rfl) ⟨Nat.zero_le _, Nat.zero_le _⟩ dX13_orderFrom_99 (fun r15 _ hw16 => ?_)
          rcases hw16 with ⟨rfl, q18⟩ | ⟨rfl, q19⟩
          · have q18 : (1 ≤ psMx (psHr (Gj58 14) ((G 28) (x58_6.toInt).toNat).toInt (G 3 0).toInt) ((G 3 0).toInt - 1).toNat - ((G 30) (x58_6.toInt).toNat).toInt * ((G 31) (x58_6.toInt).toNat).toInt) := by have h9 := q18; (try simp only [(show Gj58 3 0 = (G 3 0) from jU58 3 0 (by decide)), (show Gj58 3 0 = (G 3 0) from jU58 3 0 (by decide))] at h9); exact h9
            refine v_if_ne F 108 dX13_orderFrom_102 (by decide) 1 rfl (fun c20 => ?_) (fun c20 => absurd c20 (by decide))
            refine g_aload_n F 0 dX13_orderFrom_108 rfl rfl ?_
            have b21 : (0 : Int) ≤ (Gj58 0 32).toInt ∧ (Gj58 0 32).toInt ≤ 7 := jI58 0 32
            refine u_callVv (k := 0) (n := 0) (b := a 0) (As := []) (st := []) F (fun sz => S_X13_putBy l D K a Gj58  (by (first | omega | (simp only [Int32.reduceToInt, true_and, and_true, ne_eq, not_true_eq_false, false_and, or_false, false_or, true_or, or_true, false_implies] <;> omega))) jI58 sz) (cwV 0 hts gX13_orderFrom_X13_putBy rfl rfl rfl (by decide +kernel) ⟨Nat.le_of_ble_eq_true rfl, Nat.le_of_ble_eq_true rfl⟩) rfl 0 yc_0 rfl (Nat.le_of_ble_eq_true rfl) ⟨Nat.zero_le _, Nat.zero_le _⟩ dX13_orderFrom_109 (fun G24 hw23 => ?_)
            have hI25 : yI G24 := hw23.1
            have hU26 : gu_un ycd [33, 1900, 2000] Gj58 G24 := hw23.2.1
            have hp27 := hw23.2.2
            have b28 : (0 : Int) ≤ (G24 0 32).toInt ∧ (G24 0 32).toInt ≤ 7 := hI25 0 32
            have q29 : ((G24 0 32).toInt = (Gj58 0 32).toInt + 1) := hp27.1
            have q30 : ((∀ q : Nat, G24 19 q = sRow (Gj58 19) (Gj58 14) (96 * (Gj58 0 32).toInt) 96 q) ∧ G24 20 = upd (Gj58 20) ((Gj58 0 32).toInt).toNat (Gj58 0 28)) := hp27.2.1
            have q31 : ((G24 15 = Gj58 15 ∧ G24 16 = Gj58 16 ∧ G24 17 = Gj58 17 ∧ G24 18 = Gj58 18) ∧ G24 14 = Gj58 14 ∧ G24 0 28 = Gj58 0 28) := hp27.2.2
            clear hp27 hw23
            refine g_aload_n F 0 dX13_orderFrom_112 rfl rfl ?_
            refine g_aload_n F 0 dX13_orderFrom_113 rfl rfl ?_
            refine yg_0_47 F i_X13 w_1 dX13_orderFrom_114 ?_
            refine g_iload F 6 dX13_orderFrom_117 rfl ?_
            refine u1_iald F 28 0 yc_28 rfl x58_6.toInt rfl (by omega) (by omega) dX13_orderFrom_119 ((G 28) (x58_6.toInt).toNat) (congrFun ((show G24 28 = Gj58 28 from funext fun k_ => hU26 28 k_ (show (2800 : Nat) ∉ ([33, 1900, 2000] : List Nat) by decide)).trans ((show Gj58 28 = G 28 from funext fun k_ => jU58 28 k_ (show (2800 : Nat) ∉ ([29, 33, 36, 37, 47, 1300, 1400, 1500, 1600, 1700, 1800, 1900, 2000, 2100, 3200, 3300] : List Nat) by decide)))) _) ?_
            have b32 : (0 : Int) ≤ ((G 28) (x58_6.toInt).toNat).toInt ∧ ((G 28) (x58_6.toInt).toNat).toInt ≤ 5 := hI 28 _
            refine g_aload_n F 0 dX13_orderFrom_120 rfl rfl ?_
            refine yg_0_48 F i_X13 w_4 dX13_orderFrom_121 ?_
            refine g_iload F 6 dX13_orderFrom_124 rfl ?_
            refine u_iald F 29 0 yc_29 rfl x58_6.toInt rfl (by omega) (by omega) dX13_orderFrom_126 (fun z => (0 : Int) ≤ z.toInt ∧ z.toInt ≤ 9) (fun k_ => hI25 29 k_) (fun y33 by33 => ?_)
            refine g_aload_n F 0 dX13_orderFrom_127 rfl rfl ?_
            refine yg_0_49 F i_X13 w_2 dX13_orderFrom_128 ?_
            refine g_iload F 6 dX13_orderFrom_131 rfl ?_
            refine u1_iald F 30 0 yc_30 rfl x58_6.toInt rfl (by omega) (by omega) dX13_orderFrom_133 ((G 30) (x58_6.toInt).toNat) (congrFun ((show G24 30 = Gj58 30 from funext fun k_ => hU26 30 k_ (show (3000 : Nat) ∉ ([33, 1900, 2000] : List Nat) by decide)).trans ((show Gj58 30 = G 30 from funext fun k_ => jU58 30 k_ (show (3000 : Nat) ∉ ([29, 33, 36, 37, 47, 1300, 1400, 1500, 1600, 1700, 1800, 1900, 2000, 2100, 3200, 3300] : List Nat) by decide)))) _) ?_
            have b34 : (0 : Int) ≤ ((G 30) (x58_6.toInt).toNat).toInt ∧ ((G 30) (x58_6.toInt).toNat).toInt ≤ 20 := hI 30 _
            refine g_aload_n F 0 dX13_orderFrom_134 rfl rfl ?_
            refine yg_0_50 F i_X13 w_3 dX13_orderFrom_135 ?_
            refine g_iload F 6 dX13_orderFrom_138 rfl ?_
            refine u1_iald F 31 0 yc_31 rfl x58_6.toInt rfl (by omega) (by omega) dX13_orderFrom_140 ((G 31) (x58_6.toInt).toNat) (congrFun ((show G24 31 = Gj58 31 from funext fun k_ => hU26 31 k_ (show (3100 : Nat) ∉ ([33, 1900, 2000] : List Nat) by decide)).trans ((show Gj58 31 = G 31 from funext fun k_ => jU58 31 k_ (show (3100 : Nat) ∉ ([29, 33, 36, 37, 47, 1300, 1400, 1500, 1600, 1700, 1800, 1900, 2000, 2100, 3200, 3300] : List Nat) by decide)))) _) ?_
            have b35 : (0 : Int) ≤ ((G 31) (x58_6.toInt).toNat).toInt ∧ ((G 31) (x58_6.toInt).toNat).toInt ≤ 12 := hI 31 _
            refine g_iload F 4 dX13_orderFrom_141 rfl ?_
            refine g_iload F 5 dX13_orderFrom_143 rfl ?_
            refine g_iconst F (-1) dX13_orderFrom_145 (by decide) ?_
            refine u_callVi (k := 0) (n := 0) (b := a 0) (As := [.int ((G 28) (x58_6.toInt).toNat), .int y33, .int ((G 30) (x58_6.toInt).toNat), .int ((G 31) (x58_6.toInt).toNat), .int p3, .int p4, .int (-1)]) (st := []) F (fun sz => S_X13_go l D K a G24 ((G 28) (x58_6.toInt).toNat) ((G 28) (x58_6.toInt).toNat).toInt y33 y33.toInt ((G 30) (x58_6.toInt).toNat) ((G 30) (x58_6.toInt).toNat).toInt ((G 31) (x58_6.toInt).toNat) ((G 31) (x58_6.toInt).toNat).toInt p3 s3 p4 s4 (-1) (-1) rfl (by omega) rfl (by omega) rfl (by omega) rfl (by omega) e3 (by omega) e4 (by omega) rfl (yW3.un wf (show gu_un ycd [29, 33, 36, 37, 47, 1300, 1400, 1500, 1600, 1700, 1800, 1900, 2000, 2100, 3200, 3300] G G24 from (gu_un.tr (gu_un.tr gu_un.rf (gu_un.su jU58 rfl)) (gu_un.su hU26 rfl))) rfl) (by rw [show G24 14 = Gj58 14 from q31.2.1, (show G24 3 0 = G 3 0 from (show gu_un ycd [29, 33, 36, 37, 47, 1300, 1400, 1500, 1600, 1700, 1800, 1900, 2000, 2100, 3200, 3300] G G24 from (gu_un.tr (gu_un.tr gu_un.rf (gu_un.su jU58 rfl)) (gu_un.su hU26 rfl))) 3 0 (by decide))]; omega) hI25 sz) (cwV 7 hts gX13_orderFrom_X13_go rfl rfl rfl (by decide +kernel) ⟨Nat.le_of_ble_eq_true rfl, Nat.le_of_ble_eq_true rfl⟩) rfl 0 yc_0 rfl (Nat.le_of_ble_eq_true rfl) ⟨Nat.zero_le _, Nat.zero_le _⟩ dX13_orderFrom_146 (fun r36 G38 hw37 => ?_)
            have hI39 : yI G38 := hw37.1
            have hU40 : gu_un ycd [29, 36, 37, 1300, 1400, 1500, 1600, 1700, 1800, 2100] G24 G38 := hw37.2.1
            have hp41 := hw37.2.2
            have q42 : yOut G24 ((G 28) (x58_6.toInt).toNat).toInt (-1) ((G 30) (x58_6.toInt).toNat) y33 ((G 31) (x58_6.toInt).toNat) p3 p4 G38 r36.toInt := hp41.2.1
            have q43 : yOt ((G 28) (x58_6.toInt).toNat).toInt (G 3 0).toInt G24 G38 := by have h9 := hp41.2.2.1; (try simp only [(show G24 3 0 = (G 3 0) from (hU26 3 0 (by decide)).trans (jU58 3 0 (by decide)))] at h9); first | exact h9 | omega
            have q44 : ((-1 : Int) = -1 → G38 15 = G24 15 ∧ G38 16 = G24 16 ∧ G38 17 = G24 17 ∧ G38 18 = G24 18) := hp41.2.2.2
            have rg45 := hp41.1
            clear hp41 hw37
            refine g_istore F [(7, .int r36), (0, .ref (a 0)), (1, .int 0), (2, .int p1), (3, .int p2), (4, .int p3), (5, .int p4), (6, .int x58_6)] dX13_orderFrom_149 (by decide) rfl ?_
            refine g_aload_n F 1 dX13_orderFrom_151 rfl rfl ?_
            refine yg_0_51 F i_X13 w_5 dX13_orderFrom_152 ?_
            refine g_iload_n F 2 dX13_orderFrom_155 rfl rfl ?_
            refine g_iload F 7 dX13_orderFrom_156 rfl ?_
            refine u_iast F 32 0 yc_32 rfl 0 rfl (by decide) (by decide) (yW K a (gu_up G38 32 0 x58_6)) (ys_32 _) dX13_orderFrom_158 ?_
            refine g_iload F 0 dX13_orderFrom_159 rfl ?_
            refine v_if_ne F 189 dX13_orderFrom_161 (by decide) r36.toInt rfl (fun c46 => ?_) (fun c46 => ?_)
            · refine g_aload_n F 1 dX13_orderFrom_189 rfl rfl ?_
              refine u_callVv (k := 0) (n := 0) (b := a 0) (As := []) (st := []) F (fun sz => S_X13_putBack l D K a (gu_up G38 32 0 x58_6)  (by have e9_0_32 : (gu_up G38 32 0 x58_6) 0 32 = (G24 0 32) := hU40 0 32 (by decide); (try simp only [e9_0_32, true_and, and_true]) <;> (first | omega | (simp only [Int32.reduceToInt, true_and, and_true, ne_eq, not_true_eq_false, false_and, or_false, false_or, true_or, or_true, false_implies] <;> omega))) (gu_I.up (j := 32) (k := 0) (v := x58_6) hI39 (ti_rng _).1 (ti_rng _).2) sz) (cwV 0 hts gX13_orderFrom_X13_putBack rfl rfl rfl (by decide +kernel) ⟨Nat.le_of_ble_eq_true rfl, Nat.le_of_ble_eq_true rfl⟩) rfl 0 yc_0 rfl (Nat.le_of_ble_eq_true rfl) ⟨Nat.zero_le _, Nat.zero_le _⟩ dX13_orderFrom_190 (fun G49 hw48 => ?_)
              have hI50 : yI G49 := hw48.1
              have hU51 : gu_un ycd [29, 33, 1400] (gu_up G38 32 0 x58_6) G49 := hw48.2.1
              have hp52 := hw48.2.2
              have b53 : (0 : Int) ≤ (G49 0 32).toInt ∧ (G49 0 32).toInt ≤ 7 := hI50 0 32
              have q54 : ((G49 0 32).toInt = (G24 0 32).toInt - 1) := by have h9 := hp52.1; (try simp only [(show (gu_up G38 32 0 x58_6) 0 32 = (G24 0 32) from hU40 0 32 (by decide))] at h9); first | exact h9 | omega
              have q55 : ((∀ q : Nat, q < 96 → G49 14 q = (G24 19) (96 * ((G24 0 32).toInt - 1) + (q : Int)).toNat) ∧ G49 0 28 = (G24 20) ((G24 0 32).toInt - 1).toNat) := by have h9 := hp52.2.1; (try simp only [(show (gu_up G38 32 0 x58_6) 0 32 = (G24 0 32) from hU40 0 32 (by decide)), (show (gu_up G38 32 0 x58_6) 0 32 = (G24 0 32) from hU40 0 32 (by decide)), (show (gu_up G38 32 0 x58_6) 19 = (G24 19) from (show G38 19 = G24 19 from funext fun k_ => hU40 19 k_ (show (1900 : Nat) ∉ ([29, 36, 37, 1300, 1400, 1500, 1600, 1700, 1800, 2100] : List Nat) by decide))), (show (gu_up G38 32 0 x58_6) 20 = (G24 20) from (show G38 20 = G24 20 from funext fun k_ => hU40 20 k_ (show (2000 : Nat) ∉ ([29, 36, 37, 1300, 1400, 1500, 1600, 1700, 1800, 2100] : List Nat) by decide)))] at h9); first | exact h9 | omega
              have q56 : ((G49 15 = (gu_up G38 32 0 x58_6) 15 ∧ G49 16 = (gu_up G38 32 0 x58_6) 16 ∧ G49 17 = (gu_up G38 32 0 x58_6) 17 ∧ G49 18 = (gu_up G38 32 0 x58_6) 18) ∧ G49 19 = (gu_up G38 32 0 x58_6) 19 ∧ G49 20 = (gu_up G38 32 0 x58_6) 20) := hp52.2.2
              have bk57 : yNh Gj58 G49 := yNh.back (G := G24) (d := (Gj58 0 32).toInt) (yNd.by q30.1 q30.2 q31.1 (by omega)) (yKe.by q30.1 q30.2 (by omega)) rfl (fun q hq => by have h9 := q55.1 q hq; rw [show (G24 0 32).toInt - 1 = (Gj58 0 32).toInt by omega] at h9; exact h9) (by have h9 := q55.2; rw [show (G24 0 32).toInt - 1 = (Gj58 0 32).toInt by omega] at h9; exact h9) (yNd.tr (yNd.tr (yNd.tr yNd.rf (show yNd _ G24 G38 from (yNd.go (q44 rfl) hU40 rfl)) (Int.le_refl _)) (yNd.un (show gu_un ycd [3200] G38 (gu_up G38 32 0 x58_6) from (gu_un.up (j := 32) (k := 0) (v := x58_6) gu_un.rf (show (3200 : Nat) ∈ ([3200] : List Nat) by decide))) rfl) (Int.le_refl _)) (yNd.pl q56) (Int.le_refl _)) (by omega)
              clear hp52 hw48
              refine g_locals [(0, .ref (a 0)), (1, .int 0), (2, .int p1), (3, .int p2), (4, .int p3), (5, .int p4), (6, .int x58_6)] [1, 2, 3, 4, 5, 6, 7] rfl ?_
              exact J_193 G49 (by have h9 := ti_rng x58_6; omega) hI50 (gu_un.tr (gu_un.up (j := 32) (k := 0) (v := x58_6) (gu_un.tr (gu_un.tr gu_un.rf (gu_un.su hU26 rfl)) (gu_un.su hU40 rfl)) (show (3200 : Nat) ∈ ([29, 33, 36, 37, 47, 1300, 1400, 1500, 1600, 1700, 1800, 1900, 2000, 2100, 3200, 3300] : List Nat) by decide)) (gu_un.su hU51 rfl)) (by (first | omega | (simp only [Int32.reduceToInt, true_and, and_true, ne_eq, not_true_eq_false, false_and, or_false, false_or, true_or, or_true, false_implies] <;> omega))) (by have e9_0_45 : G49 0 45 = (G 0 45) := (hU51 0 45 (by decide)).trans ((hU40 0 45 (by decide)).trans ((hU26 0 45 (by decide)).trans (jU58 0 45 (by decide)))); (try simp only [e9_0_45, true_and, and_true]) <;> (first | omega | (simp only [Int32.reduceToInt, true_and, and_true, ne_eq, not_true_eq_false, false_and, or_false, false_or, true_or, or_true, false_implies] <;> omega))) ((yNh.tr (show yNh G Gj58 from nh58) (show yNh Gj58 G49 from bk57)))
            · refine g_aload_n F 1 dX13_orderFrom_164 rfl rfl ?_
              refine g_iload_n F 2 dX13_orderFrom_165 rfl rfl ?_
              refine g_iconst F 1 dX13_orderFrom_166 (by decide) ?_
              refine g_iadd F dX13_orderFrom_167 ?_
              refine g_fold 1 (by decide) ?_
              refine g_iload_n F 3 dX13_orderFrom_168 rfl rfl ?_
              refine g_iconst F 1 dX13_orderFrom_169 (by decide) ?_
              refine g_iload F 7 dX13_orderFrom_170 rfl ?_
              refine u0_ishl F dX13_orderFrom_172 (fun y58 => ?_)
              refine u0_ior F dX13_orderFrom_173 (fun y59 => ?_)
              refine g_iload_n F 4 dX13_orderFrom_174 rfl rfl ?_
              refine g_aload_n F 1 dX13_orderFrom_175 rfl rfl ?_
              refine yg_0_33 F i_X13 w_6 dX13_orderFrom_176 ?_
              refine g_iconst F 0 dX13_orderFrom_179 (by decide) ?_
              refine u1_iald F 21 0 yc_21 rfl 0 rfl (by decide) (by decide) dX13_orderFrom_180 (G38 21 0) (rfl) ?_
              refine u0_iadd F dX13_orderFrom_181 (fun y60 => ?_)
              refine g_iload F 5 dX13_orderFrom_182 rfl ?_
              refine g_iload F 6 dX13_orderFrom_184 rfl ?_
              refine u_callVv (k := 0) (n := 0) (b := a 0) (As := [.int 1, .int y59, .int y60, .int p3, .int p4]) (st := []) F (fun sz => S_X13_orderFrom_v1 l D K a (gu_up G38 32 0 x58_6) y59 y59.toInt y60 y60.toInt p3 s3 p4 s4 rfl rfl e3 (by omega) e4 (by omega) (yW3.un wf (show gu_un ycd [29, 33, 36, 37, 47, 1300, 1400, 1500, 1600, 1700, 1800, 1900, 2000, 2100, 3200, 3300] G (gu_up G38 32 0 x58_6) from (gu_un.up (j := 32) (k := 0) (v := x58_6) (gu_un.tr (gu_un.tr (gu_un.tr gu_un.rf (gu_un.su jU58 rfl)) (gu_un.su hU26 rfl)) (gu_un.su hU40 rfl)) (show (3200 : Nat) ∈ ([29, 33, 36, 37, 47, 1300, 1400, 1500, 1600, 1700, 1800, 1900, 2000, 2100, 3200, 3300] : List Nat) by decide))) rfl) (by have e9_0_32 : (gu_up G38 32 0 x58_6) 0 32 = (G24 0 32) := hU40 0 32 (by decide); have e9_0_45 : (gu_up G38 32 0 x58_6) 0 45 = (G 0 45) := (hU40 0 45 (by decide)).trans ((hU26 0 45 (by decide)).trans (jU58 0 45 (by decide))); (try simp only [e9_0_32, e9_0_45, true_and, and_true]) <;> (first | omega | (simp only [Int32.reduceToInt, true_and, and_true, ne_eq, not_true_eq_false, false_and, or_false, false_or, true_or, or_true, false_implies] <;> omega))) (gu_I.up (j := 32) (k := 0) (v := x58_6) hI39 (ti_rng _).1 (ti_rng _).2) sz) (cwV 5 hts gX13_orderFrom_X13_orderFrom rfl rfl rfl (by decide +kernel) ⟨Nat.le_of_ble_eq_true rfl, Nat.le_of_ble_eq_true rfl⟩) rfl 0 yc_0 rfl (Nat.le_of_ble_eq_true rfl) ⟨Nat.zero_le _, Nat.zero_le _⟩ dX13_orderFrom_186 (fun G63 hw62 => ?_)
              have hI64 : yI G63 := hw62.1
              have hU65 : gu_un ycd [29, 33, 36, 37, 47, 1300, 1400, 1500, 1600, 1700, 1800, 1900, 2000, 2100, 3200, 3300] (gu_up G38 32 0 x58_6) G63 := hw62.2.1
              have hp66 := hw62.2.2
              have q67 : yNh (gu_up G38 32 0 x58_6) G63 := hp66.1
              have b68 : (0 : Int) ≤ (G63 0 32).toInt ∧ (G63 0 32).toInt ≤ 7 := hI64 0 32
              have q69 : ((G63 0 32).toInt = (G24 0 32).toInt) := by have h9 := hp66.2; (try simp only [(show (gu_up G38 32 0 x58_6) 0 32 = (G24 0 32) from hU40 0 32 (by decide))] at h9); first | exact h9 | omega
              clear hp66 hw62
              refine g_aload_n F 1 dX13_orderFrom_189 rfl rfl ?_
              refine u_callVv (k := 0) (n := 0) (b := a 0) (As := []) (st := []) F (fun sz => S_X13_putBack l D K a G63  (by (first | omega | (simp only [Int32.reduceToInt, true_and, and_true, ne_eq, not_true_eq_false, false_and, or_false, false_or, true_or, or_true, false_implies] <;> omega))) hI64 sz) (cwV 0 hts gX13_orderFrom_X13_putBack rfl rfl rfl (by decide +kernel) ⟨Nat.le_of_ble_eq_true rfl, Nat.le_of_ble_eq_true rfl⟩) rfl 0 yc_0 rfl (Nat.le_of_ble_eq_true rfl) ⟨Nat.zero_le _, Nat.zero_le _⟩ dX13_orderFrom_190 (fun G72 hw71 => ?_)
              have hI73 : yI G72 := hw71.1
              have hU74 : gu_un ycd [29, 33, 1400] G63 G72 := hw71.2.1
              have hp75 := hw71.2.2
              have b76 : (0 : Int) ≤ (G72 0 32).toInt ∧ (G72 0 32).toInt ≤ 7 := hI73 0 32
              have q77 : ((G72 0 32).toInt = (G63 0 32).toInt - 1) := hp75.1
              have q78 : ((∀ q : Nat, q < 96 → G72 14 q = (G63 19) (96 * ((G63 0 32).toInt - 1) + (q : Int)).toNat) ∧ G72 0 28 = (G63 20) ((G63 0 32).toInt - 1).toNat) := hp75.2.1
              have q79 : ((G72 15 = G63 15 ∧ G72 16 = G63 16 ∧ G72 17 = G63 17 ∧ G72 18 = G63 18) ∧ G72 19 = G63 19 ∧ G72 20 = G63 20) := hp75.2.2
              have bk80 : yNh Gj58 G72 := yNh.back (G := G63) (d := (Gj58 0 32).toInt) (yNd.tr (yNd.by q30.1 q30.2 q31.1 (by omega)) (yNd.tr (yNd.tr (yNd.tr yNd.rf (show yNd _ G24 G38 from (yNd.go (q44 rfl) hU40 rfl)) (Int.le_refl _)) (yNd.un (show gu_un ycd [3200] G38 (gu_up G38 32 0 x58_6) from (gu_un.up (j := 32) (k := 0) (v := x58_6) gu_un.rf (show (3200 : Nat) ∈ ([3200] : List Nat) by decide))) rfl) (Int.le_refl _)) (show yNd _ (gu_up G38 32 0 x58_6) G63 from (yNd.le (yNh.nd q67) (by have e9 : (gu_up G38 32 0 x58_6) 0 32 = (G24 0 32) := hU40 0 32 (by decide); rw [e9]; omega))) (Int.le_refl _)) (Int.le_refl _)) (yKe.nd (d' := (Gj58 0 32).toInt + 1) (yKe.by q30.1 q30.2 (by omega)) (yNd.tr (yNd.tr (yNd.tr yNd.rf (show yNd _ G24 G38 from (yNd.go (q44 rfl) hU40 rfl)) (Int.le_refl _)) (yNd.un (show gu_un ycd [3200] G38 (gu_up G38 32 0 x58_6) from (gu_un.up (j := 32) (k := 0) (v := x58_6) gu_un.rf (show (3200 : Nat) ∈ ([3200] : List Nat) by decide))) rfl) (Int.le_refl _)) (show yNd _ (gu_up G38 32 0 x58_6) G63 from (yNd.le (yNh.nd q67) (by have e9 : (gu_up G38 32 0 x58_6) 0 32 = (G24 0 32) := hU40 0 32 (by decide); rw [e9]; omega))) (Int.le_refl _)) (by omega) (by omega)) rfl (fun q hq => by have h9 := q78.1 q hq; rw [show (G63 0 32).toInt - 1 = (Gj58 0 32).toInt by omega] at h9; exact h9) (by have h9 := q78.2; rw [show (G63 0 32).toInt - 1 = (Gj58 0 32).toInt by omega] at h9; exact h9) (yNd.tr yNd.rf (yNd.pl q79) (Int.le_refl _)) (by omega)
              clear hp75 hw71
              refine g_locals [(0, .ref (a 0)), (1, .int 0), (2, .int p1), (3, .int p2), (4, .int p3), (5, .int p4), (6, .int x58_6)] [1, 2, 3, 4, 5, 6, 7] rfl ?_
              exact J_193 G72 (by have h9 := ti_rng x58_6; omega) hI73 (gu_un.tr (gu_un.tr (gu_un.up (j := 32) (k := 0) (v := x58_6) (gu_un.tr (gu_un.tr gu_un.rf (gu_un.su hU26 rfl)) (gu_un.su hU40 rfl)) (show (3200 : Nat) ∈ ([29, 33, 36, 37, 47, 1300, 1400, 1500, 1600, 1700, 1800, 1900, 2000, 2100, 3200, 3300] : List Nat) by decide)) (gu_un.su hU65 rfl)) (gu_un.su hU74 rfl)) (by (first | omega | (simp only [Int32.reduceToInt, true_and, and_true, ne_eq, not_true_eq_false, false_and, or_false, false_or, true_or, or_true, false_implies] <;> omega))) (by have e9_0_45 : G72 0 45 = (G 0 45) := (hU74 0 45 (by decide)).trans ((hU65 0 45 (by decide)).trans ((hU40 0 45 (by decide)).trans ((hU26 0 45 (by decide)).trans (jU58 0 45 (by decide))))); (try simp only [e9_0_45, true_and, and_true]) <;> (first | omega | (simp only [Int32.reduceToInt, true_and, and_true, ne_eq, not_true_eq_false, false_and, or_false, false_or, true_or, or_true, false_implies] <;> omega))) ((yNh.tr (show yNh G Gj58 from nh58) (show yNh Gj58 G72 from bk80)))
          · have q19 : (psMx (psHr (Gj58 14) ((G 28) (x58_6.toInt).toNat).toInt (G 3 0).toInt) ((G 3 0).toInt - 1).toNat - ((G 30) (x58_6.toInt).toNat).toInt * ((G 31) (x58_6.toInt).toNat).toInt < 1) := by have h9 := q19; (try simp only [(show Gj58 3 0 = (G 3 0) from jU58 3 0 (by decide)), (show Gj58 3 0 = (G 3 0) from jU58 3 0 (by decide))] at h9); exact h9
            refine v_if_ne F 108 dX13_orderFrom_102 (by decide) 0 rfl (fun c81 => absurd c81 (by decide)) (fun c81 => ?_)
            refine g_goto F 193 dX13_orderFrom_105 (by decide) ?_
            have b82 : (0 : Int) ≤ (Gj58 0 32).toInt ∧ (Gj58 0 32).toInt ≤ 7 := jI58 0 32
            exact J_193 Gj58 (by have h9 := ti_rng x58_6; omega) jI58 gu_un.rf (by (first | omega | (simp only [Int32.reduceToInt, true_and, and_true, ne_eq, not_true_eq_false, false_and, or_false, false_or, true_or, or_true, false_implies] <;> omega))) (by have e9_0_45 : Gj58 0 45 = (G 0 45) := jU58 0 45 (by decide); (try simp only [e9_0_45, true_and, and_true]) <;> (first | omega | (simp only [Int32.reduceToInt, true_and, and_true, ne_eq, not_true_eq_false, false_and, or_false, false_or, true_or, or_true, false_implies] <;> omega))) (nh58)
  have J_25 : ∀ (fuel : Nat) (x25_6 : Int32) (Gj25 : gS), (2147483647 - x25_6.toInt).toNat < fuel → (0 ≤ x25_6.toInt ∧ x25_6.toInt ≤ 5) → (yI Gj25) → (gu_un ycd [47, 3300] G Gj25) → (((G 0 32).toInt = (G 0 32).toInt)) → gG p l e (gR 10 0 0 285) s m args below meth c D A 8 Q 0 0 (yW K a Gj25) (tK K) [(0, .ref (a 0)), (6, .int x25_6)] 25 [] := by
    intro fuel
    induction fuel with
    | zero => intro x25_6 Gj25 hm; exact absurd hm (Nat.not_lt_zero _)
    | succ fuel_25 ih_25 =>
      intro x25_6 Gj25 hm_25 h25_6 jI25 jU25 dc_25
      refine g_iload F 1 dX13_orderFrom_25 rfl ?_
      refine g_aload_n F 0 dX13_orderFrom_27 rfl rfl ?_
      refine yg_0_45 F i_X13 w_0 dX13_orderFrom_28 (G 0 45) (jU25 0 45 (by decide)) ?_
      refine v_icmp_ge F 54 dX13_orderFrom_31 (by decide) x25_6.toInt (G 0 45).toInt rfl rfl (fun c83 => ?_) (fun c83 => ?_)
      · exact u_vret F hA hQ hr Gj25 (⟨jI25, (gu_un.tr gu_un.rf (gu_un.su jU25 rfl)), ((yNh.tr (show yNh G G from yNh.rf) (show yNh G Gj25 from (yNh.un jU25 rfl)))), (by show ((Gj25 0 32).toInt = (G 0 32).toInt); have e9_0_32 : Gj25 0 32 = (G 0 32) := jU25 0 32 (by decide); (try simp only [e9_0_32, true_and, and_true]) <;> (first | omega | (simp only [Int32.reduceToInt, true_and, and_true, ne_eq, not_true_eq_false, false_and, or_false, false_or, true_or, or_true, false_implies] <;> omega)))⟩) rfl rfl dX13_orderFrom_54
      · refine g_aload_n F 0 dX13_orderFrom_34 rfl rfl ?_
        refine yg_0_52 F i_X13 w_7 dX13_orderFrom_35 ?_
        refine g_iload F 1 dX13_orderFrom_38 rfl ?_
        refine g_aload_n F 0 dX13_orderFrom_40 rfl rfl ?_
        refine yg_0_51 F i_X13 w_5 dX13_orderFrom_41 ?_
        refine g_iload F 1 dX13_orderFrom_44 rfl ?_
        refine u_iald F 32 0 yc_32 rfl x25_6.toInt rfl (by omega) (by omega) dX13_orderFrom_46 (fun _ => True) (fun _ => trivial) (fun y84 by84 => ?_)
        refine u_iast F 33 0 yc_33 rfl x25_6.toInt rfl (by omega) (by omega) (yW K a (gu_up Gj25 33 (x25_6.toInt).toNat y84)) (ys_33 _) dX13_orderFrom_47 ?_
        refine u_iinc F (fun v_ => [(6, .int v_), (0, .ref (a 0))]) dX13_orderFrom_48 (j := 1) rfl x25_6.toInt 1 rfl rfl (by omega) (by omega) (by decide) (fun _ => rfl) (fun y85 ey85 => ?_)
        refine g_goto F 25 dX13_orderFrom_51 (by decide) ?_
        refine g_locals [(0, .ref (a 0)), (6, .int y85)] [1, 0] rfl ?_
        exact ih_25 y85 (gu_up Gj25 33 (x25_6.toInt).toNat y84) (by omega) (by have h9 := ti_rng y85; omega) (gu_I.up (j := 33) (k := (x25_6.toInt).toNat) (v := y84) jI25 (ti_rng _).1 (ti_rng _).2) (gu_un.up (j := 33) (k := (x25_6.toInt).toNat) (v := y84) (gu_un.tr gu_un.rf (gu_un.su jU25 rfl)) (show (3300 : Nat) ∈ ([47, 3300] : List Nat) by decide)) (by have e9_0_32 : (gu_up Gj25 33 (x25_6.toInt).toNat y84) 0 32 = (G 0 32) := jU25 0 32 (by decide); (try simp only [e9_0_32, true_and, and_true]) <;> (first | omega | (simp only [Int32.reduceToInt, true_and, and_true, ne_eq, not_true_eq_false, false_and, or_false, false_or, true_or, or_true, false_implies] <;> omega)))
  refine g_iload_n F 1 dX13_orderFrom_0 rfl rfl ?_
  refine g_aload_n F 0 dX13_orderFrom_1 rfl rfl ?_
  refine yg_0_45 F i_X13 w_0 dX13_orderFrom_2 (G 0 45) (rfl) ?_
  refine v_icmp_ne F 55 dX13_orderFrom_5 (by decide) 0 (G 0 45).toInt rfl rfl (fun c86 => ?_) (fun c86 => ?_)
  · refine g_iconst F 0 dX13_orderFrom_55 (by decide) ?_
    refine g_istore F [(6, .int 0), (0, .ref (a 0)), (1, .int 0), (2, .int p1), (3, .int p2), (4, .int p3), (5, .int p4)] dX13_orderFrom_56 (by decide) rfl ?_
    refine g_locals [(0, .ref (a 0)), (1, .int 0), (2, .int p1), (3, .int p2), (4, .int p3), (5, .int p4), (6, .int 0)] [1, 2, 3, 4, 5, 6, 0] rfl ?_
    exact J_58 _ 0 G (Nat.lt_succ_self _) (by decide) hI gu_un.rf (by (first | omega | (simp only [Int32.reduceToInt, true_and, and_true, ne_eq, not_true_eq_false, false_and, or_false, false_or, true_or, or_true, false_implies] <;> omega))) (by (first | omega | (simp only [Int32.reduceToInt, true_and, and_true, ne_eq, not_true_eq_false, false_and, or_false, false_or, true_or, or_true, false_implies] <;> omega))) (yNh.rf)
  · refine g_iload_n F 3 dX13_orderFrom_8 rfl rfl ?_
    refine g_aload_n F 0 dX13_orderFrom_9 rfl rfl ?_
    refine yg_0_46 F i_X13 w_8 dX13_orderFrom_10 (G 0 46) (rfl) ?_
    have b87 := ti_rng (G 0 46)
    refine v_icmp_lt F 17 dX13_orderFrom_13 (by decide) s2 (G 0 46).toInt e2 rfl (fun c88 => ?_) (fun c88 => ?_)
    · refine g_aload_n F 0 dX13_orderFrom_17 rfl rfl ?_
      refine g_iload_n F 3 dX13_orderFrom_18 rfl rfl ?_
      refine yp_0_46 F i_X13 w_8 dX13_orderFrom_19 ?_
      refine g_iconst F 0 dX13_orderFrom_22 (by decide) ?_
      refine g_istore F [(6, .int 0), (0, .ref (a 0)), (1, .int 0), (2, .int p1), (3, .int p2), (4, .int p3), (5, .int p4)] dX13_orderFrom_23 (by decide) rfl ?_
      refine g_locals [(0, .ref (a 0)), (6, .int 0)] [1, 0] rfl ?_
      exact J_25 _ 0 (gu_up G 0 46 p2) (Nat.lt_succ_self _) (by decide) (gu_I.up (j := 0) (k := 46) (v := p2) hI (ti_rng _).1 (ti_rng _).2) (gu_un.up (j := 0) (k := 46) (v := p2) gu_un.rf (show (47 : Nat) ∈ ([47, 3300] : List Nat) by decide)) (by have e9_0_32 : (gu_up G 0 46 p2) 0 32 = (G 0 32) := rfl; (try simp only [e9_0_32, true_and, and_true]) <;> (first | omega | (simp only [Int32.reduceToInt, true_and, and_true, ne_eq, not_true_eq_false, false_and, or_false, false_or, true_or, or_true, false_implies] <;> omega)))
    · exact u_vret F hA hQ hr G (⟨hI, gu_un.rf, (yNh.rf), (by show ((G 0 32).toInt = (G 0 32).toInt); (first | omega | (simp only [Int32.reduceToInt, true_and, and_true, ne_eq, not_true_eq_false, false_and, or_false, false_or, true_or, or_true, false_implies] <;> omega)))⟩) rfl rfl dX13_orderFrom_16

theorem dX13_order_0 : decode cX13_order 0 = .ok (.iload_n 1, 1) := by decide +kernel
theorem dX13_order_1 : decode cX13_order 1 = .ok (.iload_n 2, 1) := by decide +kernel
theorem dX13_order_2 : decode cX13_order 2 = .ok (.invokestatic 435, 3) := by decide +kernel
theorem dX13_order_5 : decode cX13_order 5 = .ok (.ifCond .ne 6, 3) := by decide +kernel
theorem dX13_order_8 : decode cX13_order 8 = .ok (.bipush (-2), 2) := by decide +kernel
theorem dX13_order_10 : decode cX13_order 10 = .ok (.ireturn, 1) := by decide +kernel
theorem dX13_order_11 : decode cX13_order 11 = .ok (.aload_n 0, 1) := by decide +kernel
theorem dX13_order_12 : decode cX13_order 12 = .ok (.getfield 331, 3) := by decide +kernel
theorem dX13_order_15 : decode cX13_order 15 = .ok (.ifCond .ne 6, 3) := by decide +kernel
theorem dX13_order_18 : decode cX13_order 18 = .ok (.bipush (-4), 2) := by decide +kernel
theorem dX13_order_20 : decode cX13_order 20 = .ok (.ireturn, 1) := by decide +kernel
theorem dX13_order_21 : decode cX13_order 21 = .ok (.aload_n 0, 1) := by decide +kernel
theorem dX13_order_22 : decode cX13_order 22 = .ok (.ldc_w 391, 3) := by decide +kernel
theorem dX13_order_25 : decode cX13_order 25 = .ok (.putfield 493, 3) := by decide +kernel
theorem dX13_order_28 : decode cX13_order 28 = .ok (.aload_n 0, 1) := by decide +kernel
theorem dX13_order_29 : decode cX13_order 29 = .ok (.iconst 0, 1) := by decide +kernel
theorem dX13_order_30 : decode cX13_order 30 = .ok (.iconst 0, 1) := by decide +kernel
theorem dX13_order_31 : decode cX13_order 31 = .ok (.iconst 0, 1) := by decide +kernel
theorem dX13_order_32 : decode cX13_order 32 = .ok (.iload_n 1, 1) := by decide +kernel
theorem dX13_order_33 : decode cX13_order 33 = .ok (.iload_n 2, 1) := by decide +kernel
theorem dX13_order_34 : decode cX13_order 34 = .ok (.invokevirtual 496, 3) := by decide +kernel
theorem dX13_order_37 : decode cX13_order 37 = .ok (.aload_n 0, 1) := by decide +kernel
theorem dX13_order_38 : decode cX13_order 38 = .ok (.getfield 493, 3) := by decide +kernel
theorem dX13_order_41 : decode cX13_order 41 = .ok (.ldc_w 391, 3) := by decide +kernel
theorem dX13_order_44 : decode cX13_order 44 = .ok (.if_icmp .lt 5, 3) := by decide +kernel
theorem dX13_order_47 : decode cX13_order 47 = .ok (.iconst (-1), 1) := by decide +kernel
theorem dX13_order_48 : decode cX13_order 48 = .ok (.ireturn, 1) := by decide +kernel
theorem dX13_order_49 : decode cX13_order 49 = .ok (.iconst 0, 1) := by decide +kernel
theorem dX13_order_50 : decode cX13_order 50 = .ok (.istore_n 3, 1) := by decide +kernel
theorem dX13_order_51 : decode cX13_order 51 = .ok (.iload_n 3, 1) := by decide +kernel
theorem dX13_order_52 : decode cX13_order 52 = .ok (.aload_n 0, 1) := by decide +kernel
theorem dX13_order_53 : decode cX13_order 53 = .ok (.getfield 331, 3) := by decide +kernel
theorem dX13_order_56 : decode cX13_order 56 = .ok (.if_icmp .ge 21, 3) := by decide +kernel
theorem dX13_order_59 : decode cX13_order 59 = .ok (.aload_n 0, 1) := by decide +kernel
theorem dX13_order_60 : decode cX13_order 60 = .ok (.getfield 274, 3) := by decide +kernel
theorem dX13_order_63 : decode cX13_order 63 = .ok (.iload_n 3, 1) := by decide +kernel
theorem dX13_order_64 : decode cX13_order 64 = .ok (.aload_n 0, 1) := by decide +kernel
theorem dX13_order_65 : decode cX13_order 65 = .ok (.getfield 271, 3) := by decide +kernel
theorem dX13_order_68 : decode cX13_order 68 = .ok (.iload_n 3, 1) := by decide +kernel
theorem dX13_order_69 : decode cX13_order 69 = .ok (.iaload, 1) := by decide +kernel
theorem dX13_order_70 : decode cX13_order 70 = .ok (.iastore, 1) := by decide +kernel
theorem dX13_order_71 : decode cX13_order 71 = .ok (.iinc 3 1, 3) := by decide +kernel
theorem dX13_order_74 : decode cX13_order 74 = .ok (.goto (-23), 3) := by decide +kernel
theorem dX13_order_77 : decode cX13_order 77 = .ok (.aload_n 0, 1) := by decide +kernel
theorem dX13_order_78 : decode cX13_order 78 = .ok (.iconst 1, 1) := by decide +kernel
theorem dX13_order_79 : decode cX13_order 79 = .ok (.putfield 334, 3) := by decide +kernel
theorem dX13_order_82 : decode cX13_order 82 = .ok (.aload_n 0, 1) := by decide +kernel
theorem dX13_order_83 : decode cX13_order 83 = .ok (.getfield 493, 3) := by decide +kernel
theorem dX13_order_86 : decode cX13_order 86 = .ok (.ireturn, 1) := by decide +kernel
set_option maxRecDepth 20000 in
theorem ggX13_order_X13_isMachine : GoodIn wsX13_order wsX13_isMachine := goodIn_r _ [10, 11, 12, 13, 9, 14] rfl (by decide +kernel)
set_option maxRecDepth 20000 in
theorem gX13_order_X13_isMachine : GoodIn wsX13_order (va_wsS RX13 435 yX13_isMachine wsX13_isMachine) := goodIn_app (goodIn_of _ (by decide +kernel)) ggX13_order_X13_isMachine
set_option maxRecDepth 20000 in
theorem ggX13_order_X13_orderFrom : GoodIn wsX13_order wsX13_orderFrom := goodIn_r _ [18, 1, 3, 5, 19, 20, 21, 22, 23, 24, 25, 26, 27, 9, 28, 29, 30, 31, 32, 33, 34, 35, 36, 37, 38, 39, 40, 41, 42, 43, 44, 45, 46, 47, 48, 49, 50, 51, 52, 53, 54, 55, 56, 57, 58, 59, 60, 61, 62, 63, 2, 64, 65, 66, 67, 68, 69, 70, 71, 72, 73, 74, 75, 76, 77, 78, 79, 80, 81, 82, 83, 84, 85, 86, 87, 88, 89, 90, 91, 92, 93, 94, 95, 96, 97, 98, 15, 16, 17, 99, 100, 101, 102, 103, 104, 105, 106, 107, 108, 109, 110, 111, 112, 113, 114, 115, 116, 117, 118, 119, 120, 121, 122, 123, 124, 125, 126, 127, 128, 129, 130, 131, 132, 133, 134, 135, 136, 137, 138, 139, 140, 141, 142, 143, 144, 145, 146, 147, 148, 149, 150, 151, 152, 153, 154, 155, 156, 157, 158, 159, 160, 161, 162, 163, 164, 165, 166, 167, 168, 169, 170, 171, 172, 173, 174, 175] rfl (by decide +kernel)
set_option maxRecDepth 20000 in
theorem gX13_order_X13_orderFrom : GoodIn wsX13_order (wsV RX13 496 RX13 yX13_orderFrom wsX13_orderFrom) := goodIn_app (goodIn_of _ (by decide +kernel)) ggX13_order_X13_orderFrom
set_option maxHeartbeats 4000000 in
set_option maxRecDepth 100000 in
theorem S_X13_order (l : Launch) (D : va_G) (K : Nat → ClassId) (a : Nat → Nat) (G : gS) (p0 : Int32) (s0 : Int) (p1 : Int32) (s1 : Int) (e0 : p0.toInt = s0) (e1 : p1.toInt = s1) (wf : yW3 G) (d0 : ((G 0 32).toInt = 0)) (hI : yI G) (sz : Nat) : Ki l yX13_order wsX13_order 11 312 0 0 D [.ref (a 0), .int p0, .int p1] (yW K a G) (tK K) sz (fun (r : Int32) (G' : gS) => (yI G') ∧ (gu_un ycd [29, 33, 36, 37, 47, 54, 1300, 1400, 1500, 1600, 1700, 1800, 1900, 2000, 2100, 3200, 3300, 3400] G G') ∧ (yNh G G') ∧ (((G' 0 32).toInt = (G 0 32).toInt))) (fun (G' : gS) => (yW K a G')) (fun _ => (tK K)) := by
  unfold Ki
  refine g_ofW (cc := cX13_order) (lv := [(0, .ref (a 0)), (1, .int p0), (2, .int p1)]) (by decide) rfl (Nat.le_of_ble_eq_true rfl) rfl ?_
  intro p e s m args below meth c A Q hA hQ F hr hnm
  have hts := F.2.2.2.2.1
  have w_0 : (Cond.fieldLink RX13 331 "QuietCutModel" "jobs" "I").before args s = true := hts _ (List.mem_of_getElem? (i := 1) rfl)
  have i_X13 : ∀ w ∈ u_ws RX13 TX13 73, w ∈ wsX13_order := fun _ h => List.mem_cons_of_mem _ (List.mem_append_right _ h)
  have w_1 : (Cond.fieldLink RX13 334 "QuietCutModel" "hasOrder" "Z").before args s = true := hts _ (List.mem_of_getElem? (i := 6) rfl)
  have w_2 : (Cond.fieldLink RX13 493 "QuietCutModel" "orderBest" "I").before args s = true := hts _ (List.mem_of_getElem? (i := 3) rfl)
  have w_3 : (Cond.fieldLink RX13 274 "QuietCutModel" "orderTold" "[I").before args s = true := hts _ (List.mem_of_getElem? (i := 4) rfl)
  have w_4 : (Cond.fieldLink RX13 271 "QuietCutModel" "bestRow" "[I").before args s = true := hts _ (List.mem_of_getElem? (i := 5) rfl)
  have w_5 : (Cond.constant RX13 391 (1000000000)).before args s = true := hts _ (List.mem_of_getElem? (i := 2) rfl)
  have rg0 : -2147483648 ≤ s0 ∧ s0 ≤ 2147483647 := e0 ▸ ti_rng p0
  have rg1 : -2147483648 ≤ s1 ∧ s1 ≤ 2147483647 := e1 ▸ ti_rng p1
  have b1 : (0 : Int) ≤ (G 0 32).toInt ∧ (G 0 32).toInt ≤ 7 := hI 0 32
  have J_51 : ∀ (fuel : Nat) (x51_3 : Int32) (Gj51 : gS), (2147483647 - x51_3.toInt).toNat < fuel → (0 ≤ x51_3.toInt ∧ x51_3.toInt ≤ 5) → (yI Gj51) → (gu_un ycd [29, 33, 36, 37, 47, 1300, 1400, 1500, 1600, 1700, 1800, 1900, 2000, 2100, 3200, 3300, 3400] G Gj51) → (((Gj51 0 32).toInt = (G 0 32).toInt)) → (yNh G Gj51) → gG p l e (gR 11 0 0 312) s m args below meth c D A 4 Q 0 0 (yW K a Gj51) (tK K) [(0, .ref (a 0)), (3, .int x51_3)] 51 [] := by
    intro fuel
    induction fuel with
    | zero => intro x51_3 Gj51 hm; exact absurd hm (Nat.not_lt_zero _)
    | succ fuel_51 ih_51 =>
      intro x51_3 Gj51 hm_51 h51_3 jI51 jU51 dc_51 nh51
      refine g_iload_n F 1 dX13_order_51 rfl rfl ?_
      refine g_aload_n F 0 dX13_order_52 rfl rfl ?_
      refine yg_0_45 F i_X13 w_0 dX13_order_53 (G 0 45) (jU51 0 45 (by decide)) ?_
      have b2 : (0 : Int) ≤ (G 0 45).toInt ∧ (G 0 45).toInt ≤ 5 := hI 0 45
      refine v_icmp_ge F 77 dX13_order_56 (by decide) x51_3.toInt (G 0 45).toInt rfl rfl (fun c3 => ?_) (fun c3 => ?_)
      · refine g_aload_n F 0 dX13_order_77 rfl rfl ?_
        refine g_iconst F 1 dX13_order_78 (by decide) ?_
        refine yp_0_53 F i_X13 w_1 dX13_order_79 (by decide) ?_
        refine g_aload_n F 0 dX13_order_82 rfl rfl ?_
        refine yg_0_46 F i_X13 w_2 dX13_order_83 (Gj51 0 46) (rfl) ?_
        have b4 : (0 : Int) ≤ (Gj51 0 32).toInt ∧ (Gj51 0 32).toInt ≤ 7 := jI51 0 32
        exact u_iret F hA hQ hr (gu_up Gj51 0 53 1) (⟨(gu_I.up (j := 0) (k := 53) (v := 1) jI51 (show (0 : Int) ≤ (1 : Int32).toInt by decide) (show (1 : Int32).toInt ≤ 1 by decide)), (gu_un.up (j := 0) (k := 53) (v := 1) (gu_un.tr gu_un.rf (gu_un.su jU51 rfl)) (show (54 : Nat) ∈ ([29, 33, 36, 37, 47, 54, 1300, 1400, 1500, 1600, 1700, 1800, 1900, 2000, 2100, 3200, 3300, 3400] : List Nat) by decide)), ((yNh.tr (show yNh G Gj51 from nh51) (yNh.un (show gu_un ycd [54] Gj51 (gu_up Gj51 0 53 1) from (gu_un.up (j := 0) (k := 53) (v := 1) gu_un.rf (show (54 : Nat) ∈ ([54] : List Nat) by decide))) rfl))), (by show (((gu_up Gj51 0 53 1) 0 32).toInt = (G 0 32).toInt); have e9_0_32 : (gu_up Gj51 0 53 1) 0 32 = (Gj51 0 32) := rfl; (try simp only [e9_0_32, true_and, and_true]) <;> (first | omega | (simp only [Int32.reduceToInt, true_and, and_true, ne_eq, not_true_eq_false, false_and, or_false, false_or, true_or, or_true, false_implies] <;> omega)))⟩) rfl rfl dX13_order_86
      · refine g_aload_n F 0 dX13_order_59 rfl rfl ?_
        refine yg_0_54 F i_X13 w_3 dX13_order_60 ?_
        refine g_iload_n F 1 dX13_order_63 rfl rfl ?_
        refine g_aload_n F 0 dX13_order_64 rfl rfl ?_
        refine yg_0_52 F i_X13 w_4 dX13_order_65 ?_
        refine g_iload_n F 1 dX13_order_68 rfl rfl ?_
        refine u_iald F 33 0 yc_33 rfl x51_3.toInt rfl (by omega) (by omega) dX13_order_69 (fun _ => True) (fun _ => trivial) (fun y5 by5 => ?_)
        refine u_iast F 34 0 yc_34 rfl x51_3.toInt rfl (by omega) (by omega) (yW K a (gu_up Gj51 34 (x51_3.toInt).toNat y5)) (ys_34 _) dX13_order_70 ?_
        refine u_iinc F (fun v_ => [(3, .int v_), (0, .ref (a 0))]) dX13_order_71 (j := 1) rfl x51_3.toInt 1 rfl rfl (by omega) (by omega) (by decide) (fun _ => rfl) (fun y6 ey6 => ?_)
        refine g_goto F 51 dX13_order_74 (by decide) ?_
        refine g_locals [(0, .ref (a 0)), (3, .int y6)] [1, 0] rfl ?_
        have b7 : (0 : Int) ≤ (Gj51 0 32).toInt ∧ (Gj51 0 32).toInt ≤ 7 := jI51 0 32
        exact ih_51 y6 (gu_up Gj51 34 (x51_3.toInt).toNat y5) (by omega) (by have h9 := ti_rng y6; omega) (gu_I.up (j := 34) (k := (x51_3.toInt).toNat) (v := y5) jI51 (ti_rng _).1 (ti_rng _).2) (gu_un.up (j := 34) (k := (x51_3.toInt).toNat) (v := y5) (gu_un.tr gu_un.rf (gu_un.su jU51 rfl)) (show (3400 : Nat) ∈ ([29, 33, 36, 37, 47, 1300, 1400, 1500, 1600, 1700, 1800, 1900, 2000, 2100, 3200, 3300, 3400] : List Nat) by decide)) (by have e9_0_32 : (gu_up Gj51 34 (x51_3.toInt).toNat y5) 0 32 = (Gj51 0 32) := rfl; (try simp only [e9_0_32, true_and, and_true]) <;> (first | omega | (simp only [Int32.reduceToInt, true_and, and_true, ne_eq, not_true_eq_false, false_and, or_false, false_or, true_or, or_true, false_implies] <;> omega))) ((yNh.tr (show yNh G Gj51 from nh51) (yNh.un (show gu_un ycd [3400] Gj51 (gu_up Gj51 34 (x51_3.toInt).toNat y5) from (gu_un.up (j := 34) (k := (x51_3.toInt).toNat) (v := y5) gu_un.rf (show (3400 : Nat) ∈ ([3400] : List Nat) by decide))) rfl)))
  refine g_iload_n F 1 dX13_order_0 rfl rfl ?_
  refine g_iload_n F 2 dX13_order_1 rfl rfl ?_
  refine u_call0 (k := 0) (n := 0) (As := [.int p0, .int p1]) (st := []) F (fun sz => S_X13_isMachine l D p0 s0 p1 s1 e0 e1 sz) (va_cwS 2 hts gX13_order_X13_isMachine rfl rfl rfl (by decide +kernel) ⟨Nat.le_of_ble_eq_true rfl, Nat.le_of_ble_eq_true rfl⟩) rfl (Nat.le_of_ble_eq_true rfl) ⟨Nat.zero_le _, Nat.zero_le _⟩ dX13_order_2 (fun r8 _ hw9 => ?_)
  rcases hw9 with ⟨rfl, q11⟩ | ⟨rfl, q12⟩
  · refine v_if_ne F 11 dX13_order_5 (by decide) 1 rfl (fun c13 => ?_) (fun c13 => absurd c13 (by decide))
    refine g_aload_n F 0 dX13_order_11 rfl rfl ?_
    refine yg_0_45 F i_X13 w_0 dX13_order_12 (G 0 45) (rfl) ?_
    have b14 : (0 : Int) ≤ (G 0 45).toInt ∧ (G 0 45).toInt ≤ 5 := hI 0 45
    refine v_if_ne F 21 dX13_order_15 (by decide) (G 0 45).toInt rfl (fun c15 => ?_) (fun c15 => ?_)
    · refine g_aload_n F 0 dX13_order_21 rfl rfl ?_
      refine g_ldcw F w_5 dX13_order_22 ?_
      refine yp_0_46 F i_X13 w_2 dX13_order_25 ?_
      refine g_aload_n F 0 dX13_order_28 rfl rfl ?_
      refine g_iconst F 0 dX13_order_29 (by decide) ?_
      refine g_iconst F 0 dX13_order_30 (by decide) ?_
      refine g_iconst F 0 dX13_order_31 (by decide) ?_
      refine g_iload_n F 1 dX13_order_32 rfl rfl ?_
      refine g_iload_n F 2 dX13_order_33 rfl rfl ?_
      refine u_callVv (k := 0) (n := 0) (b := a 0) (As := [.int 0, .int 0, .int 0, .int p0, .int p1]) (st := []) F (fun sz => S_X13_orderFrom_v0 l D K a (gu_up G 0 46 1000000000) 0 0 0 0 p0 s0 p1 s1 rfl rfl e0 (by omega) e1 (by omega) (yW3.un wf (show gu_un ycd [47] G (gu_up G 0 46 1000000000) from (gu_un.up (j := 0) (k := 46) (v := 1000000000) gu_un.rf (show (47 : Nat) ∈ ([47] : List Nat) by decide))) rfl) (by have e9_0_32 : (gu_up G 0 46 1000000000) 0 32 = (G 0 32) := rfl; have e9_0_45 : (gu_up G 0 46 1000000000) 0 45 = (G 0 45) := rfl; (try simp only [e9_0_32, e9_0_45, true_and, and_true]) <;> (first | omega | (simp only [Int32.reduceToInt, true_and, and_true, ne_eq, not_true_eq_false, false_and, or_false, false_or, true_or, or_true, false_implies] <;> omega))) (gu_I.up (j := 0) (k := 46) (v := 1000000000) hI (ti_rng _).1 (ti_rng _).2) sz) (cwV 5 hts gX13_order_X13_orderFrom rfl rfl rfl (by decide +kernel) ⟨Nat.le_of_ble_eq_true rfl, Nat.le_of_ble_eq_true rfl⟩) rfl 0 yc_0 rfl (Nat.le_of_ble_eq_true rfl) ⟨Nat.zero_le _, Nat.zero_le _⟩ dX13_order_34 (fun G18 hw17 => ?_)
      have hI19 : yI G18 := hw17.1
      have hU20 : gu_un ycd [29, 33, 36, 37, 47, 1300, 1400, 1500, 1600, 1700, 1800, 1900, 2000, 2100, 3200, 3300] (gu_up G 0 46 1000000000) G18 := hw17.2.1
      have hp21 := hw17.2.2
      have q22 : yNh (gu_up G 0 46 1000000000) G18 := hp21.1
      have b23 : (0 : Int) ≤ (G18 0 32).toInt ∧ (G18 0 32).toInt ≤ 7 := hI19 0 32
      have q24 : ((G18 0 32).toInt = (G 0 32).toInt) := hp21.2
      clear hp21 hw17
      refine g_aload_n F 0 dX13_order_37 rfl rfl ?_
      refine yg_0_46 F i_X13 w_2 dX13_order_38 (G18 0 46) (rfl) ?_
      refine g_ldcw F w_5 dX13_order_41 ?_
      refine v_icmp_lt F 49 dX13_order_44 (by decide) (G18 0 46).toInt 1000000000 rfl rfl (fun c25 => ?_) (fun c25 => ?_)
      · refine g_iconst F 0 dX13_order_49 (by decide) ?_
        refine g_istore_n F [(3, .int 0), (0, .ref (a 0)), (1, .int p0), (2, .int p1)] dX13_order_50 rfl (by decide) rfl ?_
        refine g_locals [(0, .ref (a 0)), (3, .int 0)] [1, 0] rfl ?_
        exact J_51 _ 0 G18 (Nat.lt_succ_self _) (by decide) hI19 (gu_un.tr (gu_un.up (j := 0) (k := 46) (v := 1000000000) gu_un.rf (show (47 : Nat) ∈ ([29, 33, 36, 37, 47, 1300, 1400, 1500, 1600, 1700, 1800, 1900, 2000, 2100, 3200, 3300, 3400] : List Nat) by decide)) (gu_un.su hU20 rfl)) (by (first | omega | (simp only [Int32.reduceToInt, true_and, and_true, ne_eq, not_true_eq_false, false_and, or_false, false_or, true_or, or_true, false_implies] <;> omega))) ((yNh.tr (show yNh G (gu_up G 0 46 1000000000) from (yNh.tr (show yNh G G from yNh.rf) (yNh.un (show gu_un ycd [47] G (gu_up G 0 46 1000000000) from (gu_un.up (j := 0) (k := 46) (v := 1000000000) gu_un.rf (show (47 : Nat) ∈ ([47] : List Nat) by decide))) rfl))) (show yNh (gu_up G 0 46 1000000000) G18 from q22)))
      · refine g_iconst F (-1) dX13_order_47 (by decide) ?_
        exact u_iret F hA hQ hr G18 (⟨hI19, (gu_un.tr (gu_un.up (j := 0) (k := 46) (v := 1000000000) gu_un.rf (show (47 : Nat) ∈ ([29, 33, 36, 37, 47, 54, 1300, 1400, 1500, 1600, 1700, 1800, 1900, 2000, 2100, 3200, 3300, 3400] : List Nat) by decide)) (gu_un.su hU20 rfl)), ((yNh.tr (show yNh G (gu_up G 0 46 1000000000) from (yNh.tr (show yNh G G from yNh.rf) (yNh.un (show gu_un ycd [47] G (gu_up G 0 46 1000000000) from (gu_un.up (j := 0) (k := 46) (v := 1000000000) gu_un.rf (show (47 : Nat) ∈ ([47] : List Nat) by decide))) rfl))) (show yNh (gu_up G 0 46 1000000000) G18 from q22))), (by show ((G18 0 32).toInt = (G 0 32).toInt); (first | omega | (simp only [Int32.reduceToInt, true_and, and_true, ne_eq, not_true_eq_false, false_and, or_false, false_or, true_or, or_true, false_implies] <;> omega)))⟩) rfl rfl dX13_order_48
    · refine g_bipush F (-4) dX13_order_18 (by decide) ?_
      exact u_iret F hA hQ hr G (⟨hI, gu_un.rf, (yNh.rf), (by show ((G 0 32).toInt = (G 0 32).toInt); (first | omega | (simp only [Int32.reduceToInt, true_and, and_true, ne_eq, not_true_eq_false, false_and, or_false, false_or, true_or, or_true, false_implies] <;> omega)))⟩) rfl rfl dX13_order_20
  · refine v_if_ne F 11 dX13_order_5 (by decide) 0 rfl (fun c26 => absurd c26 (by decide)) (fun c26 => ?_)
    refine g_bipush F (-2) dX13_order_8 (by decide) ?_
    exact u_iret F hA hQ hr G (⟨hI, gu_un.rf, (yNh.rf), (by show ((G 0 32).toInt = (G 0 32).toInt); (first | omega | (simp only [Int32.reduceToInt, true_and, and_true, ne_eq, not_true_eq_false, false_and, or_false, false_or, true_or, or_true, false_implies] <;> omega)))⟩) rfl rfl dX13_order_10
