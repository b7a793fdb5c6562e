theorem dX3_value_0 : decode cX3_value 0 = .ok (.iconst 0, 1) := by decide +kernel
theorem dX3_value_1 : decode cX3_value 1 = .ok (.istore_n 3, 1) := by decide +kernel
theorem dX3_value_2 : decode cX3_value 2 = .ok (.iconst 0, 1) := by decide +kernel
theorem dX3_value_3 : decode cX3_value 3 = .ok (.istore 4, 2) := by decide +kernel
theorem dX3_value_5 : decode cX3_value 5 = .ok (.iload 4, 2) := by decide +kernel
theorem dX3_value_7 : decode cX3_value 7 = .ok (.aload_n 0, 1) := by decide +kernel
theorem dX3_value_8 : decode cX3_value 8 = .ok (.getfield 21, 3) := by decide +kernel
theorem dX3_value_11 : decode cX3_value 11 = .ok (.if_icmp .ge 149, 3) := by decide +kernel
theorem dX3_value_14 : decode cX3_value 14 = .ok (.iload 4, 2) := by decide +kernel
theorem dX3_value_16 : decode cX3_value 16 = .ok (.bipush 80, 2) := by decide +kernel
theorem dX3_value_18 : decode cX3_value 18 = .ok (.if_icmp .ge 142, 3) := by decide +kernel
theorem dX3_value_21 : decode cX3_value 21 = .ok (.aload_n 0, 1) := by decide +kernel
theorem dX3_value_22 : decode cX3_value 22 = .ok (.getfield 11, 3) := by decide +kernel
theorem dX3_value_25 : decode cX3_value 25 = .ok (.iload 4, 2) := by decide +kernel
theorem dX3_value_27 : decode cX3_value 27 = .ok (.iaload, 1) := by decide +kernel
theorem dX3_value_28 : decode cX3_value 28 = .ok (.istore 5, 2) := by decide +kernel
theorem dX3_value_30 : decode cX3_value 30 = .ok (.iload 5, 2) := by decide +kernel
theorem dX3_value_32 : decode cX3_value 32 = .ok (.bipush (-2), 2) := by decide +kernel
theorem dX3_value_34 : decode cX3_value 34 = .ok (.if_icmp .lt 46, 3) := by decide +kernel
theorem dX3_value_37 : decode cX3_value 37 = .ok (.iload_n 3, 1) := by decide +kernel
theorem dX3_value_38 : decode cX3_value 38 = .ok (.bipush 12, 2) := by decide +kernel
theorem dX3_value_40 : decode cX3_value 40 = .ok (.if_icmp .lt 5, 3) := by decide +kernel
theorem dX3_value_43 : decode cX3_value 43 = .ok (.iconst 0, 1) := by decide +kernel
theorem dX3_value_44 : decode cX3_value 44 = .ok (.ireturn, 1) := by decide +kernel
theorem dX3_value_45 : decode cX3_value 45 = .ok (.aload_n 0, 1) := by decide +kernel
theorem dX3_value_46 : decode cX3_value 46 = .ok (.getfield 15, 3) := by decide +kernel
theorem dX3_value_49 : decode cX3_value 49 = .ok (.iload_n 3, 1) := by decide +kernel
theorem dX3_value_50 : decode cX3_value 50 = .ok (.iload 5, 2) := by decide +kernel
theorem dX3_value_52 : decode cX3_value 52 = .ok (.iconst (-1), 1) := by decide +kernel
theorem dX3_value_53 : decode cX3_value 53 = .ok (.if_icmp .ne 7, 3) := by decide +kernel
theorem dX3_value_56 : decode cX3_value 56 = .ok (.iload_n 1, 1) := by decide +kernel
theorem dX3_value_57 : decode cX3_value 57 = .ok (.goto 16, 3) := by decide +kernel
theorem dX3_value_60 : decode cX3_value 60 = .ok (.iload 5, 2) := by decide +kernel
theorem dX3_value_62 : decode cX3_value 62 = .ok (.bipush (-2), 2) := by decide +kernel
theorem dX3_value_64 : decode cX3_value 64 = .ok (.if_icmp .ne 7, 3) := by decide +kernel
theorem dX3_value_67 : decode cX3_value 67 = .ok (.iload_n 2, 1) := by decide +kernel
theorem dX3_value_68 : decode cX3_value 68 = .ok (.goto 5, 3) := by decide +kernel
theorem dX3_value_71 : decode cX3_value 71 = .ok (.iload 5, 2) := by decide +kernel
theorem dX3_value_73 : decode cX3_value 73 = .ok (.iastore, 1) := by decide +kernel
theorem dX3_value_74 : decode cX3_value 74 = .ok (.iinc 3 1, 3) := by decide +kernel
theorem dX3_value_77 : decode cX3_value 77 = .ok (.goto 77, 3) := by decide +kernel
theorem dX3_value_80 : decode cX3_value 80 = .ok (.iload 5, 2) := by decide +kernel
theorem dX3_value_82 : decode cX3_value 82 = .ok (.bipush (-3), 2) := by decide +kernel
theorem dX3_value_84 : decode cX3_value 84 = .ok (.if_icmp .ne 30, 3) := by decide +kernel
theorem dX3_value_87 : decode cX3_value 87 = .ok (.iload_n 3, 1) := by decide +kernel
theorem dX3_value_88 : decode cX3_value 88 = .ok (.iconst 1, 1) := by decide +kernel
theorem dX3_value_89 : decode cX3_value 89 = .ok (.if_icmp .ge 5, 3) := by decide +kernel
theorem dX3_value_92 : decode cX3_value 92 = .ok (.iconst 0, 1) := by decide +kernel
theorem dX3_value_93 : decode cX3_value 93 = .ok (.ireturn, 1) := by decide +kernel
theorem dX3_value_94 : decode cX3_value 94 = .ok (.aload_n 0, 1) := by decide +kernel
theorem dX3_value_95 : decode cX3_value 95 = .ok (.getfield 15, 3) := by decide +kernel
theorem dX3_value_98 : decode cX3_value 98 = .ok (.iload_n 3, 1) := by decide +kernel
theorem dX3_value_99 : decode cX3_value 99 = .ok (.iconst 1, 1) := by decide +kernel
theorem dX3_value_100 : decode cX3_value 100 = .ok (.isub, 1) := by decide +kernel
theorem dX3_value_101 : decode cX3_value 101 = .ok (.aload_n 0, 1) := by decide +kernel
theorem dX3_value_102 : decode cX3_value 102 = .ok (.getfield 15, 3) := by decide +kernel
theorem dX3_value_105 : decode cX3_value 105 = .ok (.iload_n 3, 1) := by decide +kernel
theorem dX3_value_106 : decode cX3_value 106 = .ok (.iconst 1, 1) := by decide +kernel
theorem dX3_value_107 : decode cX3_value 107 = .ok (.isub, 1) := by decide +kernel
theorem dX3_value_108 : decode cX3_value 108 = .ok (.iaload, 1) := by decide +kernel
theorem dX3_value_109 : decode cX3_value 109 = .ok (.ineg, 1) := by decide +kernel
theorem dX3_value_110 : decode cX3_value 110 = .ok (.iastore, 1) := by decide +kernel
theorem dX3_value_111 : decode cX3_value 111 = .ok (.goto 43, 3) := by decide +kernel
theorem dX3_value_114 : decode cX3_value 114 = .ok (.iload_n 3, 1) := by decide +kernel
theorem dX3_value_115 : decode cX3_value 115 = .ok (.iconst 2, 1) := by decide +kernel
theorem dX3_value_116 : decode cX3_value 116 = .ok (.if_icmp .ge 5, 3) := by decide +kernel
theorem dX3_value_119 : decode cX3_value 119 = .ok (.iconst 0, 1) := by decide +kernel
theorem dX3_value_120 : decode cX3_value 120 = .ok (.ireturn, 1) := by decide +kernel
theorem dX3_value_121 : decode cX3_value 121 = .ok (.iinc 3 (-1), 3) := by decide +kernel
theorem dX3_value_124 : decode cX3_value 124 = .ok (.aload_n 0, 1) := by decide +kernel
theorem dX3_value_125 : decode cX3_value 125 = .ok (.getfield 15, 3) := by decide +kernel
theorem dX3_value_128 : decode cX3_value 128 = .ok (.iload_n 3, 1) := by decide +kernel
theorem dX3_value_129 : decode cX3_value 129 = .ok (.iconst 1, 1) := by decide +kernel
theorem dX3_value_130 : decode cX3_value 130 = .ok (.isub, 1) := by decide +kernel
theorem dX3_value_131 : decode cX3_value 131 = .ok (.bipush (-3), 2) := by decide +kernel
theorem dX3_value_133 : decode cX3_value 133 = .ok (.iload 5, 2) := by decide +kernel
theorem dX3_value_135 : decode cX3_value 135 = .ok (.isub, 1) := by decide +kernel
theorem dX3_value_136 : decode cX3_value 136 = .ok (.aload_n 0, 1) := by decide +kernel
theorem dX3_value_137 : decode cX3_value 137 = .ok (.getfield 15, 3) := by decide +kernel
theorem dX3_value_140 : decode cX3_value 140 = .ok (.iload_n 3, 1) := by decide +kernel
theorem dX3_value_141 : decode cX3_value 141 = .ok (.iconst 1, 1) := by decide +kernel
theorem dX3_value_142 : decode cX3_value 142 = .ok (.isub, 1) := by decide +kernel
theorem dX3_value_143 : decode cX3_value 143 = .ok (.iaload, 1) := by decide +kernel
theorem dX3_value_144 : decode cX3_value 144 = .ok (.aload_n 0, 1) := by decide +kernel
theorem dX3_value_145 : decode cX3_value 145 = .ok (.getfield 15, 3) := by decide +kernel
theorem dX3_value_148 : decode cX3_value 148 = .ok (.iload_n 3, 1) := by decide +kernel
theorem dX3_value_149 : decode cX3_value 149 = .ok (.iaload, 1) := by decide +kernel
theorem dX3_value_150 : decode cX3_value 150 = .ok (.invokestatic 94, 3) := by decide +kernel
theorem dX3_value_153 : decode cX3_value 153 = .ok (.iastore, 1) := by decide +kernel
theorem dX3_value_154 : decode cX3_value 154 = .ok (.iinc 4 1, 3) := by decide +kernel
theorem dX3_value_157 : decode cX3_value 157 = .ok (.goto (-152), 3) := by decide +kernel
theorem dX3_value_160 : decode cX3_value 160 = .ok (.iload_n 3, 1) := by decide +kernel
theorem dX3_value_161 : decode cX3_value 161 = .ok (.iconst 1, 1) := by decide +kernel
theorem dX3_value_162 : decode cX3_value 162 = .ok (.if_icmp .ne 12, 3) := by decide +kernel
theorem dX3_value_165 : decode cX3_value 165 = .ok (.aload_n 0, 1) := by decide +kernel
theorem dX3_value_166 : decode cX3_value 166 = .ok (.getfield 15, 3) := by decide +kernel
theorem dX3_value_169 : decode cX3_value 169 = .ok (.iconst 0, 1) := by decide +kernel
theorem dX3_value_170 : decode cX3_value 170 = .ok (.iaload, 1) := by decide +kernel
theorem dX3_value_171 : decode cX3_value 171 = .ok (.goto 4, 3) := by decide +kernel
theorem dX3_value_174 : decode cX3_value 174 = .ok (.iconst 0, 1) := by decide +kernel
theorem dX3_value_175 : decode cX3_value 175 = .ok (.ireturn, 1) := by decide +kernel
set_option maxHeartbeats 4000000 in
set_option maxRecDepth 100000 in
theorem K_X3_value_first (l : Launch) (D : va_G) (h0 : Nat) (h1 : Nat) (h2 : Nat) (h3 : Nat) (cI : ClassId) (f : Nat → Int32) (va : Int32) (vb : Int32) (sz : Nat) : Ki l yX3_value wsX3_value 1 40 0 0 D [.ref h0, .int va, .int vb] [(h0, .inr (2, [.ref h1, .int 1, .ref h2, .ref h3, .int 0, .int 0, .int 0, .int 0, .int 0])), (h1, .inl (cI, 80, .inl (upd (fun _ => 0) 0 (-1)))), (h2, .inl (cI, 12, .inl f))] [(cI, .int)] sz (fun (r : Int32) (_ : Unit) => r = va) (fun (_ : Unit) => [(h0, .inr (2, [.ref h1, .int 1, .ref h2, .ref h3, .int 0, .int 0, .int 0, .int 0, .int 0])), (h1, .inl (cI, 80, .inl (upd (fun _ => 0) 0 (-1)))), (h2, .inl (cI, 12, .inl (upd f 0 va)))]) (fun (_ : Unit) => [(cI, .int)]) := by
  unfold Ki
  refine g_ofW (cc := cX3_value) (lv := [(0, .ref h0), (1, .int va), (2, .int vb)]) (by decide) rfl (Nat.le_of_ble_eq_true rfl) rfl ?_
  intro p e s m args below meth c A Q hA hQ F hr hnm
  have hts := F.2.2.2.2.1
  have w_0 : (Cond.fieldLink RX3 21 "QuietCut$Formula" "length" "I").before args s = true := hts _ (List.mem_of_getElem? (i := 1) rfl)
  have i_X3 : ∀ w ∈ u_ws RX3 TX3 9, w ∈ wsX3_value := fun _ h => List.mem_cons_of_mem _ (List.mem_append_right _ h)
  have w_1 : (Cond.fieldLink RX3 11 "QuietCut$Formula" "codes" "[I").before args s = true := hts _ (List.mem_of_getElem? (i := 2) rfl)
  have w_2 : (Cond.fieldLink RX3 15 "QuietCut$Formula" "stack" "[I").before args s = true := hts _ (List.mem_of_getElem? (i := 3) rfl)
  refine g_iconst F 0 dX3_value_0 (by decide) ?_
  refine g_istore_n F [(3, .int 0), (0, .ref h0), (1, .int va), (2, .int vb)] dX3_value_1 rfl (by decide) rfl ?_
  refine g_iconst F 0 dX3_value_2 (by decide) ?_
  refine g_istore F [(4, .int 0), (3, .int 0), (0, .ref h0), (1, .int va), (2, .int vb)] dX3_value_3 (by decide) rfl ?_
  refine g_iload F 0 dX3_value_5 rfl ?_
  refine g_aload_n F 2 dX3_value_7 rfl rfl ?_
  refine g_get (C := RX3) (T := TX3) (N := 9) (v := .int 1) F i_X3 0 rfl rfl 1 (by decide) w_0 rfl rfl dX3_value_8 ?_
  refine g_icmp_ge F 160 dX3_value_11 (by decide) (fun h9 => absurd h9 (by decide)) (fun c_11 => ?_)
  refine g_iload F 0 dX3_value_14 rfl ?_
  refine g_bipush F 80 dX3_value_16 (by decide) ?_
  refine g_icmp_ge F 160 dX3_value_18 (by decide) (fun h9 => absurd h9 (by decide)) (fun c_18 => ?_)
  refine g_aload_n F 2 dX3_value_21 rfl rfl ?_
  refine g_get (C := RX3) (T := TX3) (N := 9) (v := .ref h1) F i_X3 0 rfl rfl 0 (by decide) w_1 rfl rfl dX3_value_22 ?_
  refine g_iload F 0 dX3_value_25 rfl ?_
  refine g_iald F 1 0 rfl rfl (by unfold vp_in; decide) dX3_value_27 ?_
  refine g_fold (-1) (by rfl) ?_
  refine g_istore F [(5, .int (-1)), (4, .int 0), (3, .int 0), (0, .ref h0), (1, .int va), (2, .int vb)] dX3_value_28 (by decide) rfl ?_
  refine g_iload F 0 dX3_value_30 rfl ?_
  refine g_bipush F (-2) dX3_value_32 (by decide) ?_
  refine g_icmp_lt F 80 dX3_value_34 (by decide) (fun h9 => absurd h9 (by decide)) (fun c_34 => ?_)
  refine g_iload_n F 2 dX3_value_37 rfl rfl ?_
  refine g_bipush F 12 dX3_value_38 (by decide) ?_
  refine g_icmp_lt F 45 dX3_value_40 (by decide) (fun c_40 => ?_) (fun h9 => absurd (by decide) h9) 
  refine g_aload_n F 3 dX3_value_45 rfl rfl ?_
  refine g_get (C := RX3) (T := TX3) (N := 9) (v := .ref h2) F i_X3 0 rfl rfl 2 (by decide) w_2 rfl rfl dX3_value_46 ?_
  refine g_iload_n F 2 dX3_value_49 rfl rfl ?_
  refine g_iload F 0 dX3_value_50 rfl ?_
  refine g_iconst F (-1) dX3_value_52 (by decide) ?_
  refine g_icmp_ne F 60 dX3_value_53 (by decide) (fun h9 => absurd (by decide) h9) (fun c_53 => ?_)
  refine g_iload_n F 4 dX3_value_56 rfl rfl ?_
  refine g_goto F 73 dX3_value_57 (by decide) ?_
  refine g_iast F 2 0 rfl rfl (by unfold vp_in; decide) [(h0, .inr (2, [.ref h1, .int 1, .ref h2, .ref h3, .int 0, .int 0, .int 0, .int 0, .int 0])), (h1, .inl (cI, 80, .inl (upd (fun _ => 0) 0 (-1)))), (h2, .inl (cI, 12, .inl (upd f 0 va)))] (rfl) dX3_value_73 ?_
  refine g_iinc F (j := 2) 1 [(3, .int 1), (5, .int (-1)), (4, .int 0), (0, .ref h0), (1, .int va), (2, .int vb)] dX3_value_74 rfl (by decide) (by decide) rfl ?_
  refine g_goto F 154 dX3_value_77 (by decide) ?_
  refine g_iinc F (j := 2) 1 [(4, .int 1), (3, .int 1), (5, .int (-1)), (0, .ref h0), (1, .int va), (2, .int vb)] dX3_value_154 rfl (by decide) (by decide) rfl ?_
  refine g_goto F 5 dX3_value_157 (by decide) ?_
  refine g_iload F 0 dX3_value_5 rfl ?_
  refine g_aload_n F 3 dX3_value_7 rfl rfl ?_
  refine g_get (C := RX3) (T := TX3) (N := 9) (v := .int 1) F i_X3 0 rfl rfl 1 (by decide) w_0 rfl rfl dX3_value_8 ?_
  refine g_icmp_ge F 160 dX3_value_11 (by decide) (fun c_11 => ?_) (fun h9 => absurd (by decide) h9) 
  refine g_iload_n F 1 dX3_value_160 rfl rfl ?_
  refine g_iconst F 1 dX3_value_161 (by decide) ?_
  refine g_icmp_ne F 174 dX3_value_162 (by decide) (fun h9 => absurd (by decide) h9) (fun c_162 => ?_)
  refine g_aload_n F 3 dX3_value_165 rfl rfl ?_
  refine g_get (C := RX3) (T := TX3) (N := 9) (v := .ref h2) F i_X3 0 rfl rfl 2 (by decide) w_2 rfl rfl dX3_value_166 ?_
  refine g_iconst F 0 dX3_value_169 (by decide) ?_
  refine g_iald F 2 0 rfl rfl (by unfold vp_in; decide) dX3_value_170 ?_
  refine g_fold va (by rfl) ?_
  refine g_goto F 175 dX3_value_171 (by decide) ?_
  exact g_iret F hA hQ hr () (rfl) [0, 1, 2] [0] rfl (by decide) rfl rfl dX3_value_175


set_option maxHeartbeats 4000000 in
set_option maxRecDepth 100000 in
theorem K_X3_value_zero (l : Launch) (D : va_G) (h0 : Nat) (h1 : Nat) (h2 : Nat) (h3 : Nat) (cI : ClassId) (f : Nat → Int32) (va : Int32) (vb : Int32) (sz : Nat) : Ki l yX3_value wsX3_value 1 40 0 0 D [.ref h0, .int va, .int vb] [(h0, .inr (2, [.ref h1, .int 1, .ref h2, .ref h3, .int 0, .int 0, .int 0, .int 0, .int 0])), (h1, .inl (cI, 80, .inl (upd (fun _ => 0) 0 0))), (h2, .inl (cI, 12, .inl f))] [(cI, .int)] sz (fun (r : Int32) (_ : Unit) => r = 0) (fun (_ : Unit) => [(h0, .inr (2, [.ref h1, .int 1, .ref h2, .ref h3, .int 0, .int 0, .int 0, .int 0, .int 0])), (h1, .inl (cI, 80, .inl (upd (fun _ => 0) 0 0))), (h2, .inl (cI, 12, .inl (upd f 0 0)))]) (fun (_ : Unit) => [(cI, .int)]) := by
  unfold Ki
  refine g_ofW (cc := cX3_value) (lv := [(0, .ref h0), (1, .int va), (2, .int vb)]) (by decide) rfl (Nat.le_of_ble_eq_true rfl) rfl ?_
  intro p e s m args below meth c A Q hA hQ F hr hnm
  have hts := F.2.2.2.2.1
  have w_0 : (Cond.fieldLink RX3 21 "QuietCut$Formula" "length" "I").before args s = true := hts _ (List.mem_of_getElem? (i := 1) rfl)
  have i_X3 : ∀ w ∈ u_ws RX3 TX3 9, w ∈ wsX3_value := fun _ h => List.mem_cons_of_mem _ (List.mem_append_right _ h)
  have w_1 : (Cond.fieldLink RX3 11 "QuietCut$Formula" "codes" "[I").before args s = true := hts _ (List.mem_of_getElem? (i := 2) rfl)
  have w_2 : (Cond.fieldLink RX3 15 "QuietCut$Formula" "stack" "[I").before args s = true := hts _ (List.mem_of_getElem? (i := 3) rfl)
  refine g_iconst F 0 dX3_value_0 (by decide) ?_
  refine g_istore_n F [(3, .int 0), (0, .ref h0), (1, .int va), (2, .int vb)] dX3_value_1 rfl (by decide) rfl ?_
  refine g_iconst F 0 dX3_value_2 (by decide) ?_
  refine g_istore F [(4, .int 0), (3, .int 0), (0, .ref h0), (1, .int va), (2, .int vb)] dX3_value_3 (by decide) rfl ?_
  refine g_iload F 0 dX3_value_5 rfl ?_
  refine g_aload_n F 2 dX3_value_7 rfl rfl ?_
  refine g_get (C := RX3) (T := TX3) (N := 9) (v := .int 1) F i_X3 0 rfl rfl 1 (by decide) w_0 rfl rfl dX3_value_8 ?_
  refine g_icmp_ge F 160 dX3_value_11 (by decide) (fun h9 => absurd h9 (by decide)) (fun c_11 => ?_)
  refine g_iload F 0 dX3_value_14 rfl ?_
  refine g_bipush F 80 dX3_value_16 (by decide) ?_
  refine g_icmp_ge F 160 dX3_value_18 (by decide) (fun h9 => absurd h9 (by decide)) (fun c_18 => ?_)
  refine g_aload_n F 2 dX3_value_21 rfl rfl ?_
  refine g_get (C := RX3) (T := TX3) (N := 9) (v := .ref h1) F i_X3 0 rfl rfl 0 (by decide) w_1 rfl rfl dX3_value_22 ?_
  refine g_iload F 0 dX3_value_25 rfl ?_
  refine g_iald F 1 0 rfl rfl (by unfold vp_in; decide) dX3_value_27 ?_
  refine g_fold 0 (by rfl) ?_
  refine g_istore F [(5, .int 0), (4, .int 0), (3, .int 0), (0, .ref h0), (1, .int va), (2, .int vb)] dX3_value_28 (by decide) rfl ?_
  refine g_iload F 0 dX3_value_30 rfl ?_
  refine g_bipush F (-2) dX3_value_32 (by decide) ?_
  refine g_icmp_lt F 80 dX3_value_34 (by decide) (fun h9 => absurd h9 (by decide)) (fun c_34 => ?_)
  refine g_iload_n F 2 dX3_value_37 rfl rfl ?_
  refine g_bipush F 12 dX3_value_38 (by decide) ?_
  refine g_icmp_lt F 45 dX3_value_40 (by decide) (fun c_40 => ?_) (fun h9 => absurd (by decide) h9) 
  refine g_aload_n F 3 dX3_value_45 rfl rfl ?_
  refine g_get (C := RX3) (T := TX3) (N := 9) (v := .ref h2) F i_X3 0 rfl rfl 2 (by decide) w_2 rfl rfl dX3_value_46 ?_
  refine g_iload_n F 2 dX3_value_49 rfl rfl ?_
  refine g_iload F 0 dX3_value_50 rfl ?_
  refine g_iconst F (-1) dX3_value_52 (by decide) ?_
  refine g_icmp_ne F 60 dX3_value_53 (by decide) (fun c_53 => ?_) (fun h9 => absurd h9 (by decide)) 
  refine g_iload F 0 dX3_value_60 rfl ?_
  refine g_bipush F (-2) dX3_value_62 (by decide) ?_
  refine g_icmp_ne F 71 dX3_value_64 (by decide) (fun c_64 => ?_) (fun h9 => absurd h9 (by decide)) 
  refine g_iload F 0 dX3_value_71 rfl ?_
  refine g_iast F 2 0 rfl rfl (by unfold vp_in; decide) [(h0, .inr (2, [.ref h1, .int 1, .ref h2, .ref h3, .int 0, .int 0, .int 0, .int 0, .int 0])), (h1, .inl (cI, 80, .inl (upd (fun _ => 0) 0 0))), (h2, .inl (cI, 12, .inl (upd f 0 0)))] (rfl) dX3_value_73 ?_
  refine g_iinc F (j := 2) 1 [(3, .int 1), (5, .int 0), (4, .int 0), (0, .ref h0), (1, .int va), (2, .int vb)] dX3_value_74 rfl (by decide) (by decide) rfl ?_
  refine g_goto F 154 dX3_value_77 (by decide) ?_
  refine g_iinc F (j := 2) 1 [(4, .int 1), (3, .int 1), (5, .int 0), (0, .ref h0), (1, .int va), (2, .int vb)] dX3_value_154 rfl (by decide) (by decide) rfl ?_
  refine g_goto F 5 dX3_value_157 (by decide) ?_
  refine g_iload F 0 dX3_value_5 rfl ?_
  refine g_aload_n F 3 dX3_value_7 rfl rfl ?_
  refine g_get (C := RX3) (T := TX3) (N := 9) (v := .int 1) F i_X3 0 rfl rfl 1 (by decide) w_0 rfl rfl dX3_value_8 ?_
  refine g_icmp_ge F 160 dX3_value_11 (by decide) (fun c_11 => ?_) (fun h9 => absurd (by decide) h9) 
  refine g_iload_n F 1 dX3_value_160 rfl rfl ?_
  refine g_iconst F 1 dX3_value_161 (by decide) ?_
  refine g_icmp_ne F 174 dX3_value_162 (by decide) (fun h9 => absurd (by decide) h9) (fun c_162 => ?_)
  refine g_aload_n F 3 dX3_value_165 rfl rfl ?_
  refine g_get (C := RX3) (T := TX3) (N := 9) (v := .ref h2) F i_X3 0 rfl rfl 2 (by decide) w_2 rfl rfl dX3_value_166 ?_
  refine g_iconst F 0 dX3_value_169 (by decide) ?_
  refine g_iald F 2 0 rfl rfl (by unfold vp_in; decide) dX3_value_170 ?_
  refine g_fold 0 (by rfl) ?_
  refine g_goto F 175 dX3_value_171 (by decide) ?_
  exact g_iret F hA hQ hr () (rfl) [0, 1, 2] [0] rfl (by decide) rfl rfl dX3_value_175

theorem dX7_sumAt_0 : decode cX7_sumAt 0 = .ok (.iload_n 1, 1) := by decide +kernel
theorem dX7_sumAt_1 : decode cX7_sumAt 1 = .ok (.ifCond .ne 8, 3) := by decide +kernel
theorem dX7_sumAt_4 : decode cX7_sumAt 4 = .ok (.aload_n 0, 1) := by decide +kernel
theorem dX7_sumAt_5 : decode cX7_sumAt 5 = .ok (.getfield 18, 3) := by decide +kernel
theorem dX7_sumAt_8 : decode cX7_sumAt 8 = .ok (.areturn, 1) := by decide +kernel
theorem dX7_sumAt_9 : decode cX7_sumAt 9 = .ok (.iload_n 1, 1) := by decide +kernel
theorem dX7_sumAt_10 : decode cX7_sumAt 10 = .ok (.iconst 1, 1) := by decide +kernel
theorem dX7_sumAt_11 : decode cX7_sumAt 11 = .ok (.if_icmp .ne 10, 3) := by decide +kernel
theorem dX7_sumAt_14 : decode cX7_sumAt 14 = .ok (.aload_n 0, 1) := by decide +kernel
theorem dX7_sumAt_15 : decode cX7_sumAt 15 = .ok (.getfield 22, 3) := by decide +kernel
theorem dX7_sumAt_18 : decode cX7_sumAt 18 = .ok (.goto 7, 3) := by decide +kernel
theorem dX7_sumAt_21 : decode cX7_sumAt 21 = .ok (.aload_n 0, 1) := by decide +kernel
theorem dX7_sumAt_22 : decode cX7_sumAt 22 = .ok (.getfield 25, 3) := by decide +kernel
theorem dX7_sumAt_25 : decode cX7_sumAt 25 = .ok (.areturn, 1) := by decide +kernel
set_option maxHeartbeats 4000000 in
set_option maxRecDepth 100000 in
theorem K_X7_sumAt0 (l : Launch) (D : va_G) (xs : Nat) (n : Nat) (fo : Nat) (wa : Nat) (we : Nat) (sz : Nat) : Kr l yX7_sumAt wsX7_sumAt 1 40 0 0 D [.ref xs, .int 0] [(xs, .inr (6, [.ref n, .ref fo, .ref wa, .ref we]))] [] sz (fun (_ : Unit) => True) (fun (_ : Unit) => fo) (fun (_ : Unit) => [(xs, .inr (6, [.ref n, .ref fo, .ref wa, .ref we]))]) (fun (_ : Unit) => []) := by
  unfold Kr
  refine g_ofW (cc := cX7_sumAt) (lv := [(0, .ref xs), (1, .int 0)]) (by decide) rfl (Nat.le_of_ble_eq_true rfl) rfl ?_
  intro p e s m args below meth c A Q hA hQ F hr hnm
  have hts := F.2.2.2.2.1
  have w_0 : (Cond.fieldLink RX7 18 "QuietCut$Shop" "force" "LQuietCut$Formula;").before args s = true := hts _ (List.mem_of_getElem? (i := 1) rfl)
  have i_X7 : ∀ w ∈ u_ws RX7 TX7 4, w ∈ wsX7_sumAt := fun _ h => List.mem_cons_of_mem _ (List.mem_append_right _ h)
  refine g_iload_n F 1 dX7_sumAt_0 rfl rfl ?_
  refine g_if_ne F 9 dX7_sumAt_1 (by decide) (fun h9 => absurd (by decide) h9) (fun c_1 => ?_)
  refine g_aload_n F 0 dX7_sumAt_4 rfl rfl ?_
  refine g_get (C := RX7) (T := TX7) (N := 4) (v := .ref fo) F i_X7 0 rfl rfl 1 (by decide) w_0 rfl rfl dX7_sumAt_5 ?_
  exact g_aret F hA hQ hr (Or.inl ⟨_, rfl⟩) () (trivial) rfl [0] [] rfl (by decide) rfl rfl dX7_sumAt_8


set_option maxHeartbeats 4000000 in
set_option maxRecDepth 100000 in
theorem K_X7_sumAt1 (l : Launch) (D : va_G) (xs : Nat) (n : Nat) (fo : Nat) (wa : Nat) (we : Nat) (sz : Nat) : Kr l yX7_sumAt wsX7_sumAt 1 40 0 0 D [.ref xs, .int 1] [(xs, .inr (6, [.ref n, .ref fo, .ref wa, .ref we]))] [] sz (fun (_ : Unit) => True) (fun (_ : Unit) => wa) (fun (_ : Unit) => [(xs, .inr (6, [.ref n, .ref fo, .ref wa, .ref we]))]) (fun (_ : Unit) => []) := by
  unfold Kr
  refine g_ofW (cc := cX7_sumAt) (lv := [(0, .ref xs), (1, .int 1)]) (by decide) rfl (Nat.le_of_ble_eq_true rfl) rfl ?_
  intro p e s m args below meth c A Q hA hQ F hr hnm
  have hts := F.2.2.2.2.1
  have w_0 : (Cond.fieldLink RX7 22 "QuietCut$Shop" "wall" "LQuietCut$Formula;").before args s = true := hts _ (List.mem_of_getElem? (i := 2) rfl)
  have i_X7 : ∀ w ∈ u_ws RX7 TX7 4, w ∈ wsX7_sumAt := fun _ h => List.mem_cons_of_mem _ (List.mem_append_right _ h)
  refine g_iload_n F 1 dX7_sumAt_0 rfl rfl ?_
  refine g_if_ne F 9 dX7_sumAt_1 (by decide) (fun c_1 => ?_) (fun h9 => absurd h9 (by decide)) 
  refine g_iload_n F 1 dX7_sumAt_9 rfl rfl ?_
  refine g_iconst F 1 dX7_sumAt_10 (by decide) ?_
  refine g_icmp_ne F 21 dX7_sumAt_11 (by decide) (fun h9 => absurd (by decide) h9) (fun c_11 => ?_)
  refine g_aload_n F 0 dX7_sumAt_14 rfl rfl ?_
  refine g_get (C := RX7) (T := TX7) (N := 4) (v := .ref wa) F i_X7 0 rfl rfl 2 (by decide) w_0 rfl rfl dX7_sumAt_15 ?_
  refine g_goto F 25 dX7_sumAt_18 (by decide) ?_
  exact g_aret F hA hQ hr (Or.inl ⟨_, rfl⟩) () (trivial) rfl [0] [] rfl (by decide) rfl rfl dX7_sumAt_25


set_option maxHeartbeats 4000000 in
set_option maxRecDepth 100000 in
theorem K_X7_sumAt2 (l : Launch) (D : va_G) (xs : Nat) (n : Nat) (fo : Nat) (wa : Nat) (we : Nat) (sz : Nat) : Kr l yX7_sumAt wsX7_sumAt 1 40 0 0 D [.ref xs, .int 2] [(xs, .inr (6, [.ref n, .ref fo, .ref wa, .ref we]))] [] sz (fun (_ : Unit) => True) (fun (_ : Unit) => we) (fun (_ : Unit) => [(xs, .inr (6, [.ref n, .ref fo, .ref wa, .ref we]))]) (fun (_ : Unit) => []) := by
  unfold Kr
  refine g_ofW (cc := cX7_sumAt) (lv := [(0, .ref xs), (1, .int 2)]) (by decide) rfl (Nat.le_of_ble_eq_true rfl) rfl ?_
  intro p e s m args below meth c A Q hA hQ F hr hnm
  have hts := F.2.2.2.2.1
  have w_0 : (Cond.fieldLink RX7 25 "QuietCut$Shop" "wear" "LQuietCut$Formula;").before args s = true := hts _ (List.mem_of_getElem? (i := 3) rfl)
  have i_X7 : ∀ w ∈ u_ws RX7 TX7 4, w ∈ wsX7_sumAt := fun _ h => List.mem_cons_of_mem _ (List.mem_append_right _ h)
  refine g_iload_n F 1 dX7_sumAt_0 rfl rfl ?_
  refine g_if_ne F 9 dX7_sumAt_1 (by decide) (fun c_1 => ?_) (fun h9 => absurd h9 (by decide)) 
  refine g_iload_n F 1 dX7_sumAt_9 rfl rfl ?_
  refine g_iconst F 1 dX7_sumAt_10 (by decide) ?_
  refine g_icmp_ne F 21 dX7_sumAt_11 (by decide) (fun c_11 => ?_) (fun h9 => absurd h9 (by decide)) 
  refine g_aload_n F 0 dX7_sumAt_21 rfl rfl ?_
  refine g_get (C := RX7) (T := TX7) (N := 4) (v := .ref we) F i_X7 0 rfl rfl 3 (by decide) w_0 rfl rfl dX7_sumAt_22 ?_
  exact g_aret F hA hQ hr (Or.inl ⟨_, rfl⟩) () (trivial) rfl [0] [] rfl (by decide) rfl rfl dX7_sumAt_25

theorem dX11_tells_0 : decode cX11_tells 0 = .ok (.iload_n 1, 1) := by decide +kernel
theorem dX11_tells_1 : decode cX11_tells 1 = .ok (.ifCond .lt 8, 3) := by decide +kernel
theorem dX11_tells_4 : decode cX11_tells 4 = .ok (.iload_n 1, 1) := by decide +kernel
theorem dX11_tells_5 : decode cX11_tells 5 = .ok (.iconst 2, 1) := by decide +kernel
theorem dX11_tells_6 : decode cX11_tells 6 = .ok (.if_icmp .le 7, 3) := by decide +kernel
theorem dX11_tells_9 : decode cX11_tells 9 = .ok (.iconst 0, 1) := by decide +kernel
theorem dX11_tells_10 : decode cX11_tells 10 = .ok (.goto 16, 3) := by decide +kernel
theorem dX11_tells_13 : decode cX11_tells 13 = .ok (.aload_n 0, 1) := by decide +kernel
theorem dX11_tells_14 : decode cX11_tells 14 = .ok (.getfield 19, 3) := by decide +kernel
theorem dX11_tells_17 : decode cX11_tells 17 = .ok (.iload_n 1, 1) := by decide +kernel
theorem dX11_tells_18 : decode cX11_tells 18 = .ok (.invokevirtual 134, 3) := by decide +kernel
theorem dX11_tells_21 : decode cX11_tells 21 = .ok (.iload_n 2, 1) := by decide +kernel
theorem dX11_tells_22 : decode cX11_tells 22 = .ok (.iload_n 3, 1) := by decide +kernel
theorem dX11_tells_23 : decode cX11_tells 23 = .ok (.invokevirtual 138, 3) := by decide +kernel
theorem dX11_tells_26 : decode cX11_tells 26 = .ok (.ireturn, 1) := by decide +kernel
set_option maxRecDepth 20000 in
theorem ggX11_tells_X3_value : GoodIn wsX11_tells wsX3_value := goodIn_r _ [14, 15, 16, 17, 18, 19, 13, 20, 39, 40, 41, 42, 43, 44, 45, 46, 47] rfl (by decide +kernel)
set_option maxRecDepth 20000 in
theorem gX11_tells_X3_value : GoodIn wsX11_tells (wsV RX11 138 RX3 yX3_value wsX3_value) := goodIn_app (goodIn_of _ (by decide +kernel)) ggX11_tells_X3_value
set_option maxRecDepth 20000 in
theorem ggX11_tells_X7_sumAt : GoodIn wsX11_tells wsX7_sumAt := goodIn_r _ [6, 7, 8, 9, 35, 36, 37, 38] rfl (by decide +kernel)
set_option maxRecDepth 20000 in
theorem gX11_tells_X7_sumAt : GoodIn wsX11_tells (wsV RX11 134 RX7 yX7_sumAt wsX7_sumAt) := goodIn_app (goodIn_of _ (by decide +kernel)) ggX11_tells_X7_sumAt
set_option maxHeartbeats 4000000 in
set_option maxRecDepth 100000 in
theorem K_X11_tells (l : Launch) (D : va_G) (x0 : Nat) (xt : Nat) (xs : Nat) (xq : Nat) (xr : Nat) (xp : Nat) (xl : Nat) (xc : Nat) (xj : Nat) (xe : Nat) (xo : Nat) (pa : Nat) (n : Nat) (fo : Nat) (wa : Nat) (we : Nat) (cf : Nat) (sf : Nat) (wf : Nat) (cI : ClassId) (cg : Nat) (sg : Nat) (wg : Nat) (ch : Nat) (sh : Nat) (wh : Nat) (a : Int32) (va : Int32) (vb : Int32) (sz : Nat) : Ki l yX11_tells wsX11_tells 2 65 0 0 D [.ref x0, .int a, .int va, .int vb] [(x0, .inr (10, [.ref xt, .ref xs, .ref xq, .ref xr, .ref xp, .ref xl, .ref xc, .ref xj, .ref xe, .ref xo, .ref pa, .int 0, .int 0, .int (-1)])), (xs, .inr (6, [.ref n, .ref fo, .ref wa, .ref we])), (fo, .inr (2, [.ref cf, .int 1, .ref sf, .ref wf, .int 0, .int 0, .int 0, .int 0, .int 0])), (cf, .inl (cI, 80, .inl (upd (fun _ => 0) 0 (-1)))), (sf, .inl (cI, 12, .inl (fun _ => 0))), (wa, .inr (2, [.ref cg, .int 1, .ref sg, .ref wg, .int 0, .int 0, .int 0, .int 0, .int 0])), (cg, .inl (cI, 80, .inl (upd (fun _ => 0) 0 0))), (sg, .inl (cI, 12, .inl (fun _ => 0))), (we, .inr (2, [.ref ch, .int 1, .ref sh, .ref wh, .int 0, .int 0, .int 0, .int 0, .int 0])), (ch, .inl (cI, 80, .inl (upd (fun _ => 0) 0 0))), (sh, .inl (cI, 12, .inl (fun _ => 0)))] [(cI, .int)] sz (fun (r : Int32) (u : (Nat → Int32) × (Nat → Int32) × (Nat → Int32)) => r = (if a = 0 then va else 0)) (fun (u : (Nat → Int32) × (Nat → Int32) × (Nat → Int32)) => [(x0, .inr (10, [.ref xt, .ref xs, .ref xq, .ref xr, .ref xp, .ref xl, .ref xc, .ref xj, .ref xe, .ref xo, .ref pa, .int 0, .int 0, .int (-1)])), (xs, .inr (6, [.ref n, .ref fo, .ref wa, .ref we])), (fo, .inr (2, [.ref cf, .int 1, .ref sf, .ref wf, .int 0, .int 0, .int 0, .int 0, .int 0])), (cf, .inl (cI, 80, .inl (upd (fun _ => 0) 0 (-1)))), (sf, .inl (cI, 12, .inl u.1)), (wa, .inr (2, [.ref cg, .int 1, .ref sg, .ref wg, .int 0, .int 0, .int 0, .int 0, .int 0])), (cg, .inl (cI, 80, .inl (upd (fun _ => 0) 0 0))), (sg, .inl (cI, 12, .inl u.2.1)), (we, .inr (2, [.ref ch, .int 1, .ref sh, .ref wh, .int 0, .int 0, .int 0, .int 0, .int 0])), (ch, .inl (cI, 80, .inl (upd (fun _ => 0) 0 0))), (sh, .inl (cI, 12, .inl u.2.2))]) (fun (_ : (Nat → Int32) × (Nat → Int32) × (Nat → Int32)) => [(cI, .int)]) := by
  unfold Ki
  refine g_ofW (cc := cX11_tells) (lv := [(0, .ref x0), (1, .int a), (2, .int va), (3, .int vb)]) (by decide) rfl (Nat.le_of_ble_eq_true rfl) rfl ?_
  intro p e s m args below meth c A Q hA hQ F hr hnm
  have hts := F.2.2.2.2.1
  have w_0 : (Cond.fieldLink RX11 19 "QuietCut" "shop" "LQuietCut$Shop;").before args s = true := hts _ (List.mem_of_getElem? (i := 1) rfl)
  have i_X11 : ∀ w ∈ u_ws RX11 TX11 14, w ∈ wsX11_tells := fun _ h => List.mem_cons_of_mem _ (List.mem_append_left _ (List.mem_append_left _ (List.mem_append_right _ h)))
  refine g_iload_n F 1 dX11_tells_0 rfl rfl ?_
  refine g_if_lt F 9 dX11_tells_1 (by decide) (fun c_1 => ?_) (fun c_1 => ?_)
  · refine g_iconst F 0 dX11_tells_9 (by decide) ?_
    refine g_goto F 26 dX11_tells_10 (by decide) ?_
    exact g_iret F hA hQ hr ((fun _ => 0), (fun _ => 0), (fun _ => 0)) (by first | rfl | exact gi_p rfl rfl | exact gi_e (by decide) rfl | (exact gi_e (by (simp only [Int32.lt_iff_toInt_lt, Int32.le_iff_toInt_le, ← Int32.toInt_inj, Int32.reduceToInt] at c_1 ⊢; omega)) rfl)) [0, 1, 2, 3, 4, 5, 6, 7, 8, 9, 10] [0] rfl (by decide) rfl rfl dX11_tells_26
  · refine g_iload_n F 1 dX11_tells_4 rfl rfl ?_
    refine g_iconst F 2 dX11_tells_5 (by decide) ?_
    refine g_icmp_le F 13 dX11_tells_6 (by decide) (fun c_6 => ?_) (fun c_6 => ?_)
    · rcases (show a = 0 ∨ a = 1 ∨ a = 2 by (simp only [Int32.lt_iff_toInt_lt, Int32.le_iff_toInt_le, ← Int32.toInt_inj, Int32.reduceToInt] at c_1 c_6 ⊢; omega)) with rfl | rfl | rfl
      · refine g_aload_n F 0 dX11_tells_13 rfl rfl ?_
        refine g_get (C := RX11) (T := TX11) (N := 14) (v := .ref xs) F i_X11 0 rfl rfl 1 (by decide) w_0 rfl rfl dX11_tells_14 ?_
        refine g_iload_n F 1 dX11_tells_17 rfl rfl ?_
        refine g_callVr (k := 0) (n := 0) (b := xs) (As := [.int 0]) (st := []) (wc := [(xs, .inr (6, [.ref n, .ref fo, .ref wa, .ref we]))]) (wr := [(x0, .inr (10, [.ref xt, .ref xs, .ref xq, .ref xr, .ref xp, .ref xl, .ref xc, .ref xj, .ref xe, .ref xo, .ref pa, .int 0, .int 0, .int (-1)])), (fo, .inr (2, [.ref cf, .int 1, .ref sf, .ref wf, .int 0, .int 0, .int 0, .int 0, .int 0])), (cf, .inl (cI, 80, .inl (upd (fun _ => 0) 0 (-1)))), (sf, .inl (cI, 12, .inl (fun _ => 0))), (wa, .inr (2, [.ref cg, .int 1, .ref sg, .ref wg, .int 0, .int 0, .int 0, .int 0, .int 0])), (cg, .inl (cI, 80, .inl (upd (fun _ => 0) 0 0))), (sg, .inl (cI, 12, .inl (fun _ => 0))), (we, .inr (2, [.ref ch, .int 1, .ref sh, .ref wh, .int 0, .int 0, .int 0, .int 0, .int 0])), (ch, .inl (cI, 80, .inl (upd (fun _ => 0) 0 0))), (sh, .inl (cI, 12, .inl (fun _ => 0)))]) F [1] [0, 2, 3, 4, 5, 6, 7, 8, 9, 10] [] rfl rfl (by decide) rfl (by decide) (by decide) rfl (fun sz => K_X7_sumAt0 l D xs n fo wa we  sz) (cwV 1 hts gX11_tells_X7_sumAt rfl rfl rfl (by decide +kernel) ⟨Nat.le_of_ble_eq_true rfl, Nat.le_of_ble_eq_true rfl⟩) rfl 0 rfl rfl (Nat.le_of_ble_eq_true rfl) ⟨Nat.le_of_ble_eq_true rfl, Nat.le_of_ble_eq_true rfl⟩ dX11_tells_18 (fun _ hw_2 => ?_)
        show gG p l e (gR 2 0 0 65) s m args below meth c D A 4 Q 0 0 [(x0, .inr (10, [.ref xt, .ref xs, .ref xq, .ref xr, .ref xp, .ref xl, .ref xc, .ref xj, .ref xe, .ref xo, .ref pa, .int 0, .int 0, .int (-1)])), (fo, .inr (2, [.ref cf, .int 1, .ref sf, .ref wf, .int 0, .int 0, .int 0, .int 0, .int 0])), (cf, .inl (cI, 80, .inl (upd (fun _ => 0) 0 (-1)))), (sf, .inl (cI, 12, .inl (fun _ => 0))), (wa, .inr (2, [.ref cg, .int 1, .ref sg, .ref wg, .int 0, .int 0, .int 0, .int 0, .int 0])), (cg, .inl (cI, 80, .inl (upd (fun _ => 0) 0 0))), (sg, .inl (cI, 12, .inl (fun _ => 0))), (we, .inr (2, [.ref ch, .int 1, .ref sh, .ref wh, .int 0, .int 0, .int 0, .int 0, .int 0])), (ch, .inl (cI, 80, .inl (upd (fun _ => 0) 0 0))), (sh, .inl (cI, 12, .inl (fun _ => 0))), (xs, .inr (6, [.ref n, .ref fo, .ref wa, .ref we]))] [(cI, .int)] [(0, .ref x0), (1, .int 0), (2, .int va), (3, .int vb)] 21 [.ref fo]
        refine g_iload_n F 2 dX11_tells_21 rfl rfl ?_
        refine g_iload_n F 3 dX11_tells_22 rfl rfl ?_
        refine g_callVi (k := 0) (n := 0) (b := fo) (As := [.int va, .int vb]) (st := []) (wc := [(fo, .inr (2, [.ref cf, .int 1, .ref sf, .ref wf, .int 0, .int 0, .int 0, .int 0, .int 0])), (cf, .inl (cI, 80, .inl (upd (fun _ => 0) 0 (-1)))), (sf, .inl (cI, 12, .inl (fun _ => 0)))]) (wr := [(x0, .inr (10, [.ref xt, .ref xs, .ref xq, .ref xr, .ref xp, .ref xl, .ref xc, .ref xj, .ref xe, .ref xo, .ref pa, .int 0, .int 0, .int (-1)])), (wa, .inr (2, [.ref cg, .int 1, .ref sg, .ref wg, .int 0, .int 0, .int 0, .int 0, .int 0])), (cg, .inl (cI, 80, .inl (upd (fun _ => 0) 0 0))), (sg, .inl (cI, 12, .inl (fun _ => 0))), (we, .inr (2, [.ref ch, .int 1, .ref sh, .ref wh, .int 0, .int 0, .int 0, .int 0, .int 0])), (ch, .inl (cI, 80, .inl (upd (fun _ => 0) 0 0))), (sh, .inl (cI, 12, .inl (fun _ => 0))), (xs, .inr (6, [.ref n, .ref fo, .ref wa, .ref we]))]) F [1, 2, 3] [0, 4, 5, 6, 7, 8, 9, 10] [0] rfl rfl (by decide) rfl (by decide) (by decide) rfl (fun sz => K_X3_value_first l D fo cf sf wf cI (fun _ => 0) va vb  sz) (cwV 2 hts gX11_tells_X3_value rfl rfl rfl (by decide +kernel) ⟨Nat.le_of_ble_eq_true rfl, Nat.le_of_ble_eq_true rfl⟩) rfl 0 rfl rfl (Nat.le_of_ble_eq_true rfl) ⟨Nat.le_of_ble_eq_true rfl, Nat.le_of_ble_eq_true rfl⟩ dX11_tells_23 (fun r_6 _ hw_7 => ?_)
        have hw_7 : r_6 = va := hw_7
        have e_r_6 := hw_7
        show gG p l e (gR 2 0 0 65) s m args below meth c D A 4 Q 0 0 [(x0, .inr (10, [.ref xt, .ref xs, .ref xq, .ref xr, .ref xp, .ref xl, .ref xc, .ref xj, .ref xe, .ref xo, .ref pa, .int 0, .int 0, .int (-1)])), (wa, .inr (2, [.ref cg, .int 1, .ref sg, .ref wg, .int 0, .int 0, .int 0, .int 0, .int 0])), (cg, .inl (cI, 80, .inl (upd (fun _ => 0) 0 0))), (sg, .inl (cI, 12, .inl (fun _ => 0))), (we, .inr (2, [.ref ch, .int 1, .ref sh, .ref wh, .int 0, .int 0, .int 0, .int 0, .int 0])), (ch, .inl (cI, 80, .inl (upd (fun _ => 0) 0 0))), (sh, .inl (cI, 12, .inl (fun _ => 0))), (xs, .inr (6, [.ref n, .ref fo, .ref wa, .ref we])), (fo, .inr (2, [.ref cf, .int 1, .ref sf, .ref wf, .int 0, .int 0, .int 0, .int 0, .int 0])), (cf, .inl (cI, 80, .inl (upd (fun _ => 0) 0 (-1)))), (sf, .inl (cI, 12, .inl (upd (fun _ => 0) 0 va)))] [(cI, .int)] [(0, .ref x0), (1, .int 0), (2, .int va), (3, .int vb)] 26 [.int r_6]
        refine g_fold va e_r_6 ?_
        exact g_iret F hA hQ hr ((upd (fun _ => 0) 0 va), (fun _ => 0), (fun _ => 0)) (by first | exact gi_p rfl rfl | exact gi_e (by decide) rfl) [0, 7, 8, 9, 10, 1, 2, 3, 4, 5, 6] [0] rfl (by decide) rfl rfl dX11_tells_26
      · refine g_aload_n F 0 dX11_tells_13 rfl rfl ?_
        refine g_get (C := RX11) (T := TX11) (N := 14) (v := .ref xs) F i_X11 0 rfl rfl 1 (by decide) w_0 rfl rfl dX11_tells_14 ?_
        refine g_iload_n F 1 dX11_tells_17 rfl rfl ?_
        refine g_callVr (k := 0) (n := 0) (b := xs) (As := [.int 1]) (st := []) (wc := [(xs, .inr (6, [.ref n, .ref fo, .ref wa, .ref we]))]) (wr := [(x0, .inr (10, [.ref xt, .ref xs, .ref xq, .ref xr, .ref xp, .ref xl, .ref xc, .ref xj, .ref xe, .ref xo, .ref pa, .int 0, .int 0, .int (-1)])), (fo, .inr (2, [.ref cf, .int 1, .ref sf, .ref wf, .int 0, .int 0, .int 0, .int 0, .int 0])), (cf, .inl (cI, 80, .inl (upd (fun _ => 0) 0 (-1)))), (sf, .inl (cI, 12, .inl (fun _ => 0))), (wa, .inr (2, [.ref cg, .int 1, .ref sg, .ref wg, .int 0, .int 0, .int 0, .int 0, .int 0])), (cg, .inl (cI, 80, .inl (upd (fun _ => 0) 0 0))), (sg, .inl (cI, 12, .inl (fun _ => 0))), (we, .inr (2, [.ref ch, .int 1, .ref sh, .ref wh, .int 0, .int 0, .int 0, .int 0, .int 0])), (ch, .inl (cI, 80, .inl (upd (fun _ => 0) 0 0))), (sh, .inl (cI, 12, .inl (fun _ => 0)))]) F [1] [0, 2, 3, 4, 5, 6, 7, 8, 9, 10] [] rfl rfl (by decide) rfl (by decide) (by decide) rfl (fun sz => K_X7_sumAt1 l D xs n fo wa we  sz) (cwV 1 hts gX11_tells_X7_sumAt rfl rfl rfl (by decide +kernel) ⟨Nat.le_of_ble_eq_true rfl, Nat.le_of_ble_eq_true rfl⟩) rfl 0 rfl rfl (Nat.le_of_ble_eq_true rfl) ⟨Nat.le_of_ble_eq_true rfl, Nat.le_of_ble_eq_true rfl⟩ dX11_tells_18 (fun _ hw_12 => ?_)
        show gG p l e (gR 2 0 0 65) s m args below meth c D A 4 Q 0 0 [(x0, .inr (10, [.ref xt, .ref xs, .ref xq, .ref xr, .ref xp, .ref xl, .ref xc, .ref xj, .ref xe, .ref xo, .ref pa, .int 0, .int 0, .int (-1)])), (fo, .inr (2, [.ref cf, .int 1, .ref sf, .ref wf, .int 0, .int 0, .int 0, .int 0, .int 0])), (cf, .inl (cI, 80, .inl (upd (fun _ => 0) 0 (-1)))), (sf, .inl (cI, 12, .inl (fun _ => 0))), (wa, .inr (2, [.ref cg, .int 1, .ref sg, .ref wg, .int 0, .int 0, .int 0, .int 0, .int 0])), (cg, .inl (cI, 80, .inl (upd (fun _ => 0) 0 0))), (sg, .inl (cI, 12, .inl (fun _ => 0))), (we, .inr (2, [.ref ch, .int 1, .ref sh, .ref wh, .int 0, .int 0, .int 0, .int 0, .int 0])), (ch, .inl (cI, 80, .inl (upd (fun _ => 0) 0 0))), (sh, .inl (cI, 12, .inl (fun _ => 0))), (xs, .inr (6, [.ref n, .ref fo, .ref wa, .ref we]))] [(cI, .int)] [(0, .ref x0), (1, .int 1), (2, .int va), (3, .int vb)] 21 [.ref wa]
        refine g_iload_n F 2 dX11_tells_21 rfl rfl ?_
        refine g_iload_n F 3 dX11_tells_22 rfl rfl ?_
        refine g_callVi (k := 0) (n := 0) (b := wa) (As := [.int va, .int vb]) (st := []) (wc := [(wa, .inr (2, [.ref cg, .int 1, .ref sg, .ref wg, .int 0, .int 0, .int 0, .int 0, .int 0])), (cg, .inl (cI, 80, .inl (upd (fun _ => 0) 0 0))), (sg, .inl (cI, 12, .inl (fun _ => 0)))]) (wr := [(x0, .inr (10, [.ref xt, .ref xs, .ref xq, .ref xr, .ref xp, .ref xl, .ref xc, .ref xj, .ref xe, .ref xo, .ref pa, .int 0, .int 0, .int (-1)])), (fo, .inr (2, [.ref cf, .int 1, .ref sf, .ref wf, .int 0, .int 0, .int 0, .int 0, .int 0])), (cf, .inl (cI, 80, .inl (upd (fun _ => 0) 0 (-1)))), (sf, .inl (cI, 12, .inl (fun _ => 0))), (we, .inr (2, [.ref ch, .int 1, .ref sh, .ref wh, .int 0, .int 0, .int 0, .int 0, .int 0])), (ch, .inl (cI, 80, .inl (upd (fun _ => 0) 0 0))), (sh, .inl (cI, 12, .inl (fun _ => 0))), (xs, .inr (6, [.ref n, .ref fo, .ref wa, .ref we]))]) F [4, 5, 6] [0, 1, 2, 3, 7, 8, 9, 10] [0] rfl rfl (by decide) rfl (by decide) (by decide) rfl (fun sz => K_X3_value_zero l D wa cg sg wg cI (fun _ => 0) va vb  sz) (cwV 2 hts gX11_tells_X3_value rfl rfl rfl (by decide +kernel) ⟨Nat.le_of_ble_eq_true rfl, Nat.le_of_ble_eq_true rfl⟩) rfl 0 rfl rfl (Nat.le_of_ble_eq_true rfl) ⟨Nat.le_of_ble_eq_true rfl, Nat.le_of_ble_eq_true rfl⟩ dX11_tells_23 (fun r_16 _ hw_17 => ?_)
        have hw_17 : r_16 = 0 := hw_17
        have e_r_16 := hw_17
        show gG p l e (gR 2 0 0 65) s m args below meth c D A 4 Q 0 0 [(x0, .inr (10, [.ref xt, .ref xs, .ref xq, .ref xr, .ref xp, .ref xl, .ref xc, .ref xj, .ref xe, .ref xo, .ref pa, .int 0, .int 0, .int (-1)])), (fo, .inr (2, [.ref cf, .int 1, .ref sf, .ref wf, .int 0, .int 0, .int 0, .int 0, .int 0])), (cf, .inl (cI, 80, .inl (upd (fun _ => 0) 0 (-1)))), (sf, .inl (cI, 12, .inl (fun _ => 0))), (we, .inr (2, [.ref ch, .int 1, .ref sh, .ref wh, .int 0, .int 0, .int 0, .int 0, .int 0])), (ch, .inl (cI, 80, .inl (upd (fun _ => 0) 0 0))), (sh, .inl (cI, 12, .inl (fun _ => 0))), (xs, .inr (6, [.ref n, .ref fo, .ref wa, .ref we])), (wa, .inr (2, [.ref cg, .int 1, .ref sg, .ref wg, .int 0, .int 0, .int 0, .int 0, .int 0])), (cg, .inl (cI, 80, .inl (upd (fun _ => 0) 0 0))), (sg, .inl (cI, 12, .inl (upd (fun _ => 0) 0 0)))] [(cI, .int)] [(0, .ref x0), (1, .int 1), (2, .int va), (3, .int vb)] 26 [.int r_16]
        refine g_fold 0 e_r_16 ?_
        exact g_iret F hA hQ hr ((fun _ => 0), (upd (fun _ => 0) 0 0), (fun _ => 0)) (by first | exact gi_p rfl rfl | exact gi_e (by decide) rfl) [0, 7, 1, 2, 3, 8, 9, 10, 4, 5, 6] [0] rfl (by decide) rfl rfl dX11_tells_26
      · refine g_aload_n F 0 dX11_tells_13 rfl rfl ?_
        refine g_get (C := RX11) (T := TX11) (N := 14) (v := .ref xs) F i_X11 0 rfl rfl 1 (by decide) w_0 rfl rfl dX11_tells_14 ?_
        refine g_iload_n F 1 dX11_tells_17 rfl rfl ?_
        refine g_callVr (k := 0) (n := 0) (b := xs) (As := [.int 2]) (st := []) (wc := [(xs, .inr (6, [.ref n, .ref fo, .ref wa, .ref we]))]) (wr := [(x0, .inr (10, [.ref xt, .ref xs, .ref xq, .ref xr, .ref xp, .ref xl, .ref xc, .ref xj, .ref xe, .ref xo, .ref pa, .int 0, .int 0, .int (-1)])), (fo, .inr (2, [.ref cf, .int 1, .ref sf, .ref wf, .int 0, .int 0, .int 0, .int 0, .int 0])), (cf, .inl (cI, 80, .inl (upd (fun _ => 0) 0 (-1)))), (sf, .inl (cI, 12, .inl (fun _ => 0))), (wa, .inr (2, [.ref cg, .int 1, .ref sg, .ref wg, .int 0, .int 0, .int 0, .int 0, .int 0])), (cg, .inl (cI, 80, .inl (upd (fun _ => 0) 0 0))), (sg, .inl (cI, 12, .inl (fun _ => 0))), (we, .inr (2, [.ref ch, .int 1, .ref sh, .ref wh, .int 0, .int 0, .int 0, .int 0, .int 0])), (ch, .inl (cI, 80, .inl (upd (fun _ => 0) 0 0))), (sh, .inl (cI, 12, .inl (fun _ => 0)))]) F [1] [0, 2, 3, 4, 5, 6, 7, 8, 9, 10] [] rfl rfl (by decide) rfl (by decide) (by decide) rfl (fun sz => K_X7_sumAt2 l D xs n fo wa we  sz) (cwV 1 hts gX11_tells_X7_sumAt rfl rfl rfl (by decide +kernel) ⟨Nat.le_of_ble_eq_true rfl, Nat.le_of_ble_eq_true rfl⟩) rfl 0 rfl rfl (Nat.le_of_ble_eq_true rfl) ⟨Nat.le_of_ble_eq_true rfl, Nat.le_of_ble_eq_true rfl⟩ dX11_tells_18 (fun _ hw_22 => ?_)
        show gG p l e (gR 2 0 0 65) s m args below meth c D A 4 Q 0 0 [(x0, .inr (10, [.ref xt, .ref xs, .ref xq, .ref xr, .ref xp, .ref xl, .ref xc, .ref xj, .ref xe, .ref xo, .ref pa, .int 0, .int 0, .int (-1)])), (fo, .inr (2, [.ref cf, .int 1, .ref sf, .ref wf, .int 0, .int 0, .int 0, .int 0, .int 0])), (cf, .inl (cI, 80, .inl (upd (fun _ => 0) 0 (-1)))), (sf, .inl (cI, 12, .inl (fun _ => 0))), (wa, .inr (2, [.ref cg, .int 1, .ref sg, .ref wg, .int 0, .int 0, .int 0, .int 0, .int 0])), (cg, .inl (cI, 80, .inl (upd (fun _ => 0) 0 0))), (sg, .inl (cI, 12, .inl (fun _ => 0))), (we, .inr (2, [.ref ch, .int 1, .ref sh, .ref wh, .int 0, .int 0, .int 0, .int 0, .int 0])), (ch, .inl (cI, 80, .inl (upd (fun _ => 0) 0 0))), (sh, .inl (cI, 12, .inl (fun _ => 0))), (xs, .inr (6, [.ref n, .ref fo, .ref wa, .ref we]))] [(cI, .int)] [(0, .ref x0), (1, .int 2), (2, .int va), (3, .int vb)] 21 [.ref we]
        refine g_iload_n F 2 dX11_tells_21 rfl rfl ?_
        refine g_iload_n F 3 dX11_tells_22 rfl rfl ?_
        refine g_callVi (k := 0) (n := 0) (b := we) (As := [.int va, .int vb]) (st := []) (wc := [(we, .inr (2, [.ref ch, .int 1, .ref sh, .ref wh, .int 0, .int 0, .int 0, .int 0, .int 0])), (ch, .inl (cI, 80, .inl (upd (fun _ => 0) 0 0))), (sh, .inl (cI, 12, .inl (fun _ => 0)))]) (wr := [(x0, .inr (10, [.ref xt, .ref xs, .ref xq, .ref xr, .ref xp, .ref xl, .ref xc, .ref xj, .ref xe, .ref xo, .ref pa, .int 0, .int 0, .int (-1)])), (fo, .inr (2, [.ref cf, .int 1, .ref sf, .ref wf, .int 0, .int 0, .int 0, .int 0, .int 0])), (cf, .inl (cI, 80, .inl (upd (fun _ => 0) 0 (-1)))), (sf, .inl (cI, 12, .inl (fun _ => 0))), (wa, .inr (2, [.ref cg, .int 1, .ref sg, .ref wg, .int 0, .int 0, .int 0, .int 0, .int 0])), (cg, .inl (cI, 80, .inl (upd (fun _ => 0) 0 0))), (sg, .inl (cI, 12, .inl (fun _ => 0))), (xs, .inr (6, [.ref n, .ref fo, .ref wa, .ref we]))]) F [7, 8, 9] [0, 1, 2, 3, 4, 5, 6, 10] [0] rfl rfl (by decide) rfl (by decide) (by decide) rfl (fun sz => K_X3_value_zero l D we ch sh wh cI (fun _ => 0) va vb  sz) (cwV 2 hts gX11_tells_X3_value rfl rfl rfl (by decide +kernel) ⟨Nat.le_of_ble_eq_true rfl, Nat.le_of_ble_eq_true rfl⟩) rfl 0 rfl rfl (Nat.le_of_ble_eq_true rfl) ⟨Nat.le_of_ble_eq_true rfl, Nat.le_of_ble_eq_true rfl⟩ dX11_tells_23 (fun r_26 _ hw_27 => ?_)
        have hw_27 : r_26 = 0 := hw_27
        have e_r_26 := hw_27
        show gG p l e (gR 2 0 0 65) s m args below meth c D A 4 Q 0 0 [(x0, .inr (10, [.ref xt, .ref xs, .ref xq, .ref xr, .ref xp, .ref xl, .ref xc, .ref xj, .ref xe, .ref xo, .ref pa, .int 0, .int 0, .int (-1)])), (fo, .inr (2, [.ref cf, .int 1, .ref sf, .ref wf, .int 0, .int 0, .int 0, .int 0, .int 0])), (cf, .inl (cI, 80, .inl (upd (fun _ => 0) 0 (-1)))), (sf, .inl (cI, 12, .inl (fun _ => 0))), (wa, .inr (2, [.ref cg, .int 1, .ref sg, .ref wg, .int 0, .int 0, .int 0, .int 0, .int 0])), (cg, .inl (cI, 80, .inl (upd (fun _ => 0) 0 0))), (sg, .inl (cI, 12, .inl (fun _ => 0))), (xs, .inr (6, [.ref n, .ref fo, .ref wa, .ref we])), (we, .inr (2, [.ref ch, .int 1, .ref sh, .ref wh, .int 0, .int 0, .int 0, .int 0, .int 0])), (ch, .inl (cI, 80, .inl (upd (fun _ => 0) 0 0))), (sh, .inl (cI, 12, .inl (upd (fun _ => 0) 0 0)))] [(cI, .int)] [(0, .ref x0), (1, .int 2), (2, .int va), (3, .int vb)] 26 [.int r_26]
        refine g_fold 0 e_r_26 ?_
        exact g_iret F hA hQ hr ((fun _ => 0), (fun _ => 0), (upd (fun _ => 0) 0 0)) (by first | exact gi_p rfl rfl | exact gi_e (by decide) rfl) [0, 7, 1, 2, 3, 4, 5, 6, 8, 9, 10] [0] rfl (by decide) rfl rfl dX11_tells_26
    · refine g_iconst F 0 dX11_tells_9 (by decide) ?_
      refine g_goto F 26 dX11_tells_10 (by decide) ?_
      exact g_iret F hA hQ hr ((fun _ => 0), (fun _ => 0), (fun _ => 0)) (by first | rfl | exact gi_p rfl rfl | exact gi_e (by decide) rfl | (exact gi_e (by (simp only [Int32.lt_iff_toInt_lt, Int32.le_iff_toInt_le, ← Int32.toInt_inj, Int32.reduceToInt] at c_1 c_6 ⊢; omega)) rfl)) [0, 1, 2, 3, 4, 5, 6, 7, 8, 9, 10] [0] rfl (by decide) rfl rfl dX11_tells_26

theorem dX2_mayBeTold_0 : decode cX2_mayBeTold 0 = .ok (.iload_n 1, 1) := by decide +kernel
theorem dX2_mayBeTold_1 : decode cX2_mayBeTold 1 = .ok (.aload_n 0, 1) := by decide +kernel
theorem dX2_mayBeTold_2 : decode cX2_mayBeTold 2 = .ok (.getfield 50, 3) := by decide +kernel
theorem dX2_mayBeTold_5 : decode cX2_mayBeTold 5 = .ok (.if_icmp .lt 23, 3) := by decide +kernel
theorem dX2_mayBeTold_8 : decode cX2_mayBeTold 8 = .ok (.iload_n 1, 1) := by decide +kernel
theorem dX2_mayBeTold_9 : decode cX2_mayBeTold 9 = .ok (.sipush 999, 3) := by decide +kernel
theorem dX2_mayBeTold_12 : decode cX2_mayBeTold 12 = .ok (.if_icmp .gt 16, 3) := by decide +kernel
theorem dX2_mayBeTold_15 : decode cX2_mayBeTold 15 = .ok (.iload_n 2, 1) := by decide +kernel
theorem dX2_mayBeTold_16 : decode cX2_mayBeTold 16 = .ok (.ifCond .lt 12, 3) := by decide +kernel
theorem dX2_mayBeTold_19 : decode cX2_mayBeTold 19 = .ok (.iload_n 2, 1) := by decide +kernel
theorem dX2_mayBeTold_20 : decode cX2_mayBeTold 20 = .ok (.iconst 2, 1) := by decide +kernel
theorem dX2_mayBeTold_21 : decode cX2_mayBeTold 21 = .ok (.if_icmp .gt 7, 3) := by decide +kernel
theorem dX2_mayBeTold_24 : decode cX2_mayBeTold 24 = .ok (.iconst 1, 1) := by decide +kernel
theorem dX2_mayBeTold_25 : decode cX2_mayBeTold 25 = .ok (.goto 4, 3) := by decide +kernel
theorem dX2_mayBeTold_28 : decode cX2_mayBeTold 28 = .ok (.iconst 0, 1) := by decide +kernel
theorem dX2_mayBeTold_29 : decode cX2_mayBeTold 29 = .ok (.ireturn, 1) := by decide +kernel
set_option maxHeartbeats 4000000 in
set_option maxRecDepth 100000 in
theorem K_X2_mayBeTold (l : Launch) (D : va_G) (xe : Nat) (xs : Nat) (xl : Nat) (ef : Nat) (ev : Nat) (eh : Nat) (er : Nat) (a : Int32) (b : Int32) (sz : Nat) : Ki l yX2_mayBeTold wsX2_mayBeTold 1 40 0 0 D [.ref xe, .int a, .int b] [(xe, .inr (1, [.ref xs, .ref xl, .ref ef, .ref ev, .int 0, .ref eh, .int 0, .ref er, .int 0, .int 0]))] [] sz (fun (r : Int32) (_ : Unit) => r = (if 0 ≤ a ∧ a ≤ 999 ∧ 0 ≤ b ∧ b ≤ 2 then 1 else 0)) (fun (_ : Unit) => [(xe, .inr (1, [.ref xs, .ref xl, .ref ef, .ref ev, .int 0, .ref eh, .int 0, .ref er, .int 0, .int 0]))]) (fun (_ : Unit) => []) := by
  unfold Ki
  refine g_ofW (cc := cX2_mayBeTold) (lv := [(0, .ref xe), (1, .int a), (2, .int b)]) (by decide) rfl (Nat.le_of_ble_eq_true rfl) rfl ?_
  intro p e s m args below meth c A Q hA hQ F hr hnm
  have hts := F.2.2.2.2.1
  have w_0 : (Cond.fieldLink RX2 50 "QuietCut$Ear" "latestStep" "I").before args s = true := hts _ (List.mem_of_getElem? (i := 1) rfl)
  have i_X2 : ∀ w ∈ u_ws RX2 TX2 10, w ∈ wsX2_mayBeTold := fun _ h => List.mem_cons_of_mem _ (List.mem_append_right _ h)
  refine g_iload_n F 1 dX2_mayBeTold_0 rfl rfl ?_
  refine g_aload_n F 0 dX2_mayBeTold_1 rfl rfl ?_
  refine g_get (C := RX2) (T := TX2) (N := 10) (v := .int 0) F i_X2 0 rfl rfl 9 (by decide) w_0 rfl rfl dX2_mayBeTold_2 ?_
  refine g_icmp_lt F 28 dX2_mayBeTold_5 (by decide) (fun c_5 => ?_) (fun c_5 => ?_)
  · refine g_iconst F 0 dX2_mayBeTold_28 (by decide) ?_
    exact g_zret F hA hQ hr rfl () (gb_f (by (simp only [Int32.lt_iff_toInt_lt, Int32.le_iff_toInt_le, ← Int32.toInt_inj, Int32.reduceToInt] at c_5 ⊢; omega))) [0] [] rfl (by decide) rfl rfl dX2_mayBeTold_29
  · refine g_iload_n F 1 dX2_mayBeTold_8 rfl rfl ?_
    refine g_sipush F 999 dX2_mayBeTold_9 (by decide) ?_
    refine g_icmp_gt F 28 dX2_mayBeTold_12 (by decide) (fun c_12 => ?_) (fun c_12 => ?_)
    · refine g_iconst F 0 dX2_mayBeTold_28 (by decide) ?_
      exact g_zret F hA hQ hr rfl () (gb_f (by (simp only [Int32.lt_iff_toInt_lt, Int32.le_iff_toInt_le, ← Int32.toInt_inj, Int32.reduceToInt] at c_5 c_12 ⊢; omega))) [0] [] rfl (by decide) rfl rfl dX2_mayBeTold_29
    · refine g_iload_n F 2 dX2_mayBeTold_15 rfl rfl ?_
      refine g_if_lt F 28 dX2_mayBeTold_16 (by decide) (fun c_16 => ?_) (fun c_16 => ?_)
      · refine g_iconst F 0 dX2_mayBeTold_28 (by decide) ?_
        exact g_zret F hA hQ hr rfl () (gb_f (by (simp only [Int32.lt_iff_toInt_lt, Int32.le_iff_toInt_le, ← Int32.toInt_inj, Int32.reduceToInt] at c_5 c_12 c_16 ⊢; omega))) [0] [] rfl (by decide) rfl rfl dX2_mayBeTold_29
      · refine g_iload_n F 2 dX2_mayBeTold_19 rfl rfl ?_
        refine g_iconst F 2 dX2_mayBeTold_20 (by decide) ?_
        refine g_icmp_gt F 28 dX2_mayBeTold_21 (by decide) (fun c_21 => ?_) (fun c_21 => ?_)
        · refine g_iconst F 0 dX2_mayBeTold_28 (by decide) ?_
          exact g_zret F hA hQ hr rfl () (gb_f (by (simp only [Int32.lt_iff_toInt_lt, Int32.le_iff_toInt_le, ← Int32.toInt_inj, Int32.reduceToInt] at c_5 c_12 c_16 c_21 ⊢; omega))) [0] [] rfl (by decide) rfl rfl dX2_mayBeTold_29
        · refine g_iconst F 1 dX2_mayBeTold_24 (by decide) ?_
          refine g_goto F 29 dX2_mayBeTold_25 (by decide) ?_
          exact g_zret F hA hQ hr rfl () (gb_t (by (simp only [Int32.lt_iff_toInt_lt, Int32.le_iff_toInt_le, ← Int32.toInt_inj, Int32.reduceToInt] at c_5 c_12 c_16 c_21 ⊢; omega))) [0] [] rfl (by decide) rfl rfl dX2_mayBeTold_29

theorem dX2_addHeard_0 : decode cX2_addHeard 0 = .ok (.aload_n 0, 1) := by decide +kernel
theorem dX2_addHeard_1 : decode cX2_addHeard 1 = .ok (.iload_n 1, 1) := by decide +kernel
theorem dX2_addHeard_2 : decode cX2_addHeard 2 = .ok (.iload_n 3, 1) := by decide +kernel
theorem dX2_addHeard_3 : decode cX2_addHeard 3 = .ok (.invokevirtual 68, 3) := by decide +kernel
theorem dX2_addHeard_6 : decode cX2_addHeard 6 = .ok (.ifCond .eq 15, 3) := by decide +kernel
theorem dX2_addHeard_9 : decode cX2_addHeard 9 = .ok (.iload_n 2, 1) := by decide +kernel
theorem dX2_addHeard_10 : decode cX2_addHeard 10 = .ok (.ifCond .lt 11, 3) := by decide +kernel
theorem dX2_addHeard_13 : decode cX2_addHeard 13 = .ok (.iload_n 2, 1) := by decide +kernel
theorem dX2_addHeard_14 : decode cX2_addHeard 14 = .ok (.aload_n 0, 1) := by decide +kernel
theorem dX2_addHeard_15 : decode cX2_addHeard 15 = .ok (.getfield 40, 3) := by decide +kernel
theorem dX2_addHeard_18 : decode cX2_addHeard 18 = .ok (.if_icmp .lt 6, 3) := by decide +kernel
theorem dX2_addHeard_21 : decode cX2_addHeard 21 = .ok (.bipush (-2), 2) := by decide +kernel
theorem dX2_addHeard_23 : decode cX2_addHeard 23 = .ok (.ireturn, 1) := by decide +kernel
theorem dX2_addHeard_24 : decode cX2_addHeard 24 = .ok (.aload_n 0, 1) := by decide +kernel
theorem dX2_addHeard_25 : decode cX2_addHeard 25 = .ok (.getfield 44, 3) := by decide +kernel
theorem dX2_addHeard_28 : decode cX2_addHeard 28 = .ok (.bipush 30, 2) := by decide +kernel
theorem dX2_addHeard_30 : decode cX2_addHeard 30 = .ok (.if_icmp .lt 6, 3) := by decide +kernel
theorem dX2_addHeard_33 : decode cX2_addHeard 33 = .ok (.bipush (-3), 2) := by decide +kernel
theorem dX2_addHeard_35 : decode cX2_addHeard 35 = .ok (.ireturn, 1) := by decide +kernel
theorem dX2_addHeard_36 : decode cX2_addHeard 36 = .ok (.aload_n 0, 1) := by decide +kernel
theorem dX2_addHeard_37 : decode cX2_addHeard 37 = .ok (.getfield 20, 3) := by decide +kernel
theorem dX2_addHeard_40 : decode cX2_addHeard 40 = .ok (.iconst 0, 1) := by decide +kernel
theorem dX2_addHeard_41 : decode cX2_addHeard 41 = .ok (.aaload, 1) := by decide +kernel
theorem dX2_addHeard_42 : decode cX2_addHeard 42 = .ok (.aload_n 0, 1) := by decide +kernel
theorem dX2_addHeard_43 : decode cX2_addHeard 43 = .ok (.getfield 44, 3) := by decide +kernel
theorem dX2_addHeard_46 : decode cX2_addHeard 46 = .ok (.iload_n 1, 1) := by decide +kernel
theorem dX2_addHeard_47 : decode cX2_addHeard 47 = .ok (.iastore, 1) := by decide +kernel
theorem dX2_addHeard_48 : decode cX2_addHeard 48 = .ok (.aload_n 0, 1) := by decide +kernel
theorem dX2_addHeard_49 : decode cX2_addHeard 49 = .ok (.getfield 20, 3) := by decide +kernel
theorem dX2_addHeard_52 : decode cX2_addHeard 52 = .ok (.iconst 1, 1) := by decide +kernel
theorem dX2_addHeard_53 : decode cX2_addHeard 53 = .ok (.aaload, 1) := by decide +kernel
theorem dX2_addHeard_54 : decode cX2_addHeard 54 = .ok (.aload_n 0, 1) := by decide +kernel
theorem dX2_addHeard_55 : decode cX2_addHeard 55 = .ok (.getfield 44, 3) := by decide +kernel
theorem dX2_addHeard_58 : decode cX2_addHeard 58 = .ok (.iload_n 2, 1) := by decide +kernel
theorem dX2_addHeard_59 : decode cX2_addHeard 59 = .ok (.iastore, 1) := by decide +kernel
theorem dX2_addHeard_60 : decode cX2_addHeard 60 = .ok (.aload_n 0, 1) := by decide +kernel
theorem dX2_addHeard_61 : decode cX2_addHeard 61 = .ok (.getfield 20, 3) := by decide +kernel
theorem dX2_addHeard_64 : decode cX2_addHeard 64 = .ok (.iconst 2, 1) := by decide +kernel
theorem dX2_addHeard_65 : decode cX2_addHeard 65 = .ok (.aaload, 1) := by decide +kernel
theorem dX2_addHeard_66 : decode cX2_addHeard 66 = .ok (.aload_n 0, 1) := by decide +kernel
theorem dX2_addHeard_67 : decode cX2_addHeard 67 = .ok (.getfield 44, 3) := by decide +kernel
theorem dX2_addHeard_70 : decode cX2_addHeard 70 = .ok (.iload_n 3, 1) := by decide +kernel
theorem dX2_addHeard_71 : decode cX2_addHeard 71 = .ok (.iastore, 1) := by decide +kernel
theorem dX2_addHeard_72 : decode cX2_addHeard 72 = .ok (.aload_n 0, 1) := by decide +kernel
theorem dX2_addHeard_73 : decode cX2_addHeard 73 = .ok (.iload_n 1, 1) := by decide +kernel
theorem dX2_addHeard_74 : decode cX2_addHeard 74 = .ok (.putfield 50, 3) := by decide +kernel
theorem dX2_addHeard_77 : decode cX2_addHeard 77 = .ok (.aload_n 0, 1) := by decide +kernel
theorem dX2_addHeard_78 : decode cX2_addHeard 78 = .ok (.dup, 1) := by decide +kernel
theorem dX2_addHeard_79 : decode cX2_addHeard 79 = .ok (.getfield 44, 3) := by decide +kernel
theorem dX2_addHeard_82 : decode cX2_addHeard 82 = .ok (.iconst 1, 1) := by decide +kernel
theorem dX2_addHeard_83 : decode cX2_addHeard 83 = .ok (.iadd, 1) := by decide +kernel
theorem dX2_addHeard_84 : decode cX2_addHeard 84 = .ok (.putfield 44, 3) := by decide +kernel
theorem dX2_addHeard_87 : decode cX2_addHeard 87 = .ok (.aload_n 0, 1) := by decide +kernel
theorem dX2_addHeard_88 : decode cX2_addHeard 88 = .ok (.getfield 44, 3) := by decide +kernel
theorem dX2_addHeard_91 : decode cX2_addHeard 91 = .ok (.iconst 1, 1) := by decide +kernel
theorem dX2_addHeard_92 : decode cX2_addHeard 92 = .ok (.isub, 1) := by decide +kernel
theorem dX2_addHeard_93 : decode cX2_addHeard 93 = .ok (.ireturn, 1) := by decide +kernel
set_option maxRecDepth 20000 in
theorem ggX2_addHeard_X2_mayBeTold : GoodIn wsX2_addHeard wsX2_mayBeTold := goodIn_r _ [9, 4, 10, 11, 12, 13, 14, 15, 16, 17, 18, 19] rfl (by decide +kernel)
set_option maxRecDepth 20000 in
theorem gX2_addHeard_X2_mayBeTold : GoodIn wsX2_addHeard (wsV RX2 68 RX2 yX2_mayBeTold wsX2_mayBeTold) := goodIn_app (goodIn_of _ (by decide +kernel)) ggX2_addHeard_X2_mayBeTold
set_option maxHeartbeats 4000000 in
set_option maxRecDepth 100000 in
theorem K_X2_addHeard (l : Launch) (D : va_G) (xe : Nat) (xs : Nat) (xl : Nat) (ef : Nat) (ev : Nat) (eh : Nat) (er : Nat) (a : Int32) (b : Int32) (d : Int32) (sz : Nat) : Ki l yX2_addHeard wsX2_addHeard 2 62 0 0 D [.ref xe, .int a, .int b, .int d] [(xe, .inr (1, [.ref xs, .ref xl, .ref ef, .ref ev, .int 0, .ref eh, .int 0, .ref er, .int 0, .int 0]))] [] sz (fun (r : Int32) (_ : Unit) => r = (-2)) (fun (_ : Unit) => [(xe, .inr (1, [.ref xs, .ref xl, .ref ef, .ref ev, .int 0, .ref eh, .int 0, .ref er, .int 0, .int 0]))]) (fun (_ : Unit) => []) := by
  unfold Ki
  refine g_ofW (cc := cX2_addHeard) (lv := [(0, .ref xe), (1, .int a), (2, .int b), (3, .int d)]) (by decide) rfl (Nat.le_of_ble_eq_true rfl) rfl ?_
  intro p e s m args below meth c A Q hA hQ F hr hnm
  have hts := F.2.2.2.2.1
  have w_0 : (Cond.fieldLink RX2 40 "QuietCut$Ear" "offers" "I").before args s = true := hts _ (List.mem_of_getElem? (i := 1) rfl)
  have i_X2 : ∀ w ∈ u_ws RX2 TX2 10, w ∈ wsX2_addHeard := fun _ h => List.mem_cons_of_mem _ (List.mem_append_right _ h)
  refine g_aload_n F 0 dX2_addHeard_0 rfl rfl ?_
  refine g_iload_n F 1 dX2_addHeard_1 rfl rfl ?_
  refine g_iload_n F 3 dX2_addHeard_2 rfl rfl ?_
  refine g_callVi (k := 0) (n := 0) (b := xe) (As := [.int a, .int d]) (st := []) (wc := [(xe, .inr (1, [.ref xs, .ref xl, .ref ef, .ref ev, .int 0, .ref eh, .int 0, .ref er, .int 0, .int 0]))]) (wr := []) F [0] [] [] rfl rfl (by decide) rfl (by decide) (by decide) rfl (fun sz => K_X2_mayBeTold l D xe xs xl ef ev eh er a d  sz) (cwV 2 hts gX2_addHeard_X2_mayBeTold rfl rfl rfl (by decide +kernel) ⟨Nat.le_of_ble_eq_true rfl, Nat.le_of_ble_eq_true rfl⟩) rfl 0 rfl rfl (Nat.le_of_ble_eq_true rfl) ⟨Nat.le_of_ble_eq_true rfl, Nat.le_of_ble_eq_true rfl⟩ dX2_addHeard_3 (fun r_1 _ hw_2 => ?_)
  have hw_2 : r_1 = (if 0 ≤ a ∧ a ≤ 999 ∧ 0 ≤ d ∧ d ≤ 2 then 1 else 0) := hw_2
  have e_r_1 := hw_2
  show gG p l e (gR 2 0 0 62) s m args below meth c D A 4 Q 0 0 [(xe, .inr (1, [.ref xs, .ref xl, .ref ef, .ref ev, .int 0, .ref eh, .int 0, .ref er, .int 0, .int 0]))] [] [(0, .ref xe), (1, .int a), (2, .int b), (3, .int d)] 6 [.int r_1]
  refine g_fold (if 0 ≤ a ∧ a ≤ 999 ∧ 0 ≤ d ∧ d ≤ 2 then 1 else 0) e_r_1 ?_
  refine g_if_eq F 21 dX2_addHeard_6 (by decide) (fun c_6 => ?_) (fun c_6 => ?_)
  · have c_6 := gb_0 c_6
    refine g_bipush F (-2) dX2_addHeard_21 (by decide) ?_
    exact g_iret F hA hQ hr () (rfl) [0] [] rfl (by decide) rfl rfl dX2_addHeard_23
  · have c_6 := gb_n0 c_6
    refine g_iload_n F 2 dX2_addHeard_9 rfl rfl ?_
    refine g_if_lt F 21 dX2_addHeard_10 (by decide) (fun c_10 => ?_) (fun c_10 => ?_)
    · refine g_bipush F (-2) dX2_addHeard_21 (by decide) ?_
      exact g_iret F hA hQ hr () (rfl) [0] [] rfl (by decide) rfl rfl dX2_addHeard_23
    · refine g_iload_n F 2 dX2_addHeard_13 rfl rfl ?_
      refine g_aload_n F 0 dX2_addHeard_14 rfl rfl ?_
      refine g_get (C := RX2) (T := TX2) (N := 10) (v := .int 0) F i_X2 0 rfl rfl 4 (by decide) w_0 rfl rfl dX2_addHeard_15 ?_
      refine g_icmp_lt F 24 dX2_addHeard_18 (by decide) (fun c_18 => ?_) (fun c_18 => ?_)
      · exfalso; simp only [Int32.lt_iff_toInt_lt, Int32.le_iff_toInt_le, ← Int32.toInt_inj, Int32.reduceToInt] at c_6 c_10 c_18; omega
      · refine g_bipush F (-2) dX2_addHeard_21 (by decide) ?_
        exact g_iret F hA hQ hr () (rfl) [0] [] rfl (by decide) rfl rfl dX2_addHeard_23

theorem dX11_heard_0 : decode cX11_heard 0 = .ok (.aload_n 0, 1) := by decide +kernel
theorem dX11_heard_1 : decode cX11_heard 1 = .ok (.getfield 74, 3) := by decide +kernel
theorem dX11_heard_4 : decode cX11_heard 4 = .ok (.iload_n 1, 1) := by decide +kernel
theorem dX11_heard_5 : decode cX11_heard 5 = .ok (.iload_n 2, 1) := by decide +kernel
theorem dX11_heard_6 : decode cX11_heard 6 = .ok (.iload_n 3, 1) := by decide +kernel
theorem dX11_heard_7 : decode cX11_heard 7 = .ok (.invokevirtual 252, 3) := by decide +kernel
theorem dX11_heard_10 : decode cX11_heard 10 = .ok (.ireturn, 1) := by decide +kernel
set_option maxRecDepth 20000 in
theorem ggX11_heard_X2_addHeard : GoodIn wsX11_heard wsX2_addHeard := goodIn_r _ [6, 7, 8, 9, 10, 11, 12, 13, 5, 14, 29, 30, 31, 32, 33, 34, 35, 36, 37, 38] rfl (by decide +kernel)
set_option maxRecDepth 20000 in
theorem gX11_heard_X2_addHeard : GoodIn wsX11_heard (wsV RX11 252 RX2 yX2_addHeard wsX2_addHeard) := goodIn_app (goodIn_of _ (by decide +kernel)) ggX11_heard_X2_addHeard
set_option maxHeartbeats 4000000 in
set_option maxRecDepth 100000 in
theorem K_X11_heard (l : Launch) (D : va_G) (x0 : Nat) (xt : Nat) (xs : Nat) (xq : Nat) (xr : Nat) (xp : Nat) (xl : Nat) (xc : Nat) (xj : Nat) (xe : Nat) (xo : Nat) (pa : Nat) (ef : Nat) (ev : Nat) (eh : Nat) (er : Nat) (a : Int32) (b : Int32) (d : Int32) (sz : Nat) : Ki l yX11_heard wsX11_heard 3 85 0 0 D [.ref x0, .int a, .int b, .int d] [(x0, .inr (10, [.ref xt, .ref xs, .ref xq, .ref xr, .ref xp, .ref xl, .ref xc, .ref xj, .ref xe, .ref xo, .ref pa, .int 0, .int 0, .int (-1)])), (xe, .inr (1, [.ref xs, .ref xl, .ref ef, .ref ev, .int 0, .ref eh, .int 0, .ref er, .int 0, .int 0]))] [] sz (fun (r : Int32) (_ : Unit) => r = (-2)) (fun (_ : Unit) => [(x0, .inr (10, [.ref xt, .ref xs, .ref xq, .ref xr, .ref xp, .ref xl, .ref xc, .ref xj, .ref xe, .ref xo, .ref pa, .int 0, .int 0, .int (-1)])), (xe, .inr (1, [.ref xs, .ref xl, .ref ef, .ref ev, .int 0, .ref eh, .int 0, .ref er, .int 0, .int 0]))]) (fun (_ : Unit) => []) := by
  unfold Ki
  refine g_ofW (cc := cX11_heard) (lv := [(0, .ref x0), (1, .int a), (2, .int b), (3, .int d)]) (by decide) rfl (Nat.le_of_ble_eq_true rfl) rfl ?_
  intro p e s m args below meth c A Q hA hQ F hr hnm
  have hts := F.2.2.2.2.1
  have w_0 : (Cond.fieldLink RX11 74 "QuietCut" "ear" "LQuietCut$Ear;").before args s = true := hts _ (List.mem_of_getElem? (i := 1) rfl)
  have i_X11 : ∀ w ∈ u_ws RX11 TX11 14, w ∈ wsX11_heard := fun _ h => List.mem_cons_of_mem _ (List.mem_append_left _ (List.mem_append_right _ h))
  refine g_aload_n F 0 dX11_heard_0 rfl rfl ?_
  refine g_get (C := RX11) (T := TX11) (N := 14) (v := .ref xe) F i_X11 0 rfl rfl 8 (by decide) w_0 rfl rfl dX11_heard_1 ?_
  refine g_iload_n F 1 dX11_heard_4 rfl rfl ?_
  refine g_iload_n F 2 dX11_heard_5 rfl rfl ?_
  refine g_iload_n F 3 dX11_heard_6 rfl rfl ?_
  refine g_callVi (k := 0) (n := 0) (b := xe) (As := [.int a, .int b, .int d]) (st := []) (wc := [(xe, .inr (1, [.ref xs, .ref xl, .ref ef, .ref ev, .int 0, .ref eh, .int 0, .ref er, .int 0, .int 0]))]) (wr := [(x0, .inr (10, [.ref xt, .ref xs, .ref xq, .ref xr, .ref xp, .ref xl, .ref xc, .ref xj, .ref xe, .ref xo, .ref pa, .int 0, .int 0, .int (-1)]))]) F [1] [0] [] rfl rfl (by decide) rfl (by decide) (by decide) rfl (fun sz => K_X2_addHeard l D xe xs xl ef ev eh er a b d  sz) (cwV 3 hts gX11_heard_X2_addHeard rfl rfl rfl (by decide +kernel) ⟨Nat.le_of_ble_eq_true rfl, Nat.le_of_ble_eq_true rfl⟩) rfl 0 rfl rfl (Nat.le_of_ble_eq_true rfl) ⟨Nat.le_of_ble_eq_true rfl, Nat.le_of_ble_eq_true rfl⟩ dX11_heard_7 (fun r_1 _ hw_2 => ?_)
  have hw_2 : r_1 = (-2) := hw_2
  have e_r_1 := hw_2
  show gG p l e (gR 3 0 0 85) s m args below meth c D A 4 Q 0 0 [(x0, .inr (10, [.ref xt, .ref xs, .ref xq, .ref xr, .ref xp, .ref xl, .ref xc, .ref xj, .ref xe, .ref xo, .ref pa, .int 0, .int 0, .int (-1)])), (xe, .inr (1, [.ref xs, .ref xl, .ref ef, .ref ev, .int 0, .ref eh, .int 0, .ref er, .int 0, .int 0]))] [] [(0, .ref x0), (1, .int a), (2, .int b), (3, .int d)] 10 [.int r_1]
  refine g_fold (-2) e_r_1 ?_
  exact g_iret F hA hQ hr () (rfl) [0, 1] [] rfl (by decide) rfl rfl dX11_heard_10

theorem dX2_addRight_0 : decode cX2_addRight 0 = .ok (.aload_n 0, 1) := by decide +kernel
theorem dX2_addRight_1 : decode cX2_addRight 1 = .ok (.iload_n 1, 1) := by decide +kernel
theorem dX2_addRight_2 : decode cX2_addRight 2 = .ok (.iload_n 3, 1) := by decide +kernel
theorem dX2_addRight_3 : decode cX2_addRight 3 = .ok (.invokevirtual 68, 3) := by decide +kernel
theorem dX2_addRight_6 : decode cX2_addRight 6 = .ok (.ifCond .eq 21, 3) := by decide +kernel
theorem dX2_addRight_9 : decode cX2_addRight 9 = .ok (.iload_n 2, 1) := by decide +kernel
theorem dX2_addRight_10 : decode cX2_addRight 10 = .ok (.ifCond .lt 17, 3) := by decide +kernel
theorem dX2_addRight_13 : decode cX2_addRight 13 = .ok (.iload_n 2, 1) := by decide +kernel
theorem dX2_addRight_14 : decode cX2_addRight 14 = .ok (.aload_n 0, 1) := by decide +kernel
theorem dX2_addRight_15 : decode cX2_addRight 15 = .ok (.getfield 44, 3) := by decide +kernel
theorem dX2_addRight_18 : decode cX2_addRight 18 = .ok (.if_icmp .ge 9, 3) := by decide +kernel
theorem dX2_addRight_21 : decode cX2_addRight 21 = .ok (.iload_n 2, 1) := by decide +kernel
theorem dX2_addRight_22 : decode cX2_addRight 22 = .ok (.bipush 30, 2) := by decide +kernel
theorem dX2_addRight_24 : decode cX2_addRight 24 = .ok (.if_icmp .lt 6, 3) := by decide +kernel
theorem dX2_addRight_27 : decode cX2_addRight 27 = .ok (.bipush (-2), 2) := by decide +kernel
theorem dX2_addRight_29 : decode cX2_addRight 29 = .ok (.ireturn, 1) := by decide +kernel
theorem dX2_addRight_30 : decode cX2_addRight 30 = .ok (.iload_n 1, 1) := by decide +kernel
theorem dX2_addRight_31 : decode cX2_addRight 31 = .ok (.aload_n 0, 1) := by decide +kernel
theorem dX2_addRight_32 : decode cX2_addRight 32 = .ok (.getfield 20, 3) := by decide +kernel
theorem dX2_addRight_35 : decode cX2_addRight 35 = .ok (.iconst 0, 1) := by decide +kernel
theorem dX2_addRight_36 : decode cX2_addRight 36 = .ok (.aaload, 1) := by decide +kernel
theorem dX2_addRight_37 : decode cX2_addRight 37 = .ok (.iload_n 2, 1) := by decide +kernel
theorem dX2_addRight_38 : decode cX2_addRight 38 = .ok (.iaload, 1) := by decide +kernel
theorem dX2_addRight_39 : decode cX2_addRight 39 = .ok (.if_icmp .gt 6, 3) := by decide +kernel
theorem dX2_addRight_42 : decode cX2_addRight 42 = .ok (.bipush (-2), 2) := by decide +kernel
theorem dX2_addRight_44 : decode cX2_addRight 44 = .ok (.ireturn, 1) := by decide +kernel
theorem dX2_addRight_45 : decode cX2_addRight 45 = .ok (.aload_n 0, 1) := by decide +kernel
theorem dX2_addRight_46 : decode cX2_addRight 46 = .ok (.getfield 47, 3) := by decide +kernel
theorem dX2_addRight_49 : decode cX2_addRight 49 = .ok (.bipush 20, 2) := by decide +kernel
theorem dX2_addRight_51 : decode cX2_addRight 51 = .ok (.if_icmp .lt 6, 3) := by decide +kernel
theorem dX2_addRight_54 : decode cX2_addRight 54 = .ok (.bipush (-3), 2) := by decide +kernel
theorem dX2_addRight_56 : decode cX2_addRight 56 = .ok (.ireturn, 1) := by decide +kernel
theorem dX2_addRight_57 : decode cX2_addRight 57 = .ok (.aload_n 0, 1) := by decide +kernel
theorem dX2_addRight_58 : decode cX2_addRight 58 = .ok (.getfield 23, 3) := by decide +kernel
theorem dX2_addRight_61 : decode cX2_addRight 61 = .ok (.iconst 0, 1) := by decide +kernel
theorem dX2_addRight_62 : decode cX2_addRight 62 = .ok (.aaload, 1) := by decide +kernel
theorem dX2_addRight_63 : decode cX2_addRight 63 = .ok (.aload_n 0, 1) := by decide +kernel
theorem dX2_addRight_64 : decode cX2_addRight 64 = .ok (.getfield 47, 3) := by decide +kernel
theorem dX2_addRight_67 : decode cX2_addRight 67 = .ok (.iload_n 1, 1) := by decide +kernel
theorem dX2_addRight_68 : decode cX2_addRight 68 = .ok (.iastore, 1) := by decide +kernel
theorem dX2_addRight_69 : decode cX2_addRight 69 = .ok (.aload_n 0, 1) := by decide +kernel
theorem dX2_addRight_70 : decode cX2_addRight 70 = .ok (.getfield 23, 3) := by decide +kernel
theorem dX2_addRight_73 : decode cX2_addRight 73 = .ok (.iconst 1, 1) := by decide +kernel
theorem dX2_addRight_74 : decode cX2_addRight 74 = .ok (.aaload, 1) := by decide +kernel
theorem dX2_addRight_75 : decode cX2_addRight 75 = .ok (.aload_n 0, 1) := by decide +kernel
theorem dX2_addRight_76 : decode cX2_addRight 76 = .ok (.getfield 47, 3) := by decide +kernel
theorem dX2_addRight_79 : decode cX2_addRight 79 = .ok (.iload_n 2, 1) := by decide +kernel
theorem dX2_addRight_80 : decode cX2_addRight 80 = .ok (.iastore, 1) := by decide +kernel
theorem dX2_addRight_81 : decode cX2_addRight 81 = .ok (.aload_n 0, 1) := by decide +kernel
theorem dX2_addRight_82 : decode cX2_addRight 82 = .ok (.getfield 23, 3) := by decide +kernel
theorem dX2_addRight_85 : decode cX2_addRight 85 = .ok (.iconst 2, 1) := by decide +kernel
theorem dX2_addRight_86 : decode cX2_addRight 86 = .ok (.aaload, 1) := by decide +kernel
theorem dX2_addRight_87 : decode cX2_addRight 87 = .ok (.aload_n 0, 1) := by decide +kernel
theorem dX2_addRight_88 : decode cX2_addRight 88 = .ok (.getfield 47, 3) := by decide +kernel
theorem dX2_addRight_91 : decode cX2_addRight 91 = .ok (.iload_n 3, 1) := by decide +kernel
theorem dX2_addRight_92 : decode cX2_addRight 92 = .ok (.iastore, 1) := by decide +kernel
theorem dX2_addRight_93 : decode cX2_addRight 93 = .ok (.aload_n 0, 1) := by decide +kernel
theorem dX2_addRight_94 : decode cX2_addRight 94 = .ok (.iload_n 1, 1) := by decide +kernel
theorem dX2_addRight_95 : decode cX2_addRight 95 = .ok (.putfield 50, 3) := by decide +kernel
theorem dX2_addRight_98 : decode cX2_addRight 98 = .ok (.aload_n 0, 1) := by decide +kernel
theorem dX2_addRight_99 : decode cX2_addRight 99 = .ok (.dup, 1) := by decide +kernel
theorem dX2_addRight_100 : decode cX2_addRight 100 = .ok (.getfield 47, 3) := by decide +kernel
theorem dX2_addRight_103 : decode cX2_addRight 103 = .ok (.iconst 1, 1) := by decide +kernel
theorem dX2_addRight_104 : decode cX2_addRight 104 = .ok (.iadd, 1) := by decide +kernel
theorem dX2_addRight_105 : decode cX2_addRight 105 = .ok (.putfield 47, 3) := by decide +kernel
theorem dX2_addRight_108 : decode cX2_addRight 108 = .ok (.aload_n 0, 1) := by decide +kernel
theorem dX2_addRight_109 : decode cX2_addRight 109 = .ok (.iload_n 2, 1) := by decide +kernel
theorem dX2_addRight_110 : decode cX2_addRight 110 = .ok (.invokevirtual 72, 3) := by decide +kernel
theorem dX2_addRight_113 : decode cX2_addRight 113 = .ok (.ireturn, 1) := by decide +kernel
set_option maxRecDepth 20000 in
theorem ggX2_addRight_X2_mayBeTold : GoodIn wsX2_addRight wsX2_mayBeTold := goodIn_r _ [10, 5, 15, 16, 17, 18, 19, 20, 21, 22, 23, 24] rfl (by decide +kernel)
set_option maxRecDepth 20000 in
theorem gX2_addRight_X2_mayBeTold : GoodIn wsX2_addRight (wsV RX2 68 RX2 yX2_mayBeTold wsX2_mayBeTold) := goodIn_app (goodIn_of _ (by decide +kernel)) ggX2_addRight_X2_mayBeTold
set_option maxHeartbeats 4000000 in
set_option maxRecDepth 100000 in
theorem K_X2_addRight (l : Launch) (D : va_G) (xe : Nat) (xs : Nat) (xl : Nat) (ef : Nat) (ev : Nat) (eh : Nat) (er : Nat) (a : Int32) (b : Int32) (d : Int32) (sz : Nat) : Ki l yX2_addRight wsX2_addRight 2 62 0 0 D [.ref xe, .int a, .int b, .int d] [(xe, .inr (1, [.ref xs, .ref xl, .ref ef, .ref ev, .int 0, .ref eh, .int 0, .ref er, .int 0, .int 0]))] [] sz (fun (r : Int32) (_ : Unit) => r = (-2)) (fun (_ : Unit) => [(xe, .inr (1, [.ref xs, .ref xl, .ref ef, .ref ev, .int 0, .ref eh, .int 0, .ref er, .int 0, .int 0]))]) (fun (_ : Unit) => []) := by
  unfold Ki
  refine g_ofW (cc := cX2_addRight) (lv := [(0, .ref xe), (1, .int a), (2, .int b), (3, .int d)]) (by decide) rfl (Nat.le_of_ble_eq_true rfl) rfl ?_
  intro p e s m args below meth c A Q hA hQ F hr hnm
  have hts := F.2.2.2.2.1
  have w_0 : (Cond.fieldLink RX2 44 "QuietCut$Ear" "heards" "I").before args s = true := hts _ (List.mem_of_getElem? (i := 1) rfl)
  have i_X2 : ∀ w ∈ u_ws RX2 TX2 10, w ∈ wsX2_addRight := fun _ h => List.mem_cons_of_mem _ (List.mem_append_right _ h)
  refine g_aload_n F 0 dX2_addRight_0 rfl rfl ?_
  refine g_iload_n F 1 dX2_addRight_1 rfl rfl ?_
  refine g_iload_n F 3 dX2_addRight_2 rfl rfl ?_
  refine g_callVi (k := 0) (n := 0) (b := xe) (As := [.int a, .int d]) (st := []) (wc := [(xe, .inr (1, [.ref xs, .ref xl, .ref ef, .ref ev, .int 0, .ref eh, .int 0, .ref er, .int 0, .int 0]))]) (wr := []) F [0] [] [] rfl rfl (by decide) rfl (by decide) (by decide) rfl (fun sz => K_X2_mayBeTold l D xe xs xl ef ev eh er a d  sz) (cwV 2 hts gX2_addRight_X2_mayBeTold rfl rfl rfl (by decide +kernel) ⟨Nat.le_of_ble_eq_true rfl, Nat.le_of_ble_eq_true rfl⟩) rfl 0 rfl rfl (Nat.le_of_ble_eq_true rfl) ⟨Nat.le_of_ble_eq_true rfl, Nat.le_of_ble_eq_true rfl⟩ dX2_addRight_3 (fun r_1 _ hw_2 => ?_)
  have hw_2 : r_1 = (if 0 ≤ a ∧ a ≤ 999 ∧ 0 ≤ d ∧ d ≤ 2 then 1 else 0) := hw_2
  have e_r_1 := hw_2
  show gG p l e (gR 2 0 0 62) s m args below meth c D A 4 Q 0 0 [(xe, .inr (1, [.ref xs, .ref xl, .ref ef, .ref ev, .int 0, .ref eh, .int 0, .ref er, .int 0, .int 0]))] [] [(0, .ref xe), (1, .int a), (2, .int b), (3, .int d)] 6 [.int r_1]
  refine g_fold (if 0 ≤ a ∧ a ≤ 999 ∧ 0 ≤ d ∧ d ≤ 2 then 1 else 0) e_r_1 ?_
  refine g_if_eq F 27 dX2_addRight_6 (by decide) (fun c_6 => ?_) (fun c_6 => ?_)
  · have c_6 := gb_0 c_6
    refine g_bipush F (-2) dX2_addRight_27 (by decide) ?_
    exact g_iret F hA hQ hr () (rfl) [0] [] rfl (by decide) rfl rfl dX2_addRight_29
  · have c_6 := gb_n0 c_6
    refine g_iload_n F 2 dX2_addRight_9 rfl rfl ?_
    refine g_if_lt F 27 dX2_addRight_10 (by decide) (fun c_10 => ?_) (fun c_10 => ?_)
    · refine g_bipush F (-2) dX2_addRight_27 (by decide) ?_
      exact g_iret F hA hQ hr () (rfl) [0] [] rfl (by decide) rfl rfl dX2_addRight_29
    · refine g_iload_n F 2 dX2_addRight_13 rfl rfl ?_
      refine g_aload_n F 0 dX2_addRight_14 rfl rfl ?_
      refine g_get (C := RX2) (T := TX2) (N := 10) (v := .int 0) F i_X2 0 rfl rfl 6 (by decide) w_0 rfl rfl dX2_addRight_15 ?_
      refine g_icmp_ge F 27 dX2_addRight_18 (by decide) (fun c_18 => ?_) (fun c_18 => ?_)
      · refine g_bipush F (-2) dX2_addRight_27 (by decide) ?_
        exact g_iret F hA hQ hr () (rfl) [0] [] rfl (by decide) rfl rfl dX2_addRight_29
      · exfalso; simp only [Int32.lt_iff_toInt_lt, Int32.le_iff_toInt_le, ← Int32.toInt_inj, Int32.reduceToInt] at c_6 c_10 c_18; omega

theorem dX11_right_0 : decode cX11_right 0 = .ok (.aload_n 0, 1) := by decide +kernel
theorem dX11_right_1 : decode cX11_right 1 = .ok (.getfield 74, 3) := by decide +kernel
theorem dX11_right_4 : decode cX11_right 4 = .ok (.iload_n 1, 1) := by decide +kernel
theorem dX11_right_5 : decode cX11_right 5 = .ok (.iload_n 2, 1) := by decide +kernel
theorem dX11_right_6 : decode cX11_right 6 = .ok (.iload_n 3, 1) := by decide +kernel
theorem dX11_right_7 : decode cX11_right 7 = .ok (.invokevirtual 255, 3) := by decide +kernel
theorem dX11_right_10 : decode cX11_right 10 = .ok (.ireturn, 1) := by decide +kernel
set_option maxRecDepth 20000 in
theorem ggX11_right_X2_addRight : GoodIn wsX11_right wsX2_addRight := goodIn_r _ [6, 7, 8, 9, 10, 11, 12, 13, 14, 5, 15, 16, 17, 18, 19, 34, 35, 36, 37, 38, 39, 40, 41, 42, 43] rfl (by decide +kernel)
set_option maxRecDepth 20000 in
theorem gX11_right_X2_addRight : GoodIn wsX11_right (wsV RX11 255 RX2 yX2_addRight wsX2_addRight) := goodIn_app (goodIn_of _ (by decide +kernel)) ggX11_right_X2_addRight
set_option maxHeartbeats 4000000 in
set_option maxRecDepth 100000 in
theorem K_X11_right (l : Launch) (D : va_G) (x0 : Nat) (xt : Nat) (xs : Nat) (xq : Nat) (xr : Nat) (xp : Nat) (xl : Nat) (xc : Nat) (xj : Nat) (xe : Nat) (xo : Nat) (pa : Nat) (ef : Nat) (ev : Nat) (eh : Nat) (er : Nat) (a : Int32) (b : Int32) (d : Int32) (sz : Nat) : Ki l yX11_right wsX11_right 3 85 0 0 D [.ref x0, .int a, .int b, .int d] [(x0, .inr (10, [.ref xt, .ref xs, .ref xq, .ref xr, .ref xp, .ref xl, .ref xc, .ref xj, .ref xe, .ref xo, .ref pa, .int 0, .int 0, .int (-1)])), (xe, .inr (1, [.ref xs, .ref xl, .ref ef, .ref ev, .int 0, .ref eh, .int 0, .ref er, .int 0, .int 0]))] [] sz (fun (r : Int32) (_ : Unit) => r = (-2)) (fun (_ : Unit) => [(x0, .inr (10, [.ref xt, .ref xs, .ref xq, .ref xr, .ref xp, .ref xl, .ref xc, .ref xj, .ref xe, .ref xo, .ref pa, .int 0, .int 0, .int (-1)])), (xe, .inr (1, [.ref xs, .ref xl, .ref ef, .ref ev, .int 0, .ref eh, .int 0, .ref er, .int 0, .int 0]))]) (fun (_ : Unit) => []) := by
  unfold Ki
  refine g_ofW (cc := cX11_right) (lv := [(0, .ref x0), (1, .int a), (2, .int b), (3, .int d)]) (by decide) rfl (Nat.le_of_ble_eq_true rfl) rfl ?_
  intro p e s m args below meth c A Q hA hQ F hr hnm
  have hts := F.2.2.2.2.1
  have w_0 : (Cond.fieldLink RX11 74 "QuietCut" "ear" "LQuietCut$Ear;").before args s = true := hts _ (List.mem_of_getElem? (i := 1) rfl)
  have i_X11 : ∀ w ∈ u_ws RX11 TX11 14, w ∈ wsX11_right := fun _ h => List.mem_cons_of_mem _ (List.mem_append_left _ (List.mem_append_right _ h))
  refine g_aload_n F 0 dX11_right_0 rfl rfl ?_
  refine g_get (C := RX11) (T := TX11) (N := 14) (v := .ref xe) F i_X11 0 rfl rfl 8 (by decide) w_0 rfl rfl dX11_right_1 ?_
  refine g_iload_n F 1 dX11_right_4 rfl rfl ?_
  refine g_iload_n F 2 dX11_right_5 rfl rfl ?_
  refine g_iload_n F 3 dX11_right_6 rfl rfl ?_
  refine g_callVi (k := 0) (n := 0) (b := xe) (As := [.int a, .int b, .int d]) (st := []) (wc := [(xe, .inr (1, [.ref xs, .ref xl, .ref ef, .ref ev, .int 0, .ref eh, .int 0, .ref er, .int 0, .int 0]))]) (wr := [(x0, .inr (10, [.ref xt, .ref xs, .ref xq, .ref xr, .ref xp, .ref xl, .ref xc, .ref xj, .ref xe, .ref xo, .ref pa, .int 0, .int 0, .int (-1)]))]) F [1] [0] [] rfl rfl (by decide) rfl (by decide) (by decide) rfl (fun sz => K_X2_addRight l D xe xs xl ef ev eh er a b d  sz) (cwV 3 hts gX11_right_X2_addRight rfl rfl rfl (by decide +kernel) ⟨Nat.le_of_ble_eq_true rfl, Nat.le_of_ble_eq_true rfl⟩) rfl 0 rfl rfl (Nat.le_of_ble_eq_true rfl) ⟨Nat.le_of_ble_eq_true rfl, Nat.le_of_ble_eq_true rfl⟩ dX11_right_7 (fun r_1 _ hw_2 => ?_)
  have hw_2 : r_1 = (-2) := hw_2
  have e_r_1 := hw_2
  show gG p l e (gR 3 0 0 85) s m args below meth c D A 4 Q 0 0 [(x0, .inr (10, [.ref xt, .ref xs, .ref xq, .ref xr, .ref xp, .ref xl, .ref xc, .ref xj, .ref xe, .ref xo, .ref pa, .int 0, .int 0, .int (-1)])), (xe, .inr (1, [.ref xs, .ref xl, .ref ef, .ref ev, .int 0, .ref eh, .int 0, .ref er, .int 0, .int 0]))] [] [(0, .ref x0), (1, .int a), (2, .int b), (3, .int d)] 10 [.int r_1]
  refine g_fold (-2) e_r_1 ?_
  exact g_iret F hA hQ hr () (rfl) [0, 1] [] rfl (by decide) rfl rfl dX11_right_10

theorem dX2_isInSpans_0 : decode cX2_isInSpans 0 = .ok (.aload_n 0, 1) := by decide +kernel
theorem dX2_isInSpans_1 : decode cX2_isInSpans 1 = .ok (.getfield 26, 3) := by decide +kernel
theorem dX2_isInSpans_4 : decode cX2_isInSpans 4 = .ok (.getfield 53, 3) := by decide +kernel
theorem dX2_isInSpans_7 : decode cX2_isInSpans 7 = .ok (.iconst 3, 1) := by decide +kernel
theorem dX2_isInSpans_8 : decode cX2_isInSpans 8 = .ok (.iaload, 1) := by decide +kernel
theorem dX2_isInSpans_9 : decode cX2_isInSpans 9 = .ok (.iload_n 1, 1) := by decide +kernel
theorem dX2_isInSpans_10 : decode cX2_isInSpans 10 = .ok (.iconst 4, 1) := by decide +kernel
theorem dX2_isInSpans_11 : decode cX2_isInSpans 11 = .ok (.idiv, 1) := by decide +kernel
theorem dX2_isInSpans_12 : decode cX2_isInSpans 12 = .ok (.iadd, 1) := by decide +kernel
theorem dX2_isInSpans_13 : decode cX2_isInSpans 13 = .ok (.aload_n 0, 1) := by decide +kernel
theorem dX2_isInSpans_14 : decode cX2_isInSpans 14 = .ok (.getfield 26, 3) := by decide +kernel
theorem dX2_isInSpans_17 : decode cX2_isInSpans 17 = .ok (.getfield 53, 3) := by decide +kernel
theorem dX2_isInSpans_20 : decode cX2_isInSpans 20 = .ok (.iconst 4, 1) := by decide +kernel
theorem dX2_isInSpans_21 : decode cX2_isInSpans 21 = .ok (.iaload, 1) := by decide +kernel
theorem dX2_isInSpans_22 : decode cX2_isInSpans 22 = .ok (.if_icmp .gt 33, 3) := by decide +kernel
theorem dX2_isInSpans_25 : decode cX2_isInSpans 25 = .ok (.aload_n 0, 1) := by decide +kernel
theorem dX2_isInSpans_26 : decode cX2_isInSpans 26 = .ok (.getfield 26, 3) := by decide +kernel
theorem dX2_isInSpans_29 : decode cX2_isInSpans 29 = .ok (.getfield 53, 3) := by decide +kernel
theorem dX2_isInSpans_32 : decode cX2_isInSpans 32 = .ok (.iconst 5, 1) := by decide +kernel
theorem dX2_isInSpans_33 : decode cX2_isInSpans 33 = .ok (.iaload, 1) := by decide +kernel
theorem dX2_isInSpans_34 : decode cX2_isInSpans 34 = .ok (.iload_n 1, 1) := by decide +kernel
theorem dX2_isInSpans_35 : decode cX2_isInSpans 35 = .ok (.iconst 4, 1) := by decide +kernel
theorem dX2_isInSpans_36 : decode cX2_isInSpans 36 = .ok (.irem, 1) := by decide +kernel
theorem dX2_isInSpans_37 : decode cX2_isInSpans 37 = .ok (.iadd, 1) := by decide +kernel
theorem dX2_isInSpans_38 : decode cX2_isInSpans 38 = .ok (.aload_n 0, 1) := by decide +kernel
theorem dX2_isInSpans_39 : decode cX2_isInSpans 39 = .ok (.getfield 26, 3) := by decide +kernel
theorem dX2_isInSpans_42 : decode cX2_isInSpans 42 = .ok (.getfield 53, 3) := by decide +kernel
theorem dX2_isInSpans_45 : decode cX2_isInSpans 45 = .ok (.bipush 6, 2) := by decide +kernel
theorem dX2_isInSpans_47 : decode cX2_isInSpans 47 = .ok (.iaload, 1) := by decide +kernel
theorem dX2_isInSpans_48 : decode cX2_isInSpans 48 = .ok (.if_icmp .gt 7, 3) := by decide +kernel
theorem dX2_isInSpans_51 : decode cX2_isInSpans 51 = .ok (.iconst 1, 1) := by decide +kernel
theorem dX2_isInSpans_52 : decode cX2_isInSpans 52 = .ok (.goto 4, 3) := by decide +kernel
theorem dX2_isInSpans_55 : decode cX2_isInSpans 55 = .ok (.iconst 0, 1) := by decide +kernel
theorem dX2_isInSpans_56 : decode cX2_isInSpans 56 = .ok (.ireturn, 1) := by decide +kernel
set_option maxHeartbeats 4000000 in
set_option maxRecDepth 100000 in
theorem K_X2_isInSpans0 (l : Launch) (D : va_G) (xe : Nat) (xs : Nat) (xl : Nat) (ef : Nat) (ev : Nat) (eh : Nat) (er : Nat) (n : Nat) (fo : Nat) (wa : Nat) (we : Nat) (cI : ClassId) (sz : Nat) : Ki l yX2_isInSpans wsX2_isInSpans 1 40 0 0 D [.ref xe, .int 0] [(xe, .inr (1, [.ref xs, .ref xl, .ref ef, .ref ev, .int 0, .ref eh, .int 0, .ref er, .int 0, .int 0])), (xs, .inr (6, [.ref n, .ref fo, .ref wa, .ref we])), (n, .inl (cI, 36, .inl g_nums))] [(cI, .int)] sz (fun (r : Int32) (_ : Unit) => r = 1) (fun (_ : Unit) => [(xe, .inr (1, [.ref xs, .ref xl, .ref ef, .ref ev, .int 0, .ref eh, .int 0, .ref er, .int 0, .int 0])), (xs, .inr (6, [.ref n, .ref fo, .ref wa, .ref we])), (n, .inl (cI, 36, .inl g_nums))]) (fun (_ : Unit) => [(cI, .int)]) := by
  unfold Ki
  refine g_ofW (cc := cX2_isInSpans) (lv := [(0, .ref xe), (1, .int 0)]) (by decide) rfl (Nat.le_of_ble_eq_true rfl) rfl ?_
  intro p e s m args below meth c A Q hA hQ F hr hnm
  have hts := F.2.2.2.2.1
  have w_0 : (Cond.fieldLink RX2 26 "QuietCut$Ear" "shop" "LQuietCut$Shop;").before args s = true := hts _ (List.mem_of_getElem? (i := 1) rfl)
  have i_X2 : ∀ w ∈ u_ws RX2 TX2 10, w ∈ wsX2_isInSpans := fun _ h => List.mem_cons_of_mem _ (List.mem_append_left _ (List.mem_append_right _ h))
  have w_1 : (Cond.fieldLink RX2 53 "QuietCut$Shop" "numbers" "[I").before args s = true := hts _ (List.mem_of_getElem? (i := 2) rfl)
  have i_X7 : ∀ w ∈ u_ws RX7 TX7 4, w ∈ wsX2_isInSpans := fun _ h => List.mem_cons_of_mem _ (List.mem_append_right _ h)
  refine g_aload_n F 0 dX2_isInSpans_0 rfl rfl ?_
  refine g_get (C := RX2) (T := TX2) (N := 10) (v := .ref xs) F i_X2 0 rfl rfl 0 (by decide) w_0 rfl rfl dX2_isInSpans_1 ?_
  refine g_get (C := RX7) (T := TX7) (N := 4) (v := .ref n) F i_X7 1 rfl rfl 0 (by decide) w_1 rfl rfl dX2_isInSpans_4 ?_
  refine g_iconst F 3 dX2_isInSpans_7 (by decide) ?_
  refine g_iald F 2 0 rfl rfl (by unfold vp_in; decide) dX2_isInSpans_8 ?_
  refine g_fold 8 (by rfl) ?_
  refine g_iload_n F 1 dX2_isInSpans_9 rfl rfl ?_
  refine g_iconst F 4 dX2_isInSpans_10 (by decide) ?_
  refine g_idiv F dX2_isInSpans_11 (by decide) ?_
  refine g_fold 0 (by decide) ?_
  refine g_iadd F dX2_isInSpans_12 ?_
  refine g_fold 8 (by decide) ?_
  refine g_aload_n F 0 dX2_isInSpans_13 rfl rfl ?_
  refine g_get (C := RX2) (T := TX2) (N := 10) (v := .ref xs) F i_X2 0 rfl rfl 0 (by decide) w_0 rfl rfl dX2_isInSpans_14 ?_
  refine g_get (C := RX7) (T := TX7) (N := 4) (v := .ref n) F i_X7 1 rfl rfl 0 (by decide) w_1 rfl rfl dX2_isInSpans_17 ?_
  refine g_iconst F 4 dX2_isInSpans_20 (by decide) ?_
  refine g_iald F 2 0 rfl rfl (by unfold vp_in; decide) dX2_isInSpans_21 ?_
  refine g_fold 8 (by rfl) ?_
  refine g_icmp_gt F 55 dX2_isInSpans_22 (by decide) (fun h9 => absurd h9 (by decide)) (fun c_22 => ?_)
  refine g_aload_n F 0 dX2_isInSpans_25 rfl rfl ?_
  refine g_get (C := RX2) (T := TX2) (N := 10) (v := .ref xs) F i_X2 0 rfl rfl 0 (by decide) w_0 rfl rfl dX2_isInSpans_26 ?_
  refine g_get (C := RX7) (T := TX7) (N := 4) (v := .ref n) F i_X7 1 rfl rfl 0 (by decide) w_1 rfl rfl dX2_isInSpans_29 ?_
  refine g_iconst F 5 dX2_isInSpans_32 (by decide) ?_
  refine g_iald F 2 0 rfl rfl (by unfold vp_in; decide) dX2_isInSpans_33 ?_
  refine g_fold 2 (by rfl) ?_
  refine g_iload_n F 1 dX2_isInSpans_34 rfl rfl ?_
  refine g_iconst F 4 dX2_isInSpans_35 (by decide) ?_
  refine g_irem F dX2_isInSpans_36 (by decide) ?_
  refine g_fold 0 (by decide) ?_
  refine g_iadd F dX2_isInSpans_37 ?_
  refine g_fold 2 (by decide) ?_
  refine g_aload_n F 0 dX2_isInSpans_38 rfl rfl ?_
  refine g_get (C := RX2) (T := TX2) (N := 10) (v := .ref xs) F i_X2 0 rfl rfl 0 (by decide) w_0 rfl rfl dX2_isInSpans_39 ?_
  refine g_get (C := RX7) (T := TX7) (N := 4) (v := .ref n) F i_X7 1 rfl rfl 0 (by decide) w_1 rfl rfl dX2_isInSpans_42 ?_
  refine g_bipush F 6 dX2_isInSpans_45 (by decide) ?_
  refine g_iald F 2 0 rfl rfl (by unfold vp_in; decide) dX2_isInSpans_47 ?_
  refine g_fold 2 (by rfl) ?_
  refine g_icmp_gt F 55 dX2_isInSpans_48 (by decide) (fun h9 => absurd h9 (by decide)) (fun c_48 => ?_)
  refine g_iconst F 1 dX2_isInSpans_51 (by decide) ?_
  refine g_goto F 56 dX2_isInSpans_52 (by decide) ?_
  exact g_zret F hA hQ hr rfl () (rfl) [0, 1, 2] [0] rfl (by decide) rfl rfl dX2_isInSpans_56


set_option maxHeartbeats 4000000 in
set_option maxRecDepth 100000 in
theorem K_X2_isInSpans1 (l : Launch) (D : va_G) (xe : Nat) (xs : Nat) (xl : Nat) (ef : Nat) (ev : Nat) (eh : Nat) (er : Nat) (n : Nat) (fo : Nat) (wa : Nat) (we : Nat) (cI : ClassId) (sz : Nat) : Ki l yX2_isInSpans wsX2_isInSpans 1 40 0 0 D [.ref xe, .int 1] [(xe, .inr (1, [.ref xs, .ref xl, .ref ef, .ref ev, .int 0, .ref eh, .int 0, .ref er, .int 0, .int 0])), (xs, .inr (6, [.ref n, .ref fo, .ref wa, .ref we])), (n, .inl (cI, 36, .inl g_nums))] [(cI, .int)] sz (fun (r : Int32) (_ : Unit) => r = 0) (fun (_ : Unit) => [(xe, .inr (1, [.ref xs, .ref xl, .ref ef, .ref ev, .int 0, .ref eh, .int 0, .ref er, .int 0, .int 0])), (xs, .inr (6, [.ref n, .ref fo, .ref wa, .ref we])), (n, .inl (cI, 36, .inl g_nums))]) (fun (_ : Unit) => [(cI, .int)]) := by
  unfold Ki
  refine g_ofW (cc := cX2_isInSpans) (lv := [(0, .ref xe), (1, .int 1)]) (by decide) rfl (Nat.le_of_ble_eq_true rfl) rfl ?_
  intro p e s m args below meth c A Q hA hQ F hr hnm
  have hts := F.2.2.2.2.1
  have w_0 : (Cond.fieldLink RX2 26 "QuietCut$Ear" "shop" "LQuietCut$Shop;").before args s = true := hts _ (List.mem_of_getElem? (i := 1) rfl)
  have i_X2 : ∀ w ∈ u_ws RX2 TX2 10, w ∈ wsX2_isInSpans := fun _ h => List.mem_cons_of_mem _ (List.mem_append_left _ (List.mem_append_right _ h))
  have w_1 : (Cond.fieldLink RX2 53 "QuietCut$Shop" "numbers" "[I").before args s = true := hts _ (List.mem_of_getElem? (i := 2) rfl)
  have i_X7 : ∀ w ∈ u_ws RX7 TX7 4, w ∈ wsX2_isInSpans := fun _ h => List.mem_cons_of_mem _ (List.mem_append_right _ h)
  refine g_aload_n F 0 dX2_isInSpans_0 rfl rfl ?_
  refine g_get (C := RX2) (T := TX2) (N := 10) (v := .ref xs) F i_X2 0 rfl rfl 0 (by decide) w_0 rfl rfl dX2_isInSpans_1 ?_
  refine g_get (C := RX7) (T := TX7) (N := 4) (v := .ref n) F i_X7 1 rfl rfl 0 (by decide) w_1 rfl rfl dX2_isInSpans_4 ?_
  refine g_iconst F 3 dX2_isInSpans_7 (by decide) ?_
  refine g_iald F 2 0 rfl rfl (by unfold vp_in; decide) dX2_isInSpans_8 ?_
  refine g_fold 8 (by rfl) ?_
  refine g_iload_n F 1 dX2_isInSpans_9 rfl rfl ?_
  refine g_iconst F 4 dX2_isInSpans_10 (by decide) ?_
  refine g_idiv F dX2_isInSpans_11 (by decide) ?_
  refine g_fold 0 (by decide) ?_
  refine g_iadd F dX2_isInSpans_12 ?_
  refine g_fold 8 (by decide) ?_
  refine g_aload_n F 0 dX2_isInSpans_13 rfl rfl ?_
  refine g_get (C := RX2) (T := TX2) (N := 10) (v := .ref xs) F i_X2 0 rfl rfl 0 (by decide) w_0 rfl rfl dX2_isInSpans_14 ?_
  refine g_get (C := RX7) (T := TX7) (N := 4) (v := .ref n) F i_X7 1 rfl rfl 0 (by decide) w_1 rfl rfl dX2_isInSpans_17 ?_
  refine g_iconst F 4 dX2_isInSpans_20 (by decide) ?_
  refine g_iald F 2 0 rfl rfl (by unfold vp_in; decide) dX2_isInSpans_21 ?_
  refine g_fold 8 (by rfl) ?_
  refine g_icmp_gt F 55 dX2_isInSpans_22 (by decide) (fun h9 => absurd h9 (by decide)) (fun c_22 => ?_)
  refine g_aload_n F 0 dX2_isInSpans_25 rfl rfl ?_
  refine g_get (C := RX2) (T := TX2) (N := 10) (v := .ref xs) F i_X2 0 rfl rfl 0 (by decide) w_0 rfl rfl dX2_isInSpans_26 ?_
  refine g_get (C := RX7) (T := TX7) (N := 4) (v := .ref n) F i_X7 1 rfl rfl 0 (by decide) w_1 rfl rfl dX2_isInSpans_29 ?_
  refine g_iconst F 5 dX2_isInSpans_32 (by decide) ?_
  refine g_iald F 2 0 rfl rfl (by unfold vp_in; decide) dX2_isInSpans_33 ?_
  refine g_fold 2 (by rfl) ?_
  refine g_iload_n F 1 dX2_isInSpans_34 rfl rfl ?_
  refine g_iconst F 4 dX2_isInSpans_35 (by decide) ?_
  refine g_irem F dX2_isInSpans_36 (by decide) ?_
  refine g_fold 1 (by decide) ?_
  refine g_iadd F dX2_isInSpans_37 ?_
  refine g_fold 3 (by decide) ?_
  refine g_aload_n F 0 dX2_isInSpans_38 rfl rfl ?_
  refine g_get (C := RX2) (T := TX2) (N := 10) (v := .ref xs) F i_X2 0 rfl rfl 0 (by decide) w_0 rfl rfl dX2_isInSpans_39 ?_
  refine g_get (C := RX7) (T := TX7) (N := 4) (v := .ref n) F i_X7 1 rfl rfl 0 (by decide) w_1 rfl rfl dX2_isInSpans_42 ?_
  refine g_bipush F 6 dX2_isInSpans_45 (by decide) ?_
  refine g_iald F 2 0 rfl rfl (by unfold vp_in; decide) dX2_isInSpans_47 ?_
  refine g_fold 2 (by rfl) ?_
  refine g_icmp_gt F 55 dX2_isInSpans_48 (by decide) (fun c_48 => ?_) (fun h9 => absurd (by decide) h9) 
  refine g_iconst F 0 dX2_isInSpans_55 (by decide) ?_
  exact g_zret F hA hQ hr rfl () (rfl) [0, 1, 2] [0] rfl (by decide) rfl rfl dX2_isInSpans_56


set_option maxHeartbeats 4000000 in
set_option maxRecDepth 100000 in
theorem K_X2_isInSpans2 (l : Launch) (D : va_G) (xe : Nat) (xs : Nat) (xl : Nat) (ef : Nat) (ev : Nat) (eh : Nat) (er : Nat) (n : Nat) (fo : Nat) (wa : Nat) (we : Nat) (cI : ClassId) (sz : Nat) : Ki l yX2_isInSpans wsX2_isInSpans 1 40 0 0 D [.ref xe, .int 2] [(xe, .inr (1, [.ref xs, .ref xl, .ref ef, .ref ev, .int 0, .ref eh, .int 0, .ref er, .int 0, .int 0])), (xs, .inr (6, [.ref n, .ref fo, .ref wa, .ref we])), (n, .inl (cI, 36, .inl g_nums))] [(cI, .int)] sz (fun (r : Int32) (_ : Unit) => r = 0) (fun (_ : Unit) => [(xe, .inr (1, [.ref xs, .ref xl, .ref ef, .ref ev, .int 0, .ref eh, .int 0, .ref er, .int 0, .int 0])), (xs, .inr (6, [.ref n, .ref fo, .ref wa, .ref we])), (n, .inl (cI, 36, .inl g_nums))]) (fun (_ : Unit) => [(cI, .int)]) := by
  unfold Ki
  refine g_ofW (cc := cX2_isInSpans) (lv := [(0, .ref xe), (1, .int 2)]) (by decide) rfl (Nat.le_of_ble_eq_true rfl) rfl ?_
  intro p e s m args below meth c A Q hA hQ F hr hnm
  have hts := F.2.2.2.2.1
  have w_0 : (Cond.fieldLink RX2 26 "QuietCut$Ear" "shop" "LQuietCut$Shop;").before args s = true := hts _ (List.mem_of_getElem? (i := 1) rfl)
  have i_X2 : ∀ w ∈ u_ws RX2 TX2 10, w ∈ wsX2_isInSpans := fun _ h => List.mem_cons_of_mem _ (List.mem_append_left _ (List.mem_append_right _ h))
  have w_1 : (Cond.fieldLink RX2 53 "QuietCut$Shop" "numbers" "[I").before args s = true := hts _ (List.mem_of_getElem? (i := 2) rfl)
  have i_X7 : ∀ w ∈ u_ws RX7 TX7 4, w ∈ wsX2_isInSpans := fun _ h => List.mem_cons_of_mem _ (List.mem_append_right _ h)
  refine g_aload_n F 0 dX2_isInSpans_0 rfl rfl ?_
  refine g_get (C := RX2) (T := TX2) (N := 10) (v := .ref xs) F i_X2 0 rfl rfl 0 (by decide) w_0 rfl rfl dX2_isInSpans_1 ?_
  refine g_get (C := RX7) (T := TX7) (N := 4) (v := .ref n) F i_X7 1 rfl rfl 0 (by decide) w_1 rfl rfl dX2_isInSpans_4 ?_
  refine g_iconst F 3 dX2_isInSpans_7 (by decide) ?_
  refine g_iald F 2 0 rfl rfl (by unfold vp_in; decide) dX2_isInSpans_8 ?_
  refine g_fold 8 (by rfl) ?_
  refine g_iload_n F 1 dX2_isInSpans_9 rfl rfl ?_
  refine g_iconst F 4 dX2_isInSpans_10 (by decide) ?_
  refine g_idiv F dX2_isInSpans_11 (by decide) ?_
  refine g_fold 0 (by decide) ?_
  refine g_iadd F dX2_isInSpans_12 ?_
  refine g_fold 8 (by decide) ?_
  refine g_aload_n F 0 dX2_isInSpans_13 rfl rfl ?_
  refine g_get (C := RX2) (T := TX2) (N := 10) (v := .ref xs) F i_X2 0 rfl rfl 0 (by decide) w_0 rfl rfl dX2_isInSpans_14 ?_
  refine g_get (C := RX7) (T := TX7) (N := 4) (v := .ref n) F i_X7 1 rfl rfl 0 (by decide) w_1 rfl rfl dX2_isInSpans_17 ?_
  refine g_iconst F 4 dX2_isInSpans_20 (by decide) ?_
  refine g_iald F 2 0 rfl rfl (by unfold vp_in; decide) dX2_isInSpans_21 ?_
  refine g_fold 8 (by rfl) ?_
  refine g_icmp_gt F 55 dX2_isInSpans_22 (by decide) (fun h9 => absurd h9 (by decide)) (fun c_22 => ?_)
  refine g_aload_n F 0 dX2_isInSpans_25 rfl rfl ?_
  refine g_get (C := RX2) (T := TX2) (N := 10) (v := .ref xs) F i_X2 0 rfl rfl 0 (by decide) w_0 rfl rfl dX2_isInSpans_26 ?_
  refine g_get (C := RX7) (T := TX7) (N := 4) (v := .ref n) F i_X7 1 rfl rfl 0 (by decide) w_1 rfl rfl dX2_isInSpans_29 ?_
  refine g_iconst F 5 dX2_isInSpans_32 (by decide) ?_
  refine g_iald F 2 0 rfl rfl (by unfold vp_in; decide) dX2_isInSpans_33 ?_
  refine g_fold 2 (by rfl) ?_
  refine g_iload_n F 1 dX2_isInSpans_34 rfl rfl ?_
  refine g_iconst F 4 dX2_isInSpans_35 (by decide) ?_
  refine g_irem F dX2_isInSpans_36 (by decide) ?_
  refine g_fold 2 (by decide) ?_
  refine g_iadd F dX2_isInSpans_37 ?_
  refine g_fold 4 (by decide) ?_
  refine g_aload_n F 0 dX2_isInSpans_38 rfl rfl ?_
  refine g_get (C := RX2) (T := TX2) (N := 10) (v := .ref xs) F i_X2 0 rfl rfl 0 (by decide) w_0 rfl rfl dX2_isInSpans_39 ?_
  refine g_get (C := RX7) (T := TX7) (N := 4) (v := .ref n) F i_X7 1 rfl rfl 0 (by decide) w_1 rfl rfl dX2_isInSpans_42 ?_
  refine g_bipush F 6 dX2_isInSpans_45 (by decide) ?_
  refine g_iald F 2 0 rfl rfl (by unfold vp_in; decide) dX2_isInSpans_47 ?_
  refine g_fold 2 (by rfl) ?_
  refine g_icmp_gt F 55 dX2_isInSpans_48 (by decide) (fun c_48 => ?_) (fun h9 => absurd (by decide) h9) 
  refine g_iconst F 0 dX2_isInSpans_55 (by decide) ?_
  exact g_zret F hA hQ hr rfl () (rfl) [0, 1, 2] [0] rfl (by decide) rfl rfl dX2_isInSpans_56


set_option maxHeartbeats 4000000 in
set_option maxRecDepth 100000 in
theorem K_X2_isInSpans3 (l : Launch) (D : va_G) (xe : Nat) (xs : Nat) (xl : Nat) (ef : Nat) (ev : Nat) (eh : Nat) (er : Nat) (n : Nat) (fo : Nat) (wa : Nat) (we : Nat) (cI : ClassId) (sz : Nat) : Ki l yX2_isInSpans wsX2_isInSpans 1 40 0 0 D [.ref xe, .int 3] [(xe, .inr (1, [.ref xs, .ref xl, .ref ef, .ref ev, .int 0, .ref eh, .int 0, .ref er, .int 0, .int 0])), (xs, .inr (6, [.ref n, .ref fo, .ref wa, .ref we])), (n, .inl (cI, 36, .inl g_nums))] [(cI, .int)] sz (fun (r : Int32) (_ : Unit) => r = 0) (fun (_ : Unit) => [(xe, .inr (1, [.ref xs, .ref xl, .ref ef, .ref ev, .int 0, .ref eh, .int 0, .ref er, .int 0, .int 0])), (xs, .inr (6, [.ref n, .ref fo, .ref wa, .ref we])), (n, .inl (cI, 36, .inl g_nums))]) (fun (_ : Unit) => [(cI, .int)]) := by
  unfold Ki
  refine g_ofW (cc := cX2_isInSpans) (lv := [(0, .ref xe), (1, .int 3)]) (by decide) rfl (Nat.le_of_ble_eq_true rfl) rfl ?_
  intro p e s m args below meth c A Q hA hQ F hr hnm
  have hts := F.2.2.2.2.1
  have w_0 : (Cond.fieldLink RX2 26 "QuietCut$Ear" "shop" "LQuietCut$Shop;").before args s = true := hts _ (List.mem_of_getElem? (i := 1) rfl)
  have i_X2 : ∀ w ∈ u_ws RX2 TX2 10, w ∈ wsX2_isInSpans := fun _ h => List.mem_cons_of_mem _ (List.mem_append_left _ (List.mem_append_right _ h))
  have w_1 : (Cond.fieldLink RX2 53 "QuietCut$Shop" "numbers" "[I").before args s = true := hts _ (List.mem_of_getElem? (i := 2) rfl)
  have i_X7 : ∀ w ∈ u_ws RX7 TX7 4, w ∈ wsX2_isInSpans := fun _ h => List.mem_cons_of_mem _ (List.mem_append_right _ h)
  refine g_aload_n F 0 dX2_isInSpans_0 rfl rfl ?_
  refine g_get (C := RX2) (T := TX2) (N := 10) (v := .ref xs) F i_X2 0 rfl rfl 0 (by decide) w_0 rfl rfl dX2_isInSpans_1 ?_
  refine g_get (C := RX7) (T := TX7) (N := 4) (v := .ref n) F i_X7 1 rfl rfl 0 (by decide) w_1 rfl rfl dX2_isInSpans_4 ?_
  refine g_iconst F 3 dX2_isInSpans_7 (by decide) ?_
  refine g_iald F 2 0 rfl rfl (by unfold vp_in; decide) dX2_isInSpans_8 ?_
  refine g_fold 8 (by rfl) ?_
  refine g_iload_n F 1 dX2_isInSpans_9 rfl rfl ?_
  refine g_iconst F 4 dX2_isInSpans_10 (by decide) ?_
  refine g_idiv F dX2_isInSpans_11 (by decide) ?_
  refine g_fold 0 (by decide) ?_
  refine g_iadd F dX2_isInSpans_12 ?_
  refine g_fold 8 (by decide) ?_
  refine g_aload_n F 0 dX2_isInSpans_13 rfl rfl ?_
  refine g_get (C := RX2) (T := TX2) (N := 10) (v := .ref xs) F i_X2 0 rfl rfl 0 (by decide) w_0 rfl rfl dX2_isInSpans_14 ?_
  refine g_get (C := RX7) (T := TX7) (N := 4) (v := .ref n) F i_X7 1 rfl rfl 0 (by decide) w_1 rfl rfl dX2_isInSpans_17 ?_
  refine g_iconst F 4 dX2_isInSpans_20 (by decide) ?_
  refine g_iald F 2 0 rfl rfl (by unfold vp_in; decide) dX2_isInSpans_21 ?_
  refine g_fold 8 (by rfl) ?_
  refine g_icmp_gt F 55 dX2_isInSpans_22 (by decide) (fun h9 => absurd h9 (by decide)) (fun c_22 => ?_)
  refine g_aload_n F 0 dX2_isInSpans_25 rfl rfl ?_
  refine g_get (C := RX2) (T := TX2) (N := 10) (v := .ref xs) F i_X2 0 rfl rfl 0 (by decide) w_0 rfl rfl dX2_isInSpans_26 ?_
  refine g_get (C := RX7) (T := TX7) (N := 4) (v := .ref n) F i_X7 1 rfl rfl 0 (by decide) w_1 rfl rfl dX2_isInSpans_29 ?_
  refine g_iconst F 5 dX2_isInSpans_32 (by decide) ?_
  refine g_iald F 2 0 rfl rfl (by unfold vp_in; decide) dX2_isInSpans_33 ?_
  refine g_fold 2 (by rfl) ?_
  refine g_iload_n F 1 dX2_isInSpans_34 rfl rfl ?_
  refine g_iconst F 4 dX2_isInSpans_35 (by decide) ?_
  refine g_irem F dX2_isInSpans_36 (by decide) ?_
  refine g_fold 3 (by decide) ?_
  refine g_iadd F dX2_isInSpans_37 ?_
  refine g_fold 5 (by decide) ?_
  refine g_aload_n F 0 dX2_isInSpans_38 rfl rfl ?_
  refine g_get (C := RX2) (T := TX2) (N := 10) (v := .ref xs) F i_X2 0 rfl rfl 0 (by decide) w_0 rfl rfl dX2_isInSpans_39 ?_
  refine g_get (C := RX7) (T := TX7) (N := 4) (v := .ref n) F i_X7 1 rfl rfl 0 (by decide) w_1 rfl rfl dX2_isInSpans_42 ?_
  refine g_bipush F 6 dX2_isInSpans_45 (by decide) ?_
  refine g_iald F 2 0 rfl rfl (by unfold vp_in; decide) dX2_isInSpans_47 ?_
  refine g_fold 2 (by rfl) ?_
  refine g_icmp_gt F 55 dX2_isInSpans_48 (by decide) (fun c_48 => ?_) (fun h9 => absurd (by decide) h9) 
  refine g_iconst F 0 dX2_isInSpans_55 (by decide) ?_
  exact g_zret F hA hQ hr rfl () (rfl) [0, 1, 2] [0] rfl (by decide) rfl rfl dX2_isInSpans_56


set_option maxHeartbeats 4000000 in
set_option maxRecDepth 100000 in
theorem K_X2_isInSpans4 (l : Launch) (D : va_G) (xe : Nat) (xs : Nat) (xl : Nat) (ef : Nat) (ev : Nat) (eh : Nat) (er : Nat) (n : Nat) (fo : Nat) (wa : Nat) (we : Nat) (cI : ClassId) (sz : Nat) : Ki l yX2_isInSpans wsX2_isInSpans 1 40 0 0 D [.ref xe, .int 4] [(xe, .inr (1, [.ref xs, .ref xl, .ref ef, .ref ev, .int 0, .ref eh, .int 0, .ref er, .int 0, .int 0])), (xs, .inr (6, [.ref n, .ref fo, .ref wa, .ref we])), (n, .inl (cI, 36, .inl g_nums))] [(cI, .int)] sz (fun (r : Int32) (_ : Unit) => r = 0) (fun (_ : Unit) => [(xe, .inr (1, [.ref xs, .ref xl, .ref ef, .ref ev, .int 0, .ref eh, .int 0, .ref er, .int 0, .int 0])), (xs, .inr (6, [.ref n, .ref fo, .ref wa, .ref we])), (n, .inl (cI, 36, .inl g_nums))]) (fun (_ : Unit) => [(cI, .int)]) := by
  unfold Ki
  refine g_ofW (cc := cX2_isInSpans) (lv := [(0, .ref xe), (1, .int 4)]) (by decide) rfl (Nat.le_of_ble_eq_true rfl) rfl ?_
  intro p e s m args below meth c A Q hA hQ F hr hnm
  have hts := F.2.2.2.2.1
  have w_0 : (Cond.fieldLink RX2 26 "QuietCut$Ear" "shop" "LQuietCut$Shop;").before args s = true := hts _ (List.mem_of_getElem? (i := 1) rfl)
  have i_X2 : ∀ w ∈ u_ws RX2 TX2 10, w ∈ wsX2_isInSpans := fun _ h => List.mem_cons_of_mem _ (List.mem_append_left _ (List.mem_append_right _ h))
  have w_1 : (Cond.fieldLink RX2 53 "QuietCut$Shop" "numbers" "[I").before args s = true := hts _ (List.mem_of_getElem? (i := 2) rfl)
  have i_X7 : ∀ w ∈ u_ws RX7 TX7 4, w ∈ wsX2_isInSpans := fun _ h => List.mem_cons_of_mem _ (List.mem_append_right _ h)
  refine g_aload_n F 0 dX2_isInSpans_0 rfl rfl ?_
  refine g_get (C := RX2) (T := TX2) (N := 10) (v := .ref xs) F i_X2 0 rfl rfl 0 (by decide) w_0 rfl rfl dX2_isInSpans_1 ?_
  refine g_get (C := RX7) (T := TX7) (N := 4) (v := .ref n) F i_X7 1 rfl rfl 0 (by decide) w_1 rfl rfl dX2_isInSpans_4 ?_
  refine g_iconst F 3 dX2_isInSpans_7 (by decide) ?_
  refine g_iald F 2 0 rfl rfl (by unfold vp_in; decide) dX2_isInSpans_8 ?_
  refine g_fold 8 (by rfl) ?_
  refine g_iload_n F 1 dX2_isInSpans_9 rfl rfl ?_
  refine g_iconst F 4 dX2_isInSpans_10 (by decide) ?_
  refine g_idiv F dX2_isInSpans_11 (by decide) ?_
  refine g_fold 1 (by decide) ?_
  refine g_iadd F dX2_isInSpans_12 ?_
  refine g_fold 9 (by decide) ?_
  refine g_aload_n F 0 dX2_isInSpans_13 rfl rfl ?_
  refine g_get (C := RX2) (T := TX2) (N := 10) (v := .ref xs) F i_X2 0 rfl rfl 0 (by decide) w_0 rfl rfl dX2_isInSpans_14 ?_
  refine g_get (C := RX7) (T := TX7) (N := 4) (v := .ref n) F i_X7 1 rfl rfl 0 (by decide) w_1 rfl rfl dX2_isInSpans_17 ?_
  refine g_iconst F 4 dX2_isInSpans_20 (by decide) ?_
  refine g_iald F 2 0 rfl rfl (by unfold vp_in; decide) dX2_isInSpans_21 ?_
  refine g_fold 8 (by rfl) ?_
  refine g_icmp_gt F 55 dX2_isInSpans_22 (by decide) (fun c_22 => ?_) (fun h9 => absurd (by decide) h9) 
  refine g_iconst F 0 dX2_isInSpans_55 (by decide) ?_
  exact g_zret F hA hQ hr rfl () (rfl) [0, 1, 2] [0] rfl (by decide) rfl rfl dX2_isInSpans_56


set_option maxHeartbeats 4000000 in
set_option maxRecDepth 100000 in
theorem K_X2_isInSpans5 (l : Launch) (D : va_G) (xe : Nat) (xs : Nat) (xl : Nat) (ef : Nat) (ev : Nat) (eh : Nat) (er : Nat) (n : Nat) (fo : Nat) (wa : Nat) (we : Nat) (cI : ClassId) (sz : Nat) : Ki l yX2_isInSpans wsX2_isInSpans 1 40 0 0 D [.ref xe, .int 5] [(xe, .inr (1, [.ref xs, .ref xl, .ref ef, .ref ev, .int 0, .ref eh, .int 0, .ref er, .int 0, .int 0])), (xs, .inr (6, [.ref n, .ref fo, .ref wa, .ref we])), (n, .inl (cI, 36, .inl g_nums))] [(cI, .int)] sz (fun (r : Int32) (_ : Unit) => r = 0) (fun (_ : Unit) => [(xe, .inr (1, [.ref xs, .ref xl, .ref ef, .ref ev, .int 0, .ref eh, .int 0, .ref er, .int 0, .int 0])), (xs, .inr (6, [.ref n, .ref fo, .ref wa, .ref we])), (n, .inl (cI, 36, .inl g_nums))]) (fun (_ : Unit) => [(cI, .int)]) := by
  unfold Ki
  refine g_ofW (cc := cX2_isInSpans) (lv := [(0, .ref xe), (1, .int 5)]) (by decide) rfl (Nat.le_of_ble_eq_true rfl) rfl ?_
  intro p e s m args below meth c A Q hA hQ F hr hnm
  have hts := F.2.2.2.2.1
  have w_0 : (Cond.fieldLink RX2 26 "QuietCut$Ear" "shop" "LQuietCut$Shop;").before args s = true := hts _ (List.mem_of_getElem? (i := 1) rfl)
  have i_X2 : ∀ w ∈ u_ws RX2 TX2 10, w ∈ wsX2_isInSpans := fun _ h => List.mem_cons_of_mem _ (List.mem_append_left _ (List.mem_append_right _ h))
  have w_1 : (Cond.fieldLink RX2 53 "QuietCut$Shop" "numbers" "[I").before args s = true := hts _ (List.mem_of_getElem? (i := 2) rfl)
  have i_X7 : ∀ w ∈ u_ws RX7 TX7 4, w ∈ wsX2_isInSpans := fun _ h => List.mem_cons_of_mem _ (List.mem_append_right _ h)
  refine g_aload_n F 0 dX2_isInSpans_0 rfl rfl ?_
  refine g_get (C := RX2) (T := TX2) (N := 10) (v := .ref xs) F i_X2 0 rfl rfl 0 (by decide) w_0 rfl rfl dX2_isInSpans_1 ?_
  refine g_get (C := RX7) (T := TX7) (N := 4) (v := .ref n) F i_X7 1 rfl rfl 0 (by decide) w_1 rfl rfl dX2_isInSpans_4 ?_
  refine g_iconst F 3 dX2_isInSpans_7 (by decide) ?_
  refine g_iald F 2 0 rfl rfl (by unfold vp_in; decide) dX2_isInSpans_8 ?_
  refine g_fold 8 (by rfl) ?_
  refine g_iload_n F 1 dX2_isInSpans_9 rfl rfl ?_
  refine g_iconst F 4 dX2_isInSpans_10 (by decide) ?_
  refine g_idiv F dX2_isInSpans_11 (by decide) ?_
  refine g_fold 1 (by decide) ?_
  refine g_iadd F dX2_isInSpans_12 ?_
  refine g_fold 9 (by decide) ?_
  refine g_aload_n F 0 dX2_isInSpans_13 rfl rfl ?_
  refine g_get (C := RX2) (T := TX2) (N := 10) (v := .ref xs) F i_X2 0 rfl rfl 0 (by decide) w_0 rfl rfl dX2_isInSpans_14 ?_
  refine g_get (C := RX7) (T := TX7) (N := 4) (v := .ref n) F i_X7 1 rfl rfl 0 (by decide) w_1 rfl rfl dX2_isInSpans_17 ?_
  refine g_iconst F 4 dX2_isInSpans_20 (by decide) ?_
  refine g_iald F 2 0 rfl rfl (by unfold vp_in; decide) dX2_isInSpans_21 ?_
  refine g_fold 8 (by rfl) ?_
  refine g_icmp_gt F 55 dX2_isInSpans_22 (by decide) (fun c_22 => ?_) (fun h9 => absurd (by decide) h9) 
  refine g_iconst F 0 dX2_isInSpans_55 (by decide) ?_
  exact g_zret F hA hQ hr rfl () (rfl) [0, 1, 2] [0] rfl (by decide) rfl rfl dX2_isInSpans_56


set_option maxHeartbeats 4000000 in
set_option maxRecDepth 100000 in
theorem K_X2_isInSpans6 (l : Launch) (D : va_G) (xe : Nat) (xs : Nat) (xl : Nat) (ef : Nat) (ev : Nat) (eh : Nat) (er : Nat) (n : Nat) (fo : Nat) (wa : Nat) (we : Nat) (cI : ClassId) (sz : Nat) : Ki l yX2_isInSpans wsX2_isInSpans 1 40 0 0 D [.ref xe, .int 6] [(xe, .inr (1, [.ref xs, .ref xl, .ref ef, .ref ev, .int 0, .ref eh, .int 0, .ref er, .int 0, .int 0])), (xs, .inr (6, [.ref n, .ref fo, .ref wa, .ref we])), (n, .inl (cI, 36, .inl g_nums))] [(cI, .int)] sz (fun (r : Int32) (_ : Unit) => r = 0) (fun (_ : Unit) => [(xe, .inr (1, [.ref xs, .ref xl, .ref ef, .ref ev, .int 0, .ref eh, .int 0, .ref er, .int 0, .int 0])), (xs, .inr (6, [.ref n, .ref fo, .ref wa, .ref we])), (n, .inl (cI, 36, .inl g_nums))]) (fun (_ : Unit) => [(cI, .int)]) := by
  unfold Ki
  refine g_ofW (cc := cX2_isInSpans) (lv := [(0, .ref xe), (1, .int 6)]) (by decide) rfl (Nat.le_of_ble_eq_true rfl) rfl ?_
  intro p e s m args below meth c A Q hA hQ F hr hnm
  have hts := F.2.2.2.2.1
  have w_0 : (Cond.fieldLink RX2 26 "QuietCut$Ear" "shop" "LQuietCut$Shop;").before args s = true := hts _ (List.mem_of_getElem? (i := 1) rfl)
  have i_X2 : ∀ w ∈ u_ws RX2 TX2 10, w ∈ wsX2_isInSpans := fun _ h => List.mem_cons_of_mem _ (List.mem_append_left _ (List.mem_append_right _ h))
  have w_1 : (Cond.fieldLink RX2 53 "QuietCut$Shop" "numbers" "[I").before args s = true := hts _ (List.mem_of_getElem? (i := 2) rfl)
  have i_X7 : ∀ w ∈ u_ws RX7 TX7 4, w ∈ wsX2_isInSpans := fun _ h => List.mem_cons_of_mem _ (List.mem_append_right _ h)
  refine g_aload_n F 0 dX2_isInSpans_0 rfl rfl ?_
  refine g_get (C := RX2) (T := TX2) (N := 10) (v := .ref xs) F i_X2 0 rfl rfl 0 (by decide) w_0 rfl rfl dX2_isInSpans_1 ?_
  refine g_get (C := RX7) (T := TX7) (N := 4) (v := .ref n) F i_X7 1 rfl rfl 0 (by decide) w_1 rfl rfl dX2_isInSpans_4 ?_
  refine g_iconst F 3 dX2_isInSpans_7 (by decide) ?_
  refine g_iald F 2 0 rfl rfl (by unfold vp_in; decide) dX2_isInSpans_8 ?_
  refine g_fold 8 (by rfl) ?_
  refine g_iload_n F 1 dX2_isInSpans_9 rfl rfl ?_
  refine g_iconst F 4 dX2_isInSpans_10 (by decide) ?_
  refine g_idiv F dX2_isInSpans_11 (by decide) ?_
  refine g_fold 1 (by decide) ?_
  refine g_iadd F dX2_isInSpans_12 ?_
  refine g_fold 9 (by decide) ?_
  refine g_aload_n F 0 dX2_isInSpans_13 rfl rfl ?_
  refine g_get (C := RX2) (T := TX2) (N := 10) (v := .ref xs) F i_X2 0 rfl rfl 0 (by decide) w_0 rfl rfl dX2_isInSpans_14 ?_
  refine g_get (C := RX7) (T := TX7) (N := 4) (v := .ref n) F i_X7 1 rfl rfl 0 (by decide) w_1 rfl rfl dX2_isInSpans_17 ?_
  refine g_iconst F 4 dX2_isInSpans_20 (by decide) ?_
  refine g_iald F 2 0 rfl rfl (by unfold vp_in; decide) dX2_isInSpans_21 ?_
  refine g_fold 8 (by rfl) ?_
  refine g_icmp_gt F 55 dX2_isInSpans_22 (by decide) (fun c_22 => ?_) (fun h9 => absurd (by decide) h9) 
  refine g_iconst F 0 dX2_isInSpans_55 (by decide) ?_
  exact g_zret F hA hQ hr rfl () (rfl) [0, 1, 2] [0] rfl (by decide) rfl rfl dX2_isInSpans_56


set_option maxHeartbeats 4000000 in
set_option maxRecDepth 100000 in
theorem K_X2_isInSpans7 (l : Launch) (D : va_G) (xe : Nat) (xs : Nat) (xl : Nat) (ef : Nat) (ev : Nat) (eh : Nat) (er : Nat) (n : Nat) (fo : Nat) (wa : Nat) (we : Nat) (cI : ClassId) (sz : Nat) : Ki l yX2_isInSpans wsX2_isInSpans 1 40 0 0 D [.ref xe, .int 7] [(xe, .inr (1, [.ref xs, .ref xl, .ref ef, .ref ev, .int 0, .ref eh, .int 0, .ref er, .int 0, .int 0])), (xs, .inr (6, [.ref n, .ref fo, .ref wa, .ref we])), (n, .inl (cI, 36, .inl g_nums))] [(cI, .int)] sz (fun (r : Int32) (_ : Unit) => r = 0) (fun (_ : Unit) => [(xe, .inr (1, [.ref xs, .ref xl, .ref ef, .ref ev, .int 0, .ref eh, .int 0, .ref er, .int 0, .int 0])), (xs, .inr (6, [.ref n, .ref fo, .ref wa, .ref we])), (n, .inl (cI, 36, .inl g_nums))]) (fun (_ : Unit) => [(cI, .int)]) := by
  unfold Ki
  refine g_ofW (cc := cX2_isInSpans) (lv := [(0, .ref xe), (1, .int 7)]) (by decide) rfl (Nat.le_of_ble_eq_true rfl) rfl ?_
  intro p e s m args below meth c A Q hA hQ F hr hnm
  have hts := F.2.2.2.2.1
  have w_0 : (Cond.fieldLink RX2 26 "QuietCut$Ear" "shop" "LQuietCut$Shop;").before args s = true := hts _ (List.mem_of_getElem? (i := 1) rfl)
  have i_X2 : ∀ w ∈ u_ws RX2 TX2 10, w ∈ wsX2_isInSpans := fun _ h => List.mem_cons_of_mem _ (List.mem_append_left _ (List.mem_append_right _ h))
  have w_1 : (Cond.fieldLink RX2 53 "QuietCut$Shop" "numbers" "[I").before args s = true := hts _ (List.mem_of_getElem? (i := 2) rfl)
  have i_X7 : ∀ w ∈ u_ws RX7 TX7 4, w ∈ wsX2_isInSpans := fun _ h => List.mem_cons_of_mem _ (List.mem_append_right _ h)
  refine g_aload_n F 0 dX2_isInSpans_0 rfl rfl ?_
  refine g_get (C := RX2) (T := TX2) (N := 10) (v := .ref xs) F i_X2 0 rfl rfl 0 (by decide) w_0 rfl rfl dX2_isInSpans_1 ?_
  refine g_get (C := RX7) (T := TX7) (N := 4) (v := .ref n) F i_X7 1 rfl rfl 0 (by decide) w_1 rfl rfl dX2_isInSpans_4 ?_
  refine g_iconst F 3 dX2_isInSpans_7 (by decide) ?_
  refine g_iald F 2 0 rfl rfl (by unfold vp_in; decide) dX2_isInSpans_8 ?_
  refine g_fold 8 (by rfl) ?_
  refine g_iload_n F 1 dX2_isInSpans_9 rfl rfl ?_
  refine g_iconst F 4 dX2_isInSpans_10 (by decide) ?_
  refine g_idiv F dX2_isInSpans_11 (by decide) ?_
  refine g_fold 1 (by decide) ?_
  refine g_iadd F dX2_isInSpans_12 ?_
  refine g_fold 9 (by decide) ?_
  refine g_aload_n F 0 dX2_isInSpans_13 rfl rfl ?_
  refine g_get (C := RX2) (T := TX2) (N := 10) (v := .ref xs) F i_X2 0 rfl rfl 0 (by decide) w_0 rfl rfl dX2_isInSpans_14 ?_
  refine g_get (C := RX7) (T := TX7) (N := 4) (v := .ref n) F i_X7 1 rfl rfl 0 (by decide) w_1 rfl rfl dX2_isInSpans_17 ?_
  refine g_iconst F 4 dX2_isInSpans_20 (by decide) ?_
  refine g_iald F 2 0 rfl rfl (by unfold vp_in; decide) dX2_isInSpans_21 ?_
  refine g_fold 8 (by rfl) ?_
  refine g_icmp_gt F 55 dX2_isInSpans_22 (by decide) (fun c_22 => ?_) (fun h9 => absurd (by decide) h9) 
  refine g_iconst F 0 dX2_isInSpans_55 (by decide) ?_
  exact g_zret F hA hQ hr rfl () (rfl) [0, 1, 2] [0] rfl (by decide) rfl rfl dX2_isInSpans_56


set_option maxHeartbeats 4000000 in
set_option maxRecDepth 100000 in
theorem K_X2_isInSpans8 (l : Launch) (D : va_G) (xe : Nat) (xs : Nat) (xl : Nat) (ef : Nat) (ev : Nat) (eh : Nat) (er : Nat) (n : Nat) (fo : Nat) (wa : Nat) (we : Nat) (cI : ClassId) (sz : Nat) : Ki l yX2_isInSpans wsX2_isInSpans 1 40 0 0 D [.ref xe, .int 8] [(xe, .inr (1, [.ref xs, .ref xl, .ref ef, .ref ev, .int 0, .ref eh, .int 0, .ref er, .int 0, .int 0])), (xs, .inr (6, [.ref n, .ref fo, .ref wa, .ref we])), (n, .inl (cI, 36, .inl g_nums))] [(cI, .int)] sz (fun (r : Int32) (_ : Unit) => r = 0) (fun (_ : Unit) => [(xe, .inr (1, [.ref xs, .ref xl, .ref ef, .ref ev, .int 0, .ref eh, .int 0, .ref er, .int 0, .int 0])), (xs, .inr (6, [.ref n, .ref fo, .ref wa, .ref we])), (n, .inl (cI, 36, .inl g_nums))]) (fun (_ : Unit) => [(cI, .int)]) := by
  unfold Ki
  refine g_ofW (cc := cX2_isInSpans) (lv := [(0, .ref xe), (1, .int 8)]) (by decide) rfl (Nat.le_of_ble_eq_true rfl) rfl ?_
  intro p e s m args below meth c A Q hA hQ F hr hnm
  have hts := F.2.2.2.2.1
  have w_0 : (Cond.fieldLink RX2 26 "QuietCut$Ear" "shop" "LQuietCut$Shop;").before args s = true := hts _ (List.mem_of_getElem? (i := 1) rfl)
  have i_X2 : ∀ w ∈ u_ws RX2 TX2 10, w ∈ wsX2_isInSpans := fun _ h => List.mem_cons_of_mem _ (List.mem_append_left _ (List.mem_append_right _ h))
  have w_1 : (Cond.fieldLink RX2 53 "QuietCut$Shop" "numbers" "[I").before args s = true := hts _ (List.mem_of_getElem? (i := 2) rfl)
  have i_X7 : ∀ w ∈ u_ws RX7 TX7 4, w ∈ wsX2_isInSpans := fun _ h => List.mem_cons_of_mem _ (List.mem_append_right _ h)
  refine g_aload_n F 0 dX2_isInSpans_0 rfl rfl ?_
  refine g_get (C := RX2) (T := TX2) (N := 10) (v := .ref xs) F i_X2 0 rfl rfl 0 (by decide) w_0 rfl rfl dX2_isInSpans_1 ?_
  refine g_get (C := RX7) (T := TX7) (N := 4) (v := .ref n) F i_X7 1 rfl rfl 0 (by decide) w_1 rfl rfl dX2_isInSpans_4 ?_
  refine g_iconst F 3 dX2_isInSpans_7 (by decide) ?_
  refine g_iald F 2 0 rfl rfl (by unfold vp_in; decide) dX2_isInSpans_8 ?_
  refine g_fold 8 (by rfl) ?_
  refine g_iload_n F 1 dX2_isInSpans_9 rfl rfl ?_
  refine g_iconst F 4 dX2_isInSpans_10 (by decide) ?_
  refine g_idiv F dX2_isInSpans_11 (by decide) ?_
  refine g_fold 2 (by decide) ?_
  refine g_iadd F dX2_isInSpans_12 ?_
  refine g_fold 10 (by decide) ?_
  refine g_aload_n F 0 dX2_isInSpans_13 rfl rfl ?_
  refine g_get (C := RX2) (T := TX2) (N := 10) (v := .ref xs) F i_X2 0 rfl rfl 0 (by decide) w_0 rfl rfl dX2_isInSpans_14 ?_
  refine g_get (C := RX7) (T := TX7) (N := 4) (v := .ref n) F i_X7 1 rfl rfl 0 (by decide) w_1 rfl rfl dX2_isInSpans_17 ?_
  refine g_iconst F 4 dX2_isInSpans_20 (by decide) ?_
  refine g_iald F 2 0 rfl rfl (by unfold vp_in; decide) dX2_isInSpans_21 ?_
  refine g_fold 8 (by rfl) ?_
  refine g_icmp_gt F 55 dX2_isInSpans_22 (by decide) (fun c_22 => ?_) (fun h9 => absurd (by decide) h9) 
  refine g_iconst F 0 dX2_isInSpans_55 (by decide) ?_
  exact g_zret F hA hQ hr rfl () (rfl) [0, 1, 2] [0] rfl (by decide) rfl rfl dX2_isInSpans_56


set_option maxHeartbeats 4000000 in
set_option maxRecDepth 100000 in
theorem K_X2_isInSpans9 (l : Launch) (D : va_G) (xe : Nat) (xs : Nat) (xl : Nat) (ef : Nat) (ev : Nat) (eh : Nat) (er : Nat) (n : Nat) (fo : Nat) (wa : Nat) (we : Nat) (cI : ClassId) (sz : Nat) : Ki l yX2_isInSpans wsX2_isInSpans 1 40 0 0 D [.ref xe, .int 9] [(xe, .inr (1, [.ref xs, .ref xl, .ref ef, .ref ev, .int 0, .ref eh, .int 0, .ref er, .int 0, .int 0])), (xs, .inr (6, [.ref n, .ref fo, .ref wa, .ref we])), (n, .inl (cI, 36, .inl g_nums))] [(cI, .int)] sz (fun (r : Int32) (_ : Unit) => r = 0) (fun (_ : Unit) => [(xe, .inr (1, [.ref xs, .ref xl, .ref ef, .ref ev, .int 0, .ref eh, .int 0, .ref er, .int 0, .int 0])), (xs, .inr (6, [.ref n, .ref fo, .ref wa, .ref we])), (n, .inl (cI, 36, .inl g_nums))]) (fun (_ : Unit) => [(cI, .int)]) := by
  unfold Ki
  refine g_ofW (cc := cX2_isInSpans) (lv := [(0, .ref xe), (1, .int 9)]) (by decide) rfl (Nat.le_of_ble_eq_true rfl) rfl ?_
  intro p e s m args below meth c A Q hA hQ F hr hnm
  have hts := F.2.2.2.2.1
  have w_0 : (Cond.fieldLink RX2 26 "QuietCut$Ear" "shop" "LQuietCut$Shop;").before args s = true := hts _ (List.mem_of_getElem? (i := 1) rfl)
  have i_X2 : ∀ w ∈ u_ws RX2 TX2 10, w ∈ wsX2_isInSpans := fun _ h => List.mem_cons_of_mem _ (List.mem_append_left _ (List.mem_append_right _ h))
  have w_1 : (Cond.fieldLink RX2 53 "QuietCut$Shop" "numbers" "[I").before args s = true := hts _ (List.mem_of_getElem? (i := 2) rfl)
  have i_X7 : ∀ w ∈ u_ws RX7 TX7 4, w ∈ wsX2_isInSpans := fun _ h => List.mem_cons_of_mem _ (List.mem_append_right _ h)
  refine g_aload_n F 0 dX2_isInSpans_0 rfl rfl ?_
  refine g_get (C := RX2) (T := TX2) (N := 10) (v := .ref xs) F i_X2 0 rfl rfl 0 (by decide) w_0 rfl rfl dX2_isInSpans_1 ?_
  refine g_get (C := RX7) (T := TX7) (N := 4) (v := .ref n) F i_X7 1 rfl rfl 0 (by decide) w_1 rfl rfl dX2_isInSpans_4 ?_
  refine g_iconst F 3 dX2_isInSpans_7 (by decide) ?_
  refine g_iald F 2 0 rfl rfl (by unfold vp_in; decide) dX2_isInSpans_8 ?_
  refine g_fold 8 (by rfl) ?_
  refine g_iload_n F 1 dX2_isInSpans_9 rfl rfl ?_
  refine g_iconst F 4 dX2_isInSpans_10 (by decide) ?_
  refine g_idiv F dX2_isInSpans_11 (by decide) ?_
  refine g_fold 2 (by decide) ?_
  refine g_iadd F dX2_isInSpans_12 ?_
  refine g_fold 10 (by decide) ?_
  refine g_aload_n F 0 dX2_isInSpans_13 rfl rfl ?_
  refine g_get (C := RX2) (T := TX2) (N := 10) (v := .ref xs) F i_X2 0 rfl rfl 0 (by decide) w_0 rfl rfl dX2_isInSpans_14 ?_
  refine g_get (C := RX7) (T := TX7) (N := 4) (v := .ref n) F i_X7 1 rfl rfl 0 (by decide) w_1 rfl rfl dX2_isInSpans_17 ?_
  refine g_iconst F 4 dX2_isInSpans_20 (by decide) ?_
  refine g_iald F 2 0 rfl rfl (by unfold vp_in; decide) dX2_isInSpans_21 ?_
  refine g_fold 8 (by rfl) ?_
  refine g_icmp_gt F 55 dX2_isInSpans_22 (by decide) (fun c_22 => ?_) (fun h9 => absurd (by decide) h9) 
  refine g_iconst F 0 dX2_isInSpans_55 (by decide) ?_
  exact g_zret F hA hQ hr rfl () (rfl) [0, 1, 2] [0] rfl (by decide) rfl rfl dX2_isInSpans_56


set_option maxHeartbeats 4000000 in
set_option maxRecDepth 100000 in
theorem K_X2_isInSpans10 (l : Launch) (D : va_G) (xe : Nat) (xs : Nat) (xl : Nat) (ef : Nat) (ev : Nat) (eh : Nat) (er : Nat) (n : Nat) (fo : Nat) (wa : Nat) (we : Nat) (cI : ClassId) (sz : Nat) : Ki l yX2_isInSpans wsX2_isInSpans 1 40 0 0 D [.ref xe, .int 10] [(xe, .inr (1, [.ref xs, .ref xl, .ref ef, .ref ev, .int 0, .ref eh, .int 0, .ref er, .int 0, .int 0])), (xs, .inr (6, [.ref n, .ref fo, .ref wa, .ref we])), (n, .inl (cI, 36, .inl g_nums))] [(cI, .int)] sz (fun (r : Int32) (_ : Unit) => r = 0) (fun (_ : Unit) => [(xe, .inr (1, [.ref xs, .ref xl, .ref ef, .ref ev, .int 0, .ref eh, .int 0, .ref er, .int 0, .int 0])), (xs, .inr (6, [.ref n, .ref fo, .ref wa, .ref we])), (n, .inl (cI, 36, .inl g_nums))]) (fun (_ : Unit) => [(cI, .int)]) := by
  unfold Ki
  refine g_ofW (cc := cX2_isInSpans) (lv := [(0, .ref xe), (1, .int 10)]) (by decide) rfl (Nat.le_of_ble_eq_true rfl) rfl ?_
  intro p e s m args below meth c A Q hA hQ F hr hnm
  have hts := F.2.2.2.2.1
  have w_0 : (Cond.fieldLink RX2 26 "QuietCut$Ear" "shop" "LQuietCut$Shop;").before args s = true := hts _ (List.mem_of_getElem? (i := 1) rfl)
  have i_X2 : ∀ w ∈ u_ws RX2 TX2 10, w ∈ wsX2_isInSpans := fun _ h => List.mem_cons_of_mem _ (List.mem_append_left _ (List.mem_append_right _ h))
  have w_1 : (Cond.fieldLink RX2 53 "QuietCut$Shop" "numbers" "[I").before args s = true := hts _ (List.mem_of_getElem? (i := 2) rfl)
  have i_X7 : ∀ w ∈ u_ws RX7 TX7 4, w ∈ wsX2_isInSpans := fun _ h => List.mem_cons_of_mem _ (List.mem_append_right _ h)
  refine g_aload_n F 0 dX2_isInSpans_0 rfl rfl ?_
  refine g_get (C := RX2) (T := TX2) (N := 10) (v := .ref xs) F i_X2 0 rfl rfl 0 (by decide) w_0 rfl rfl dX2_isInSpans_1 ?_
  refine g_get (C := RX7) (T := TX7) (N := 4) (v := .ref n) F i_X7 1 rfl rfl 0 (by decide) w_1 rfl rfl dX2_isInSpans_4 ?_
  refine g_iconst F 3 dX2_isInSpans_7 (by decide) ?_
  refine g_iald F 2 0 rfl rfl (by unfold vp_in; decide) dX2_isInSpans_8 ?_
  refine g_fold 8 (by rfl) ?_
  refine g_iload_n F 1 dX2_isInSpans_9 rfl rfl ?_
  refine g_iconst F 4 dX2_isInSpans_10 (by decide) ?_
  refine g_idiv F dX2_isInSpans_11 (by decide) ?_
  refine g_fold 2 (by decide) ?_
  refine g_iadd F dX2_isInSpans_12 ?_
  refine g_fold 10 (by decide) ?_
  refine g_aload_n F 0 dX2_isInSpans_13 rfl rfl ?_
  refine g_get (C := RX2) (T := TX2) (N := 10) (v := .ref xs) F i_X2 0 rfl rfl 0 (by decide) w_0 rfl rfl dX2_isInSpans_14 ?_
  refine g_get (C := RX7) (T := TX7) (N := 4) (v := .ref n) F i_X7 1 rfl rfl 0 (by decide) w_1 rfl rfl dX2_isInSpans_17 ?_
  refine g_iconst F 4 dX2_isInSpans_20 (by decide) ?_
  refine g_iald F 2 0 rfl rfl (by unfold vp_in; decide) dX2_isInSpans_21 ?_
  refine g_fold 8 (by rfl) ?_
  refine g_icmp_gt F 55 dX2_isInSpans_22 (by decide) (fun c_22 => ?_) (fun h9 => absurd (by decide) h9) 
  refine g_iconst F 0 dX2_isInSpans_55 (by decide) ?_
  exact g_zret F hA hQ hr rfl () (rfl) [0, 1, 2] [0] rfl (by decide) rfl rfl dX2_isInSpans_56


set_option maxHeartbeats 4000000 in
set_option maxRecDepth 100000 in
theorem K_X2_isInSpans11 (l : Launch) (D : va_G) (xe : Nat) (xs : Nat) (xl : Nat) (ef : Nat) (ev : Nat) (eh : Nat) (er : Nat) (n : Nat) (fo : Nat) (wa : Nat) (we : Nat) (cI : ClassId) (sz : Nat) : Ki l yX2_isInSpans wsX2_isInSpans 1 40 0 0 D [.ref xe, .int 11] [(xe, .inr (1, [.ref xs, .ref xl, .ref ef, .ref ev, .int 0, .ref eh, .int 0, .ref er, .int 0, .int 0])), (xs, .inr (6, [.ref n, .ref fo, .ref wa, .ref we])), (n, .inl (cI, 36, .inl g_nums))] [(cI, .int)] sz (fun (r : Int32) (_ : Unit) => r = 0) (fun (_ : Unit) => [(xe, .inr (1, [.ref xs, .ref xl, .ref ef, .ref ev, .int 0, .ref eh, .int 0, .ref er, .int 0, .int 0])), (xs, .inr (6, [.ref n, .ref fo, .ref wa, .ref we])), (n, .inl (cI, 36, .inl g_nums))]) (fun (_ : Unit) => [(cI, .int)]) := by
  unfold Ki
  refine g_ofW (cc := cX2_isInSpans) (lv := [(0, .ref xe), (1, .int 11)]) (by decide) rfl (Nat.le_of_ble_eq_true rfl) rfl ?_
  intro p e s m args below meth c A Q hA hQ F hr hnm
  have hts := F.2.2.2.2.1
  have w_0 : (Cond.fieldLink RX2 26 "QuietCut$Ear" "shop" "LQuietCut$Shop;").before args s = true := hts _ (List.mem_of_getElem? (i := 1) rfl)
  have i_X2 : ∀ w ∈ u_ws RX2 TX2 10, w ∈ wsX2_isInSpans := fun _ h => List.mem_cons_of_mem _ (List.mem_append_left _ (List.mem_append_right _ h))
  have w_1 : (Cond.fieldLink RX2 53 "QuietCut$Shop" "numbers" "[I").before args s = true := hts _ (List.mem_of_getElem? (i := 2) rfl)
  have i_X7 : ∀ w ∈ u_ws RX7 TX7 4, w ∈ wsX2_isInSpans := fun _ h => List.mem_cons_of_mem _ (List.mem_append_right _ h)
  refine g_aload_n F 0 dX2_isInSpans_0 rfl rfl ?_
  refine g_get (C := RX2) (T := TX2) (N := 10) (v := .ref xs) F i_X2 0 rfl rfl 0 (by decide) w_0 rfl rfl dX2_isInSpans_1 ?_
  refine g_get (C := RX7) (T := TX7) (N := 4) (v := .ref n) F i_X7 1 rfl rfl 0 (by decide) w_1 rfl rfl dX2_isInSpans_4 ?_
  refine g_iconst F 3 dX2_isInSpans_7 (by decide) ?_
  refine g_iald F 2 0 rfl rfl (by unfold vp_in; decide) dX2_isInSpans_8 ?_
  refine g_fold 8 (by rfl) ?_
  refine g_iload_n F 1 dX2_isInSpans_9 rfl rfl ?_
  refine g_iconst F 4 dX2_isInSpans_10 (by decide) ?_
  refine g_idiv F dX2_isInSpans_11 (by decide) ?_
  refine g_fold 2 (by decide) ?_
  refine g_iadd F dX2_isInSpans_12 ?_
  refine g_fold 10 (by decide) ?_
  refine g_aload_n F 0 dX2_isInSpans_13 rfl rfl ?_
  refine g_get (C := RX2) (T := TX2) (N := 10) (v := .ref xs) F i_X2 0 rfl rfl 0 (by decide) w_0 rfl rfl dX2_isInSpans_14 ?_
  refine g_get (C := RX7) (T := TX7) (N := 4) (v := .ref n) F i_X7 1 rfl rfl 0 (by decide) w_1 rfl rfl dX2_isInSpans_17 ?_
  refine g_iconst F 4 dX2_isInSpans_20 (by decide) ?_
  refine g_iald F 2 0 rfl rfl (by unfold vp_in; decide) dX2_isInSpans_21 ?_
  refine g_fold 8 (by rfl) ?_
  refine g_icmp_gt F 55 dX2_isInSpans_22 (by decide) (fun c_22 => ?_) (fun h9 => absurd (by decide) h9) 
  refine g_iconst F 0 dX2_isInSpans_55 (by decide) ?_
  exact g_zret F hA hQ hr rfl () (rfl) [0, 1, 2] [0] rfl (by decide) rfl rfl dX2_isInSpans_56


set_option maxHeartbeats 4000000 in
set_option maxRecDepth 100000 in
theorem K_X2_isInSpans12 (l : Launch) (D : va_G) (xe : Nat) (xs : Nat) (xl : Nat) (ef : Nat) (ev : Nat) (eh : Nat) (er : Nat) (n : Nat) (fo : Nat) (wa : Nat) (we : Nat) (cI : ClassId) (sz : Nat) : Ki l yX2_isInSpans wsX2_isInSpans 1 40 0 0 D [.ref xe, .int 12] [(xe, .inr (1, [.ref xs, .ref xl, .ref ef, .ref ev, .int 0, .ref eh, .int 0, .ref er, .int 0, .int 0])), (xs, .inr (6, [.ref n, .ref fo, .ref wa, .ref we])), (n, .inl (cI, 36, .inl g_nums))] [(cI, .int)] sz (fun (r : Int32) (_ : Unit) => r = 0) (fun (_ : Unit) => [(xe, .inr (1, [.ref xs, .ref xl, .ref ef, .ref ev, .int 0, .ref eh, .int 0, .ref er, .int 0, .int 0])), (xs, .inr (6, [.ref n, .ref fo, .ref wa, .ref we])), (n, .inl (cI, 36, .inl g_nums))]) (fun (_ : Unit) => [(cI, .int)]) := by
  unfold Ki
  refine g_ofW (cc := cX2_isInSpans) (lv := [(0, .ref xe), (1, .int 12)]) (by decide) rfl (Nat.le_of_ble_eq_true rfl) rfl ?_
  intro p e s m args below meth c A Q hA hQ F hr hnm
  have hts := F.2.2.2.2.1
  have w_0 : (Cond.fieldLink RX2 26 "QuietCut$Ear" "shop" "LQuietCut$Shop;").before args s = true := hts _ (List.mem_of_getElem? (i := 1) rfl)
  have i_X2 : ∀ w ∈ u_ws RX2 TX2 10, w ∈ wsX2_isInSpans := fun _ h => List.mem_cons_of_mem _ (List.mem_append_left _ (List.mem_append_right _ h))
  have w_1 : (Cond.fieldLink RX2 53 "QuietCut$Shop" "numbers" "[I").before args s = true := hts _ (List.mem_of_getElem? (i := 2) rfl)
  have i_X7 : ∀ w ∈ u_ws RX7 TX7 4, w ∈ wsX2_isInSpans := fun _ h => List.mem_cons_of_mem _ (List.mem_append_right _ h)
  refine g_aload_n F 0 dX2_isInSpans_0 rfl rfl ?_
  refine g_get (C := RX2) (T := TX2) (N := 10) (v := .ref xs) F i_X2 0 rfl rfl 0 (by decide) w_0 rfl rfl dX2_isInSpans_1 ?_
  refine g_get (C := RX7) (T := TX7) (N := 4) (v := .ref n) F i_X7 1 rfl rfl 0 (by decide) w_1 rfl rfl dX2_isInSpans_4 ?_
  refine g_iconst F 3 dX2_isInSpans_7 (by decide) ?_
  refine g_iald F 2 0 rfl rfl (by unfold vp_in; decide) dX2_isInSpans_8 ?_
  refine g_fold 8 (by rfl) ?_
  refine g_iload_n F 1 dX2_isInSpans_9 rfl rfl ?_
  refine g_iconst F 4 dX2_isInSpans_10 (by decide) ?_
  refine g_idiv F dX2_isInSpans_11 (by decide) ?_
  refine g_fold 3 (by decide) ?_
  refine g_iadd F dX2_isInSpans_12 ?_
  refine g_fold 11 (by decide) ?_
  refine g_aload_n F 0 dX2_isInSpans_13 rfl rfl ?_
  refine g_get (C := RX2) (T := TX2) (N := 10) (v := .ref xs) F i_X2 0 rfl rfl 0 (by decide) w_0 rfl rfl dX2_isInSpans_14 ?_
  refine g_get (C := RX7) (T := TX7) (N := 4) (v := .ref n) F i_X7 1 rfl rfl 0 (by decide) w_1 rfl rfl dX2_isInSpans_17 ?_
  refine g_iconst F 4 dX2_isInSpans_20 (by decide) ?_
  refine g_iald F 2 0 rfl rfl (by unfold vp_in; decide) dX2_isInSpans_21 ?_
  refine g_fold 8 (by rfl) ?_
  refine g_icmp_gt F 55 dX2_isInSpans_22 (by decide) (fun c_22 => ?_) (fun h9 => absurd (by decide) h9) 
  refine g_iconst F 0 dX2_isInSpans_55 (by decide) ?_
  exact g_zret F hA hQ hr rfl () (rfl) [0, 1, 2] [0] rfl (by decide) rfl rfl dX2_isInSpans_56


set_option maxHeartbeats 4000000 in
set_option maxRecDepth 100000 in
theorem K_X2_isInSpans13 (l : Launch) (D : va_G) (xe : Nat) (xs : Nat) (xl : Nat) (ef : Nat) (ev : Nat) (eh : Nat) (er : Nat) (n : Nat) (fo : Nat) (wa : Nat) (we : Nat) (cI : ClassId) (sz : Nat) : Ki l yX2_isInSpans wsX2_isInSpans 1 40 0 0 D [.ref xe, .int 13] [(xe, .inr (1, [.ref xs, .ref xl, .ref ef, .ref ev, .int 0, .ref eh, .int 0, .ref er, .int 0, .int 0])), (xs, .inr (6, [.ref n, .ref fo, .ref wa, .ref we])), (n, .inl (cI, 36, .inl g_nums))] [(cI, .int)] sz (fun (r : Int32) (_ : Unit) => r = 0) (fun (_ : Unit) => [(xe, .inr (1, [.ref xs, .ref xl, .ref ef, .ref ev, .int 0, .ref eh, .int 0, .ref er, .int 0, .int 0])), (xs, .inr (6, [.ref n, .ref fo, .ref wa, .ref we])), (n, .inl (cI, 36, .inl g_nums))]) (fun (_ : Unit) => [(cI, .int)]) := by
  unfold Ki
  refine g_ofW (cc := cX2_isInSpans) (lv := [(0, .ref xe), (1, .int 13)]) (by decide) rfl (Nat.le_of_ble_eq_true rfl) rfl ?_
  intro p e s m args below meth c A Q hA hQ F hr hnm
  have hts := F.2.2.2.2.1
  have w_0 : (Cond.fieldLink RX2 26 "QuietCut$Ear" "shop" "LQuietCut$Shop;").before args s = true := hts _ (List.mem_of_getElem? (i := 1) rfl)
  have i_X2 : ∀ w ∈ u_ws RX2 TX2 10, w ∈ wsX2_isInSpans := fun _ h => List.mem_cons_of_mem _ (List.mem_append_left _ (List.mem_append_right _ h))
  have w_1 : (Cond.fieldLink RX2 53 "QuietCut$Shop" "numbers" "[I").before args s = true := hts _ (List.mem_of_getElem? (i := 2) rfl)
  have i_X7 : ∀ w ∈ u_ws RX7 TX7 4, w ∈ wsX2_isInSpans := fun _ h => List.mem_cons_of_mem _ (List.mem_append_right _ h)
  refine g_aload_n F 0 dX2_isInSpans_0 rfl rfl ?_
  refine g_get (C := RX2) (T := TX2) (N := 10) (v := .ref xs) F i_X2 0 rfl rfl 0 (by decide) w_0 rfl rfl dX2_isInSpans_1 ?_
  refine g_get (C := RX7) (T := TX7) (N := 4) (v := .ref n) F i_X7 1 rfl rfl 0 (by decide) w_1 rfl rfl dX2_isInSpans_4 ?_
  refine g_iconst F 3 dX2_isInSpans_7 (by decide) ?_
  refine g_iald F 2 0 rfl rfl (by unfold vp_in; decide) dX2_isInSpans_8 ?_
  refine g_fold 8 (by rfl) ?_
  refine g_iload_n F 1 dX2_isInSpans_9 rfl rfl ?_
  refine g_iconst F 4 dX2_isInSpans_10 (by decide) ?_
  refine g_idiv F dX2_isInSpans_11 (by decide) ?_
  refine g_fold 3 (by decide) ?_
  refine g_iadd F dX2_isInSpans_12 ?_
  refine g_fold 11 (by decide) ?_
  refine g_aload_n F 0 dX2_isInSpans_13 rfl rfl ?_
  refine g_get (C := RX2) (T := TX2) (N := 10) (v := .ref xs) F i_X2 0 rfl rfl 0 (by decide) w_0 rfl rfl dX2_isInSpans_14 ?_
  refine g_get (C := RX7) (T := TX7) (N := 4) (v := .ref n) F i_X7 1 rfl rfl 0 (by decide) w_1 rfl rfl dX2_isInSpans_17 ?_
  refine g_iconst F 4 dX2_isInSpans_20 (by decide) ?_
  refine g_iald F 2 0 rfl rfl (by unfold vp_in; decide) dX2_isInSpans_21 ?_
  refine g_fold 8 (by rfl) ?_
  refine g_icmp_gt F 55 dX2_isInSpans_22 (by decide) (fun c_22 => ?_) (fun h9 => absurd (by decide) h9) 
  refine g_iconst F 0 dX2_isInSpans_55 (by decide) ?_
  exact g_zret F hA hQ hr rfl () (rfl) [0, 1, 2] [0] rfl (by decide) rfl rfl dX2_isInSpans_56


set_option maxHeartbeats 4000000 in
set_option maxRecDepth 100000 in
theorem K_X2_isInSpans14 (l : Launch) (D : va_G) (xe : Nat) (xs : Nat) (xl : Nat) (ef : Nat) (ev : Nat) (eh : Nat) (er : Nat) (n : Nat) (fo : Nat) (wa : Nat) (we : Nat) (cI : ClassId) (sz : Nat) : Ki l yX2_isInSpans wsX2_isInSpans 1 40 0 0 D [.ref xe, .int 14] [(xe, .inr (1, [.ref xs, .ref xl, .ref ef, .ref ev, .int 0, .ref eh, .int 0, .ref er, .int 0, .int 0])), (xs, .inr (6, [.ref n, .ref fo, .ref wa, .ref we])), (n, .inl (cI, 36, .inl g_nums))] [(cI, .int)] sz (fun (r : Int32) (_ : Unit) => r = 0) (fun (_ : Unit) => [(xe, .inr (1, [.ref xs, .ref xl, .ref ef, .ref ev, .int 0, .ref eh, .int 0, .ref er, .int 0, .int 0])), (xs, .inr (6, [.ref n, .ref fo, .ref wa, .ref we])), (n, .inl (cI, 36, .inl g_nums))]) (fun (_ : Unit) => [(cI, .int)]) := by
  unfold Ki
  refine g_ofW (cc := cX2_isInSpans) (lv := [(0, .ref xe), (1, .int 14)]) (by decide) rfl (Nat.le_of_ble_eq_true rfl) rfl ?_
  intro p e s m args below meth c A Q hA hQ F hr hnm
  have hts := F.2.2.2.2.1
  have w_0 : (Cond.fieldLink RX2 26 "QuietCut$Ear" "shop" "LQuietCut$Shop;").before args s = true := hts _ (List.mem_of_getElem? (i := 1) rfl)
  have i_X2 : ∀ w ∈ u_ws RX2 TX2 10, w ∈ wsX2_isInSpans := fun _ h => List.mem_cons_of_mem _ (List.mem_append_left _ (List.mem_append_right _ h))
  have w_1 : (Cond.fieldLink RX2 53 "QuietCut$Shop" "numbers" "[I").before args s = true := hts _ (List.mem_of_getElem? (i := 2) rfl)
  have i_X7 : ∀ w ∈ u_ws RX7 TX7 4, w ∈ wsX2_isInSpans := fun _ h => List.mem_cons_of_mem _ (List.mem_append_right _ h)
  refine g_aload_n F 0 dX2_isInSpans_0 rfl rfl ?_
  refine g_get (C := RX2) (T := TX2) (N := 10) (v := .ref xs) F i_X2 0 rfl rfl 0 (by decide) w_0 rfl rfl dX2_isInSpans_1 ?_
  refine g_get (C := RX7) (T := TX7) (N := 4) (v := .ref n) F i_X7 1 rfl rfl 0 (by decide) w_1 rfl rfl dX2_isInSpans_4 ?_
  refine g_iconst F 3 dX2_isInSpans_7 (by decide) ?_
  refine g_iald F 2 0 rfl rfl (by unfold vp_in; decide) dX2_isInSpans_8 ?_
  refine g_fold 8 (by rfl) ?_
  refine g_iload_n F 1 dX2_isInSpans_9 rfl rfl ?_
  refine g_iconst F 4 dX2_isInSpans_10 (by decide) ?_
  refine g_idiv F dX2_isInSpans_11 (by decide) ?_
  refine g_fold 3 (by decide) ?_
  refine g_iadd F dX2_isInSpans_12 ?_
  refine g_fold 11 (by decide) ?_
  refine g_aload_n F 0 dX2_isInSpans_13 rfl rfl ?_
  refine g_get (C := RX2) (T := TX2) (N := 10) (v := .ref xs) F i_X2 0 rfl rfl 0 (by decide) w_0 rfl rfl dX2_isInSpans_14 ?_
  refine g_get (C := RX7) (T := TX7) (N := 4) (v := .ref n) F i_X7 1 rfl rfl 0 (by decide) w_1 rfl rfl dX2_isInSpans_17 ?_
  refine g_iconst F 4 dX2_isInSpans_20 (by decide) ?_
  refine g_iald F 2 0 rfl rfl (by unfold vp_in; decide) dX2_isInSpans_21 ?_
  refine g_fold 8 (by rfl) ?_
  refine g_icmp_gt F 55 dX2_isInSpans_22 (by decide) (fun c_22 => ?_) (fun h9 => absurd (by decide) h9) 
  refine g_iconst F 0 dX2_isInSpans_55 (by decide) ?_
  exact g_zret F hA hQ hr rfl () (rfl) [0, 1, 2] [0] rfl (by decide) rfl rfl dX2_isInSpans_56


set_option maxHeartbeats 4000000 in
set_option maxRecDepth 100000 in
theorem K_X2_isInSpans15 (l : Launch) (D : va_G) (xe : Nat) (xs : Nat) (xl : Nat) (ef : Nat) (ev : Nat) (eh : Nat) (er : Nat) (n : Nat) (fo : Nat) (wa : Nat) (we : Nat) (cI : ClassId) (sz : Nat) : Ki l yX2_isInSpans wsX2_isInSpans 1 40 0 0 D [.ref xe, .int 15] [(xe, .inr (1, [.ref xs, .ref xl, .ref ef, .ref ev, .int 0, .ref eh, .int 0, .ref er, .int 0, .int 0])), (xs, .inr (6, [.ref n, .ref fo, .ref wa, .ref we])), (n, .inl (cI, 36, .inl g_nums))] [(cI, .int)] sz (fun (r : Int32) (_ : Unit) => r = 0) (fun (_ : Unit) => [(xe, .inr (1, [.ref xs, .ref xl, .ref ef, .ref ev, .int 0, .ref eh, .int 0, .ref er, .int 0, .int 0])), (xs, .inr (6, [.ref n, .ref fo, .ref wa, .ref we])), (n, .inl (cI, 36, .inl g_nums))]) (fun (_ : Unit) => [(cI, .int)]) := by
  unfold Ki
  refine g_ofW (cc := cX2_isInSpans) (lv := [(0, .ref xe), (1, .int 15)]) (by decide) rfl (Nat.le_of_ble_eq_true rfl) rfl ?_
  intro p e s m args below meth c A Q hA hQ F hr hnm
  have hts := F.2.2.2.2.1
  have w_0 : (Cond.fieldLink RX2 26 "QuietCut$Ear" "shop" "LQuietCut$Shop;").before args s = true := hts _ (List.mem_of_getElem? (i := 1) rfl)
  have i_X2 : ∀ w ∈ u_ws RX2 TX2 10, w ∈ wsX2_isInSpans := fun _ h => List.mem_cons_of_mem _ (List.mem_append_left _ (List.mem_append_right _ h))
  have w_1 : (Cond.fieldLink RX2 53 "QuietCut$Shop" "numbers" "[I").before args s = true := hts _ (List.mem_of_getElem? (i := 2) rfl)
  have i_X7 : ∀ w ∈ u_ws RX7 TX7 4, w ∈ wsX2_isInSpans := fun _ h => List.mem_cons_of_mem _ (List.mem_append_right _ h)
  refine g_aload_n F 0 dX2_isInSpans_0 rfl rfl ?_
  refine g_get (C := RX2) (T := TX2) (N := 10) (v := .ref xs) F i_X2 0 rfl rfl 0 (by decide) w_0 rfl rfl dX2_isInSpans_1 ?_
  refine g_get (C := RX7) (T := TX7) (N := 4) (v := .ref n) F i_X7 1 rfl rfl 0 (by decide) w_1 rfl rfl dX2_isInSpans_4 ?_
  refine g_iconst F 3 dX2_isInSpans_7 (by decide) ?_
  refine g_iald F 2 0 rfl rfl (by unfold vp_in; decide) dX2_isInSpans_8 ?_
  refine g_fold 8 (by rfl) ?_
  refine g_iload_n F 1 dX2_isInSpans_9 rfl rfl ?_
  refine g_iconst F 4 dX2_isInSpans_10 (by decide) ?_
  refine g_idiv F dX2_isInSpans_11 (by decide) ?_
  refine g_fold 3 (by decide) ?_
  refine g_iadd F dX2_isInSpans_12 ?_
  refine g_fold 11 (by decide) ?_
  refine g_aload_n F 0 dX2_isInSpans_13 rfl rfl ?_
  refine g_get (C := RX2) (T := TX2) (N := 10) (v := .ref xs) F i_X2 0 rfl rfl 0 (by decide) w_0 rfl rfl dX2_isInSpans_14 ?_
  refine g_get (C := RX7) (T := TX7) (N := 4) (v := .ref n) F i_X7 1 rfl rfl 0 (by decide) w_1 rfl rfl dX2_isInSpans_17 ?_
  refine g_iconst F 4 dX2_isInSpans_20 (by decide) ?_
  refine g_iald F 2 0 rfl rfl (by unfold vp_in; decide) dX2_isInSpans_21 ?_
  refine g_fold 8 (by rfl) ?_
  refine g_icmp_gt F 55 dX2_isInSpans_22 (by decide) (fun c_22 => ?_) (fun h9 => absurd (by decide) h9) 
  refine g_iconst F 0 dX2_isInSpans_55 (by decide) ?_
  exact g_zret F hA hQ hr rfl () (rfl) [0, 1, 2] [0] rfl (by decide) rfl rfl dX2_isInSpans_56

theorem dX2_fittingPairs_0 : decode cX2_fittingPairs 0 = .ok (.iconst 0, 1) := by decide +kernel
theorem dX2_fittingPairs_1 : decode cX2_fittingPairs 1 = .ok (.istore_n 2, 1) := by decide +kernel
theorem dX2_fittingPairs_2 : decode cX2_fittingPairs 2 = .ok (.iconst 0, 1) := by decide +kernel
theorem dX2_fittingPairs_3 : decode cX2_fittingPairs 3 = .ok (.istore_n 3, 1) := by decide +kernel
theorem dX2_fittingPairs_4 : decode cX2_fittingPairs 4 = .ok (.iload_n 3, 1) := by decide +kernel
theorem dX2_fittingPairs_5 : decode cX2_fittingPairs 5 = .ok (.bipush 16, 2) := by decide +kernel
theorem dX2_fittingPairs_7 : decode cX2_fittingPairs 7 = .ok (.if_icmp .ge 23, 3) := by decide +kernel
theorem dX2_fittingPairs_10 : decode cX2_fittingPairs 10 = .ok (.aload_n 0, 1) := by decide +kernel
theorem dX2_fittingPairs_11 : decode cX2_fittingPairs 11 = .ok (.iload_n 3, 1) := by decide +kernel
theorem dX2_fittingPairs_12 : decode cX2_fittingPairs 12 = .ok (.invokevirtual 64, 3) := by decide +kernel
theorem dX2_fittingPairs_15 : decode cX2_fittingPairs 15 = .ok (.ifCond .eq 9, 3) := by decide +kernel
theorem dX2_fittingPairs_18 : decode cX2_fittingPairs 18 = .ok (.iload_n 2, 1) := by decide +kernel
theorem dX2_fittingPairs_19 : decode cX2_fittingPairs 19 = .ok (.iconst 1, 1) := by decide +kernel
theorem dX2_fittingPairs_20 : decode cX2_fittingPairs 20 = .ok (.iload_n 3, 1) := by decide +kernel
theorem dX2_fittingPairs_21 : decode cX2_fittingPairs 21 = .ok (.ishl, 1) := by decide +kernel
theorem dX2_fittingPairs_22 : decode cX2_fittingPairs 22 = .ok (.ior, 1) := by decide +kernel
theorem dX2_fittingPairs_23 : decode cX2_fittingPairs 23 = .ok (.istore_n 2, 1) := by decide +kernel
theorem dX2_fittingPairs_24 : decode cX2_fittingPairs 24 = .ok (.iinc 3 1, 3) := by decide +kernel
theorem dX2_fittingPairs_27 : decode cX2_fittingPairs 27 = .ok (.goto (-23), 3) := by decide +kernel
theorem dX2_fittingPairs_30 : decode cX2_fittingPairs 30 = .ok (.iconst 0, 1) := by decide +kernel
theorem dX2_fittingPairs_31 : decode cX2_fittingPairs 31 = .ok (.istore_n 3, 1) := by decide +kernel
theorem dX2_fittingPairs_32 : decode cX2_fittingPairs 32 = .ok (.iload_n 3, 1) := by decide +kernel
theorem dX2_fittingPairs_33 : decode cX2_fittingPairs 33 = .ok (.aload_n 0, 1) := by decide +kernel
theorem dX2_fittingPairs_34 : decode cX2_fittingPairs 34 = .ok (.getfield 44, 3) := by decide +kernel
theorem dX2_fittingPairs_37 : decode cX2_fittingPairs 37 = .ok (.if_icmp .ge 48, 3) := by decide +kernel
theorem dX2_fittingPairs_40 : decode cX2_fittingPairs 40 = .ok (.iload_n 3, 1) := by decide +kernel
theorem dX2_fittingPairs_41 : decode cX2_fittingPairs 41 = .ok (.bipush 30, 2) := by decide +kernel
theorem dX2_fittingPairs_43 : decode cX2_fittingPairs 43 = .ok (.if_icmp .ge 42, 3) := by decide +kernel
theorem dX2_fittingPairs_46 : decode cX2_fittingPairs 46 = .ok (.aload_n 0, 1) := by decide +kernel
theorem dX2_fittingPairs_47 : decode cX2_fittingPairs 47 = .ok (.getfield 20, 3) := by decide +kernel
theorem dX2_fittingPairs_50 : decode cX2_fittingPairs 50 = .ok (.iconst 0, 1) := by decide +kernel
theorem dX2_fittingPairs_51 : decode cX2_fittingPairs 51 = .ok (.aaload, 1) := by decide +kernel
theorem dX2_fittingPairs_52 : decode cX2_fittingPairs 52 = .ok (.iload_n 3, 1) := by decide +kernel
theorem dX2_fittingPairs_53 : decode cX2_fittingPairs 53 = .ok (.iaload, 1) := by decide +kernel
theorem dX2_fittingPairs_54 : decode cX2_fittingPairs 54 = .ok (.iload_n 1, 1) := by decide +kernel
theorem dX2_fittingPairs_55 : decode cX2_fittingPairs 55 = .ok (.if_icmp .gt 24, 3) := by decide +kernel
theorem dX2_fittingPairs_58 : decode cX2_fittingPairs 58 = .ok (.iload_n 2, 1) := by decide +kernel
theorem dX2_fittingPairs_59 : decode cX2_fittingPairs 59 = .ok (.aload_n 0, 1) := by decide +kernel
theorem dX2_fittingPairs_60 : decode cX2_fittingPairs 60 = .ok (.aload_n 0, 1) := by decide +kernel
theorem dX2_fittingPairs_61 : decode cX2_fittingPairs 61 = .ok (.getfield 20, 3) := by decide +kernel
theorem dX2_fittingPairs_64 : decode cX2_fittingPairs 64 = .ok (.iconst 1, 1) := by decide +kernel
theorem dX2_fittingPairs_65 : decode cX2_fittingPairs 65 = .ok (.aaload, 1) := by decide +kernel
theorem dX2_fittingPairs_66 : decode cX2_fittingPairs 66 = .ok (.iload_n 3, 1) := by decide +kernel
theorem dX2_fittingPairs_67 : decode cX2_fittingPairs 67 = .ok (.iaload, 1) := by decide +kernel
theorem dX2_fittingPairs_68 : decode cX2_fittingPairs 68 = .ok (.aload_n 0, 1) := by decide +kernel
theorem dX2_fittingPairs_69 : decode cX2_fittingPairs 69 = .ok (.iload_n 3, 1) := by decide +kernel
theorem dX2_fittingPairs_70 : decode cX2_fittingPairs 70 = .ok (.iload_n 1, 1) := by decide +kernel
theorem dX2_fittingPairs_71 : decode cX2_fittingPairs 71 = .ok (.invokevirtual 76, 3) := by decide +kernel
theorem dX2_fittingPairs_74 : decode cX2_fittingPairs 74 = .ok (.invokevirtual 80, 3) := by decide +kernel
theorem dX2_fittingPairs_77 : decode cX2_fittingPairs 77 = .ok (.iand, 1) := by decide +kernel
theorem dX2_fittingPairs_78 : decode cX2_fittingPairs 78 = .ok (.istore_n 2, 1) := by decide +kernel
theorem dX2_fittingPairs_79 : decode cX2_fittingPairs 79 = .ok (.iinc 3 1, 3) := by decide +kernel
theorem dX2_fittingPairs_82 : decode cX2_fittingPairs 82 = .ok (.goto (-50), 3) := by decide +kernel
theorem dX2_fittingPairs_85 : decode cX2_fittingPairs 85 = .ok (.iload_n 2, 1) := by decide +kernel
theorem dX2_fittingPairs_86 : decode cX2_fittingPairs 86 = .ok (.ireturn, 1) := by decide +kernel
set_option maxRecDepth 20000 in
theorem ggX2_fittingPairs_X2_isInSpans : GoodIn wsX2_fittingPairs wsX2_isInSpans := goodIn_r _ [7, 8, 9, 21, 22, 23, 24, 25, 26, 27, 28, 29, 30, 31, 32, 33, 34] rfl (by decide +kernel)
set_option maxRecDepth 20000 in
theorem gX2_fittingPairs_X2_isInSpans : GoodIn wsX2_fittingPairs (wsV RX2 64 RX2 yX2_isInSpans wsX2_isInSpans) := goodIn_app (goodIn_of _ (by decide +kernel)) ggX2_fittingPairs_X2_isInSpans
set_option maxHeartbeats 4000000 in
set_option maxRecDepth 100000 in
theorem K_X2_fittingPairs (l : Launch) (D : va_G) (xe : Nat) (xs : Nat) (xl : Nat) (ef : Nat) (ev : Nat) (eh : Nat) (er : Nat) (n : Nat) (fo : Nat) (wa : Nat) (we : Nat) (cI : ClassId) (a : Int32) (sz : Nat) : Ki l yX2_fittingPairs wsX2_fittingPairs 2 61 0 0 D [.ref xe, .int a] [(xe, .inr (1, [.ref xs, .ref xl, .ref ef, .ref ev, .int 0, .ref eh, .int 0, .ref er, .int 0, .int 0])), (xs, .inr (6, [.ref n, .ref fo, .ref wa, .ref we])), (n, .inl (cI, 36, .inl g_nums))] [(cI, .int)] sz (fun (r : Int32) (_ : Unit) => r = 1) (fun (_ : Unit) => [(xe, .inr (1, [.ref xs, .ref xl, .ref ef, .ref ev, .int 0, .ref eh, .int 0, .ref er, .int 0, .int 0])), (xs, .inr (6, [.ref n, .ref fo, .ref wa, .ref we])), (n, .inl (cI, 36, .inl g_nums))]) (fun (_ : Unit) => [(cI, .int)]) := by
  unfold Ki
  refine g_ofW (cc := cX2_fittingPairs) (lv := [(0, .ref xe), (1, .int a)]) (by decide) rfl (Nat.le_of_ble_eq_true rfl) rfl ?_
  intro p e s m args below meth c A Q hA hQ F hr hnm
  have hts := F.2.2.2.2.1
  have w_0 : (Cond.fieldLink RX2 44 "QuietCut$Ear" "heards" "I").before args s = true := hts _ (List.mem_of_getElem? (i := 1) rfl)
  have i_X2 : ∀ w ∈ u_ws RX2 TX2 10, w ∈ wsX2_fittingPairs := fun _ h => List.mem_cons_of_mem _ (List.mem_append_left _ (List.mem_append_right _ h))
  refine g_iconst F 0 dX2_fittingPairs_0 (by decide) ?_
  refine g_istore_n F [(2, .int 0), (0, .ref xe), (1, .int a)] dX2_fittingPairs_1 rfl (by decide) rfl ?_
  refine g_iconst F 0 dX2_fittingPairs_2 (by decide) ?_
  refine g_istore_n F [(3, .int 0), (2, .int 0), (0, .ref xe), (1, .int a)] dX2_fittingPairs_3 rfl (by decide) rfl ?_
  refine g_iload_n F 0 dX2_fittingPairs_4 rfl rfl ?_
  refine g_bipush F 16 dX2_fittingPairs_5 (by decide) ?_
  refine g_icmp_ge F 30 dX2_fittingPairs_7 (by decide) (fun h9 => absurd h9 (by decide)) (fun c_7 => ?_)
  refine g_aload_n F 2 dX2_fittingPairs_10 rfl rfl ?_
  refine g_iload_n F 0 dX2_fittingPairs_11 rfl rfl ?_
  refine g_callVi (k := 0) (n := 0) (b := xe) (As := [.int 0]) (st := []) (wc := [(xe, .inr (1, [.ref xs, .ref xl, .ref ef, .ref ev, .int 0, .ref eh, .int 0, .ref er, .int 0, .int 0])), (xs, .inr (6, [.ref n, .ref fo, .ref wa, .ref we])), (n, .inl (cI, 36, .inl g_nums))]) (wr := []) F [0, 1, 2] [] [0] rfl rfl (by decide) rfl (by decide) (by decide) rfl (fun sz => K_X2_isInSpans0 l D xe xs xl ef ev eh er n fo wa we cI  sz) (cwV 1 hts gX2_fittingPairs_X2_isInSpans rfl rfl rfl (by decide +kernel) ⟨Nat.le_of_ble_eq_true rfl, Nat.le_of_ble_eq_true rfl⟩) rfl 0 rfl rfl (Nat.le_of_ble_eq_true rfl) ⟨Nat.le_of_ble_eq_true rfl, Nat.le_of_ble_eq_true rfl⟩ dX2_fittingPairs_12 (fun r_1 _ hw_2 => ?_)
  have hw_2 : r_1 = 1 := hw_2
  have e_r_1 := hw_2
  show gG p l e (gR 2 0 0 61) s m args below meth c D A 4 Q 0 0 [(xe, .inr (1, [.ref xs, .ref xl, .ref ef, .ref ev, .int 0, .ref eh, .int 0, .ref er, .int 0, .int 0])), (xs, .inr (6, [.ref n, .ref fo, .ref wa, .ref we])), (n, .inl (cI, 36, .inl g_nums))] [(cI, .int)] [(3, .int 0), (2, .int 0), (0, .ref xe), (1, .int a)] 15 [.int r_1]
  refine g_fold 1 e_r_1 ?_
  refine g_if_eq F 24 dX2_fittingPairs_15 (by decide) (fun h9 => absurd h9 (by decide)) (fun c_15 => ?_)
  refine g_iload_n F 1 dX2_fittingPairs_18 rfl rfl ?_
  refine g_iconst F 1 dX2_fittingPairs_19 (by decide) ?_
  refine g_iload_n F 0 dX2_fittingPairs_20 rfl rfl ?_
  refine g_ishl F dX2_fittingPairs_21 ?_
  refine g_fold 1 (by decide) ?_
  refine g_ior F dX2_fittingPairs_22 ?_
  refine g_fold 1 (by decide) ?_
  refine g_istore_n F [(2, .int 1), (3, .int 0), (0, .ref xe), (1, .int a)] dX2_fittingPairs_23 rfl (by decide) rfl ?_
  refine g_iinc F (j := 1) 1 [(3, .int 1), (2, .int 1), (0, .ref xe), (1, .int a)] dX2_fittingPairs_24 rfl (by decide) (by decide) rfl ?_
  refine g_goto F 4 dX2_fittingPairs_27 (by decide) ?_
  refine g_iload_n F 0 dX2_fittingPairs_4 rfl rfl ?_
  refine g_bipush F 16 dX2_fittingPairs_5 (by decide) ?_
  refine g_icmp_ge F 30 dX2_fittingPairs_7 (by decide) (fun h9 => absurd h9 (by decide)) (fun c_7 => ?_)
  refine g_aload_n F 2 dX2_fittingPairs_10 rfl rfl ?_
  refine g_iload_n F 0 dX2_fittingPairs_11 rfl rfl ?_
  refine g_callVi (k := 0) (n := 0) (b := xe) (As := [.int 1]) (st := []) (wc := [(xe, .inr (1, [.ref xs, .ref xl, .ref ef, .ref ev, .int 0, .ref eh, .int 0, .ref er, .int 0, .int 0])), (xs, .inr (6, [.ref n, .ref fo, .ref wa, .ref we])), (n, .inl (cI, 36, .inl g_nums))]) (wr := []) F [0, 1, 2] [] [0] rfl rfl (by decide) rfl (by decide) (by decide) rfl (fun sz => K_X2_isInSpans1 l D xe xs xl ef ev eh er n fo wa we cI  sz) (cwV 1 hts gX2_fittingPairs_X2_isInSpans rfl rfl rfl (by decide +kernel) ⟨Nat.le_of_ble_eq_true rfl, Nat.le_of_ble_eq_true rfl⟩) rfl 0 rfl rfl (Nat.le_of_ble_eq_true rfl) ⟨Nat.le_of_ble_eq_true rfl, Nat.le_of_ble_eq_true rfl⟩ dX2_fittingPairs_12 (fun r_6 _ hw_7 => ?_)
  have hw_7 : r_6 = 0 := hw_7
  have e_r_6 := hw_7
  show gG p l e (gR 2 0 0 61) s m args below meth c D A 4 Q 0 0 [(xe, .inr (1, [.ref xs, .ref xl, .ref ef, .ref ev, .int 0, .ref eh, .int 0, .ref er, .int 0, .int 0])), (xs, .inr (6, [.ref n, .ref fo, .ref wa, .ref we])), (n, .inl (cI, 36, .inl g_nums))] [(cI, .int)] [(3, .int 1), (2, .int 1), (0, .ref xe), (1, .int a)] 15 [.int r_6]
  refine g_fold 0 e_r_6 ?_
  refine g_if_eq F 24 dX2_fittingPairs_15 (by decide) (fun c_15 => ?_) (fun h9 => absurd (by decide) h9) 
  refine g_iinc F (j := 0) 2 [(3, .int 2), (2, .int 1), (0, .ref xe), (1, .int a)] dX2_fittingPairs_24 rfl (by decide) (by decide) rfl ?_
  refine g_goto F 4 dX2_fittingPairs_27 (by decide) ?_
  refine g_iload_n F 0 dX2_fittingPairs_4 rfl rfl ?_
  refine g_bipush F 16 dX2_fittingPairs_5 (by decide) ?_
  refine g_icmp_ge F 30 dX2_fittingPairs_7 (by decide) (fun h9 => absurd h9 (by decide)) (fun c_7 => ?_)
  refine g_aload_n F 2 dX2_fittingPairs_10 rfl rfl ?_
  refine g_iload_n F 0 dX2_fittingPairs_11 rfl rfl ?_
  refine g_callVi (k := 0) (n := 0) (b := xe) (As := [.int 2]) (st := []) (wc := [(xe, .inr (1, [.ref xs, .ref xl, .ref ef, .ref ev, .int 0, .ref eh, .int 0, .ref er, .int 0, .int 0])), (xs, .inr (6, [.ref n, .ref fo, .ref wa, .ref we])), (n, .inl (cI, 36, .inl g_nums))]) (wr := []) F [0, 1, 2] [] [0] rfl rfl (by decide) rfl (by decide) (by decide) rfl (fun sz => K_X2_isInSpans2 l D xe xs xl ef ev eh er n fo wa we cI  sz) (cwV 1 hts gX2_fittingPairs_X2_isInSpans rfl rfl rfl (by decide +kernel) ⟨Nat.le_of_ble_eq_true rfl, Nat.le_of_ble_eq_true rfl⟩) rfl 0 rfl rfl (Nat.le_of_ble_eq_true rfl) ⟨Nat.le_of_ble_eq_true rfl, Nat.le_of_ble_eq_true rfl⟩ dX2_fittingPairs_12 (fun r_11 _ hw_12 => ?_)
  have hw_12 : r_11 = 0 := hw_12
  have e_r_11 := hw_12
  show gG p l e (gR 2 0 0 61) s m args below meth c D A 4 Q 0 0 [(xe, .inr (1, [.ref xs, .ref xl, .ref ef, .ref ev, .int 0, .ref eh, .int 0, .ref er, .int 0, .int 0])), (xs, .inr (6, [.ref n, .ref fo, .ref wa, .ref we])), (n, .inl (cI, 36, .inl g_nums))] [(cI, .int)] [(3, .int 2), (2, .int 1), (0, .ref xe), (1, .int a)] 15 [.int r_11]
  refine g_fold 0 e_r_11 ?_
  refine g_if_eq F 24 dX2_fittingPairs_15 (by decide) (fun c_15 => ?_) (fun h9 => absurd (by decide) h9) 
  refine g_iinc F (j := 0) 3 [(3, .int 3), (2, .int 1), (0, .ref xe), (1, .int a)] dX2_fittingPairs_24 rfl (by decide) (by decide) rfl ?_
  refine g_goto F 4 dX2_fittingPairs_27 (by decide) ?_
  refine g_iload_n F 0 dX2_fittingPairs_4 rfl rfl ?_
  refine g_bipush F 16 dX2_fittingPairs_5 (by decide) ?_
  refine g_icmp_ge F 30 dX2_fittingPairs_7 (by decide) (fun h9 => absurd h9 (by decide)) (fun c_7 => ?_)
  refine g_aload_n F 2 dX2_fittingPairs_10 rfl rfl ?_
  refine g_iload_n F 0 dX2_fittingPairs_11 rfl rfl ?_
  refine g_callVi (k := 0) (n := 0) (b := xe) (As := [.int 3]) (st := []) (wc := [(xe, .inr (1, [.ref xs, .ref xl, .ref ef, .ref ev, .int 0, .ref eh, .int 0, .ref er, .int 0, .int 0])), (xs, .inr (6, [.ref n, .ref fo, .ref wa, .ref we])), (n, .inl (cI, 36, .inl g_nums))]) (wr := []) F [0, 1, 2] [] [0] rfl rfl (by decide) rfl (by decide) (by decide) rfl (fun sz => K_X2_isInSpans3 l D xe xs xl ef ev eh er n fo wa we cI  sz) (cwV 1 hts gX2_fittingPairs_X2_isInSpans rfl rfl rfl (by decide +kernel) ⟨Nat.le_of_ble_eq_true rfl, Nat.le_of_ble_eq_true rfl⟩) rfl 0 rfl rfl (Nat.le_of_ble_eq_true rfl) ⟨Nat.le_of_ble_eq_true rfl, Nat.le_of_ble_eq_true rfl⟩ dX2_fittingPairs_12 (fun r_16 _ hw_17 => ?_)
  have hw_17 : r_16 = 0 := hw_17
  have e_r_16 := hw_17
  show gG p l e (gR 2 0 0 61) s m args below meth c D A 4 Q 0 0 [(xe, .inr (1, [.ref xs, .ref xl, .ref ef, .ref ev, .int 0, .ref eh, .int 0, .ref er, .int 0, .int 0])), (xs, .inr (6, [.ref n, .ref fo, .ref wa, .ref we])), (n, .inl (cI, 36, .inl g_nums))] [(cI, .int)] [(3, .int 3), (2, .int 1), (0, .ref xe), (1, .int a)] 15 [.int r_16]
  refine g_fold 0 e_r_16 ?_
  refine g_if_eq F 24 dX2_fittingPairs_15 (by decide) (fun c_15 => ?_) (fun h9 => absurd (by decide) h9) 
  refine g_iinc F (j := 0) 4 [(3, .int 4), (2, .int 1), (0, .ref xe), (1, .int a)] dX2_fittingPairs_24 rfl (by decide) (by decide) rfl ?_
  refine g_goto F 4 dX2_fittingPairs_27 (by decide) ?_
  refine g_iload_n F 0 dX2_fittingPairs_4 rfl rfl ?_
  refine g_bipush F 16 dX2_fittingPairs_5 (by decide) ?_
  refine g_icmp_ge F 30 dX2_fittingPairs_7 (by decide) (fun h9 => absurd h9 (by decide)) (fun c_7 => ?_)
  refine g_aload_n F 2 dX2_fittingPairs_10 rfl rfl ?_
  refine g_iload_n F 0 dX2_fittingPairs_11 rfl rfl ?_
  refine g_callVi (k := 0) (n := 0) (b := xe) (As := [.int 4]) (st := []) (wc := [(xe, .inr (1, [.ref xs, .ref xl, .ref ef, .ref ev, .int 0, .ref eh, .int 0, .ref er, .int 0, .int 0])), (xs, .inr (6, [.ref n, .ref fo, .ref wa, .ref we])), (n, .inl (cI, 36, .inl g_nums))]) (wr := []) F [0, 1, 2] [] [0] rfl rfl (by decide) rfl (by decide) (by decide) rfl (fun sz => K_X2_isInSpans4 l D xe xs xl ef ev eh er n fo wa we cI  sz) (cwV 1 hts gX2_fittingPairs_X2_isInSpans rfl rfl rfl (by decide +kernel) ⟨Nat.le_of_ble_eq_true rfl, Nat.le_of_ble_eq_true rfl⟩) rfl 0 rfl rfl (Nat.le_of_ble_eq_true rfl) ⟨Nat.le_of_ble_eq_true rfl, Nat.le_of_ble_eq_true rfl⟩ dX2_fittingPairs_12 (fun r_21 _ hw_22 => ?_)
  have hw_22 : r_21 = 0 := hw_22
  have e_r_21 := hw_22
  show gG p l e (gR 2 0 0 61) s m args below meth c D A 4 Q 0 0 [(xe, .inr (1, [.ref xs, .ref xl, .ref ef, .ref ev, .int 0, .ref eh, .int 0, .ref er, .int 0, .int 0])), (xs, .inr (6, [.ref n, .ref fo, .ref wa, .ref we])), (n, .inl (cI, 36, .inl g_nums))] [(cI, .int)] [(3, .int 4), (2, .int 1), (0, .ref xe), (1, .int a)] 15 [.int r_21]
  refine g_fold 0 e_r_21 ?_
  refine g_if_eq F 24 dX2_fittingPairs_15 (by decide) (fun c_15 => ?_) (fun h9 => absurd (by decide) h9) 
  refine g_iinc F (j := 0) 5 [(3, .int 5), (2, .int 1), (0, .ref xe), (1, .int a)] dX2_fittingPairs_24 rfl (by decide) (by decide) rfl ?_
  refine g_goto F 4 dX2_fittingPairs_27 (by decide) ?_
  refine g_iload_n F 0 dX2_fittingPairs_4 rfl rfl ?_
  refine g_bipush F 16 dX2_fittingPairs_5 (by decide) ?_
  refine g_icmp_ge F 30 dX2_fittingPairs_7 (by decide) (fun h9 => absurd h9 (by decide)) (fun c_7 => ?_)
  refine g_aload_n F 2 dX2_fittingPairs_10 rfl rfl ?_
  refine g_iload_n F 0 dX2_fittingPairs_11 rfl rfl ?_
  refine g_callVi (k := 0) (n := 0) (b := xe) (As := [.int 5]) (st := []) (wc := [(xe, .inr (1, [.ref xs, .ref xl, .ref ef, .ref ev, .int 0, .ref eh, .int 0, .ref er, .int 0, .int 0])), (xs, .inr (6, [.ref n, .ref fo, .ref wa, .ref we])), (n, .inl (cI, 36, .inl g_nums))]) (wr := []) F [0, 1, 2] [] [0] rfl rfl (by decide) rfl (by decide) (by decide) rfl (fun sz => K_X2_isInSpans5 l D xe xs xl ef ev eh er n fo wa we cI  sz) (cwV 1 hts gX2_fittingPairs_X2_isInSpans rfl rfl rfl (by decide +kernel) ⟨Nat.le_of_ble_eq_true rfl, Nat.le_of_ble_eq_true rfl⟩) rfl 0 rfl rfl (Nat.le_of_ble_eq_true rfl) ⟨Nat.le_of_ble_eq_true rfl, Nat.le_of_ble_eq_true rfl⟩ dX2_fittingPairs_12 (fun r_26 _ hw_27 => ?_)
  have hw_27 : r_26 = 0 := hw_27
  have e_r_26 := hw_27
  show gG p l e (gR 2 0 0 61) s m args below meth c D A 4 Q 0 0 [(xe, .inr (1, [.ref xs, .ref xl, .ref ef, .ref ev, .int 0, .ref eh, .int 0, .ref er, .int 0, .int 0])), (xs, .inr (6, [.ref n, .ref fo, .ref wa, .ref we])), (n, .inl (cI, 36, .inl g_nums))] [(cI, .int)] [(3, .int 5), (2, .int 1), (0, .ref xe), (1, .int a)] 15 [.int r_26]
  refine g_fold 0 e_r_26 ?_
  refine g_if_eq F 24 dX2_fittingPairs_15 (by decide) (fun c_15 => ?_) (fun h9 => absurd (by decide) h9) 
  refine g_iinc F (j := 0) 6 [(3, .int 6), (2, .int 1), (0, .ref xe), (1, .int a)] dX2_fittingPairs_24 rfl (by decide) (by decide) rfl ?_
  refine g_goto F 4 dX2_fittingPairs_27 (by decide) ?_
  refine g_iload_n F 0 dX2_fittingPairs_4 rfl rfl ?_
  refine g_bipush F 16 dX2_fittingPairs_5 (by decide) ?_
  refine g_icmp_ge F 30 dX2_fittingPairs_7 (by decide) (fun h9 => absurd h9 (by decide)) (fun c_7 => ?_)
  refine g_aload_n F 2 dX2_fittingPairs_10 rfl rfl ?_
  refine g_iload_n F 0 dX2_fittingPairs_11 rfl rfl ?_
  refine g_callVi (k := 0) (n := 0) (b := xe) (As := [.int 6]) (st := []) (wc := [(xe, .inr (1, [.ref xs, .ref xl, .ref ef, .ref ev, .int 0, .ref eh, .int 0, .ref er, .int 0, .int 0])), (xs, .inr (6, [.ref n, .ref fo, .ref wa, .ref we])), (n, .inl (cI, 36, .inl g_nums))]) (wr := []) F [0, 1, 2] [] [0] rfl rfl (by decide) rfl (by decide) (by decide) rfl (fun sz => K_X2_isInSpans6 l D xe xs xl ef ev eh er n fo wa we cI  sz) (cwV 1 hts gX2_fittingPairs_X2_isInSpans rfl rfl rfl (by decide +kernel) ⟨Nat.le_of_ble_eq_true rfl, Nat.le_of_ble_eq_true rfl⟩) rfl 0 rfl rfl (Nat.le_of_ble_eq_true rfl) ⟨Nat.le_of_ble_eq_true rfl, Nat.le_of_ble_eq_true rfl⟩ dX2_fittingPairs_12 (fun r_31 _ hw_32 => ?_)
  have hw_32 : r_31 = 0 := hw_32
  have e_r_31 := hw_32
  show gG p l e (gR 2 0 0 61) s m args below meth c D A 4 Q 0 0 [(xe, .inr (1, [.ref xs, .ref xl, .ref ef, .ref ev, .int 0, .ref eh, .int 0, .ref er, .int 0, .int 0])), (xs, .inr (6, [.ref n, .ref fo, .ref wa, .ref we])), (n, .inl (cI, 36, .inl g_nums))] [(cI, .int)] [(3, .int 6), (2, .int 1), (0, .ref xe), (1, .int a)] 15 [.int r_31]
  refine g_fold 0 e_r_31 ?_
  refine g_if_eq F 24 dX2_fittingPairs_15 (by decide) (fun c_15 => ?_) (fun h9 => absurd (by decide) h9) 
  refine g_iinc F (j := 0) 7 [(3, .int 7), (2, .int 1), (0, .ref xe), (1, .int a)] dX2_fittingPairs_24 rfl (by decide) (by decide) rfl ?_
  refine g_goto F 4 dX2_fittingPairs_27 (by decide) ?_
  refine g_iload_n F 0 dX2_fittingPairs_4 rfl rfl ?_
  refine g_bipush F 16 dX2_fittingPairs_5 (by decide) ?_
  refine g_icmp_ge F 30 dX2_fittingPairs_7 (by decide) (fun h9 => absurd h9 (by decide)) (fun c_7 => ?_)
  refine g_aload_n F 2 dX2_fittingPairs_10 rfl rfl ?_
  refine g_iload_n F 0 dX2_fittingPairs_11 rfl rfl ?_
  refine g_callVi (k := 0) (n := 0) (b := xe) (As := [.int 7]) (st := []) (wc := [(xe, .inr (1, [.ref xs, .ref xl, .ref ef, .ref ev, .int 0, .ref eh, .int 0, .ref er, .int 0, .int 0])), (xs, .inr (6, [.ref n, .ref fo, .ref wa, .ref we])), (n, .inl (cI, 36, .inl g_nums))]) (wr := []) F [0, 1, 2] [] [0] rfl rfl (by decide) rfl (by decide) (by decide) rfl (fun sz => K_X2_isInSpans7 l D xe xs xl ef ev eh er n fo wa we cI  sz) (cwV 1 hts gX2_fittingPairs_X2_isInSpans rfl rfl rfl (by decide +kernel) ⟨Nat.le_of_ble_eq_true rfl, Nat.le_of_ble_eq_true rfl⟩) rfl 0 rfl rfl (Nat.le_of_ble_eq_true rfl) ⟨Nat.le_of_ble_eq_true rfl, Nat.le_of_ble_eq_true rfl⟩ dX2_fittingPairs_12 (fun r_36 _ hw_37 => ?_)
  have hw_37 : r_36 = 0 := hw_37
  have e_r_36 := hw_37
  show gG p l e (gR 2 0 0 61) s m args below meth c D A 4 Q 0 0 [(xe, .inr (1, [.ref xs, .ref xl, .ref ef, .ref ev, .int 0, .ref eh, .int 0, .ref er, .int 0, .int 0])), (xs, .inr (6, [.ref n, .ref fo, .ref wa, .ref we])), (n, .inl (cI, 36, .inl g_nums))] [(cI, .int)] [(3, .int 7), (2, .int 1), (0, .ref xe), (1, .int a)] 15 [.int r_36]
  refine g_fold 0 e_r_36 ?_
  refine g_if_eq F 24 dX2_fittingPairs_15 (by decide) (fun c_15 => ?_) (fun h9 => absurd (by decide) h9) 
  refine g_iinc F (j := 0) 8 [(3, .int 8), (2, .int 1), (0, .ref xe), (1, .int a)] dX2_fittingPairs_24 rfl (by decide) (by decide) rfl ?_
  refine g_goto F 4 dX2_fittingPairs_27 (by decide) ?_
  refine g_iload_n F 0 dX2_fittingPairs_4 rfl rfl ?_
  refine g_bipush F 16 dX2_fittingPairs_5 (by decide) ?_
  refine g_icmp_ge F 30 dX2_fittingPairs_7 (by decide) (fun h9 => absurd h9 (by decide)) (fun c_7 => ?_)
  refine g_aload_n F 2 dX2_fittingPairs_10 rfl rfl ?_
  refine g_iload_n F 0 dX2_fittingPairs_11 rfl rfl ?_
  refine g_callVi (k := 0) (n := 0) (b := xe) (As := [.int 8]) (st := []) (wc := [(xe, .inr (1, [.ref xs, .ref xl, .ref ef, .ref ev, .int 0, .ref eh, .int 0, .ref er, .int 0, .int 0])), (xs, .inr (6, [.ref n, .ref fo, .ref wa, .ref we])), (n, .inl (cI, 36, .inl g_nums))]) (wr := []) F [0, 1, 2] [] [0] rfl rfl (by decide) rfl (by decide) (by decide) rfl (fun sz => K_X2_isInSpans8 l D xe xs xl ef ev eh er n fo wa we cI  sz) (cwV 1 hts gX2_fittingPairs_X2_isInSpans rfl rfl rfl (by decide +kernel) ⟨Nat.le_of_ble_eq_true rfl, Nat.le_of_ble_eq_true rfl⟩) rfl 0 rfl rfl (Nat.le_of_ble_eq_true rfl) ⟨Nat.le_of_ble_eq_true rfl, Nat.le_of_ble_eq_true rfl⟩ dX2_fittingPairs_12 (fun r_41 _ hw_42 => ?_)
  have hw_42 : r_41 = 0 := hw_42
  have e_r_41 := hw_42
  show gG p l e (gR 2 0 0 61) s m args below meth c D A 4 Q 0 0 [(xe, .inr (1, [.ref xs, .ref xl, .ref ef, .ref ev, .int 0, .ref eh, .int 0, .ref er, .int 0, .int 0])), (xs, .inr (6, [.ref n, .ref fo, .ref wa, .ref we])), (n, .inl (cI, 36, .inl g_nums))] [(cI, .int)] [(3, .int 8), (2, .int 1), (0, .ref xe), (1, .int a)] 15 [.int r_41]
  refine g_fold 0 e_r_41 ?_
  refine g_if_eq F 24 dX2_fittingPairs_15 (by decide) (fun c_15 => ?_) (fun h9 => absurd (by decide) h9) 
  refine g_iinc F (j := 0) 9 [(3, .int 9), (2, .int 1), (0, .ref xe), (1, .int a)] dX2_fittingPairs_24 rfl (by decide) (by decide) rfl ?_
  refine g_goto F 4 dX2_fittingPairs_27 (by decide) ?_
  refine g_iload_n F 0 dX2_fittingPairs_4 rfl rfl ?_
  refine g_bipush F 16 dX2_fittingPairs_5 (by decide) ?_
  refine g_icmp_ge F 30 dX2_fittingPairs_7 (by decide) (fun h9 => absurd h9 (by decide)) (fun c_7 => ?_)
  refine g_aload_n F 2 dX2_fittingPairs_10 rfl rfl ?_
  refine g_iload_n F 0 dX2_fittingPairs_11 rfl rfl ?_
  refine g_callVi (k := 0) (n := 0) (b := xe) (As := [.int 9]) (st := []) (wc := [(xe, .inr (1, [.ref xs, .ref xl, .ref ef, .ref ev, .int 0, .ref eh, .int 0, .ref er, .int 0, .int 0])), (xs, .inr (6, [.ref n, .ref fo, .ref wa, .ref we])), (n, .inl (cI, 36, .inl g_nums))]) (wr := []) F [0, 1, 2] [] [0] rfl rfl (by decide) rfl (by decide) (by decide) rfl (fun sz => K_X2_isInSpans9 l D xe xs xl ef ev eh er n fo wa we cI  sz) (cwV 1 hts gX2_fittingPairs_X2_isInSpans rfl rfl rfl (by decide +kernel) ⟨Nat.le_of_ble_eq_true rfl, Nat.le_of_ble_eq_true rfl⟩) rfl 0 rfl rfl (Nat.le_of_ble_eq_true rfl) ⟨Nat.le_of_ble_eq_true rfl, Nat.le_of_ble_eq_true rfl⟩ dX2_fittingPairs_12 (fun r_46 _ hw_47 => ?_)
  have hw_47 : r_46 = 0 := hw_47
  have e_r_46 := hw_47
  show gG p l e (gR 2 0 0 61) s m args below meth c D A 4 Q 0 0 [(xe, .inr (1, [.ref xs, .ref xl, .ref ef, .ref ev, .int 0, .ref eh, .int 0, .ref er, .int 0, .int 0])), (xs, .inr (6, [.ref n, .ref fo, .ref wa, .ref we])), (n, .inl (cI, 36, .inl g_nums))] [(cI, .int)] [(3, .int 9), (2, .int 1), (0, .ref xe), (1, .int a)] 15 [.int r_46]
  refine g_fold 0 e_r_46 ?_
  refine g_if_eq F 24 dX2_fittingPairs_15 (by decide) (fun c_15 => ?_) (fun h9 => absurd (by decide) h9) 
  refine g_iinc F (j := 0) 10 [(3, .int 10), (2, .int 1), (0, .ref xe), (1, .int a)] dX2_fittingPairs_24 rfl (by decide) (by decide) rfl ?_
  refine g_goto F 4 dX2_fittingPairs_27 (by decide) ?_
  refine g_iload_n F 0 dX2_fittingPairs_4 rfl rfl ?_
  refine g_bipush F 16 dX2_fittingPairs_5 (by decide) ?_
  refine g_icmp_ge F 30 dX2_fittingPairs_7 (by decide) (fun h9 => absurd h9 (by decide)) (fun c_7 => ?_)
  refine g_aload_n F 2 dX2_fittingPairs_10 rfl rfl ?_
  refine g_iload_n F 0 dX2_fittingPairs_11 rfl rfl ?_
  refine g_callVi (k := 0) (n := 0) (b := xe) (As := [.int 10]) (st := []) (wc := [(xe, .inr (1, [.ref xs, .ref xl, .ref ef, .ref ev, .int 0, .ref eh, .int 0, .ref er, .int 0, .int 0])), (xs, .inr (6, [.ref n, .ref fo, .ref wa, .ref we])), (n, .inl (cI, 36, .inl g_nums))]) (wr := []) F [0, 1, 2] [] [0] rfl rfl (by decide) rfl (by decide) (by decide) rfl (fun sz => K_X2_isInSpans10 l D xe xs xl ef ev eh er n fo wa we cI  sz) (cwV 1 hts gX2_fittingPairs_X2_isInSpans rfl rfl rfl (by decide +kernel) ⟨Nat.le_of_ble_eq_true rfl, Nat.le_of_ble_eq_true rfl⟩) rfl 0 rfl rfl (Nat.le_of_ble_eq_true rfl) ⟨Nat.le_of_ble_eq_true rfl, Nat.le_of_ble_eq_true rfl⟩ dX2_fittingPairs_12 (fun r_51 _ hw_52 => ?_)
  have hw_52 : r_51 = 0 := hw_52
  have e_r_51 := hw_52
  show gG p l e (gR 2 0 0 61) s m args below meth c D A 4 Q 0 0 [(xe, .inr (1, [.ref xs, .ref xl, .ref ef, .ref ev, .int 0, .ref eh, .int 0, .ref er, .int 0, .int 0])), (xs, .inr (6, [.ref n, .ref fo, .ref wa, .ref we])), (n, .inl (cI, 36, .inl g_nums))] [(cI, .int)] [(3, .int 10), (2, .int 1), (0, .ref xe), (1, .int a)] 15 [.int r_51]
  refine g_fold 0 e_r_51 ?_
  refine g_if_eq F 24 dX2_fittingPairs_15 (by decide) (fun c_15 => ?_) (fun h9 => absurd (by decide) h9) 
  refine g_iinc F (j := 0) 11 [(3, .int 11), (2, .int 1), (0, .ref xe), (1, .int a)] dX2_fittingPairs_24 rfl (by decide) (by decide) rfl ?_
  refine g_goto F 4 dX2_fittingPairs_27 (by decide) ?_
  refine g_iload_n F 0 dX2_fittingPairs_4 rfl rfl ?_
  refine g_bipush F 16 dX2_fittingPairs_5 (by decide) ?_
  refine g_icmp_ge F 30 dX2_fittingPairs_7 (by decide) (fun h9 => absurd h9 (by decide)) (fun c_7 => ?_)
  refine g_aload_n F 2 dX2_fittingPairs_10 rfl rfl ?_
  refine g_iload_n F 0 dX2_fittingPairs_11 rfl rfl ?_
  refine g_callVi (k := 0) (n := 0) (b := xe) (As := [.int 11]) (st := []) (wc := [(xe, .inr (1, [.ref xs, .ref xl, .ref ef, .ref ev, .int 0, .ref eh, .int 0, .ref er, .int 0, .int 0])), (xs, .inr (6, [.ref n, .ref fo, .ref wa, .ref we])), (n, .inl (cI, 36, .inl g_nums))]) (wr := []) F [0, 1, 2] [] [0] rfl rfl (by decide) rfl (by decide) (by decide) rfl (fun sz => K_X2_isInSpans11 l D xe xs xl ef ev eh er n fo wa we cI  sz) (cwV 1 hts gX2_fittingPairs_X2_isInSpans rfl rfl rfl (by decide +kernel) ⟨Nat.le_of_ble_eq_true rfl, Nat.le_of_ble_eq_true rfl⟩) rfl 0 rfl rfl (Nat.le_of_ble_eq_true rfl) ⟨Nat.le_of_ble_eq_true rfl, Nat.le_of_ble_eq_true rfl⟩ dX2_fittingPairs_12 (fun r_56 _ hw_57 => ?_)
  have hw_57 : r_56 = 0 := hw_57
  have e_r_56 := hw_57
  show gG p l e (gR 2 0 0 61) s m args below meth c D A 4 Q 0 0 [(xe, .inr (1, [.ref xs, .ref xl, .ref ef, .ref ev, .int 0, .ref eh, .int 0, .ref er, .int 0, .int 0])), (xs, .inr (6, [.ref n, .ref fo, .ref wa, .ref we])), (n, .inl (cI, 36, .inl g_nums))] [(cI, .int)] [(3, .int 11), (2, .int 1), (0, .ref xe), (1, .int a)] 15 [.int r_56]
  refine g_fold 0 e_r_56 ?_
  refine g_if_eq F 24 dX2_fittingPairs_15 (by decide) (fun c_15 => ?_) (fun h9 => absurd (by decide) h9) 
  refine g_iinc F (j := 0) 12 [(3, .int 12), (2, .int 1), (0, .ref xe), (1, .int a)] dX2_fittingPairs_24 rfl (by decide) (by decide) rfl ?_
  refine g_goto F 4 dX2_fittingPairs_27 (by decide) ?_
  refine g_iload_n F 0 dX2_fittingPairs_4 rfl rfl ?_
  refine g_bipush F 16 dX2_fittingPairs_5 (by decide) ?_
  refine g_icmp_ge F 30 dX2_fittingPairs_7 (by decide) (fun h9 => absurd h9 (by decide)) (fun c_7 => ?_)
  refine g_aload_n F 2 dX2_fittingPairs_10 rfl rfl ?_
  refine g_iload_n F 0 dX2_fittingPairs_11 rfl rfl ?_
  refine g_callVi (k := 0) (n := 0) (b := xe) (As := [.int 12]) (st := []) (wc := [(xe, .inr (1, [.ref xs, .ref xl, .ref ef, .ref ev, .int 0, .ref eh, .int 0, .ref er, .int 0, .int 0])), (xs, .inr (6, [.ref n, .ref fo, .ref wa, .ref we])), (n, .inl (cI, 36, .inl g_nums))]) (wr := []) F [0, 1, 2] [] [0] rfl rfl (by decide) rfl (by decide) (by decide) rfl (fun sz => K_X2_isInSpans12 l D xe xs xl ef ev eh er n fo wa we cI  sz) (cwV 1 hts gX2_fittingPairs_X2_isInSpans rfl rfl rfl (by decide +kernel) ⟨Nat.le_of_ble_eq_true rfl, Nat.le_of_ble_eq_true rfl⟩) rfl 0 rfl rfl (Nat.le_of_ble_eq_true rfl) ⟨Nat.le_of_ble_eq_true rfl, Nat.le_of_ble_eq_true rfl⟩ dX2_fittingPairs_12 (fun r_61 _ hw_62 => ?_)
  have hw_62 : r_61 = 0 := hw_62
  have e_r_61 := hw_62
  show gG p l e (gR 2 0 0 61) s m args below meth c D A 4 Q 0 0 [(xe, .inr (1, [.ref xs, .ref xl, .ref ef, .ref ev, .int 0, .ref eh, .int 0, .ref er, .int 0, .int 0])), (xs, .inr (6, [.ref n, .ref fo, .ref wa, .ref we])), (n, .inl (cI, 36, .inl g_nums))] [(cI, .int)] [(3, .int 12), (2, .int 1), (0, .ref xe), (1, .int a)] 15 [.int r_61]
  refine g_fold 0 e_r_61 ?_
  refine g_if_eq F 24 dX2_fittingPairs_15 (by decide) (fun c_15 => ?_) (fun h9 => absurd (by decide) h9) 
  refine g_iinc F (j := 0) 13 [(3, .int 13), (2, .int 1), (0, .ref xe), (1, .int a)] dX2_fittingPairs_24 rfl (by decide) (by decide) rfl ?_
  refine g_goto F 4 dX2_fittingPairs_27 (by decide) ?_
  refine g_iload_n F 0 dX2_fittingPairs_4 rfl rfl ?_
  refine g_bipush F 16 dX2_fittingPairs_5 (by decide) ?_
  refine g_icmp_ge F 30 dX2_fittingPairs_7 (by decide) (fun h9 => absurd h9 (by decide)) (fun c_7 => ?_)
  refine g_aload_n F 2 dX2_fittingPairs_10 rfl rfl ?_
  refine g_iload_n F 0 dX2_fittingPairs_11 rfl rfl ?_
  refine g_callVi (k := 0) (n := 0) (b := xe) (As := [.int 13]) (st := []) (wc := [(xe, .inr (1, [.ref xs, .ref xl, .ref ef, .ref ev, .int 0, .ref eh, .int 0, .ref er, .int 0, .int 0])), (xs, .inr (6, [.ref n, .ref fo, .ref wa, .ref we])), (n, .inl (cI, 36, .inl g_nums))]) (wr := []) F [0, 1, 2] [] [0] rfl rfl (by decide) rfl (by decide) (by decide) rfl (fun sz => K_X2_isInSpans13 l D xe xs xl ef ev eh er n fo wa we cI  sz) (cwV 1 hts gX2_fittingPairs_X2_isInSpans rfl rfl rfl (by decide +kernel) ⟨Nat.le_of_ble_eq_true rfl, Nat.le_of_ble_eq_true rfl⟩) rfl 0 rfl rfl (Nat.le_of_ble_eq_true rfl) ⟨Nat.le_of_ble_eq_true rfl, Nat.le_of_ble_eq_true rfl⟩ dX2_fittingPairs_12 (fun r_66 _ hw_67 => ?_)
  have hw_67 : r_66 = 0 := hw_67
  have e_r_66 := hw_67
  show gG p l e (gR 2 0 0 61) s m args below meth c D A 4 Q 0 0 [(xe, .inr (1, [.ref xs, .ref xl, .ref ef, .ref ev, .int 0, .ref eh, .int 0, .ref er, .int 0, .int 0])), (xs, .inr (6, [.ref n, .ref fo, .ref wa, .ref we])), (n, .inl (cI, 36, .inl g_nums))] [(cI, .int)] [(3, .int 13), (2, .int 1), (0, .ref xe), (1, .int a)] 15 [.int r_66]
  refine g_fold 0 e_r_66 ?_
  refine g_if_eq F 24 dX2_fittingPairs_15 (by decide) (fun c_15 => ?_) (fun h9 => absurd (by decide) h9) 
  refine g_iinc F (j := 0) 14 [(3, .int 14), (2, .int 1), (0, .ref xe), (1, .int a)] dX2_fittingPairs_24 rfl (by decide) (by decide) rfl ?_
  refine g_goto F 4 dX2_fittingPairs_27 (by decide) ?_
  refine g_iload_n F 0 dX2_fittingPairs_4 rfl rfl ?_
  refine g_bipush F 16 dX2_fittingPairs_5 (by decide) ?_
  refine g_icmp_ge F 30 dX2_fittingPairs_7 (by decide) (fun h9 => absurd h9 (by decide)) (fun c_7 => ?_)
  refine g_aload_n F 2 dX2_fittingPairs_10 rfl rfl ?_
  refine g_iload_n F 0 dX2_fittingPairs_11 rfl rfl ?_
  refine g_callVi (k := 0) (n := 0) (b := xe) (As := [.int 14]) (st := []) (wc := [(xe, .inr (1, [.ref xs, .ref xl, .ref ef, .ref ev, .int 0, .ref eh, .int 0, .ref er, .int 0, .int 0])), (xs, .inr (6, [.ref n, .ref fo, .ref wa, .ref we])), (n, .inl (cI, 36, .inl g_nums))]) (wr := []) F [0, 1, 2] [] [0] rfl rfl (by decide) rfl (by decide) (by decide) rfl (fun sz => K_X2_isInSpans14 l D xe xs xl ef ev eh er n fo wa we cI  sz) (cwV 1 hts gX2_fittingPairs_X2_isInSpans rfl rfl rfl (by decide +kernel) ⟨Nat.le_of_ble_eq_true rfl, Nat.le_of_ble_eq_true rfl⟩) rfl 0 rfl rfl (Nat.le_of_ble_eq_true rfl) ⟨Nat.le_of_ble_eq_true rfl, Nat.le_of_ble_eq_true rfl⟩ dX2_fittingPairs_12 (fun r_71 _ hw_72 => ?_)
  have hw_72 : r_71 = 0 := hw_72
  have e_r_71 := hw_72
  show gG p l e (gR 2 0 0 61) s m args below meth c D A 4 Q 0 0 [(xe, .inr (1, [.ref xs, .ref xl, .ref ef, .ref ev, .int 0, .ref eh, .int 0, .ref er, .int 0, .int 0])), (xs, .inr (6, [.ref n, .ref fo, .ref wa, .ref we])), (n, .inl (cI, 36, .inl g_nums))] [(cI, .int)] [(3, .int 14), (2, .int 1), (0, .ref xe), (1, .int a)] 15 [.int r_71]
  refine g_fold 0 e_r_71 ?_
  refine g_if_eq F 24 dX2_fittingPairs_15 (by decide) (fun c_15 => ?_) (fun h9 => absurd (by decide) h9) 
  refine g_iinc F (j := 0) 15 [(3, .int 15), (2, .int 1), (0, .ref xe), (1, .int a)] dX2_fittingPairs_24 rfl (by decide) (by decide) rfl ?_
  refine g_goto F 4 dX2_fittingPairs_27 (by decide) ?_
  refine g_iload_n F 0 dX2_fittingPairs_4 rfl rfl ?_
  refine g_bipush F 16 dX2_fittingPairs_5 (by decide) ?_
  refine g_icmp_ge F 30 dX2_fittingPairs_7 (by decide) (fun h9 => absurd h9 (by decide)) (fun c_7 => ?_)
  refine g_aload_n F 2 dX2_fittingPairs_10 rfl rfl ?_
  refine g_iload_n F 0 dX2_fittingPairs_11 rfl rfl ?_
  refine g_callVi (k := 0) (n := 0) (b := xe) (As := [.int 15]) (st := []) (wc := [(xe, .inr (1, [.ref xs, .ref xl, .ref ef, .ref ev, .int 0, .ref eh, .int 0, .ref er, .int 0, .int 0])), (xs, .inr (6, [.ref n, .ref fo, .ref wa, .ref we])), (n, .inl (cI, 36, .inl g_nums))]) (wr := []) F [0, 1, 2] [] [0] rfl rfl (by decide) rfl (by decide) (by decide) rfl (fun sz => K_X2_isInSpans15 l D xe xs xl ef ev eh er n fo wa we cI  sz) (cwV 1 hts gX2_fittingPairs_X2_isInSpans rfl rfl rfl (by decide +kernel) ⟨Nat.le_of_ble_eq_true rfl, Nat.le_of_ble_eq_true rfl⟩) rfl 0 rfl rfl (Nat.le_of_ble_eq_true rfl) ⟨Nat.le_of_ble_eq_true rfl, Nat.le_of_ble_eq_true rfl⟩ dX2_fittingPairs_12 (fun r_76 _ hw_77 => ?_)
  have hw_77 : r_76 = 0 := hw_77
  have e_r_76 := hw_77
  show gG p l e (gR 2 0 0 61) s m args below meth c D A 4 Q 0 0 [(xe, .inr (1, [.ref xs, .ref xl, .ref ef, .ref ev, .int 0, .ref eh, .int 0, .ref er, .int 0, .int 0])), (xs, .inr (6, [.ref n, .ref fo, .ref wa, .ref we])), (n, .inl (cI, 36, .inl g_nums))] [(cI, .int)] [(3, .int 15), (2, .int 1), (0, .ref xe), (1, .int a)] 15 [.int r_76]
  refine g_fold 0 e_r_76 ?_
  refine g_if_eq F 24 dX2_fittingPairs_15 (by decide) (fun c_15 => ?_) (fun h9 => absurd (by decide) h9) 
  refine g_iinc F (j := 0) 16 [(3, .int 16), (2, .int 1), (0, .ref xe), (1, .int a)] dX2_fittingPairs_24 rfl (by decide) (by decide) rfl ?_
  refine g_goto F 4 dX2_fittingPairs_27 (by decide) ?_
  refine g_iload_n F 0 dX2_fittingPairs_4 rfl rfl ?_
  refine g_bipush F 16 dX2_fittingPairs_5 (by decide) ?_
  refine g_icmp_ge F 30 dX2_fittingPairs_7 (by decide) (fun c_7 => ?_) (fun h9 => absurd (by decide) h9) 
  refine g_iconst F 0 dX2_fittingPairs_30 (by decide) ?_
  refine g_istore_n F [(3, .int 0), (2, .int 1), (0, .ref xe), (1, .int a)] dX2_fittingPairs_31 rfl (by decide) rfl ?_
  refine g_iload_n F 0 dX2_fittingPairs_32 rfl rfl ?_
  refine g_aload_n F 2 dX2_fittingPairs_33 rfl rfl ?_
  refine g_get (C := RX2) (T := TX2) (N := 10) (v := .int 0) F i_X2 0 rfl rfl 6 (by decide) w_0 rfl rfl dX2_fittingPairs_34 ?_
  refine g_icmp_ge F 85 dX2_fittingPairs_37 (by decide) (fun c_37 => ?_) (fun h9 => absurd (by decide) h9) 
  refine g_iload_n F 1 dX2_fittingPairs_85 rfl rfl ?_
  exact g_iret F hA hQ hr () (rfl) [0, 1, 2] [0] rfl (by decide) rfl rfl dX2_fittingPairs_86

theorem dX11_fit_0 : decode cX11_fit 0 = .ok (.iload_n 1, 1) := by decide +kernel
theorem dX11_fit_1 : decode cX11_fit 1 = .ok (.ifCond .lt 10, 3) := by decide +kernel
theorem dX11_fit_4 : decode cX11_fit 4 = .ok (.iload_n 1, 1) := by decide +kernel
theorem dX11_fit_5 : decode cX11_fit 5 = .ok (.sipush 999, 3) := by decide +kernel
theorem dX11_fit_8 : decode cX11_fit 8 = .ok (.if_icmp .le 8, 3) := by decide +kernel
theorem dX11_fit_11 : decode cX11_fit 11 = .ok (.bipush (-2), 2) := by decide +kernel
theorem dX11_fit_13 : decode cX11_fit 13 = .ok (.goto 11, 3) := by decide +kernel
theorem dX11_fit_16 : decode cX11_fit 16 = .ok (.aload_n 0, 1) := by decide +kernel
theorem dX11_fit_17 : decode cX11_fit 17 = .ok (.getfield 74, 3) := by decide +kernel
theorem dX11_fit_20 : decode cX11_fit 20 = .ok (.iload_n 1, 1) := by decide +kernel
theorem dX11_fit_21 : decode cX11_fit 21 = .ok (.invokevirtual 258, 3) := by decide +kernel
theorem dX11_fit_24 : decode cX11_fit 24 = .ok (.ireturn, 1) := by decide +kernel
set_option maxRecDepth 20000 in
theorem ggX11_fit_X2_fittingPairs : GoodIn wsX11_fit wsX2_fittingPairs := goodIn_r _ [6, 7, 8, 9, 10, 11, 5, 12, 13, 14, 15, 16, 17, 18, 19, 20, 21, 22, 23, 24, 25, 40, 41, 42, 43, 44, 45, 46, 47, 48, 49, 50, 51, 52, 53] rfl (by decide +kernel)
set_option maxRecDepth 20000 in
theorem gX11_fit_X2_fittingPairs : GoodIn wsX11_fit (wsV RX11 258 RX2 yX2_fittingPairs wsX2_fittingPairs) := goodIn_app (goodIn_of _ (by decide +kernel)) ggX11_fit_X2_fittingPairs
set_option maxHeartbeats 4000000 in
set_option maxRecDepth 100000 in
theorem K_X11_fit (l : Launch) (D : va_G) (x0 : Nat) (xt : Nat) (xs : Nat) (xq : Nat) (xr : Nat) (xp : Nat) (xl : Nat) (xc : Nat) (xj : Nat) (xe : Nat) (xo : Nat) (pa : Nat) (ef : Nat) (ev : Nat) (eh : Nat) (er : Nat) (n : Nat) (fo : Nat) (wa : Nat) (we : Nat) (cI : ClassId) (a : Int32) (sz : Nat) : Ki l yX11_fit wsX11_fit 3 84 0 0 D [.ref x0, .int a] [(x0, .inr (10, [.ref xt, .ref xs, .ref xq, .ref xr, .ref xp, .ref xl, .ref xc, .ref xj, .ref xe, .ref xo, .ref pa, .int 0, .int 0, .int (-1)])), (xe, .inr (1, [.ref xs, .ref xl, .ref ef, .ref ev, .int 0, .ref eh, .int 0, .ref er, .int 0, .int 0])), (xs, .inr (6, [.ref n, .ref fo, .ref wa, .ref we])), (n, .inl (cI, 36, .inl g_nums))] [(cI, .int)] sz (fun (r : Int32) (_ : Unit) => r = (if 0 ≤ a ∧ a ≤ 999 then 1 else (-2))) (fun (_ : Unit) => [(x0, .inr (10, [.ref xt, .ref xs, .ref xq, .ref xr, .ref xp, .ref xl, .ref xc, .ref xj, .ref xe, .ref xo, .ref pa, .int 0, .int 0, .int (-1)])), (xe, .inr (1, [.ref xs, .ref xl, .ref ef, .ref ev, .int 0, .ref eh, .int 0, .ref er, .int 0, .int 0])), (xs, .inr (6, [.ref n, .ref fo, .ref wa, .ref we])), (n, .inl (cI, 36, .inl g_nums))]) (fun (_ : Unit) => [(cI, .int)]) := by
  unfold Ki
  refine g_ofW (cc := cX11_fit) (lv := [(0, .ref x0), (1, .int a)]) (by decide) rfl (Nat.le_of_ble_eq_true rfl) rfl ?_
  intro p e s m args below meth c A Q hA hQ F hr hnm
  have hts := F.2.2.2.2.1
  have w_0 : (Cond.fieldLink RX11 74 "QuietCut" "ear" "LQuietCut$Ear;").before args s = true := hts _ (List.mem_of_getElem? (i := 1) rfl)
  have i_X11 : ∀ w ∈ u_ws RX11 TX11 14, w ∈ wsX11_fit := fun _ h => List.mem_cons_of_mem _ (List.mem_append_left _ (List.mem_append_left _ (List.mem_append_right _ h)))
  refine g_iload_n F 1 dX11_fit_0 rfl rfl ?_
  refine g_if_lt F 11 dX11_fit_1 (by decide) (fun c_1 => ?_) (fun c_1 => ?_)
  · refine g_bipush F (-2) dX11_fit_11 (by decide) ?_
    refine g_goto F 24 dX11_fit_13 (by decide) ?_
    exact g_iret F hA hQ hr () (by first | exact (gi_e (by (simp only [Int32.lt_iff_toInt_lt, Int32.le_iff_toInt_le, ← Int32.toInt_inj, Int32.reduceToInt] at c_1 ⊢; omega)) rfl)) [0, 1, 2, 3] [0] rfl (by decide) rfl rfl dX11_fit_24
  · refine g_iload_n F 1 dX11_fit_4 rfl rfl ?_
    refine g_sipush F 999 dX11_fit_5 (by decide) ?_
    refine g_icmp_le F 16 dX11_fit_8 (by decide) (fun c_8 => ?_) (fun c_8 => ?_)
    · refine g_aload_n F 0 dX11_fit_16 rfl rfl ?_
      refine g_get (C := RX11) (T := TX11) (N := 14) (v := .ref xe) F i_X11 0 rfl rfl 8 (by decide) w_0 rfl rfl dX11_fit_17 ?_
      refine g_iload_n F 1 dX11_fit_20 rfl rfl ?_
      refine g_callVi (k := 0) (n := 0) (b := xe) (As := [.int a]) (st := []) (wc := [(xe, .inr (1, [.ref xs, .ref xl, .ref ef, .ref ev, .int 0, .ref eh, .int 0, .ref er, .int 0, .int 0])), (xs, .inr (6, [.ref n, .ref fo, .ref wa, .ref we])), (n, .inl (cI, 36, .inl g_nums))]) (wr := [(x0, .inr (10, [.ref xt, .ref xs, .ref xq, .ref xr, .ref xp, .ref xl, .ref xc, .ref xj, .ref xe, .ref xo, .ref pa, .int 0, .int 0, .int (-1)]))]) F [1, 2, 3] [0] [0] rfl rfl (by decide) rfl (by decide) (by decide) rfl (fun sz => K_X2_fittingPairs l D xe xs xl ef ev eh er n fo wa we cI a  sz) (cwV 1 hts gX11_fit_X2_fittingPairs rfl rfl rfl (by decide +kernel) ⟨Nat.le_of_ble_eq_true rfl, Nat.le_of_ble_eq_true rfl⟩) rfl 0 rfl rfl (Nat.le_of_ble_eq_true rfl) ⟨Nat.le_of_ble_eq_true rfl, Nat.le_of_ble_eq_true rfl⟩ dX11_fit_21 (fun r_1 _ hw_2 => ?_)
      have hw_2 : r_1 = 1 := hw_2
      have e_r_1 := hw_2
      show gG p l e (gR 3 0 0 84) s m args below meth c D A 2 Q 0 0 [(x0, .inr (10, [.ref xt, .ref xs, .ref xq, .ref xr, .ref xp, .ref xl, .ref xc, .ref xj, .ref xe, .ref xo, .ref pa, .int 0, .int 0, .int (-1)])), (xe, .inr (1, [.ref xs, .ref xl, .ref ef, .ref ev, .int 0, .ref eh, .int 0, .ref er, .int 0, .int 0])), (xs, .inr (6, [.ref n, .ref fo, .ref wa, .ref we])), (n, .inl (cI, 36, .inl g_nums))] [(cI, .int)] [(0, .ref x0), (1, .int a)] 24 [.int r_1]
      refine g_fold 1 e_r_1 ?_
      exact g_iret F hA hQ hr () (by first | exact (gi_p (by (simp only [Int32.lt_iff_toInt_lt, Int32.le_iff_toInt_le, ← Int32.toInt_inj, Int32.reduceToInt] at c_1 c_8 ⊢; omega)) rfl)) [0, 1, 2, 3] [0] rfl (by decide) rfl rfl dX11_fit_24
    · refine g_bipush F (-2) dX11_fit_11 (by decide) ?_
      refine g_goto F 24 dX11_fit_13 (by decide) ?_
      exact g_iret F hA hQ hr () (by first | exact (gi_e (by (simp only [Int32.lt_iff_toInt_lt, Int32.le_iff_toInt_le, ← Int32.toInt_inj, Int32.reduceToInt] at c_1 c_8 ⊢; omega)) rfl)) [0, 1, 2, 3] [0] rfl (by decide) rfl rfl dX11_fit_24

theorem dJ6_bitCount_0f7a4_0 : decode cJ6_bitCount_0f7a4 0 = .ok (.iload_n 0, 1) := by decide +kernel
theorem dJ6_bitCount_0f7a4_1 : decode cJ6_bitCount_0f7a4 1 = .ok (.iload_n 0, 1) := by decide +kernel
theorem dJ6_bitCount_0f7a4_2 : decode cJ6_bitCount_0f7a4 2 = .ok (.iconst 1, 1) := by decide +kernel
theorem dJ6_bitCount_0f7a4_3 : decode cJ6_bitCount_0f7a4 3 = .ok (.iushr, 1) := by decide +kernel
theorem dJ6_bitCount_0f7a4_4 : decode cJ6_bitCount_0f7a4 4 = .ok (.ldc_w 265, 3) := by decide +kernel
theorem dJ6_bitCount_0f7a4_7 : decode cJ6_bitCount_0f7a4 7 = .ok (.iand, 1) := by decide +kernel
theorem dJ6_bitCount_0f7a4_8 : decode cJ6_bitCount_0f7a4 8 = .ok (.isub, 1) := by decide +kernel
theorem dJ6_bitCount_0f7a4_9 : decode cJ6_bitCount_0f7a4 9 = .ok (.istore_n 0, 1) := by decide +kernel
theorem dJ6_bitCount_0f7a4_10 : decode cJ6_bitCount_0f7a4 10 = .ok (.iload_n 0, 1) := by decide +kernel
theorem dJ6_bitCount_0f7a4_11 : decode cJ6_bitCount_0f7a4 11 = .ok (.ldc_w 266, 3) := by decide +kernel
theorem dJ6_bitCount_0f7a4_14 : decode cJ6_bitCount_0f7a4 14 = .ok (.iand, 1) := by decide +kernel
theorem dJ6_bitCount_0f7a4_15 : decode cJ6_bitCount_0f7a4 15 = .ok (.iload_n 0, 1) := by decide +kernel
theorem dJ6_bitCount_0f7a4_16 : decode cJ6_bitCount_0f7a4 16 = .ok (.iconst 2, 1) := by decide +kernel
theorem dJ6_bitCount_0f7a4_17 : decode cJ6_bitCount_0f7a4 17 = .ok (.iushr, 1) := by decide +kernel
theorem dJ6_bitCount_0f7a4_18 : decode cJ6_bitCount_0f7a4 18 = .ok (.ldc_w 266, 3) := by decide +kernel
theorem dJ6_bitCount_0f7a4_21 : decode cJ6_bitCount_0f7a4 21 = .ok (.iand, 1) := by decide +kernel
theorem dJ6_bitCount_0f7a4_22 : decode cJ6_bitCount_0f7a4 22 = .ok (.iadd, 1) := by decide +kernel
theorem dJ6_bitCount_0f7a4_23 : decode cJ6_bitCount_0f7a4 23 = .ok (.istore_n 0, 1) := by decide +kernel
theorem dJ6_bitCount_0f7a4_24 : decode cJ6_bitCount_0f7a4 24 = .ok (.iload_n 0, 1) := by decide +kernel
theorem dJ6_bitCount_0f7a4_25 : decode cJ6_bitCount_0f7a4 25 = .ok (.iload_n 0, 1) := by decide +kernel
theorem dJ6_bitCount_0f7a4_26 : decode cJ6_bitCount_0f7a4 26 = .ok (.iconst 4, 1) := by decide +kernel
theorem dJ6_bitCount_0f7a4_27 : decode cJ6_bitCount_0f7a4 27 = .ok (.iushr, 1) := by decide +kernel
theorem dJ6_bitCount_0f7a4_28 : decode cJ6_bitCount_0f7a4 28 = .ok (.iadd, 1) := by decide +kernel
theorem dJ6_bitCount_0f7a4_29 : decode cJ6_bitCount_0f7a4 29 = .ok (.ldc_w 267, 3) := by decide +kernel
theorem dJ6_bitCount_0f7a4_32 : decode cJ6_bitCount_0f7a4 32 = .ok (.iand, 1) := by decide +kernel
theorem dJ6_bitCount_0f7a4_33 : decode cJ6_bitCount_0f7a4 33 = .ok (.istore_n 0, 1) := by decide +kernel
theorem dJ6_bitCount_0f7a4_34 : decode cJ6_bitCount_0f7a4 34 = .ok (.iload_n 0, 1) := by decide +kernel
theorem dJ6_bitCount_0f7a4_35 : decode cJ6_bitCount_0f7a4 35 = .ok (.iload_n 0, 1) := by decide +kernel
theorem dJ6_bitCount_0f7a4_36 : decode cJ6_bitCount_0f7a4 36 = .ok (.bipush 8, 2) := by decide +kernel
theorem dJ6_bitCount_0f7a4_38 : decode cJ6_bitCount_0f7a4 38 = .ok (.iushr, 1) := by decide +kernel
theorem dJ6_bitCount_0f7a4_39 : decode cJ6_bitCount_0f7a4 39 = .ok (.iadd, 1) := by decide +kernel
theorem dJ6_bitCount_0f7a4_40 : decode cJ6_bitCount_0f7a4 40 = .ok (.istore_n 0, 1) := by decide +kernel
theorem dJ6_bitCount_0f7a4_41 : decode cJ6_bitCount_0f7a4 41 = .ok (.iload_n 0, 1) := by decide +kernel
theorem dJ6_bitCount_0f7a4_42 : decode cJ6_bitCount_0f7a4 42 = .ok (.iload_n 0, 1) := by decide +kernel
theorem dJ6_bitCount_0f7a4_43 : decode cJ6_bitCount_0f7a4 43 = .ok (.bipush 16, 2) := by decide +kernel
theorem dJ6_bitCount_0f7a4_45 : decode cJ6_bitCount_0f7a4 45 = .ok (.iushr, 1) := by decide +kernel
theorem dJ6_bitCount_0f7a4_46 : decode cJ6_bitCount_0f7a4 46 = .ok (.iadd, 1) := by decide +kernel
theorem dJ6_bitCount_0f7a4_47 : decode cJ6_bitCount_0f7a4 47 = .ok (.istore_n 0, 1) := by decide +kernel
theorem dJ6_bitCount_0f7a4_48 : decode cJ6_bitCount_0f7a4 48 = .ok (.iload_n 0, 1) := by decide +kernel
theorem dJ6_bitCount_0f7a4_49 : decode cJ6_bitCount_0f7a4 49 = .ok (.bipush 63, 2) := by decide +kernel
theorem dJ6_bitCount_0f7a4_51 : decode cJ6_bitCount_0f7a4 51 = .ok (.iand, 1) := by decide +kernel
theorem dJ6_bitCount_0f7a4_52 : decode cJ6_bitCount_0f7a4 52 = .ok (.ireturn, 1) := by decide +kernel
set_option maxHeartbeats 4000000 in
set_option maxRecDepth 100000 in
theorem K_bitCount1 (l : Launch) (D : va_G) (sz : Nat) : Ki l yJ6_bitCount_0f7a4 wsJ6_bitCount_0f7a4 1 30 0 0 D [.int 1] [] [] sz (fun (r : Int32) (_ : Unit) => r = 1) (fun (_ : Unit) => []) (fun (_ : Unit) => []) := by
  unfold Ki
  refine g_ofW (cc := cJ6_bitCount_0f7a4) (lv := [(0, .int 1)]) (by decide) rfl (Nat.le_of_ble_eq_true rfl) rfl ?_
  intro p e s m args below meth c A Q hA hQ F hr hnm
  have hts := F.2.2.2.2.1
  have w_0 : (Cond.constant RJ6 265 (1431655765)).before args s = true := hts _ (List.mem_of_getElem? (i := 1) rfl)
  have w_1 : (Cond.constant RJ6 266 (858993459)).before args s = true := hts _ (List.mem_of_getElem? (i := 2) rfl)
  have w_2 : (Cond.constant RJ6 267 (252645135)).before args s = true := hts _ (List.mem_of_getElem? (i := 3) rfl)
  refine g_iload_n F 0 dJ6_bitCount_0f7a4_0 rfl rfl ?_
  refine g_iload_n F 0 dJ6_bitCount_0f7a4_1 rfl rfl ?_
  refine g_iconst F 1 dJ6_bitCount_0f7a4_2 (by decide) ?_
  refine g_iushr F dJ6_bitCount_0f7a4_3 ?_
  refine g_fold 0 (by decide) ?_
  refine g_ldcw F w_0 dJ6_bitCount_0f7a4_4 ?_
  refine g_iand F dJ6_bitCount_0f7a4_7 ?_
  refine g_fold 0 (by decide) ?_
  refine g_isub F dJ6_bitCount_0f7a4_8 ?_
  refine g_fold 1 (by decide) ?_
  refine g_istore_n F [(0, .int 1)] dJ6_bitCount_0f7a4_9 rfl (by decide) rfl ?_
  refine g_iload_n F 0 dJ6_bitCount_0f7a4_10 rfl rfl ?_
  refine g_ldcw F w_1 dJ6_bitCount_0f7a4_11 ?_
  refine g_iand F dJ6_bitCount_0f7a4_14 ?_
  refine g_fold 1 (by decide) ?_
  refine g_iload_n F 0 dJ6_bitCount_0f7a4_15 rfl rfl ?_
  refine g_iconst F 2 dJ6_bitCount_0f7a4_16 (by decide) ?_
  refine g_iushr F dJ6_bitCount_0f7a4_17 ?_
  refine g_fold 0 (by decide) ?_
  refine g_ldcw F w_1 dJ6_bitCount_0f7a4_18 ?_
  refine g_iand F dJ6_bitCount_0f7a4_21 ?_
  refine g_fold 0 (by decide) ?_
  refine g_iadd F dJ6_bitCount_0f7a4_22 ?_
  refine g_fold 1 (by decide) ?_
  refine g_istore_n F [(0, .int 1)] dJ6_bitCount_0f7a4_23 rfl (by decide) rfl ?_
  refine g_iload_n F 0 dJ6_bitCount_0f7a4_24 rfl rfl ?_
  refine g_iload_n F 0 dJ6_bitCount_0f7a4_25 rfl rfl ?_
  refine g_iconst F 4 dJ6_bitCount_0f7a4_26 (by decide) ?_
  refine g_iushr F dJ6_bitCount_0f7a4_27 ?_
  refine g_fold 0 (by decide) ?_
  refine g_iadd F dJ6_bitCount_0f7a4_28 ?_
  refine g_fold 1 (by decide) ?_
  refine g_ldcw F w_2 dJ6_bitCount_0f7a4_29 ?_
  refine g_iand F dJ6_bitCount_0f7a4_32 ?_
  refine g_fold 1 (by decide) ?_
  refine g_istore_n F [(0, .int 1)] dJ6_bitCount_0f7a4_33 rfl (by decide) rfl ?_
  refine g_iload_n F 0 dJ6_bitCount_0f7a4_34 rfl rfl ?_
  refine g_iload_n F 0 dJ6_bitCount_0f7a4_35 rfl rfl ?_
  refine g_bipush F 8 dJ6_bitCount_0f7a4_36 (by decide) ?_
  refine g_iushr F dJ6_bitCount_0f7a4_38 ?_
  refine g_fold 0 (by decide) ?_
  refine g_iadd F dJ6_bitCount_0f7a4_39 ?_
  refine g_fold 1 (by decide) ?_
  refine g_istore_n F [(0, .int 1)] dJ6_bitCount_0f7a4_40 rfl (by decide) rfl ?_
  refine g_iload_n F 0 dJ6_bitCount_0f7a4_41 rfl rfl ?_
  refine g_iload_n F 0 dJ6_bitCount_0f7a4_42 rfl rfl ?_
  refine g_bipush F 16 dJ6_bitCount_0f7a4_43 (by decide) ?_
  refine g_iushr F dJ6_bitCount_0f7a4_45 ?_
  refine g_fold 0 (by decide) ?_
  refine g_iadd F dJ6_bitCount_0f7a4_46 ?_
  refine g_fold 1 (by decide) ?_
  refine g_istore_n F [(0, .int 1)] dJ6_bitCount_0f7a4_47 rfl (by decide) rfl ?_
  refine g_iload_n F 0 dJ6_bitCount_0f7a4_48 rfl rfl ?_
  refine g_bipush F 63 dJ6_bitCount_0f7a4_49 (by decide) ?_
  refine g_iand F dJ6_bitCount_0f7a4_51 ?_
  refine g_fold 1 (by decide) ?_
  exact g_iret F hA hQ hr () (rfl) [] [] rfl (by decide) rfl rfl dJ6_bitCount_0f7a4_52

theorem dX2_nextOffer_0 : decode cX2_nextOffer 0 = .ok (.aload_n 0, 1) := by decide +kernel
theorem dX2_nextOffer_1 : decode cX2_nextOffer 1 = .ok (.sipush 999, 3) := by decide +kernel
theorem dX2_nextOffer_4 : decode cX2_nextOffer 4 = .ok (.invokevirtual 83, 3) := by decide +kernel
theorem dX2_nextOffer_7 : decode cX2_nextOffer 7 = .ok (.istore_n 1, 1) := by decide +kernel
theorem dX2_nextOffer_8 : decode cX2_nextOffer 8 = .ok (.iconst (-1), 1) := by decide +kernel
theorem dX2_nextOffer_9 : decode cX2_nextOffer 9 = .ok (.istore_n 2, 1) := by decide +kernel
theorem dX2_nextOffer_10 : decode cX2_nextOffer 10 = .ok (.iload_n 1, 1) := by decide +kernel
theorem dX2_nextOffer_11 : decode cX2_nextOffer 11 = .ok (.invokestatic 86, 3) := by decide +kernel
theorem dX2_nextOffer_14 : decode cX2_nextOffer 14 = .ok (.istore_n 3, 1) := by decide +kernel
theorem dX2_nextOffer_15 : decode cX2_nextOffer 15 = .ok (.iconst 0, 1) := by decide +kernel
theorem dX2_nextOffer_16 : decode cX2_nextOffer 16 = .ok (.istore 4, 2) := by decide +kernel
theorem dX2_nextOffer_18 : decode cX2_nextOffer 18 = .ok (.iload 4, 2) := by decide +kernel
theorem dX2_nextOffer_20 : decode cX2_nextOffer 20 = .ok (.aload_n 0, 1) := by decide +kernel
theorem dX2_nextOffer_21 : decode cX2_nextOffer 21 = .ok (.getfield 40, 3) := by decide +kernel
theorem dX2_nextOffer_24 : decode cX2_nextOffer 24 = .ok (.if_icmp .ge 59, 3) := by decide +kernel
theorem dX2_nextOffer_27 : decode cX2_nextOffer 27 = .ok (.iconst 0, 1) := by decide +kernel
theorem dX2_nextOffer_28 : decode cX2_nextOffer 28 = .ok (.istore 5, 2) := by decide +kernel
theorem dX2_nextOffer_30 : decode cX2_nextOffer 30 = .ok (.iconst 0, 1) := by decide +kernel
theorem dX2_nextOffer_31 : decode cX2_nextOffer 31 = .ok (.istore 6, 2) := by decide +kernel
theorem dX2_nextOffer_33 : decode cX2_nextOffer 33 = .ok (.iload 6, 2) := by decide +kernel
theorem dX2_nextOffer_35 : decode cX2_nextOffer 35 = .ok (.iconst 2, 1) := by decide +kernel
theorem dX2_nextOffer_36 : decode cX2_nextOffer 36 = .ok (.if_icmp .gt 29, 3) := by decide +kernel
theorem dX2_nextOffer_39 : decode cX2_nextOffer 39 = .ok (.iload 5, 2) := by decide +kernel
theorem dX2_nextOffer_41 : decode cX2_nextOffer 41 = .ok (.iload_n 1, 1) := by decide +kernel
theorem dX2_nextOffer_42 : decode cX2_nextOffer 42 = .ok (.aload_n 0, 1) := by decide +kernel
theorem dX2_nextOffer_43 : decode cX2_nextOffer 43 = .ok (.iload 4, 2) := by decide +kernel
theorem dX2_nextOffer_45 : decode cX2_nextOffer 45 = .ok (.iload 6, 2) := by decide +kernel
theorem dX2_nextOffer_47 : decode cX2_nextOffer 47 = .ok (.invokevirtual 80, 3) := by decide +kernel
theorem dX2_nextOffer_50 : decode cX2_nextOffer 50 = .ok (.iand, 1) := by decide +kernel
theorem dX2_nextOffer_51 : decode cX2_nextOffer 51 = .ok (.invokestatic 86, 3) := by decide +kernel
theorem dX2_nextOffer_54 : decode cX2_nextOffer 54 = .ok (.invokestatic 91, 3) := by decide +kernel
theorem dX2_nextOffer_57 : decode cX2_nextOffer 57 = .ok (.istore 5, 2) := by decide +kernel
theorem dX2_nextOffer_59 : decode cX2_nextOffer 59 = .ok (.iinc 6 1, 3) := by decide +kernel
theorem dX2_nextOffer_62 : decode cX2_nextOffer 62 = .ok (.goto (-29), 3) := by decide +kernel
theorem dX2_nextOffer_65 : decode cX2_nextOffer 65 = .ok (.iload 5, 2) := by decide +kernel
theorem dX2_nextOffer_67 : decode cX2_nextOffer 67 = .ok (.iload_n 3, 1) := by decide +kernel
theorem dX2_nextOffer_68 : decode cX2_nextOffer 68 = .ok (.if_icmp .ge 9, 3) := by decide +kernel
theorem dX2_nextOffer_71 : decode cX2_nextOffer 71 = .ok (.iload 4, 2) := by decide +kernel
theorem dX2_nextOffer_73 : decode cX2_nextOffer 73 = .ok (.istore_n 2, 1) := by decide +kernel
theorem dX2_nextOffer_74 : decode cX2_nextOffer 74 = .ok (.iload 5, 2) := by decide +kernel
theorem dX2_nextOffer_76 : decode cX2_nextOffer 76 = .ok (.istore_n 3, 1) := by decide +kernel
theorem dX2_nextOffer_77 : decode cX2_nextOffer 77 = .ok (.iinc 4 1, 3) := by decide +kernel
theorem dX2_nextOffer_80 : decode cX2_nextOffer 80 = .ok (.goto (-62), 3) := by decide +kernel
theorem dX2_nextOffer_83 : decode cX2_nextOffer 83 = .ok (.iload_n 2, 1) := by decide +kernel
theorem dX2_nextOffer_84 : decode cX2_nextOffer 84 = .ok (.ireturn, 1) := by decide +kernel
set_option maxRecDepth 20000 in
theorem ggX2_nextOffer_J6_bitCount_0f7a4 : GoodIn wsX2_nextOffer wsJ6_bitCount_0f7a4 := goodIn_r _ [33, 34, 35, 36] rfl (by decide +kernel)
set_option maxRecDepth 20000 in
theorem gX2_nextOffer_J6_bitCount_0f7a4 : GoodIn wsX2_nextOffer (va_wsS RX2 86 yJ6_bitCount_0f7a4 wsJ6_bitCount_0f7a4) := goodIn_app (goodIn_of _ (by decide +kernel)) ggX2_nextOffer_J6_bitCount_0f7a4
set_option maxRecDepth 20000 in
theorem ggX2_nextOffer_X2_fittingPairs : GoodIn wsX2_nextOffer wsX2_fittingPairs := goodIn_r _ [10, 11, 12, 13, 14, 15, 9, 16, 17, 18, 19, 20, 21, 22, 23, 24, 25, 26, 27, 28, 29, 37, 38, 39, 40, 41, 42, 43, 44, 45, 46, 47, 48, 49, 50] rfl (by decide +kernel)
set_option maxRecDepth 20000 in
theorem gX2_nextOffer_X2_fittingPairs : GoodIn wsX2_nextOffer (wsV RX2 83 RX2 yX2_fittingPairs wsX2_fittingPairs) := goodIn_app (goodIn_of _ (by decide +kernel)) ggX2_nextOffer_X2_fittingPairs
set_option maxHeartbeats 4000000 in
set_option maxRecDepth 100000 in
theorem K_X2_nextOffer (l : Launch) (D : va_G) (xe : Nat) (xs : Nat) (xl : Nat) (ef : Nat) (ev : Nat) (eh : Nat) (er : Nat) (n : Nat) (fo : Nat) (wa : Nat) (we : Nat) (cI : ClassId) (sz : Nat) : Ki l yX2_nextOffer wsX2_nextOffer 3 84 0 0 D [.ref xe] [(xe, .inr (1, [.ref xs, .ref xl, .ref ef, .ref ev, .int 0, .ref eh, .int 0, .ref er, .int 0, .int 0])), (xs, .inr (6, [.ref n, .ref fo, .ref wa, .ref we])), (n, .inl (cI, 36, .inl g_nums))] [(cI, .int)] sz (fun (r : Int32) (_ : Unit) => r = (-1)) (fun (_ : Unit) => [(xe, .inr (1, [.ref xs, .ref xl, .ref ef, .ref ev, .int 0, .ref eh, .int 0, .ref er, .int 0, .int 0])), (xs, .inr (6, [.ref n, .ref fo, .ref wa, .ref we])), (n, .inl (cI, 36, .inl g_nums))]) (fun (_ : Unit) => [(cI, .int)]) := by
  unfold Ki
  refine g_ofW (cc := cX2_nextOffer) (lv := [(0, .ref xe)]) (by decide) rfl (Nat.le_of_ble_eq_true rfl) rfl ?_
  intro p e s m args below meth c A Q hA hQ F hr hnm
  have hts := F.2.2.2.2.1
  have w_0 : (Cond.fieldLink RX2 40 "QuietCut$Ear" "offers" "I").before args s = true := hts _ (List.mem_of_getElem? (i := 1) rfl)
  have i_X2 : ∀ w ∈ u_ws RX2 TX2 10, w ∈ wsX2_nextOffer := fun _ h => List.mem_cons_of_mem _ (List.mem_append_left _ (List.mem_append_right _ h))
  refine g_aload_n F 0 dX2_nextOffer_0 rfl rfl ?_
  refine g_sipush F 999 dX2_nextOffer_1 (by decide) ?_
  refine g_callVi (k := 0) (n := 0) (b := xe) (As := [.int 999]) (st := []) (wc := [(xe, .inr (1, [.ref xs, .ref xl, .ref ef, .ref ev, .int 0, .ref eh, .int 0, .ref er, .int 0, .int 0])), (xs, .inr (6, [.ref n, .ref fo, .ref wa, .ref we])), (n, .inl (cI, 36, .inl g_nums))]) (wr := []) F [0, 1, 2] [] [0] rfl rfl (by decide) rfl (by decide) (by decide) rfl (fun sz => K_X2_fittingPairs l D xe xs xl ef ev eh er n fo wa we cI 999  sz) (cwV 1 hts gX2_nextOffer_X2_fittingPairs rfl rfl rfl (by decide +kernel) ⟨Nat.le_of_ble_eq_true rfl, Nat.le_of_ble_eq_true rfl⟩) rfl 0 rfl rfl (Nat.le_of_ble_eq_true rfl) ⟨Nat.le_of_ble_eq_true rfl, Nat.le_of_ble_eq_true rfl⟩ dX2_nextOffer_4 (fun r_1 _ hw_2 => ?_)
  have hw_2 : r_1 = 1 := hw_2
  have e_r_1 := hw_2
  show gG p l e (gR 3 0 0 84) s m args below meth c D A 7 Q 0 0 [(xe, .inr (1, [.ref xs, .ref xl, .ref ef, .ref ev, .int 0, .ref eh, .int 0, .ref er, .int 0, .int 0])), (xs, .inr (6, [.ref n, .ref fo, .ref wa, .ref we])), (n, .inl (cI, 36, .inl g_nums))] [(cI, .int)] [(0, .ref xe)] 7 [.int r_1]
  refine g_fold 1 e_r_1 ?_
  refine g_istore_n F [(1, .int 1), (0, .ref xe)] dX2_nextOffer_7 rfl (by decide) rfl ?_
  refine g_iconst F (-1) dX2_nextOffer_8 (by decide) ?_
  refine g_istore_n F [(2, .int (-1)), (1, .int 1), (0, .ref xe)] dX2_nextOffer_9 rfl (by decide) rfl ?_
  refine g_iload_n F 1 dX2_nextOffer_10 rfl rfl ?_
  refine g_callSi (k := 0) (n := 0) (As := [.int 1]) (st := []) (wc := []) (wr := [(xe, .inr (1, [.ref xs, .ref xl, .ref ef, .ref ev, .int 0, .ref eh, .int 0, .ref er, .int 0, .int 0])), (xs, .inr (6, [.ref n, .ref fo, .ref wa, .ref we])), (n, .inl (cI, 36, .inl g_nums))]) F [] [0, 1, 2] [] rfl rfl (by decide) rfl (by decide) (by decide) rfl (fun sz => K_bitCount1 l D   sz) (va_cwS 1 hts gX2_nextOffer_J6_bitCount_0f7a4 rfl rfl rfl (by decide +kernel) ⟨Nat.le_of_ble_eq_true rfl, Nat.le_of_ble_eq_true rfl⟩) rfl (Nat.le_of_ble_eq_true rfl) ⟨Nat.le_of_ble_eq_true rfl, Nat.le_of_ble_eq_true rfl⟩ dX2_nextOffer_11 (fun r_6 _ hw_7 => ?_)
  have hw_7 : r_6 = 1 := hw_7
  have e_r_6 := hw_7
  show gG p l e (gR 3 0 0 84) s m args below meth c D A 7 Q 0 0 [(xe, .inr (1, [.ref xs, .ref xl, .ref ef, .ref ev, .int 0, .ref eh, .int 0, .ref er, .int 0, .int 0])), (xs, .inr (6, [.ref n, .ref fo, .ref wa, .ref we])), (n, .inl (cI, 36, .inl g_nums))] [(cI, .int)] [(2, .int (-1)), (1, .int 1), (0, .ref xe)] 14 [.int r_6]
  refine g_fold 1 e_r_6 ?_
  refine g_istore_n F [(3, .int 1), (2, .int (-1)), (1, .int 1), (0, .ref xe)] dX2_nextOffer_14 rfl (by decide) rfl ?_
  refine g_iconst F 0 dX2_nextOffer_15 (by decide) ?_
  refine g_istore F [(4, .int 0), (3, .int 1), (2, .int (-1)), (1, .int 1), (0, .ref xe)] dX2_nextOffer_16 (by decide) rfl ?_
  refine g_iload F 0 dX2_nextOffer_18 rfl ?_
  refine g_aload_n F 4 dX2_nextOffer_20 rfl rfl ?_
  refine g_get (C := RX2) (T := TX2) (N := 10) (v := .int 0) F i_X2 0 rfl rfl 4 (by decide) w_0 rfl rfl dX2_nextOffer_21 ?_
  refine g_icmp_ge F 83 dX2_nextOffer_24 (by decide) (fun c_24 => ?_) (fun h9 => absurd (by decide) h9) 
  refine g_iload_n F 2 dX2_nextOffer_83 rfl rfl ?_
  exact g_iret F hA hQ hr () (rfl) [0, 1, 2] [0] rfl (by decide) rfl rfl dX2_nextOffer_84

theorem dX11_next_0 : decode cX11_next 0 = .ok (.aload_n 0, 1) := by decide +kernel
theorem dX11_next_1 : decode cX11_next 1 = .ok (.getfield 74, 3) := by decide +kernel
theorem dX11_next_4 : decode cX11_next 4 = .ok (.invokevirtual 261, 3) := by decide +kernel
theorem dX11_next_7 : decode cX11_next 7 = .ok (.ireturn, 1) := by decide +kernel
set_option maxRecDepth 20000 in
theorem ggX11_next_X2_nextOffer : GoodIn wsX11_next wsX2_nextOffer := goodIn_r _ [6, 7, 8, 9, 10, 11, 12, 13, 14, 5, 15, 16, 17, 18, 19, 20, 21, 22, 23, 24, 25, 26, 27, 28, 29, 30, 31, 32, 33, 34, 35, 36, 37, 38, 39, 40, 41, 56, 57, 58, 59, 60, 61, 62, 63, 64, 65, 66, 67, 68, 69] rfl (by decide +kernel)
set_option maxRecDepth 20000 in
theorem gX11_next_X2_nextOffer : GoodIn wsX11_next (wsV RX11 261 RX2 yX2_nextOffer wsX2_nextOffer) := goodIn_app (goodIn_of _ (by decide +kernel)) ggX11_next_X2_nextOffer
set_option maxHeartbeats 4000000 in
set_option maxRecDepth 100000 in
theorem K_X11_next (l : Launch) (D : va_G) (x0 : Nat) (xt : Nat) (xs : Nat) (xq : Nat) (xr : Nat) (xp : Nat) (xl : Nat) (xc : Nat) (xj : Nat) (xe : Nat) (xo : Nat) (pa : Nat) (ef : Nat) (ev : Nat) (eh : Nat) (er : Nat) (n : Nat) (fo : Nat) (wa : Nat) (we : Nat) (cI : ClassId) (sz : Nat) : Ki l yX11_next wsX11_next 4 110 0 0 D [.ref x0] [(x0, .inr (10, [.ref xt, .ref xs, .ref xq, .ref xr, .ref xp, .ref xl, .ref xc, .ref xj, .ref xe, .ref xo, .ref pa, .int 0, .int 0, .int (-1)])), (xe, .inr (1, [.ref xs, .ref xl, .ref ef, .ref ev, .int 0, .ref eh, .int 0, .ref er, .int 0, .int 0])), (xs, .inr (6, [.ref n, .ref fo, .ref wa, .ref we])), (n, .inl (cI, 36, .inl g_nums))] [(cI, .int)] sz (fun (r : Int32) (_ : Unit) => r = (-1)) (fun (_ : Unit) => [(x0, .inr (10, [.ref xt, .ref xs, .ref xq, .ref xr, .ref xp, .ref xl, .ref xc, .ref xj, .ref xe, .ref xo, .ref pa, .int 0, .int 0, .int (-1)])), (xe, .inr (1, [.ref xs, .ref xl, .ref ef, .ref ev, .int 0, .ref eh, .int 0, .ref er, .int 0, .int 0])), (xs, .inr (6, [.ref n, .ref fo, .ref wa, .ref we])), (n, .inl (cI, 36, .inl g_nums))]) (fun (_ : Unit) => [(cI, .int)]) := by
  unfold Ki
  refine g_ofW (cc := cX11_next) (lv := [(0, .ref x0)]) (by decide) rfl (Nat.le_of_ble_eq_true rfl) rfl ?_
  intro p e s m args below meth c A Q hA hQ F hr hnm
  have hts := F.2.2.2.2.1
  have w_0 : (Cond.fieldLink RX11 74 "QuietCut" "ear" "LQuietCut$Ear;").before args s = true := hts _ (List.mem_of_getElem? (i := 1) rfl)
  have i_X11 : ∀ w ∈ u_ws RX11 TX11 14, w ∈ wsX11_next := fun _ h => List.mem_cons_of_mem _ (List.mem_append_left _ (List.mem_append_left _ (List.mem_append_right _ h)))
  refine g_aload_n F 0 dX11_next_0 rfl rfl ?_
  refine g_get (C := RX11) (T := TX11) (N := 14) (v := .ref xe) F i_X11 0 rfl rfl 8 (by decide) w_0 rfl rfl dX11_next_1 ?_
  refine g_callVi (k := 0) (n := 0) (b := xe) (As := []) (st := []) (wc := [(xe, .inr (1, [.ref xs, .ref xl, .ref ef, .ref ev, .int 0, .ref eh, .int 0, .ref er, .int 0, .int 0])), (xs, .inr (6, [.ref n, .ref fo, .ref wa, .ref we])), (n, .inl (cI, 36, .inl g_nums))]) (wr := [(x0, .inr (10, [.ref xt, .ref xs, .ref xq, .ref xr, .ref xp, .ref xl, .ref xc, .ref xj, .ref xe, .ref xo, .ref pa, .int 0, .int 0, .int (-1)]))]) F [1, 2, 3] [0] [0] rfl rfl (by decide) rfl (by decide) (by decide) rfl (fun sz => K_X2_nextOffer l D xe xs xl ef ev eh er n fo wa we cI  sz) (cwV 0 hts gX11_next_X2_nextOffer rfl rfl rfl (by decide +kernel) ⟨Nat.le_of_ble_eq_true rfl, Nat.le_of_ble_eq_true rfl⟩) rfl 0 rfl rfl (Nat.le_of_ble_eq_true rfl) ⟨Nat.le_of_ble_eq_true rfl, Nat.le_of_ble_eq_true rfl⟩ dX11_next_4 (fun r_1 _ hw_2 => ?_)
  have hw_2 : r_1 = (-1) := hw_2
  have e_r_1 := hw_2
  show gG p l e (gR 4 0 0 110) s m args below meth c D A 1 Q 0 0 [(x0, .inr (10, [.ref xt, .ref xs, .ref xq, .ref xr, .ref xp, .ref xl, .ref xc, .ref xj, .ref xe, .ref xo, .ref pa, .int 0, .int 0, .int (-1)])), (xe, .inr (1, [.ref xs, .ref xl, .ref ef, .ref ev, .int 0, .ref eh, .int 0, .ref er, .int 0, .int 0])), (xs, .inr (6, [.ref n, .ref fo, .ref wa, .ref we])), (n, .inl (cI, 36, .inl g_nums))] [(cI, .int)] [(0, .ref x0)] 7 [.int r_1]
  refine g_fold (-1) e_r_1 ?_
  exact g_iret F hA hQ hr () (rfl) [0, 1, 2, 3] [0] rfl (by decide) rfl rfl dX11_next_7

theorem dX9_firstRinging_0 : decode cX9_firstRinging 0 = .ok (.iconst 0, 1) := by decide +kernel
theorem dX9_firstRinging_1 : decode cX9_firstRinging 1 = .ok (.istore 5, 2) := by decide +kernel
theorem dX9_firstRinging_3 : decode cX9_firstRinging 3 = .ok (.iload_n 1, 1) := by decide +kernel
theorem dX9_firstRinging_4 : decode cX9_firstRinging 4 = .ok (.istore 6, 2) := by decide +kernel
theorem dX9_firstRinging_6 : decode cX9_firstRinging 6 = .ok (.iload 6, 2) := by decide +kernel
theorem dX9_firstRinging_8 : decode cX9_firstRinging 8 = .ok (.aload_n 0, 1) := by decide +kernel
theorem dX9_firstRinging_9 : decode cX9_firstRinging 9 = .ok (.getfield 41, 3) := by decide +kernel
theorem dX9_firstRinging_12 : decode cX9_firstRinging 12 = .ok (.if_icmp .ge 60, 3) := by decide +kernel
theorem dX9_firstRinging_15 : decode cX9_firstRinging 15 = .ok (.aload_n 0, 1) := by decide +kernel
theorem dX9_firstRinging_16 : decode cX9_firstRinging 16 = .ok (.iload 6, 2) := by decide +kernel
theorem dX9_firstRinging_18 : decode cX9_firstRinging 18 = .ok (.iload_n 1, 1) := by decide +kernel
theorem dX9_firstRinging_19 : decode cX9_firstRinging 19 = .ok (.invokevirtual 56, 3) := by decide +kernel
theorem dX9_firstRinging_22 : decode cX9_firstRinging 22 = .ok (.iload 4, 2) := by decide +kernel
theorem dX9_firstRinging_24 : decode cX9_firstRinging 24 = .ok (.if_icmp .le 6, 3) := by decide +kernel
theorem dX9_firstRinging_27 : decode cX9_firstRinging 27 = .ok (.iinc 5 1, 3) := by decide +kernel
theorem dX9_firstRinging_30 : decode cX9_firstRinging 30 = .ok (.iload 6, 2) := by decide +kernel
theorem dX9_firstRinging_32 : decode cX9_firstRinging 32 = .ok (.iload_n 2, 1) := by decide +kernel
theorem dX9_firstRinging_33 : decode cX9_firstRinging 33 = .ok (.isub, 1) := by decide +kernel
theorem dX9_firstRinging_34 : decode cX9_firstRinging 34 = .ok (.istore 7, 2) := by decide +kernel
theorem dX9_firstRinging_36 : decode cX9_firstRinging 36 = .ok (.iload 7, 2) := by decide +kernel
theorem dX9_firstRinging_38 : decode cX9_firstRinging 38 = .ok (.iload_n 1, 1) := by decide +kernel
theorem dX9_firstRinging_39 : decode cX9_firstRinging 39 = .ok (.if_icmp .lt 18, 3) := by decide +kernel
theorem dX9_firstRinging_42 : decode cX9_firstRinging 42 = .ok (.aload_n 0, 1) := by decide +kernel
theorem dX9_firstRinging_43 : decode cX9_firstRinging 43 = .ok (.iload 7, 2) := by decide +kernel
theorem dX9_firstRinging_45 : decode cX9_firstRinging 45 = .ok (.iload_n 1, 1) := by decide +kernel
theorem dX9_firstRinging_46 : decode cX9_firstRinging 46 = .ok (.invokevirtual 56, 3) := by decide +kernel
theorem dX9_firstRinging_49 : decode cX9_firstRinging 49 = .ok (.iload 4, 2) := by decide +kernel
theorem dX9_firstRinging_51 : decode cX9_firstRinging 51 = .ok (.if_icmp .le 6, 3) := by decide +kernel
theorem dX9_firstRinging_54 : decode cX9_firstRinging 54 = .ok (.iinc 5 (-1), 3) := by decide +kernel
theorem dX9_firstRinging_57 : decode cX9_firstRinging 57 = .ok (.iload 5, 2) := by decide +kernel
theorem dX9_firstRinging_59 : decode cX9_firstRinging 59 = .ok (.iload_n 3, 1) := by decide +kernel
theorem dX9_firstRinging_60 : decode cX9_firstRinging 60 = .ok (.if_icmp .lt 6, 3) := by decide +kernel
theorem dX9_firstRinging_63 : decode cX9_firstRinging 63 = .ok (.iload 6, 2) := by decide +kernel
theorem dX9_firstRinging_65 : decode cX9_firstRinging 65 = .ok (.ireturn, 1) := by decide +kernel
theorem dX9_firstRinging_66 : decode cX9_firstRinging 66 = .ok (.iinc 6 1, 3) := by decide +kernel
theorem dX9_firstRinging_69 : decode cX9_firstRinging 69 = .ok (.goto (-63), 3) := by decide +kernel
theorem dX9_firstRinging_72 : decode cX9_firstRinging 72 = .ok (.iconst (-1), 1) := by decide +kernel
theorem dX9_firstRinging_73 : decode cX9_firstRinging 73 = .ok (.ireturn, 1) := by decide +kernel
set_option maxHeartbeats 4000000 in
set_option maxRecDepth 100000 in
theorem K_X9_firstRinging (l : Launch) (D : va_G) (xo : Nat) (sn : Nat) (sp : Nat) (a : Int32) (b : Int32) (d : Int32) (h : Int32) (ha : 1 ≤ a) (sz : Nat) : Ki l yX9_firstRinging wsX9_firstRinging 1 40 0 0 D [.ref xo, .int a, .int b, .int d, .int h] [(xo, .inr (8, [.ref sn, .ref sp, .int 0]))] [] sz (fun (r : Int32) (_ : Unit) => r = (-1)) (fun (_ : Unit) => [(xo, .inr (8, [.ref sn, .ref sp, .int 0]))]) (fun (_ : Unit) => []) := by
  unfold Ki
  refine g_ofW (cc := cX9_firstRinging) (lv := [(0, .ref xo), (1, .int a), (2, .int b), (3, .int d), (4, .int h)]) (by decide) rfl (Nat.le_of_ble_eq_true rfl) rfl ?_
  intro p e s m args below meth c A Q hA hQ F hr hnm
  have hts := F.2.2.2.2.1
  have w_0 : (Cond.fieldLink RX9 41 "QuietCut$Sound" "many" "I").before args s = true := hts _ (List.mem_of_getElem? (i := 1) rfl)
  have i_X9 : ∀ w ∈ u_ws RX9 TX9 3, w ∈ wsX9_firstRinging := fun _ h => List.mem_cons_of_mem _ (List.mem_append_right _ h)
  refine g_iconst F 0 dX9_firstRinging_0 (by decide) ?_
  refine g_istore F [(5, .int 0), (0, .ref xo), (1, .int a), (2, .int b), (3, .int d), (4, .int h)] dX9_firstRinging_1 (by decide) rfl ?_
  refine g_iload_n F 2 dX9_firstRinging_3 rfl rfl ?_
  refine g_istore F [(6, .int a), (5, .int 0), (0, .ref xo), (1, .int a), (2, .int b), (3, .int d), (4, .int h)] dX9_firstRinging_4 (by decide) rfl ?_
  refine g_iload F 0 dX9_firstRinging_6 rfl ?_
  refine g_aload_n F 2 dX9_firstRinging_8 rfl rfl ?_
  refine g_get (C := RX9) (T := TX9) (N := 3) (v := .int 0) F i_X9 0 rfl rfl 2 (by decide) w_0 rfl rfl dX9_firstRinging_9 ?_
  refine g_icmp_ge F 72 dX9_firstRinging_12 (by decide) (fun c_12 => ?_) (fun h9 => absurd (by (simp only [Int32.lt_iff_toInt_lt, Int32.le_iff_toInt_le, ← Int32.toInt_inj, Int32.reduceToInt] at ha ⊢; omega)) h9) 
  refine g_iconst F (-1) dX9_firstRinging_72 (by decide) ?_
  exact g_iret F hA hQ hr () (rfl) [0] [] rfl (by decide) rfl rfl dX9_firstRinging_73

theorem dX11_ringsOut_0 : decode cX11_ringsOut 0 = .ok (.iload_n 1, 1) := by decide +kernel
theorem dX11_ringsOut_1 : decode cX11_ringsOut 1 = .ok (.invokestatic 270, 3) := by decide +kernel
theorem dX11_ringsOut_4 : decode cX11_ringsOut 4 = .ok (.ifCond .eq 37, 3) := by decide +kernel
theorem dX11_ringsOut_7 : decode cX11_ringsOut 7 = .ok (.iload_n 2, 1) := by decide +kernel
theorem dX11_ringsOut_8 : decode cX11_ringsOut 8 = .ok (.iconst 1, 1) := by decide +kernel
theorem dX11_ringsOut_9 : decode cX11_ringsOut 9 = .ok (.if_icmp .lt 32, 3) := by decide +kernel
theorem dX11_ringsOut_12 : decode cX11_ringsOut 12 = .ok (.iload_n 2, 1) := by decide +kernel
theorem dX11_ringsOut_13 : decode cX11_ringsOut 13 = .ok (.bipush 60, 2) := by decide +kernel
theorem dX11_ringsOut_15 : decode cX11_ringsOut 15 = .ok (.if_icmp .gt 26, 3) := by decide +kernel
theorem dX11_ringsOut_18 : decode cX11_ringsOut 18 = .ok (.iload_n 3, 1) := by decide +kernel
theorem dX11_ringsOut_19 : decode cX11_ringsOut 19 = .ok (.iconst 1, 1) := by decide +kernel
theorem dX11_ringsOut_20 : decode cX11_ringsOut 20 = .ok (.if_icmp .lt 21, 3) := by decide +kernel
theorem dX11_ringsOut_23 : decode cX11_ringsOut 23 = .ok (.iload_n 3, 1) := by decide +kernel
theorem dX11_ringsOut_24 : decode cX11_ringsOut 24 = .ok (.iload_n 2, 1) := by decide +kernel
theorem dX11_ringsOut_25 : decode cX11_ringsOut 25 = .ok (.if_icmp .gt 16, 3) := by decide +kernel
theorem dX11_ringsOut_28 : decode cX11_ringsOut 28 = .ok (.iload 4, 2) := by decide +kernel
theorem dX11_ringsOut_30 : decode cX11_ringsOut 30 = .ok (.ifCond .lt 11, 3) := by decide +kernel
theorem dX11_ringsOut_33 : decode cX11_ringsOut 33 = .ok (.iload 4, 2) := by decide +kernel
theorem dX11_ringsOut_35 : decode cX11_ringsOut 35 = .ok (.sipush 9999, 3) := by decide +kernel
theorem dX11_ringsOut_38 : decode cX11_ringsOut 38 = .ok (.if_icmp .le 6, 3) := by decide +kernel
theorem dX11_ringsOut_41 : decode cX11_ringsOut 41 = .ok (.bipush (-2), 2) := by decide +kernel
theorem dX11_ringsOut_43 : decode cX11_ringsOut 43 = .ok (.ireturn, 1) := by decide +kernel
theorem dX11_ringsOut_44 : decode cX11_ringsOut 44 = .ok (.aload_n 0, 1) := by decide +kernel
theorem dX11_ringsOut_45 : decode cX11_ringsOut 45 = .ok (.getfield 81, 3) := by decide +kernel
theorem dX11_ringsOut_48 : decode cX11_ringsOut 48 = .ok (.iload_n 1, 1) := by decide +kernel
theorem dX11_ringsOut_49 : decode cX11_ringsOut 49 = .ok (.iload_n 2, 1) := by decide +kernel
theorem dX11_ringsOut_50 : decode cX11_ringsOut 50 = .ok (.iload_n 3, 1) := by decide +kernel
theorem dX11_ringsOut_51 : decode cX11_ringsOut 51 = .ok (.iload 4, 2) := by decide +kernel
theorem dX11_ringsOut_53 : decode cX11_ringsOut 53 = .ok (.invokevirtual 273, 3) := by decide +kernel
theorem dX11_ringsOut_56 : decode cX11_ringsOut 56 = .ok (.ireturn, 1) := by decide +kernel
set_option maxRecDepth 20000 in
theorem ggX11_ringsOut_X9_firstRinging : GoodIn wsX11_ringsOut wsX9_firstRinging := goodIn_r _ [9, 10, 11, 12, 13, 4, 14, 15, 16, 17, 18, 19, 34, 35, 36] rfl (by decide +kernel)
set_option maxRecDepth 20000 in
theorem gX11_ringsOut_X9_firstRinging : GoodIn wsX11_ringsOut (wsV RX11 273 RX9 yX9_firstRinging wsX9_firstRinging) := goodIn_app (goodIn_of _ (by decide +kernel)) ggX11_ringsOut_X9_firstRinging
set_option maxRecDepth 20000 in
theorem ggX11_ringsOut_X9_mayBeRound : GoodIn wsX11_ringsOut wsX9_mayBeRound := goodIn_r _ [5] rfl (by decide +kernel)
set_option maxRecDepth 20000 in
theorem gX11_ringsOut_X9_mayBeRound : GoodIn wsX11_ringsOut (va_wsS RX11 270 yX9_mayBeRound wsX9_mayBeRound) := goodIn_app (goodIn_of _ (by decide +kernel)) ggX11_ringsOut_X9_mayBeRound
set_option maxHeartbeats 4000000 in
set_option maxRecDepth 100000 in
theorem K_X11_ringsOut (l : Launch) (D : va_G) (x0 : Nat) (xt : Nat) (xs : Nat) (xq : Nat) (xr : Nat) (xp : Nat) (xl : Nat) (xc : Nat) (xj : Nat) (xe : Nat) (xo : Nat) (pa : Nat) (sn : Nat) (sp : Nat) (a : Int32) (b : Int32) (d : Int32) (h : Int32) (sz : Nat) : Ki l yX11_ringsOut wsX11_ringsOut 2 67 0 0 D [.ref x0, .int a, .int b, .int d, .int h] [(x0, .inr (10, [.ref xt, .ref xs, .ref xq, .ref xr, .ref xp, .ref xl, .ref xc, .ref xj, .ref xe, .ref xo, .ref pa, .int 0, .int 0, .int (-1)])), (xo, .inr (8, [.ref sn, .ref sp, .int 0]))] [] sz (fun (r : Int32) (_ : Unit) => r = (if 1 ≤ a ∧ a ≤ 60 ∧ 1 ≤ b ∧ b ≤ 60 ∧ 1 ≤ d ∧ d ≤ b ∧ 0 ≤ h ∧ h ≤ 9999 then (-1) else (-2))) (fun (_ : Unit) => [(x0, .inr (10, [.ref xt, .ref xs, .ref xq, .ref xr, .ref xp, .ref xl, .ref xc, .ref xj, .ref xe, .ref xo, .ref pa, .int 0, .int 0, .int (-1)])), (xo, .inr (8, [.ref sn, .ref sp, .int 0]))]) (fun (_ : Unit) => []) := by
  unfold Ki
  refine g_ofW (cc := cX11_ringsOut) (lv := [(0, .ref x0), (1, .int a), (2, .int b), (3, .int d), (4, .int h)]) (by decide) rfl (Nat.le_of_ble_eq_true rfl) rfl ?_
  intro p e s m args below meth c A Q hA hQ F hr hnm
  have hts := F.2.2.2.2.1
  have w_0 : (Cond.fieldLink RX11 81 "QuietCut" "sound" "LQuietCut$Sound;").before args s = true := hts _ (List.mem_of_getElem? (i := 1) rfl)
  have i_X11 : ∀ w ∈ u_ws RX11 TX11 14, w ∈ wsX11_ringsOut := fun _ h => List.mem_cons_of_mem _ (List.mem_append_left _ (List.mem_append_right _ h))
  refine g_iload_n F 1 dX11_ringsOut_0 rfl rfl ?_
  refine g_callSi (k := 0) (n := 0) (As := [.int a]) (st := []) (wc := []) (wr := [(x0, .inr (10, [.ref xt, .ref xs, .ref xq, .ref xr, .ref xp, .ref xl, .ref xc, .ref xj, .ref xe, .ref xo, .ref pa, .int 0, .int 0, .int (-1)])), (xo, .inr (8, [.ref sn, .ref sp, .int 0]))]) F [] [0, 1] [] rfl rfl (by decide) rfl (by decide) (by decide) rfl (fun sz => K_X9_mayBeRound l D a  sz) (va_cwS 1 hts gX11_ringsOut_X9_mayBeRound rfl rfl rfl (by decide +kernel) ⟨Nat.le_of_ble_eq_true rfl, Nat.le_of_ble_eq_true rfl⟩) rfl (Nat.le_of_ble_eq_true rfl) ⟨Nat.le_of_ble_eq_true rfl, Nat.le_of_ble_eq_true rfl⟩ dX11_ringsOut_1 (fun r_1 _ hw_2 => ?_)
  have hw_2 : r_1 = (if 1 ≤ a ∧ a ≤ 60 then 1 else 0) := hw_2
  have e_r_1 := hw_2
  show gG p l e (gR 2 0 0 67) s m args below meth c D A 5 Q 0 0 [(x0, .inr (10, [.ref xt, .ref xs, .ref xq, .ref xr, .ref xp, .ref xl, .ref xc, .ref xj, .ref xe, .ref xo, .ref pa, .int 0, .int 0, .int (-1)])), (xo, .inr (8, [.ref sn, .ref sp, .int 0]))] [] [(0, .ref x0), (1, .int a), (2, .int b), (3, .int d), (4, .int h)] 4 [.int r_1]
  refine g_fold (if 1 ≤ a ∧ a ≤ 60 then 1 else 0) e_r_1 ?_
  refine g_if_eq F 41 dX11_ringsOut_4 (by decide) (fun c_4 => ?_) (fun c_4 => ?_)
  · have c_4 := gb_0 c_4
    refine g_bipush F (-2) dX11_ringsOut_41 (by decide) ?_
    exact g_iret F hA hQ hr () (by first | exact (gi_e (by (simp only [Int32.lt_iff_toInt_lt, Int32.le_iff_toInt_le, ← Int32.toInt_inj, Int32.reduceToInt] at c_4 ⊢; omega)) rfl)) [0, 1] [] rfl (by decide) rfl rfl dX11_ringsOut_43
  · have c_4 := gb_n0 c_4
    refine g_iload_n F 2 dX11_ringsOut_7 rfl rfl ?_
    refine g_iconst F 1 dX11_ringsOut_8 (by decide) ?_
    refine g_icmp_lt F 41 dX11_ringsOut_9 (by decide) (fun c_9 => ?_) (fun c_9 => ?_)
    · refine g_bipush F (-2) dX11_ringsOut_41 (by decide) ?_
      exact g_iret F hA hQ hr () (by first | exact (gi_e (by (simp only [Int32.lt_iff_toInt_lt, Int32.le_iff_toInt_le, ← Int32.toInt_inj, Int32.reduceToInt] at c_4 c_9 ⊢; omega)) rfl)) [0, 1] [] rfl (by decide) rfl rfl dX11_ringsOut_43
    · refine g_iload_n F 2 dX11_ringsOut_12 rfl rfl ?_
      refine g_bipush F 60 dX11_ringsOut_13 (by decide) ?_
      refine g_icmp_gt F 41 dX11_ringsOut_15 (by decide) (fun c_15 => ?_) (fun c_15 => ?_)
      · refine g_bipush F (-2) dX11_ringsOut_41 (by decide) ?_
        exact g_iret F hA hQ hr () (by first | exact (gi_e (by (simp only [Int32.lt_iff_toInt_lt, Int32.le_iff_toInt_le, ← Int32.toInt_inj, Int32.reduceToInt] at c_4 c_9 c_15 ⊢; omega)) rfl)) [0, 1] [] rfl (by decide) rfl rfl dX11_ringsOut_43
      · refine g_iload_n F 3 dX11_ringsOut_18 rfl rfl ?_
        refine g_iconst F 1 dX11_ringsOut_19 (by decide) ?_
        refine g_icmp_lt F 41 dX11_ringsOut_20 (by decide) (fun c_20 => ?_) (fun c_20 => ?_)
        · refine g_bipush F (-2) dX11_ringsOut_41 (by decide) ?_
          exact g_iret F hA hQ hr () (by first | exact (gi_e (by (simp only [Int32.lt_iff_toInt_lt, Int32.le_iff_toInt_le, ← Int32.toInt_inj, Int32.reduceToInt] at c_4 c_9 c_15 c_20 ⊢; omega)) rfl)) [0, 1] [] rfl (by decide) rfl rfl dX11_ringsOut_43
        · refine g_iload_n F 3 dX11_ringsOut_23 rfl rfl ?_
          refine g_iload_n F 2 dX11_ringsOut_24 rfl rfl ?_
          refine g_icmp_gt F 41 dX11_ringsOut_25 (by decide) (fun c_25 => ?_) (fun c_25 => ?_)
          · refine g_bipush F (-2) dX11_ringsOut_41 (by decide) ?_
            exact g_iret F hA hQ hr () (by first | exact (gi_e (by (simp only [Int32.lt_iff_toInt_lt, Int32.le_iff_toInt_le, ← Int32.toInt_inj, Int32.reduceToInt] at c_4 c_9 c_15 c_20 c_25 ⊢; omega)) rfl)) [0, 1] [] rfl (by decide) rfl rfl dX11_ringsOut_43
          · refine g_iload F 4 dX11_ringsOut_28 rfl ?_
            refine g_if_lt F 41 dX11_ringsOut_30 (by decide) (fun c_30 => ?_) (fun c_30 => ?_)
            · refine g_bipush F (-2) dX11_ringsOut_41 (by decide) ?_
              exact g_iret F hA hQ hr () (by first | exact (gi_e (by (simp only [Int32.lt_iff_toInt_lt, Int32.le_iff_toInt_le, ← Int32.toInt_inj, Int32.reduceToInt] at c_4 c_9 c_15 c_20 c_25 c_30 ⊢; omega)) rfl)) [0, 1] [] rfl (by decide) rfl rfl dX11_ringsOut_43
            · refine g_iload F 4 dX11_ringsOut_33 rfl ?_
              refine g_sipush F 9999 dX11_ringsOut_35 (by decide) ?_
              refine g_icmp_le F 44 dX11_ringsOut_38 (by decide) (fun c_38 => ?_) (fun c_38 => ?_)
              · refine g_aload_n F 0 dX11_ringsOut_44 rfl rfl ?_
                refine g_get (C := RX11) (T := TX11) (N := 14) (v := .ref xo) F i_X11 0 rfl rfl 9 (by decide) w_0 rfl rfl dX11_ringsOut_45 ?_
                refine g_iload_n F 1 dX11_ringsOut_48 rfl rfl ?_
                refine g_iload_n F 2 dX11_ringsOut_49 rfl rfl ?_
                refine g_iload_n F 3 dX11_ringsOut_50 rfl rfl ?_
                refine g_iload F 4 dX11_ringsOut_51 rfl ?_
                refine g_callVi (k := 0) (n := 0) (b := xo) (As := [.int a, .int b, .int d, .int h]) (st := []) (wc := [(xo, .inr (8, [.ref sn, .ref sp, .int 0]))]) (wr := [(x0, .inr (10, [.ref xt, .ref xs, .ref xq, .ref xr, .ref xp, .ref xl, .ref xc, .ref xj, .ref xe, .ref xo, .ref pa, .int 0, .int 0, .int (-1)]))]) F [1] [0] [] rfl rfl (by decide) rfl (by decide) (by decide) rfl (fun sz => K_X9_firstRinging l D xo sn sp a b d h (c_4.1) sz) (cwV 4 hts gX11_ringsOut_X9_firstRinging rfl rfl rfl (by decide +kernel) ⟨Nat.le_of_ble_eq_true rfl, Nat.le_of_ble_eq_true rfl⟩) rfl 0 rfl rfl (Nat.le_of_ble_eq_true rfl) ⟨Nat.le_of_ble_eq_true rfl, Nat.le_of_ble_eq_true rfl⟩ dX11_ringsOut_53 (fun r_6 _ hw_7 => ?_)
                have hw_7 : r_6 = (-1) := hw_7
                have e_r_6 := hw_7
                show gG p l e (gR 2 0 0 67) s m args below meth c D A 5 Q 0 0 [(x0, .inr (10, [.ref xt, .ref xs, .ref xq, .ref xr, .ref xp, .ref xl, .ref xc, .ref xj, .ref xe, .ref xo, .ref pa, .int 0, .int 0, .int (-1)])), (xo, .inr (8, [.ref sn, .ref sp, .int 0]))] [] [(0, .ref x0), (1, .int a), (2, .int b), (3, .int d), (4, .int h)] 56 [.int r_6]
                refine g_fold (-1) e_r_6 ?_
                exact g_iret F hA hQ hr () (by first | exact (gi_p (by (simp only [Int32.lt_iff_toInt_lt, Int32.le_iff_toInt_le, ← Int32.toInt_inj, Int32.reduceToInt] at c_4 c_9 c_15 c_20 c_25 c_30 c_38 ⊢; omega)) rfl)) [0, 1] [] rfl (by decide) rfl rfl dX11_ringsOut_56
              · refine g_bipush F (-2) dX11_ringsOut_41 (by decide) ?_
                exact g_iret F hA hQ hr () (by first | exact (gi_e (by (simp only [Int32.lt_iff_toInt_lt, Int32.le_iff_toInt_le, ← Int32.toInt_inj, Int32.reduceToInt] at c_4 c_9 c_15 c_20 c_25 c_30 c_38 ⊢; omega)) rfl)) [0, 1] [] rfl (by decide) rfl rfl dX11_ringsOut_43

theorem dX9_isForced_0 : decode cX9_isForced 0 = .ok (.aload_n 0, 1) := by decide +kernel
theorem dX9_isForced_1 : decode cX9_isForced 1 = .ok (.getfield 41, 3) := by decide +kernel
theorem dX9_isForced_4 : decode cX9_isForced 4 = .ok (.iload_n 1, 1) := by decide +kernel
theorem dX9_isForced_5 : decode cX9_isForced 5 = .ok (.if_icmp .gt 5, 3) := by decide +kernel
theorem dX9_isForced_8 : decode cX9_isForced 8 = .ok (.iconst (-1), 1) := by decide +kernel
theorem dX9_isForced_9 : decode cX9_isForced 9 = .ok (.ireturn, 1) := by decide +kernel
theorem dX9_isForced_10 : decode cX9_isForced 10 = .ok (.iconst 0, 1) := by decide +kernel
theorem dX9_isForced_11 : decode cX9_isForced 11 = .ok (.istore_n 2, 1) := by decide +kernel
theorem dX9_isForced_12 : decode cX9_isForced 12 = .ok (.iconst 0, 1) := by decide +kernel
theorem dX9_isForced_13 : decode cX9_isForced 13 = .ok (.istore_n 3, 1) := by decide +kernel
theorem dX9_isForced_14 : decode cX9_isForced 14 = .ok (.iload_n 1, 1) := by decide +kernel
theorem dX9_isForced_15 : decode cX9_isForced 15 = .ok (.istore 4, 2) := by decide +kernel
theorem dX9_isForced_17 : decode cX9_isForced 17 = .ok (.iload 4, 2) := by decide +kernel
theorem dX9_isForced_19 : decode cX9_isForced 19 = .ok (.aload_n 0, 1) := by decide +kernel
theorem dX9_isForced_20 : decode cX9_isForced 20 = .ok (.getfield 41, 3) := by decide +kernel
theorem dX9_isForced_23 : decode cX9_isForced 23 = .ok (.if_icmp .ge 45, 3) := by decide +kernel
theorem dX9_isForced_26 : decode cX9_isForced 26 = .ok (.iload 4, 2) := by decide +kernel
theorem dX9_isForced_28 : decode cX9_isForced 28 = .ok (.sipush 150, 3) := by decide +kernel
theorem dX9_isForced_31 : decode cX9_isForced 31 = .ok (.if_icmp .ge 37, 3) := by decide +kernel
theorem dX9_isForced_34 : decode cX9_isForced 34 = .ok (.iload 4, 2) := by decide +kernel
theorem dX9_isForced_36 : decode cX9_isForced 36 = .ok (.ifCond .lt 32, 3) := by decide +kernel
theorem dX9_isForced_39 : decode cX9_isForced 39 = .ok (.iload_n 2, 1) := by decide +kernel
theorem dX9_isForced_40 : decode cX9_isForced 40 = .ok (.aload_n 0, 1) := by decide +kernel
theorem dX9_isForced_41 : decode cX9_isForced 41 = .ok (.iload 4, 2) := by decide +kernel
theorem dX9_isForced_43 : decode cX9_isForced 43 = .ok (.iload_n 1, 1) := by decide +kernel
theorem dX9_isForced_44 : decode cX9_isForced 44 = .ok (.invokevirtual 56, 3) := by decide +kernel
theorem dX9_isForced_47 : decode cX9_isForced 47 = .ok (.iadd, 1) := by decide +kernel
theorem dX9_isForced_48 : decode cX9_isForced 48 = .ok (.istore_n 2, 1) := by decide +kernel
theorem dX9_isForced_49 : decode cX9_isForced 49 = .ok (.iload_n 3, 1) := by decide +kernel
theorem dX9_isForced_50 : decode cX9_isForced 50 = .ok (.aload_n 0, 1) := by decide +kernel
theorem dX9_isForced_51 : decode cX9_isForced 51 = .ok (.getfield 11, 3) := by decide +kernel
theorem dX9_isForced_54 : decode cX9_isForced 54 = .ok (.iload 4, 2) := by decide +kernel
theorem dX9_isForced_56 : decode cX9_isForced 56 = .ok (.iaload, 1) := by decide +kernel
theorem dX9_isForced_57 : decode cX9_isForced 57 = .ok (.invokestatic 50, 3) := by decide +kernel
theorem dX9_isForced_60 : decode cX9_isForced 60 = .ok (.iadd, 1) := by decide +kernel
theorem dX9_isForced_61 : decode cX9_isForced 61 = .ok (.istore_n 3, 1) := by decide +kernel
theorem dX9_isForced_62 : decode cX9_isForced 62 = .ok (.iinc 4 1, 3) := by decide +kernel
theorem dX9_isForced_65 : decode cX9_isForced 65 = .ok (.goto (-48), 3) := by decide +kernel
theorem dX9_isForced_68 : decode cX9_isForced 68 = .ok (.iconst 2, 1) := by decide +kernel
theorem dX9_isForced_69 : decode cX9_isForced 69 = .ok (.iload_n 2, 1) := by decide +kernel
theorem dX9_isForced_70 : decode cX9_isForced 70 = .ok (.imul, 1) := by decide +kernel
theorem dX9_isForced_71 : decode cX9_isForced 71 = .ok (.iload_n 3, 1) := by decide +kernel
theorem dX9_isForced_72 : decode cX9_isForced 72 = .ok (.if_icmp .gt 7, 3) := by decide +kernel
theorem dX9_isForced_75 : decode cX9_isForced 75 = .ok (.iconst 1, 1) := by decide +kernel
theorem dX9_isForced_76 : decode cX9_isForced 76 = .ok (.goto 4, 3) := by decide +kernel
theorem dX9_isForced_79 : decode cX9_isForced 79 = .ok (.iconst 0, 1) := by decide +kernel
theorem dX9_isForced_80 : decode cX9_isForced 80 = .ok (.ireturn, 1) := by decide +kernel
set_option maxHeartbeats 4000000 in
set_option maxRecDepth 100000 in
theorem K_X9_isForced (l : Launch) (D : va_G) (xo : Nat) (sn : Nat) (sp : Nat) (a : Int32) (ha : 1 ≤ a) (sz : Nat) : Ki l yX9_isForced wsX9_isForced 1 40 0 0 D [.ref xo, .int a] [(xo, .inr (8, [.ref sn, .ref sp, .int 0]))] [] sz (fun (r : Int32) (_ : Unit) => r = (-1)) (fun (_ : Unit) => [(xo, .inr (8, [.ref sn, .ref sp, .int 0]))]) (fun (_ : Unit) => []) := by
  unfold Ki
  refine g_ofW (cc := cX9_isForced) (lv := [(0, .ref xo), (1, .int a)]) (by decide) rfl (Nat.le_of_ble_eq_true rfl) rfl ?_
  intro p e s m args below meth c A Q hA hQ F hr hnm
  have hts := F.2.2.2.2.1
  have w_0 : (Cond.fieldLink RX9 41 "QuietCut$Sound" "many" "I").before args s = true := hts _ (List.mem_of_getElem? (i := 1) rfl)
  have i_X9 : ∀ w ∈ u_ws RX9 TX9 3, w ∈ wsX9_isForced := fun _ h => List.mem_cons_of_mem _ (List.mem_append_right _ h)
  refine g_aload_n F 0 dX9_isForced_0 rfl rfl ?_
  refine g_get (C := RX9) (T := TX9) (N := 3) (v := .int 0) F i_X9 0 rfl rfl 2 (by decide) w_0 rfl rfl dX9_isForced_1 ?_
  refine g_iload_n F 1 dX9_isForced_4 rfl rfl ?_
  refine g_icmp_gt F 10 dX9_isForced_5 (by decide) (fun h9 => absurd h9 (by (simp only [Int32.lt_iff_toInt_lt, Int32.le_iff_toInt_le, ← Int32.toInt_inj, Int32.reduceToInt] at ha ⊢; omega))) (fun c_5 => ?_)
  refine g_iconst F (-1) dX9_isForced_8 (by decide) ?_
  exact g_iret F hA hQ hr () (rfl) [0] [] rfl (by decide) rfl rfl dX9_isForced_9

theorem dX11_forced_0 : decode cX11_forced 0 = .ok (.iload_n 1, 1) := by decide +kernel
theorem dX11_forced_1 : decode cX11_forced 1 = .ok (.invokestatic 270, 3) := by decide +kernel
theorem dX11_forced_4 : decode cX11_forced 4 = .ok (.ifCond .eq 14, 3) := by decide +kernel
theorem dX11_forced_7 : decode cX11_forced 7 = .ok (.aload_n 0, 1) := by decide +kernel
theorem dX11_forced_8 : decode cX11_forced 8 = .ok (.getfield 81, 3) := by decide +kernel
theorem dX11_forced_11 : decode cX11_forced 11 = .ok (.iload_n 1, 1) := by decide +kernel
theorem dX11_forced_12 : decode cX11_forced 12 = .ok (.invokevirtual 276, 3) := by decide +kernel
theorem dX11_forced_15 : decode cX11_forced 15 = .ok (.goto 5, 3) := by decide +kernel
theorem dX11_forced_18 : decode cX11_forced 18 = .ok (.bipush (-2), 2) := by decide +kernel
theorem dX11_forced_20 : decode cX11_forced 20 = .ok (.ireturn, 1) := by decide +kernel
set_option maxRecDepth 20000 in
theorem ggX11_forced_X9_isForced : GoodIn wsX11_forced wsX9_isForced := goodIn_r _ [9, 10, 11, 12, 13, 14, 15, 16, 17, 18, 4, 19, 34, 35, 36] rfl (by decide +kernel)
set_option maxRecDepth 20000 in
theorem gX11_forced_X9_isForced : GoodIn wsX11_forced (wsV RX11 276 RX9 yX9_isForced wsX9_isForced) := goodIn_app (goodIn_of _ (by decide +kernel)) ggX11_forced_X9_isForced
set_option maxRecDepth 20000 in
theorem ggX11_forced_X9_mayBeRound : GoodIn wsX11_forced wsX9_mayBeRound := goodIn_r _ [5] rfl (by decide +kernel)
set_option maxRecDepth 20000 in
theorem gX11_forced_X9_mayBeRound : GoodIn wsX11_forced (va_wsS RX11 270 yX9_mayBeRound wsX9_mayBeRound) := goodIn_app (goodIn_of _ (by decide +kernel)) ggX11_forced_X9_mayBeRound
set_option maxHeartbeats 4000000 in
set_option maxRecDepth 100000 in
theorem K_X11_forced (l : Launch) (D : va_G) (x0 : Nat) (xt : Nat) (xs : Nat) (xq : Nat) (xr : Nat) (xp : Nat) (xl : Nat) (xc : Nat) (xj : Nat) (xe : Nat) (xo : Nat) (pa : Nat) (sn : Nat) (sp : Nat) (a : Int32) (sz : Nat) : Ki l yX11_forced wsX11_forced 2 64 0 0 D [.ref x0, .int a] [(x0, .inr (10, [.ref xt, .ref xs, .ref xq, .ref xr, .ref xp, .ref xl, .ref xc, .ref xj, .ref xe, .ref xo, .ref pa, .int 0, .int 0, .int (-1)])), (xo, .inr (8, [.ref sn, .ref sp, .int 0]))] [] sz (fun (r : Int32) (_ : Unit) => r = (if 1 ≤ a ∧ a ≤ 60 then (-1) else (-2))) (fun (_ : Unit) => [(x0, .inr (10, [.ref xt, .ref xs, .ref xq, .ref xr, .ref xp, .ref xl, .ref xc, .ref xj, .ref xe, .ref xo, .ref pa, .int 0, .int 0, .int (-1)])), (xo, .inr (8, [.ref sn, .ref sp, .int 0]))]) (fun (_ : Unit) => []) := by
  unfold Ki
  refine g_ofW (cc := cX11_forced) (lv := [(0, .ref x0), (1, .int a)]) (by decide) rfl (Nat.le_of_ble_eq_true rfl) rfl ?_
  intro p e s m args below meth c A Q hA hQ F hr hnm
  have hts := F.2.2.2.2.1
  have w_0 : (Cond.fieldLink RX11 81 "QuietCut" "sound" "LQuietCut$Sound;").before args s = true := hts _ (List.mem_of_getElem? (i := 1) rfl)
  have i_X11 : ∀ w ∈ u_ws RX11 TX11 14, w ∈ wsX11_forced := fun _ h => List.mem_cons_of_mem _ (List.mem_append_left _ (List.mem_append_right _ h))
  refine g_iload_n F 1 dX11_forced_0 rfl rfl ?_
  refine g_callSi (k := 0) (n := 0) (As := [.int a]) (st := []) (wc := []) (wr := [(x0, .inr (10, [.ref xt, .ref xs, .ref xq, .ref xr, .ref xp, .ref xl, .ref xc, .ref xj, .ref xe, .ref xo, .ref pa, .int 0, .int 0, .int (-1)])), (xo, .inr (8, [.ref sn, .ref sp, .int 0]))]) F [] [0, 1] [] rfl rfl (by decide) rfl (by decide) (by decide) rfl (fun sz => K_X9_mayBeRound l D a  sz) (va_cwS 1 hts gX11_forced_X9_mayBeRound rfl rfl rfl (by decide +kernel) ⟨Nat.le_of_ble_eq_true rfl, Nat.le_of_ble_eq_true rfl⟩) rfl (Nat.le_of_ble_eq_true rfl) ⟨Nat.le_of_ble_eq_true rfl, Nat.le_of_ble_eq_true rfl⟩ dX11_forced_1 (fun r_1 _ hw_2 => ?_)
  have hw_2 : r_1 = (if 1 ≤ a ∧ a ≤ 60 then 1 else 0) := hw_2
  have e_r_1 := hw_2
  show gG p l e (gR 2 0 0 64) s m args below meth c D A 2 Q 0 0 [(x0, .inr (10, [.ref xt, .ref xs, .ref xq, .ref xr, .ref xp, .ref xl, .ref xc, .ref xj, .ref xe, .ref xo, .ref pa, .int 0, .int 0, .int (-1)])), (xo, .inr (8, [.ref sn, .ref sp, .int 0]))] [] [(0, .ref x0), (1, .int a)] 4 [.int r_1]
  refine g_fold (if 1 ≤ a ∧ a ≤ 60 then 1 else 0) e_r_1 ?_
  refine g_if_eq F 18 dX11_forced_4 (by decide) (fun c_4 => ?_) (fun c_4 => ?_)
  · have c_4 := gb_0 c_4
    refine g_bipush F (-2) dX11_forced_18 (by decide) ?_
    exact g_iret F hA hQ hr () (by first | exact (gi_e (by (simp only [Int32.lt_iff_toInt_lt, Int32.le_iff_toInt_le, ← Int32.toInt_inj, Int32.reduceToInt] at c_4 ⊢; omega)) rfl)) [0, 1] [] rfl (by decide) rfl rfl dX11_forced_20
  · have c_4 := gb_n0 c_4
    refine g_aload_n F 0 dX11_forced_7 rfl rfl ?_
    refine g_get (C := RX11) (T := TX11) (N := 14) (v := .ref xo) F i_X11 0 rfl rfl 9 (by decide) w_0 rfl rfl dX11_forced_8 ?_
    refine g_iload_n F 1 dX11_forced_11 rfl rfl ?_
    refine g_callVi (k := 0) (n := 0) (b := xo) (As := [.int a]) (st := []) (wc := [(xo, .inr (8, [.ref sn, .ref sp, .int 0]))]) (wr := [(x0, .inr (10, [.ref xt, .ref xs, .ref xq, .ref xr, .ref xp, .ref xl, .ref xc, .ref xj, .ref xe, .ref xo, .ref pa, .int 0, .int 0, .int (-1)]))]) F [1] [0] [] rfl rfl (by decide) rfl (by decide) (by decide) rfl (fun sz => K_X9_isForced l D xo sn sp a (c_4.1) sz) (cwV 1 hts gX11_forced_X9_isForced rfl rfl rfl (by decide +kernel) ⟨Nat.le_of_ble_eq_true rfl, Nat.le_of_ble_eq_true rfl⟩) rfl 0 rfl rfl (Nat.le_of_ble_eq_true rfl) ⟨Nat.le_of_ble_eq_true rfl, Nat.le_of_ble_eq_true rfl⟩ dX11_forced_12 (fun r_6 _ hw_7 => ?_)
    have hw_7 : r_6 = (-1) := hw_7
    have e_r_6 := hw_7
    show gG p l e (gR 2 0 0 64) s m args below meth c D A 2 Q 0 0 [(x0, .inr (10, [.ref xt, .ref xs, .ref xq, .ref xr, .ref xp, .ref xl, .ref xc, .ref xj, .ref xe, .ref xo, .ref pa, .int 0, .int 0, .int (-1)])), (xo, .inr (8, [.ref sn, .ref sp, .int 0]))] [] [(0, .ref x0), (1, .int a)] 15 [.int r_6]
    refine g_fold (-1) e_r_6 ?_
    refine g_goto F 20 dX11_forced_15 (by decide) ?_
    exact g_iret F hA hQ hr () (by first | exact (gi_p (by (simp only [Int32.lt_iff_toInt_lt, Int32.le_iff_toInt_le, ← Int32.toInt_inj, Int32.reduceToInt] at c_4 ⊢; omega)) rfl)) [0, 1] [] rfl (by decide) rfl rfl dX11_forced_20
