theorem dX13_bestTeeth_0 : decode cX13_bestTeeth 0 = .ok (.aload_n 0, 1) := by decide +kernel
theorem dX13_bestTeeth_1 : decode cX13_bestTeeth 1 = .ok (.iload_n 1, 1) := by decide +kernel
theorem dX13_bestTeeth_2 : decode cX13_bestTeeth 2 = .ok (.invokevirtual 367, 3) := by decide +kernel
theorem dX13_bestTeeth_5 : decode cX13_bestTeeth 5 = .ok (.ifCond .eq 59, 3) := by decide +kernel
theorem dX13_bestTeeth_8 : decode cX13_bestTeeth 8 = .ok (.iload_n 2, 1) := by decide +kernel
theorem dX13_bestTeeth_9 : decode cX13_bestTeeth 9 = .ok (.i2l, 1) := by decide +kernel
theorem dX13_bestTeeth_10 : decode cX13_bestTeeth 10 = .ok (.lconst 1, 1) := by decide +kernel
theorem dX13_bestTeeth_11 : decode cX13_bestTeeth 11 = .ok (.ldc2_w 422, 3) := by decide +kernel
theorem dX13_bestTeeth_14 : decode cX13_bestTeeth 14 = .ok (.invokestatic 61, 3) := by decide +kernel
theorem dX13_bestTeeth_17 : decode cX13_bestTeeth 17 = .ok (.ifCond .eq 47, 3) := by decide +kernel
theorem dX13_bestTeeth_20 : decode cX13_bestTeeth 20 = .ok (.iload_n 3, 1) := by decide +kernel
theorem dX13_bestTeeth_21 : decode cX13_bestTeeth 21 = .ok (.i2l, 1) := by decide +kernel
theorem dX13_bestTeeth_22 : decode cX13_bestTeeth 22 = .ok (.lconst 1, 1) := by decide +kernel
theorem dX13_bestTeeth_23 : decode cX13_bestTeeth 23 = .ok (.ldc2_w 486, 3) := by decide +kernel
theorem dX13_bestTeeth_26 : decode cX13_bestTeeth 26 = .ok (.invokestatic 61, 3) := by decide +kernel
theorem dX13_bestTeeth_29 : decode cX13_bestTeeth 29 = .ok (.ifCond .eq 35, 3) := by decide +kernel
theorem dX13_bestTeeth_32 : decode cX13_bestTeeth 32 = .ok (.iload 4, 2) := by decide +kernel
theorem dX13_bestTeeth_34 : decode cX13_bestTeeth 34 = .ok (.i2l, 1) := by decide +kernel
theorem dX13_bestTeeth_35 : decode cX13_bestTeeth 35 = .ok (.lconst 1, 1) := by decide +kernel
theorem dX13_bestTeeth_36 : decode cX13_bestTeeth 36 = .ok (.ldc2_w 488, 3) := by decide +kernel
theorem dX13_bestTeeth_39 : decode cX13_bestTeeth 39 = .ok (.invokestatic 61, 3) := by decide +kernel
theorem dX13_bestTeeth_42 : decode cX13_bestTeeth 42 = .ok (.ifCond .eq 22, 3) := by decide +kernel
theorem dX13_bestTeeth_45 : decode cX13_bestTeeth 45 = .ok (.iload 4, 2) := by decide +kernel
theorem dX13_bestTeeth_47 : decode cX13_bestTeeth 47 = .ok (.invokestatic 490, 3) := by decide +kernel
theorem dX13_bestTeeth_50 : decode cX13_bestTeeth 50 = .ok (.iload_n 3, 1) := by decide +kernel
theorem dX13_bestTeeth_51 : decode cX13_bestTeeth 51 = .ok (.if_icmp .lt 13, 3) := by decide +kernel
theorem dX13_bestTeeth_54 : decode cX13_bestTeeth 54 = .ok (.iload 4, 2) := by decide +kernel
theorem dX13_bestTeeth_56 : decode cX13_bestTeeth 56 = .ok (.invokestatic 490, 3) := by decide +kernel
theorem dX13_bestTeeth_59 : decode cX13_bestTeeth 59 = .ok (.bipush 6, 2) := by decide +kernel
theorem dX13_bestTeeth_61 : decode cX13_bestTeeth 61 = .ok (.if_icmp .le 6, 3) := by decide +kernel
theorem dX13_bestTeeth_64 : decode cX13_bestTeeth 64 = .ok (.bipush (-2), 2) := by decide +kernel
theorem dX13_bestTeeth_66 : decode cX13_bestTeeth 66 = .ok (.ireturn, 1) := by decide +kernel
theorem dX13_bestTeeth_67 : decode cX13_bestTeeth 67 = .ok (.aload_n 0, 1) := by decide +kernel
theorem dX13_bestTeeth_68 : decode cX13_bestTeeth 68 = .ok (.getfield 199, 3) := by decide +kernel
theorem dX13_bestTeeth_71 : decode cX13_bestTeeth 71 = .ok (.bipush 10, 2) := by decide +kernel
theorem dX13_bestTeeth_73 : decode cX13_bestTeeth 73 = .ok (.iaload, 1) := by decide +kernel
theorem dX13_bestTeeth_74 : decode cX13_bestTeeth 74 = .ok (.istore 5, 2) := by decide +kernel
theorem dX13_bestTeeth_76 : decode cX13_bestTeeth 76 = .ok (.iconst 0, 1) := by decide +kernel
theorem dX13_bestTeeth_77 : decode cX13_bestTeeth 77 = .ok (.istore 6, 2) := by decide +kernel
theorem dX13_bestTeeth_79 : decode cX13_bestTeeth 79 = .ok (.iload 6, 2) := by decide +kernel
theorem dX13_bestTeeth_81 : decode cX13_bestTeeth 81 = .ok (.iconst 4, 1) := by decide +kernel
theorem dX13_bestTeeth_82 : decode cX13_bestTeeth 82 = .ok (.if_icmp .ge 23, 3) := by decide +kernel
theorem dX13_bestTeeth_85 : decode cX13_bestTeeth 85 = .ok (.aload_n 0, 1) := by decide +kernel
theorem dX13_bestTeeth_86 : decode cX13_bestTeeth 86 = .ok (.getfield 253, 3) := by decide +kernel
theorem dX13_bestTeeth_89 : decode cX13_bestTeeth 89 = .ok (.iload 6, 2) := by decide +kernel
theorem dX13_bestTeeth_91 : decode cX13_bestTeeth 91 = .ok (.aload_n 0, 1) := by decide +kernel
theorem dX13_bestTeeth_92 : decode cX13_bestTeeth 92 = .ok (.getfield 202, 3) := by decide +kernel
theorem dX13_bestTeeth_95 : decode cX13_bestTeeth 95 = .ok (.iload 6, 2) := by decide +kernel
theorem dX13_bestTeeth_97 : decode cX13_bestTeeth 97 = .ok (.iaload, 1) := by decide +kernel
theorem dX13_bestTeeth_98 : decode cX13_bestTeeth 98 = .ok (.iastore, 1) := by decide +kernel
theorem dX13_bestTeeth_99 : decode cX13_bestTeeth 99 = .ok (.iinc 6 1, 3) := by decide +kernel
theorem dX13_bestTeeth_102 : decode cX13_bestTeeth 102 = .ok (.goto (-23), 3) := by decide +kernel
theorem dX13_bestTeeth_105 : decode cX13_bestTeeth 105 = .ok (.aload_n 0, 1) := by decide +kernel
theorem dX13_bestTeeth_106 : decode cX13_bestTeeth 106 = .ok (.getfield 199, 3) := by decide +kernel
theorem dX13_bestTeeth_109 : decode cX13_bestTeeth 109 = .ok (.bipush 10, 2) := by decide +kernel
theorem dX13_bestTeeth_111 : decode cX13_bestTeeth 111 = .ok (.iload_n 3, 1) := by decide +kernel
theorem dX13_bestTeeth_112 : decode cX13_bestTeeth 112 = .ok (.iastore, 1) := by decide +kernel
theorem dX13_bestTeeth_113 : decode cX13_bestTeeth 113 = .ok (.iconst (-1), 1) := by decide +kernel
theorem dX13_bestTeeth_114 : decode cX13_bestTeeth 114 = .ok (.istore 6, 2) := by decide +kernel
theorem dX13_bestTeeth_116 : decode cX13_bestTeeth 116 = .ok (.iconst 0, 1) := by decide +kernel
theorem dX13_bestTeeth_117 : decode cX13_bestTeeth 117 = .ok (.istore 7, 2) := by decide +kernel
theorem dX13_bestTeeth_119 : decode cX13_bestTeeth 119 = .ok (.iconst 1, 1) := by decide +kernel
theorem dX13_bestTeeth_120 : decode cX13_bestTeeth 120 = .ok (.istore 8, 2) := by decide +kernel
theorem dX13_bestTeeth_122 : decode cX13_bestTeeth 122 = .ok (.iload 8, 2) := by decide +kernel
theorem dX13_bestTeeth_124 : decode cX13_bestTeeth 124 = .ok (.iload 4, 2) := by decide +kernel
theorem dX13_bestTeeth_126 : decode cX13_bestTeeth 126 = .ok (.if_icmp .gt 101, 3) := by decide +kernel
theorem dX13_bestTeeth_129 : decode cX13_bestTeeth 129 = .ok (.iload 8, 2) := by decide +kernel
theorem dX13_bestTeeth_131 : decode cX13_bestTeeth 131 = .ok (.iload 4, 2) := by decide +kernel
theorem dX13_bestTeeth_133 : decode cX13_bestTeeth 133 = .ok (.iconst (-1), 1) := by decide +kernel
theorem dX13_bestTeeth_134 : decode cX13_bestTeeth 134 = .ok (.ixor, 1) := by decide +kernel
theorem dX13_bestTeeth_135 : decode cX13_bestTeeth 135 = .ok (.iand, 1) := by decide +kernel
theorem dX13_bestTeeth_136 : decode cX13_bestTeeth 136 = .ok (.ifCond .ne 85, 3) := by decide +kernel
theorem dX13_bestTeeth_139 : decode cX13_bestTeeth 139 = .ok (.iload 8, 2) := by decide +kernel
theorem dX13_bestTeeth_141 : decode cX13_bestTeeth 141 = .ok (.invokestatic 490, 3) := by decide +kernel
theorem dX13_bestTeeth_144 : decode cX13_bestTeeth 144 = .ok (.iload_n 3, 1) := by decide +kernel
theorem dX13_bestTeeth_145 : decode cX13_bestTeeth 145 = .ok (.if_icmp .eq 6, 3) := by decide +kernel
theorem dX13_bestTeeth_148 : decode cX13_bestTeeth 148 = .ok (.goto 73, 3) := by decide +kernel
theorem dX13_bestTeeth_151 : decode cX13_bestTeeth 151 = .ok (.iconst 0, 1) := by decide +kernel
theorem dX13_bestTeeth_152 : decode cX13_bestTeeth 152 = .ok (.istore 9, 2) := by decide +kernel
theorem dX13_bestTeeth_154 : decode cX13_bestTeeth 154 = .ok (.iconst 0, 1) := by decide +kernel
theorem dX13_bestTeeth_155 : decode cX13_bestTeeth 155 = .ok (.istore 10, 2) := by decide +kernel
theorem dX13_bestTeeth_157 : decode cX13_bestTeeth 157 = .ok (.iload 10, 2) := by decide +kernel
theorem dX13_bestTeeth_159 : decode cX13_bestTeeth 159 = .ok (.bipush 16, 2) := by decide +kernel
theorem dX13_bestTeeth_161 : decode cX13_bestTeeth 161 = .ok (.if_icmp .ge 34, 3) := by decide +kernel
theorem dX13_bestTeeth_164 : decode cX13_bestTeeth 164 = .ok (.iload 8, 2) := by decide +kernel
theorem dX13_bestTeeth_166 : decode cX13_bestTeeth 166 = .ok (.iload 10, 2) := by decide +kernel
theorem dX13_bestTeeth_168 : decode cX13_bestTeeth 168 = .ok (.ishr, 1) := by decide +kernel
theorem dX13_bestTeeth_169 : decode cX13_bestTeeth 169 = .ok (.iconst 1, 1) := by decide +kernel
theorem dX13_bestTeeth_170 : decode cX13_bestTeeth 170 = .ok (.iand, 1) := by decide +kernel
theorem dX13_bestTeeth_171 : decode cX13_bestTeeth 171 = .ok (.ifCond .ne 6, 3) := by decide +kernel
theorem dX13_bestTeeth_174 : decode cX13_bestTeeth 174 = .ok (.goto 15, 3) := by decide +kernel
theorem dX13_bestTeeth_177 : decode cX13_bestTeeth 177 = .ok (.aload_n 0, 1) := by decide +kernel
theorem dX13_bestTeeth_178 : decode cX13_bestTeeth 178 = .ok (.getfield 202, 3) := by decide +kernel
theorem dX13_bestTeeth_181 : decode cX13_bestTeeth 181 = .ok (.iload 9, 2) := by decide +kernel
theorem dX13_bestTeeth_183 : decode cX13_bestTeeth 183 = .ok (.iload 10, 2) := by decide +kernel
theorem dX13_bestTeeth_185 : decode cX13_bestTeeth 185 = .ok (.iastore, 1) := by decide +kernel
theorem dX13_bestTeeth_186 : decode cX13_bestTeeth 186 = .ok (.iinc 9 1, 3) := by decide +kernel
theorem dX13_bestTeeth_189 : decode cX13_bestTeeth 189 = .ok (.iinc 10 1, 3) := by decide +kernel
theorem dX13_bestTeeth_192 : decode cX13_bestTeeth 192 = .ok (.goto (-35), 3) := by decide +kernel
theorem dX13_bestTeeth_195 : decode cX13_bestTeeth 195 = .ok (.aload_n 0, 1) := by decide +kernel
theorem dX13_bestTeeth_196 : decode cX13_bestTeeth 196 = .ok (.iload_n 1, 1) := by decide +kernel
theorem dX13_bestTeeth_197 : decode cX13_bestTeeth 197 = .ok (.iload_n 2, 1) := by decide +kernel
theorem dX13_bestTeeth_198 : decode cX13_bestTeeth 198 = .ok (.invokevirtual 454, 3) := by decide +kernel
theorem dX13_bestTeeth_201 : decode cX13_bestTeeth 201 = .ok (.istore 10, 2) := by decide +kernel
theorem dX13_bestTeeth_203 : decode cX13_bestTeeth 203 = .ok (.iload 10, 2) := by decide +kernel
theorem dX13_bestTeeth_205 : decode cX13_bestTeeth 205 = .ok (.iload 7, 2) := by decide +kernel
theorem dX13_bestTeeth_207 : decode cX13_bestTeeth 207 = .ok (.if_icmp .gt 6, 3) := by decide +kernel
theorem dX13_bestTeeth_210 : decode cX13_bestTeeth 210 = .ok (.goto 11, 3) := by decide +kernel
theorem dX13_bestTeeth_213 : decode cX13_bestTeeth 213 = .ok (.iload 10, 2) := by decide +kernel
theorem dX13_bestTeeth_215 : decode cX13_bestTeeth 215 = .ok (.istore 7, 2) := by decide +kernel
theorem dX13_bestTeeth_217 : decode cX13_bestTeeth 217 = .ok (.iload 8, 2) := by decide +kernel
theorem dX13_bestTeeth_219 : decode cX13_bestTeeth 219 = .ok (.istore 6, 2) := by decide +kernel
theorem dX13_bestTeeth_221 : decode cX13_bestTeeth 221 = .ok (.iinc 8 1, 3) := by decide +kernel
theorem dX13_bestTeeth_224 : decode cX13_bestTeeth 224 = .ok (.goto (-102), 3) := by decide +kernel
theorem dX13_bestTeeth_227 : decode cX13_bestTeeth 227 = .ok (.aload_n 0, 1) := by decide +kernel
theorem dX13_bestTeeth_228 : decode cX13_bestTeeth 228 = .ok (.getfield 199, 3) := by decide +kernel
theorem dX13_bestTeeth_231 : decode cX13_bestTeeth 231 = .ok (.bipush 10, 2) := by decide +kernel
theorem dX13_bestTeeth_233 : decode cX13_bestTeeth 233 = .ok (.iload 5, 2) := by decide +kernel
theorem dX13_bestTeeth_235 : decode cX13_bestTeeth 235 = .ok (.iastore, 1) := by decide +kernel
theorem dX13_bestTeeth_236 : decode cX13_bestTeeth 236 = .ok (.iconst 0, 1) := by decide +kernel
theorem dX13_bestTeeth_237 : decode cX13_bestTeeth 237 = .ok (.istore 8, 2) := by decide +kernel
theorem dX13_bestTeeth_239 : decode cX13_bestTeeth 239 = .ok (.iload 8, 2) := by decide +kernel
theorem dX13_bestTeeth_241 : decode cX13_bestTeeth 241 = .ok (.iconst 4, 1) := by decide +kernel
theorem dX13_bestTeeth_242 : decode cX13_bestTeeth 242 = .ok (.if_icmp .ge 23, 3) := by decide +kernel
theorem dX13_bestTeeth_245 : decode cX13_bestTeeth 245 = .ok (.aload_n 0, 1) := by decide +kernel
theorem dX13_bestTeeth_246 : decode cX13_bestTeeth 246 = .ok (.getfield 202, 3) := by decide +kernel
theorem dX13_bestTeeth_249 : decode cX13_bestTeeth 249 = .ok (.iload 8, 2) := by decide +kernel
theorem dX13_bestTeeth_251 : decode cX13_bestTeeth 251 = .ok (.aload_n 0, 1) := by decide +kernel
theorem dX13_bestTeeth_252 : decode cX13_bestTeeth 252 = .ok (.getfield 253, 3) := by decide +kernel
theorem dX13_bestTeeth_255 : decode cX13_bestTeeth 255 = .ok (.iload 8, 2) := by decide +kernel
theorem dX13_bestTeeth_257 : decode cX13_bestTeeth 257 = .ok (.iaload, 1) := by decide +kernel
theorem dX13_bestTeeth_258 : decode cX13_bestTeeth 258 = .ok (.iastore, 1) := by decide +kernel
theorem dX13_bestTeeth_259 : decode cX13_bestTeeth 259 = .ok (.iinc 8 1, 3) := by decide +kernel
theorem dX13_bestTeeth_262 : decode cX13_bestTeeth 262 = .ok (.goto (-23), 3) := by decide +kernel
theorem dX13_bestTeeth_265 : decode cX13_bestTeeth 265 = .ok (.iload 6, 2) := by decide +kernel
theorem dX13_bestTeeth_267 : decode cX13_bestTeeth 267 = .ok (.ireturn, 1) := by decide +kernel
set_option maxRecDepth 20000 in
theorem ggX13_bestTeeth_X13_bits : GoodIn wsX13_bestTeeth wsX13_bits := goodIn_r _ [17] rfl (by decide +kernel)
set_option maxRecDepth 20000 in
theorem gX13_bestTeeth_X13_bits : GoodIn wsX13_bestTeeth (va_wsS RX13 490 yX13_bits wsX13_bits) := goodIn_app (goodIn_of _ (by decide +kernel)) ggX13_bestTeeth_X13_bits
set_option maxRecDepth 20000 in
theorem ggX13_bestTeeth_X13_deepestOf : GoodIn wsX13_bestTeeth wsX13_deepestOf := goodIn_r _ [21, 22, 23, 24, 10, 25, 4, 26, 27, 28, 29, 30, 31, 32, 33, 34, 35, 36, 37, 38, 39, 40, 41, 42, 43, 44, 45, 46, 47, 48, 49, 50, 51, 52, 53, 54, 55, 56, 57, 58, 59, 60, 61, 62, 63, 64, 65, 66, 67, 68, 69, 70, 71, 72, 73, 74, 75, 76, 77, 78, 79, 80, 6, 81, 82, 83, 84, 85, 86, 87, 88, 89, 90, 91, 92, 93, 94, 95, 96, 97, 98, 99, 100, 101, 102, 103, 104, 105, 106, 107, 108, 109, 110, 111, 112, 113, 114, 115, 116, 117, 118, 119, 120, 121, 122, 123, 124, 125, 126, 127, 128, 129, 130, 131, 132, 133, 134, 135, 136, 137, 138, 139, 140, 141, 142, 143, 144, 145, 146, 147, 148, 149, 150, 151, 152, 153, 154, 155, 156, 157, 158, 159, 160, 161, 162, 163, 164, 165, 166, 167, 168, 169, 170, 171, 172, 173, 174, 175, 176, 177, 178, 179, 180] rfl (by decide +kernel)
set_option maxRecDepth 20000 in
theorem gX13_bestTeeth_X13_deepestOf : GoodIn wsX13_bestTeeth (wsV RX13 454 RX13 yX13_deepestOf wsX13_deepestOf) := goodIn_app (goodIn_of _ (by decide +kernel)) ggX13_bestTeeth_X13_deepestOf
set_option maxRecDepth 20000 in
theorem ggX13_bestTeeth_X13_in : GoodIn wsX13_bestTeeth wsX13_in := goodIn_r _ [14] rfl (by decide +kernel)
set_option maxRecDepth 20000 in
theorem gX13_bestTeeth_X13_in : GoodIn wsX13_bestTeeth (va_wsS RX13 61 yX13_in wsX13_in) := goodIn_app (goodIn_of _ (by decide +kernel)) ggX13_bestTeeth_X13_in
set_option maxRecDepth 20000 in
theorem ggX13_bestTeeth_X13_isRing : GoodIn wsX13_bestTeeth wsX13_isRing := goodIn_r _ [11, 4, 12, 13, 10, 14, 108, 109, 110, 111, 112, 113, 114, 115, 116, 117, 118, 119, 120, 121, 122, 123, 124, 125, 126, 127, 128, 129, 130, 131, 132, 133, 134, 135, 136, 137, 138, 139, 140, 141, 142, 143, 144, 145, 146, 147, 148, 149, 150, 151, 152, 153, 154, 155, 156, 157, 158, 159, 160, 161, 162, 163, 164, 165, 166, 167, 168, 169, 170, 171, 172, 173, 174, 175, 176, 177, 178, 179, 180] rfl (by decide +kernel)
set_option maxRecDepth 20000 in
theorem gX13_bestTeeth_X13_isRing : GoodIn wsX13_bestTeeth (wsV RX13 367 RX13 yX13_isRing wsX13_isRing) := goodIn_app (goodIn_of _ (by decide +kernel)) ggX13_bestTeeth_X13_isRing
set_option maxHeartbeats 4000000 in
set_option maxRecDepth 100000 in
theorem S_X13_bestTeeth (l : Launch) (D : va_G) (K : Nat → ClassId) (a : Nat → Nat) (G : gS) (p0 : Int32) (s0 : Int) (p1 : Int32) (s1 : Int) (p2 : Int32) (s2 : Int) (p3 : Int32) (s3 : Int) (e0 : p0.toInt = s0) (e1 : p1.toInt = s1) (e2 : p2.toInt = s2) (e3 : p3.toInt = s3) (wf : yW3 G) (dl : ((G 0 32).toInt ≤ 6)) (hI : yI G) (sz : Nat) : Ki l yX13_bestTeeth wsX13_bestTeeth 9 252 0 0 D [.ref (a 0), .int p0, .int p1, .int p2, .int p3] (yW K a G) (tK K) sz (fun (r : Int32) (G' : gS) => (yI G') ∧ (gu_un ycd [29, 33, 36, 37, 300, 500, 1300, 1400, 1500, 1600, 1700, 1800, 1900, 2000, 2100, 2700] G G') ∧ ((-2) ≤ r.toInt ∧ r.toInt ≤ 65535) ∧ (yNh G G') ∧ (((G' 0 32).toInt = (G 0 32).toInt)) ∧ (((∀ q : Nat, q < 12 → G' 3 q = (G 3) q) ∧ ∀ q : Nat, q < 4 → G' 5 q = (G 5) q))) (fun (G' : gS) => (yW K a G')) (fun _ => (tK K)) := by
  unfold Ki
  refine g_ofW (cc := cX13_bestTeeth) (lv := [(0, .ref (a 0)), (1, .int p0), (2, .int p1), (3, .int p2), (4, .int p3)]) (by decide) rfl (Nat.le_of_ble_eq_true rfl) rfl ?_
  intro p e s m args below meth c A Q hA hQ F hr hnm
  have hts := F.2.2.2.2.1
  have w_0 : (Cond.fieldLink RX13 202 "QuietCutModel" "teeth" "[I").before args s = true := hts _ (List.mem_of_getElem? (i := 6) rfl)
  have i_X13 : ∀ w ∈ u_ws RX13 TX13 73, w ∈ wsX13_bestTeeth := fun _ h => List.mem_cons_of_mem _ (List.mem_append_right _ h)
  have w_1 : (Cond.fieldLink RX13 253 "QuietCutModel" "keptTeeth" "[I").before args s = true := hts _ (List.mem_of_getElem? (i := 5) rfl)
  have w_2 : (Cond.fieldLink RX13 199 "QuietCutModel" "rule" "[I").before args s = true := hts _ (List.mem_of_getElem? (i := 4) rfl)
  have w_3 : (Cond.constantLong RX13 422 (9)).before args s = true := hts _ (List.mem_of_getElem? (i := 1) rfl)
  have w_4 : (Cond.constantLong RX13 486 (4)).before args s = true := hts _ (List.mem_of_getElem? (i := 2) rfl)
  have w_5 : (Cond.constantLong RX13 488 (65535)).before args s = true := hts _ (List.mem_of_getElem? (i := 3) rfl)
  have rg0 : -2147483648 ≤ s0 ∧ s0 ≤ 2147483647 := e0 ▸ ti_rng p0
  have rg1 : -2147483648 ≤ s1 ∧ s1 ≤ 2147483647 := e1 ▸ ti_rng p1
  have rg2 : -2147483648 ≤ s2 ∧ s2 ≤ 2147483647 := e2 ▸ ti_rng p2
  have rg3 : -2147483648 ≤ s3 ∧ s3 ≤ 2147483647 := e3 ▸ ti_rng p3
  have b1 : (0 : Int) ≤ (G 0 32).toInt ∧ (G 0 32).toInt ≤ 7 := hI 0 32
  have J_239 : ∀ (fuel : Nat) (x239_6 : Int32) (x239_8 : Int32) (Gj239 : gS), (2147483647 - x239_8.toInt).toNat < fuel → ((-1) ≤ x239_6.toInt ∧ x239_6.toInt ≤ 65535) → (0 ≤ x239_8.toInt ∧ x239_8.toInt ≤ 4) → (yI Gj239) → (gu_un ycd [29, 33, 36, 37, 300, 500, 1300, 1400, 1500, 1600, 1700, 1800, 1900, 2000, 2100, 2700] G Gj239) → (((∀ q : Nat, q < 12 → Gj239 3 q = G 3 q) ∧ (∀ q : Nat, q < 4 → Gj239 27 q = G 5 q) ∧ ∀ q : Nat, (q : Int) < x239_8.toInt → Gj239 5 q = G 5 q)) → (((Gj239 0 32).toInt = (G 0 32).toInt)) → (yNh G Gj239) → gG p l e (gR 9 0 0 252) s m args below meth c D A 11 Q 0 0 (yW K a Gj239) (tK K) [(0, .ref (a 0)), (6, .int x239_6), (8, .int x239_8)] 239 [] := by
    intro fuel
    induction fuel with
    | zero => intro x239_6 x239_8 Gj239 hm; exact absurd hm (Nat.not_lt_zero _)
    | succ fuel_239 ih_239 =>
      intro x239_6 x239_8 Gj239 hm_239 h239_6 h239_8 jI239 jU239 rt dc_239 nh239
      refine g_iload F 2 dX13_bestTeeth_239 rfl ?_
      refine g_iconst F 4 dX13_bestTeeth_241 (by decide) ?_
      refine v_icmp_ge F 265 dX13_bestTeeth_242 (by decide) x239_8.toInt 4 rfl rfl (fun c2 => ?_) (fun c2 => ?_)
      · refine g_iload F 1 dX13_bestTeeth_265 rfl ?_
        have b3 : (0 : Int) ≤ (Gj239 0 32).toInt ∧ (Gj239 0 32).toInt ≤ 7 := jI239 0 32
        exact u_iret F hA hQ hr Gj239 (⟨jI239, (gu_un.tr gu_un.rf (gu_un.su jU239 rfl)), (by have h9 := ti_rng x239_6; omega), (nh239), (by show ((Gj239 0 32).toInt = (G 0 32).toInt); (first | omega | (simp only [Int32.reduceToInt, true_and, and_true, ne_eq, not_true_eq_false, false_and, or_false, false_or, true_or, or_true, false_implies] <;> omega))), (⟨rt.1, fun q hq => rt.2.2 q (by omega)⟩)⟩) rfl rfl dX13_bestTeeth_267
      · refine g_aload_n F 0 dX13_bestTeeth_245 rfl rfl ?_
        refine yg_0_12 F i_X13 w_0 dX13_bestTeeth_246 ?_
        refine g_iload F 2 dX13_bestTeeth_249 rfl ?_
        refine g_aload_n F 0 dX13_bestTeeth_251 rfl rfl ?_
        refine yg_0_44 F i_X13 w_1 dX13_bestTeeth_252 ?_
        refine g_iload F 2 dX13_bestTeeth_255 rfl ?_
        refine u1_iald F 27 0 yc_27 rfl x239_8.toInt rfl (by omega) (by omega) dX13_bestTeeth_257 ((Gj239 27) (x239_8.toInt).toNat) (rfl) ?_
        have b4 : (0 : Int) ≤ ((Gj239 27) (x239_8.toInt).toNat).toInt ∧ ((Gj239 27) (x239_8.toInt).toNat).toInt ≤ 15 := jI239 27 _
        refine u_iast F 5 0 yc_5 rfl x239_8.toInt rfl (by omega) (by omega) (yW K a (gu_up Gj239 5 (x239_8.toInt).toNat ((Gj239 27) (x239_8.toInt).toNat))) (ys_5 _) dX13_bestTeeth_258 ?_
        refine u_iinc F (fun v_ => [(8, .int v_), (0, .ref (a 0)), (6, .int x239_6)]) dX13_bestTeeth_259 (j := 2) rfl x239_8.toInt 1 rfl rfl (by omega) (by omega) (by decide) (fun _ => rfl) (fun y5 ey5 => ?_)
        refine g_goto F 239 dX13_bestTeeth_262 (by decide) ?_
        refine g_locals [(0, .ref (a 0)), (6, .int x239_6), (8, .int y5)] [1, 2, 0] rfl ?_
        have b6 : (0 : Int) ≤ (Gj239 0 32).toInt ∧ (Gj239 0 32).toInt ≤ 7 := jI239 0 32
        exact ih_239 x239_6 y5 (gu_up Gj239 5 (x239_8.toInt).toNat ((Gj239 27) (x239_8.toInt).toNat)) (by omega) (by have h9 := ti_rng x239_6; omega) (by have h9 := ti_rng y5; omega) (gu_I.up (j := 5) (k := (x239_8.toInt).toNat) (v := ((Gj239 27) (x239_8.toInt).toNat)) jI239 (show (0 : Int) ≤ Int32.toInt ((Gj239 27) (x239_8.toInt).toNat) by omega) (show Int32.toInt ((Gj239 27) (x239_8.toInt).toNat) ≤ 15 by omega)) (gu_un.up (j := 5) (k := (x239_8.toInt).toNat) (v := ((Gj239 27) (x239_8.toInt).toNat)) (gu_un.tr gu_un.rf (gu_un.su jU239 rfl)) (show (500 : Nat) ∈ ([29, 33, 36, 37, 300, 500, 1300, 1400, 1500, 1600, 1700, 1800, 1900, 2000, 2100, 2700] : List Nat) by decide)) (⟨fun q hq => rt.1 q hq, fun q hq => rt.2.1 q hq, copy_1 (by omega) (by omega) rt.2.2 (by first | exact rt.2.1 _ (by omega) | (rw [rt.2.1 _ (by omega)]))⟩) (by have e9_0_32 : (gu_up Gj239 5 (x239_8.toInt).toNat ((Gj239 27) (x239_8.toInt).toNat)) 0 32 = (Gj239 0 32) := rfl; (try simp only [e9_0_32, true_and, and_true]) <;> (first | omega | (simp only [Int32.reduceToInt, true_and, and_true, ne_eq, not_true_eq_false, false_and, or_false, false_or, true_or, or_true, false_implies] <;> omega))) ((yNh.tr (show yNh G Gj239 from nh239) (yNh.un (show gu_un ycd [500] Gj239 (gu_up Gj239 5 (x239_8.toInt).toNat ((Gj239 27) (x239_8.toInt).toNat)) from (gu_un.up (j := 5) (k := (x239_8.toInt).toNat) (v := ((Gj239 27) (x239_8.toInt).toNat)) gu_un.rf (show (500 : Nat) ∈ ([500] : List Nat) by decide))) rfl)))
  have J_122 : ∀ (fuel : Nat) (x122_6 : Int32) (x122_7 : Int32) (x122_8 : Int32) (Gj122 : gS), (2147483647 - x122_8.toInt).toNat < fuel → (0 ≤ s0 ∧ s0 ≤ 5) → (1 ≤ s1 ∧ s1 ≤ 9) → (1 ≤ s2 ∧ s2 ≤ 4) → (1 ≤ s3 ∧ s3 ≤ 65535) → ((-1) ≤ x122_6.toInt ∧ x122_6.toInt ≤ 65535) → (0 ≤ x122_7.toInt ∧ x122_7.toInt ≤ 20) → (1 ≤ x122_8.toInt ∧ x122_8.toInt ≤ 65536) → (yI Gj122) → (gu_un ycd [29, 33, 36, 37, 300, 500, 1300, 1400, 1500, 1600, 1700, 1800, 1900, 2000, 2100, 2700] G Gj122) → (((∀ q : Nat, q ≠ 10 → Gj122 3 q = G 3 q) ∧ ∀ q : Nat, q < 4 → Gj122 27 q = G 5 q)) → (((Gj122 0 32).toInt = (G 0 32).toInt)) → (yNh G Gj122) → gG p l e (gR 9 0 0 252) s m args below meth c D A 11 Q 0 0 (yW K a Gj122) (tK K) [(0, .ref (a 0)), (1, .int p0), (2, .int p1), (3, .int p2), (4, .int p3), (5, .int (G 3 10)), (6, .int x122_6), (7, .int x122_7), (8, .int x122_8)] 122 [] := by
    intro fuel
    induction fuel with
    | zero => intro x122_6 x122_7 x122_8 Gj122 hm; exact absurd hm (Nat.not_lt_zero _)
    | succ fuel_122 ih_122 =>
      intro x122_6 x122_7 x122_8 Gj122 hm_122 k122_1 k122_2 k122_3 k122_4 h122_6 h122_7 h122_8 jI122 jU122 rs122 dc_122 nh122
      have J_221 : ∀  (x221_6 : Int32) (x221_7 : Int32) (Gj221 : gS), ((-1) ≤ x221_6.toInt ∧ x221_6.toInt ≤ 65535) → (0 ≤ x221_7.toInt ∧ x221_7.toInt ≤ 20) → (1 ≤ x122_8.toInt ∧ x122_8.toInt ≤ 65535) → (yI Gj221) → (gu_un ycd [29, 33, 36, 37, 500, 1300, 1400, 1500, 1600, 1700, 1800, 1900, 2000, 2100] Gj122 Gj221) → (((∀ q : Nat, q ≠ 10 → Gj221 3 q = G 3 q) ∧ ∀ q : Nat, q < 4 → Gj221 27 q = G 5 q)) → (((Gj221 0 32).toInt = (G 0 32).toInt)) → (yNh G Gj221) → gG p l e (gR 9 0 0 252) s m args below meth c D A 11 Q 0 0 (yW K a Gj221) (tK K) [(0, .ref (a 0)), (1, .int p0), (2, .int p1), (3, .int p2), (4, .int p3), (5, .int (G 3 10)), (6, .int x221_6), (7, .int x221_7), (8, .int x122_8)] 221 [] := by
        intro x221_6 x221_7 Gj221 h221_6 h221_7 k221_8 jI221 jU221 rs221 dc_221 nh221
        refine u_iinc F (fun v_ => [(8, .int v_), (0, .ref (a 0)), (1, .int p0), (2, .int p1), (3, .int p2), (4, .int p3), (5, .int (G 3 10)), (6, .int x221_6), (7, .int x221_7)]) dX13_bestTeeth_221 (j := 8) rfl x122_8.toInt 1 rfl rfl (by omega) (by omega) (by decide) (fun _ => rfl) (fun y7 ey7 => ?_)
        refine g_goto F 122 dX13_bestTeeth_224 (by decide) ?_
        refine g_locals [(0, .ref (a 0)), (1, .int p0), (2, .int p1), (3, .int p2), (4, .int p3), (5, .int (G 3 10)), (6, .int x221_6), (7, .int x221_7), (8, .int y7)] [1, 2, 3, 4, 5, 6, 7, 8, 0] rfl ?_
        have b8 : (0 : Int) ≤ (Gj221 0 32).toInt ∧ (Gj221 0 32).toInt ≤ 7 := jI221 0 32
        exact ih_122 x221_6 x221_7 y7 Gj221 (by omega) (by have h9 := ti_rng p0; omega) (by have h9 := ti_rng p1; omega) (by have h9 := ti_rng p2; omega) (by have h9 := ti_rng p3; omega) (by have h9 := ti_rng x221_6; omega) (by have h9 := ti_rng x221_7; omega) (by have h9 := ti_rng y7; omega) jI221 (gu_un.tr (gu_un.tr gu_un.rf (gu_un.su jU122 rfl)) (gu_un.su jU221 rfl)) (⟨fun q hq => (show Gj221 3 q = Gj221 3 q from (show gu_un ycd [] Gj221 Gj221 from gu_un.rf) 3 q (by simp [ycd])).trans (rs221.1 q hq), fun q hq => (show Gj221 27 q = Gj221 27 q from (show gu_un ycd [] Gj221 Gj221 from gu_un.rf) 27 q (by simp [ycd])).trans (rs221.2 q hq)⟩) (by (first | omega | (simp only [Int32.reduceToInt, true_and, and_true, ne_eq, not_true_eq_false, false_and, or_false, false_or, true_or, or_true, false_implies] <;> omega))) (nh221)
      have J_157 : ∀ (fuel : Nat) (x157_9 : Int32) (x157_10 : Int32) (Gj157 : gS), (2147483647 - x157_10.toInt).toNat < fuel → (1 ≤ x122_8.toInt ∧ x122_8.toInt ≤ 65535) → (0 ≤ x157_9.toInt ∧ x157_9.toInt ≤ 16) → (0 ≤ x157_10.toInt ∧ x157_10.toInt ≤ 16) → (yI Gj157) → (gu_un ycd [500] Gj122 Gj157) → (x157_9.toInt = (bt_tm (x122_8.toInt).toNat (x157_10.toInt).toNat : Int)) → ((bt_CT 16 (x122_8.toInt).toNat : Int) = s2) → (((∀ q : Nat, q ≠ 10 → Gj157 3 q = G 3 q) ∧ ∀ q : Nat, q < 4 → Gj157 27 q = G 5 q)) → (((Gj122 0 32).toInt = (G 0 32).toInt)) → gG p l e (gR 9 0 0 252) s m args below meth c D A 11 Q 0 0 (yW K a Gj157) (tK K) [(0, .ref (a 0)), (1, .int p0), (2, .int p1), (3, .int p2), (4, .int p3), (5, .int (G 3 10)), (6, .int x122_6), (7, .int x122_7), (8, .int x122_8), (9, .int x157_9), (10, .int x157_10)] 157 [] := by
        intro fuel
        induction fuel with
        | zero => intro x157_9 x157_10 Gj157 hm; exact absurd hm (Nat.not_lt_zero _)
        | succ fuel_157 ih_157 =>
          intro x157_9 x157_10 Gj157 hm_157 k157_8 h157_9 h157_10 jI157 jU157 tn tb rs157 dc_157
          have J_189 : ∀  (x189_9 : Int32) (Gj189 : gS), (0 ≤ x189_9.toInt ∧ x189_9.toInt ≤ 16) → (0 ≤ x157_10.toInt ∧ x157_10.toInt ≤ 15) → (yI Gj189) → (gu_un ycd [500] Gj157 Gj189) → ((x189_9.toInt = (bt_tm (x122_8.toInt).toNat ((x157_10.toInt).toNat + 1) : Int))) → ((bt_CT 16 (x122_8.toInt).toNat : Int) = s2) → (((∀ q : Nat, q ≠ 10 → Gj189 3 q = G 3 q) ∧ ∀ q : Nat, q < 4 → Gj189 27 q = G 5 q)) → (((Gj122 0 32).toInt = (G 0 32).toInt)) → gG p l e (gR 9 0 0 252) s m args below meth c D A 11 Q 0 0 (yW K a Gj189) (tK K) [(0, .ref (a 0)), (1, .int p0), (2, .int p1), (3, .int p2), (4, .int p3), (5, .int (G 3 10)), (6, .int x122_6), (7, .int x122_7), (8, .int x122_8), (9, .int x189_9), (10, .int x157_10)] 189 [] := by
            intro x189_9 Gj189 h189_9 k189_10 jI189 jU189 tn tb rs189 dc_189
            refine u_iinc F (fun v_ => [(10, .int v_), (0, .ref (a 0)), (1, .int p0), (2, .int p1), (3, .int p2), (4, .int p3), (5, .int (G 3 10)), (6, .int x122_6), (7, .int x122_7), (8, .int x122_8), (9, .int x189_9)]) dX13_bestTeeth_189 (j := 10) rfl x157_10.toInt 1 rfl rfl (by omega) (by omega) (by decide) (fun _ => rfl) (fun y9 ey9 => ?_)
            refine g_goto F 157 dX13_bestTeeth_192 (by decide) ?_
            refine g_locals [(0, .ref (a 0)), (1, .int p0), (2, .int p1), (3, .int p2), (4, .int p3), (5, .int (G 3 10)), (6, .int x122_6), (7, .int x122_7), (8, .int x122_8), (9, .int x189_9), (10, .int y9)] [1, 2, 3, 4, 5, 6, 7, 8, 9, 10, 0] rfl ?_
            have b10 : (0 : Int) ≤ (Gj122 0 32).toInt ∧ (Gj122 0 32).toInt ≤ 7 := jI122 0 32
            exact ih_157 x189_9 y9 Gj189 (by omega) (by have h9 := ti_rng x122_8; omega) (by have h9 := ti_rng x189_9; omega) (by have h9 := ti_rng y9; omega) jI189 (gu_un.tr (gu_un.tr gu_un.rf (gu_un.su jU157 rfl)) (gu_un.su jU189 rfl)) (by rw [show (y9.toInt).toNat = x157_10.toInt.toNat + 1 by omega]; omega) (by (first | omega | (simp only [Int32.reduceToInt, true_and, and_true, ne_eq, not_true_eq_false, false_and, or_false, false_or, true_or, or_true, false_implies] <;> omega))) (⟨fun q hq => (show Gj189 3 q = Gj189 3 q from (show gu_un ycd [] Gj189 Gj189 from gu_un.rf) 3 q (by simp [ycd])).trans (rs189.1 q hq), fun q hq => (show Gj189 27 q = Gj189 27 q from (show gu_un ycd [] Gj189 Gj189 from gu_un.rf) 27 q (by simp [ycd])).trans (rs189.2 q hq)⟩) (by have e9_0_32 : Gj189 0 32 = (Gj122 0 32) := (jU189 0 32 (by decide)).trans (jU157 0 32 (by decide)); (try simp only [e9_0_32, true_and, and_true]) <;> (first | omega | (simp only [Int32.reduceToInt, true_and, and_true, ne_eq, not_true_eq_false, false_and, or_false, false_or, true_or, or_true, false_implies] <;> omega)))
          refine g_iload F 10 dX13_bestTeeth_157 rfl ?_
          refine g_bipush F 16 dX13_bestTeeth_159 (by decide) ?_
          refine v_icmp_ge F 195 dX13_bestTeeth_161 (by decide) x157_10.toInt 16 rfl rfl (fun c11 => ?_) (fun c11 => ?_)
          · refine g_aload_n F 0 dX13_bestTeeth_195 rfl rfl ?_
            refine g_iload_n F 1 dX13_bestTeeth_196 rfl rfl ?_
            refine g_iload_n F 2 dX13_bestTeeth_197 rfl rfl ?_
            have b12 : (0 : Int) ≤ (Gj122 0 32).toInt ∧ (Gj122 0 32).toInt ≤ 7 := jI122 0 32
            refine u_callVi (k := 0) (n := 0) (b := a 0) (As := [.int p0, .int p1]) (st := []) F (fun sz => S_X13_deepestOf l D K a Gj157 p0 s0 p1 s1 e0 (by omega) e1 (by omega) (yW3.un wf (show gu_un ycd [29, 33, 36, 37, 300, 500, 1300, 1400, 1500, 1600, 1700, 1800, 1900, 2000, 2100, 2700] G Gj157 from (gu_un.tr (gu_un.tr gu_un.rf (gu_un.su jU122 rfl)) (gu_un.su jU157 rfl))) rfl) (by have e9_0_32 : Gj157 0 32 = (Gj122 0 32) := jU157 0 32 (by decide); (try simp only [e9_0_32, true_and, and_true]) <;> (first | omega | (simp only [Int32.reduceToInt, true_and, and_true, ne_eq, not_true_eq_false, false_and, or_false, false_or, true_or, or_true, false_implies] <;> omega))) jI157 sz) (cwV 2 hts gX13_bestTeeth_X13_deepestOf rfl rfl rfl (by decide +kernel) ⟨Nat.le_of_ble_eq_true rfl, Nat.le_of_ble_eq_true rfl⟩) rfl 0 yc_0 rfl (Nat.le_of_ble_eq_true rfl) ⟨Nat.zero_le _, Nat.zero_le _⟩ dX13_bestTeeth_198 (fun r13 G15 hw14 => ?_)
            have hI16 : yI G15 := hw14.1
            have hU17 : gu_un ycd [29, 33, 36, 37, 1300, 1400, 1500, 1600, 1700, 1800, 1900, 2000, 2100] Gj157 G15 := hw14.2.1
            have hp18 := hw14.2.2
            have q19 : yNh Gj157 G15 := hp18.2.1
            have b20 : (0 : Int) ≤ (G15 0 32).toInt ∧ (G15 0 32).toInt ≤ 7 := hI16 0 32
            have q21 : ((G15 0 32).toInt = (Gj122 0 32).toInt) := by have h9 := hp18.2.2; (try simp only [(show Gj157 0 32 = (Gj122 0 32) from jU157 0 32 (by decide))] at h9); first | exact h9 | omega
            have rg22 := hp18.1
            clear hp18 hw14
            refine g_istore F [(10, .int r13), (0, .ref (a 0)), (1, .int p0), (2, .int p1), (3, .int p2), (4, .int p3), (5, .int (G 3 10)), (6, .int x122_6), (7, .int x122_7), (8, .int x122_8), (9, .int x157_9)] dX13_bestTeeth_201 (by decide) rfl ?_
            refine g_iload F 0 dX13_bestTeeth_203 rfl ?_
            refine g_iload F 8 dX13_bestTeeth_205 rfl ?_
            refine v_icmp_gt F 213 dX13_bestTeeth_207 (by decide) r13.toInt x122_7.toInt rfl rfl (fun c23 => ?_) (fun c23 => ?_)
            · refine g_iload F 0 dX13_bestTeeth_213 rfl ?_
              refine g_istore F [(7, .int r13), (10, .int r13), (0, .ref (a 0)), (1, .int p0), (2, .int p1), (3, .int p2), (4, .int p3), (5, .int (G 3 10)), (6, .int x122_6), (8, .int x122_8), (9, .int x157_9)] dX13_bestTeeth_215 (by decide) rfl ?_
              refine g_iload F 9 dX13_bestTeeth_217 rfl ?_
              refine g_istore F [(6, .int x122_8), (7, .int r13), (10, .int r13), (0, .ref (a 0)), (1, .int p0), (2, .int p1), (3, .int p2), (4, .int p3), (5, .int (G 3 10)), (8, .int x122_8), (9, .int x157_9)] dX13_bestTeeth_219 (by decide) rfl ?_
              refine g_locals [(0, .ref (a 0)), (1, .int p0), (2, .int p1), (3, .int p2), (4, .int p3), (5, .int (G 3 10)), (6, .int x122_8), (7, .int r13), (8, .int x122_8)] [3, 4, 5, 6, 7, 8, 0, 1, 9] rfl ?_
              exact J_221 x122_8 r13 G15 (by have h9 := ti_rng x122_8; omega) (by have h9 := ti_rng r13; omega) (by have h9 := ti_rng x122_8; omega) hI16 (gu_un.tr (gu_un.tr gu_un.rf (gu_un.su jU157 rfl)) (gu_un.su hU17 rfl)) (⟨fun q hq => (show G15 3 q = Gj157 3 q from (show gu_un ycd [29, 33, 36, 37, 1300, 1400, 1500, 1600, 1700, 1800, 1900, 2000, 2100] Gj157 G15 from (gu_un.tr gu_un.rf (gu_un.su hU17 rfl))) 3 q (by simp [ycd])).trans (rs157.1 q hq), fun q hq => (show G15 27 q = Gj157 27 q from (show gu_un ycd [29, 33, 36, 37, 1300, 1400, 1500, 1600, 1700, 1800, 1900, 2000, 2100] Gj157 G15 from (gu_un.tr gu_un.rf (gu_un.su hU17 rfl))) 27 q (by simp [ycd])).trans (rs157.2 q hq)⟩) (by (first | omega | (simp only [Int32.reduceToInt, true_and, and_true, ne_eq, not_true_eq_false, false_and, or_false, false_or, true_or, or_true, false_implies] <;> omega))) ((yNh.tr (show yNh G Gj157 from (yNh.tr (show yNh G Gj122 from nh122) (show yNh Gj122 Gj157 from (yNh.un jU157 rfl)))) (show yNh Gj157 G15 from q19)))
            · refine g_goto F 221 dX13_bestTeeth_210 (by decide) ?_
              refine g_locals [(0, .ref (a 0)), (1, .int p0), (2, .int p1), (3, .int p2), (4, .int p3), (5, .int (G 3 10)), (6, .int x122_6), (7, .int x122_7), (8, .int x122_8)] [1, 2, 3, 4, 5, 6, 7, 8, 9] rfl ?_
              exact J_221 x122_6 x122_7 G15 (by have h9 := ti_rng x122_6; omega) (by have h9 := ti_rng x122_7; omega) (by have h9 := ti_rng x122_8; omega) hI16 (gu_un.tr (gu_un.tr gu_un.rf (gu_un.su jU157 rfl)) (gu_un.su hU17 rfl)) (⟨fun q hq => (show G15 3 q = Gj157 3 q from (show gu_un ycd [29, 33, 36, 37, 1300, 1400, 1500, 1600, 1700, 1800, 1900, 2000, 2100] Gj157 G15 from (gu_un.tr gu_un.rf (gu_un.su hU17 rfl))) 3 q (by simp [ycd])).trans (rs157.1 q hq), fun q hq => (show G15 27 q = Gj157 27 q from (show gu_un ycd [29, 33, 36, 37, 1300, 1400, 1500, 1600, 1700, 1800, 1900, 2000, 2100] Gj157 G15 from (gu_un.tr gu_un.rf (gu_un.su hU17 rfl))) 27 q (by simp [ycd])).trans (rs157.2 q hq)⟩) (by (first | omega | (simp only [Int32.reduceToInt, true_and, and_true, ne_eq, not_true_eq_false, false_and, or_false, false_or, true_or, or_true, false_implies] <;> omega))) ((yNh.tr (show yNh G Gj157 from (yNh.tr (show yNh G Gj122 from nh122) (show yNh Gj122 Gj157 from (yNh.un jU157 rfl)))) (show yNh Gj157 G15 from q19)))
          · refine g_iload F 8 dX13_bestTeeth_164 rfl ?_
            refine g_iload F 10 dX13_bestTeeth_166 rfl ?_
            refine g_ishr F dX13_bestTeeth_168 ?_
            refine g_iconst F 1 dX13_bestTeeth_169 (by decide) ?_
            refine g_iand F dX13_bestTeeth_170 ?_
            have b7 := bi_bit (x := x122_8) (k := x157_10) (by omega) (by omega) (by omega)
            have b6 : bt_tm (x122_8.toInt).toNat ((x157_10.toInt).toNat + 1) = bt_tm (x122_8.toInt).toNat (x157_10.toInt).toNat + (x122_8.toInt).toNat / 2 ^ (x157_10.toInt).toNat % 2 := rfl
            have b5 := bt_tmmono (x122_8.toInt).toNat (k := (x157_10.toInt).toNat + 1) (15 - (x157_10.toInt).toNat)
            rw [show (x157_10.toInt).toNat + 1 + (15 - (x157_10.toInt).toNat) = 16 by omega, bt_tmct 16] at b5
            refine v_if_ne F 177 dX13_bestTeeth_171 (by decide) (((x122_8 >>> (x157_10 &&& 31)) &&& 1) : Int32).toInt rfl (fun c24 => ?_) (fun c24 => ?_)
            · refine g_aload_n F 0 dX13_bestTeeth_177 rfl rfl ?_
              refine yg_0_12 F i_X13 w_0 dX13_bestTeeth_178 ?_
              refine g_iload F 9 dX13_bestTeeth_181 rfl ?_
              refine g_iload F 10 dX13_bestTeeth_183 rfl ?_
              refine u_iast F 5 0 yc_5 rfl x157_9.toInt rfl (by omega) (by omega) (yW K a (gu_up Gj157 5 (x157_9.toInt).toNat x157_10)) (ys_5 _) dX13_bestTeeth_185 ?_
              refine u_iinc F (fun v_ => [(9, .int v_), (0, .ref (a 0)), (1, .int p0), (2, .int p1), (3, .int p2), (4, .int p3), (5, .int (G 3 10)), (6, .int x122_6), (7, .int x122_7), (8, .int x122_8), (10, .int x157_10)]) dX13_bestTeeth_186 (j := 9) rfl x157_9.toInt 1 rfl rfl (by omega) (by omega) (by decide) (fun _ => rfl) (fun y25 ey25 => ?_)
              refine g_locals [(0, .ref (a 0)), (1, .int p0), (2, .int p1), (3, .int p2), (4, .int p3), (5, .int (G 3 10)), (6, .int x122_6), (7, .int x122_7), (8, .int x122_8), (9, .int y25), (10, .int x157_10)] [1, 2, 3, 4, 5, 6, 7, 8, 9, 0, 10] rfl ?_
              have b26 : (0 : Int) ≤ (Gj122 0 32).toInt ∧ (Gj122 0 32).toInt ≤ 7 := jI122 0 32
              exact J_189 y25 (gu_up Gj157 5 (x157_9.toInt).toNat x157_10) (by have h9 := ti_rng y25; omega) (by have h9 := ti_rng x157_10; omega) (gu_I.up (j := 5) (k := (x157_9.toInt).toNat) (v := x157_10) jI157 (show (0 : Int) ≤ Int32.toInt x157_10 by omega) (show Int32.toInt x157_10 ≤ 15 by omega)) (gu_un.up (j := 5) (k := (x157_9.toInt).toNat) (v := x157_10) gu_un.rf (show (500 : Nat) ∈ ([500] : List Nat) by decide)) (by (first | omega | (simp only [Int32.reduceToInt, true_and, and_true, ne_eq, not_true_eq_false, false_and, or_false, false_or, true_or, or_true, false_implies] <;> omega))) (by (first | omega | (simp only [Int32.reduceToInt, true_and, and_true, ne_eq, not_true_eq_false, false_and, or_false, false_or, true_or, or_true, false_implies] <;> omega))) (⟨fun q hq => (show (gu_up Gj157 5 (x157_9.toInt).toNat x157_10) 3 q = Gj157 3 q from (show gu_un ycd [500] Gj157 (gu_up Gj157 5 (x157_9.toInt).toNat x157_10) from (gu_un.up (j := 5) (k := (x157_9.toInt).toNat) (v := x157_10) gu_un.rf (show (500 : Nat) ∈ ([500] : List Nat) by decide))) 3 q (by simp [ycd])).trans (rs157.1 q hq), fun q hq => (show (gu_up Gj157 5 (x157_9.toInt).toNat x157_10) 27 q = Gj157 27 q from (show gu_un ycd [500] Gj157 (gu_up Gj157 5 (x157_9.toInt).toNat x157_10) from (gu_un.up (j := 5) (k := (x157_9.toInt).toNat) (v := x157_10) gu_un.rf (show (500 : Nat) ∈ ([500] : List Nat) by decide))) 27 q (by simp [ycd])).trans (rs157.2 q hq)⟩) (by have e9_0_32 : (gu_up Gj157 5 (x157_9.toInt).toNat x157_10) 0 32 = (Gj122 0 32) := jU157 0 32 (by decide); (try simp only [e9_0_32, true_and, and_true]) <;> (first | omega | (simp only [Int32.reduceToInt, true_and, and_true, ne_eq, not_true_eq_false, false_and, or_false, false_or, true_or, or_true, false_implies] <;> omega)))
            · refine g_goto F 189 dX13_bestTeeth_174 (by decide) ?_
              have b27 : (0 : Int) ≤ (Gj122 0 32).toInt ∧ (Gj122 0 32).toInt ≤ 7 := jI122 0 32
              exact J_189 x157_9 Gj157 (by have h9 := ti_rng x157_9; omega) (by have h9 := ti_rng x157_10; omega) jI157 gu_un.rf (by (first | omega | (simp only [Int32.reduceToInt, true_and, and_true, ne_eq, not_true_eq_false, false_and, or_false, false_or, true_or, or_true, false_implies] <;> omega))) (by (first | omega | (simp only [Int32.reduceToInt, true_and, and_true, ne_eq, not_true_eq_false, false_and, or_false, false_or, true_or, or_true, false_implies] <;> omega))) (⟨fun q hq => (show Gj157 3 q = Gj157 3 q from (show gu_un ycd [] Gj157 Gj157 from gu_un.rf) 3 q (by simp [ycd])).trans (rs157.1 q hq), fun q hq => (show Gj157 27 q = Gj157 27 q from (show gu_un ycd [] Gj157 Gj157 from gu_un.rf) 27 q (by simp [ycd])).trans (rs157.2 q hq)⟩) (by have e9_0_32 : Gj157 0 32 = (Gj122 0 32) := jU157 0 32 (by decide); (try simp only [e9_0_32, true_and, and_true]) <;> (first | omega | (simp only [Int32.reduceToInt, true_and, and_true, ne_eq, not_true_eq_false, false_and, or_false, false_or, true_or, or_true, false_implies] <;> omega)))
      refine g_iload F 8 dX13_bestTeeth_122 rfl ?_
      refine g_iload F 4 dX13_bestTeeth_124 rfl ?_
      refine v_icmp_gt F 227 dX13_bestTeeth_126 (by decide) x122_8.toInt s3 rfl e3 (fun c28 => ?_) (fun c28 => ?_)
      · refine g_aload_n F 0 dX13_bestTeeth_227 rfl rfl ?_
        refine yg_0_10 F i_X13 w_2 dX13_bestTeeth_228 ?_
        refine g_bipush F 10 dX13_bestTeeth_231 (by decide) ?_
        refine g_iload F 5 dX13_bestTeeth_233 rfl ?_
        have b29 : (1 : Int) ≤ (G 3 10).toInt ∧ (G 3 10).toInt ≤ 4 := hI 3 10
        refine u_iast F 3 0 yc_3 rfl 10 rfl (by decide) (by decide) (yW K a (gu_up Gj122 3 10 (G 3 10))) (ys_3 _) dX13_bestTeeth_235 ?_
        refine g_iconst F 0 dX13_bestTeeth_236 (by decide) ?_
        refine g_istore F [(8, .int 0), (0, .ref (a 0)), (1, .int p0), (2, .int p1), (3, .int p2), (4, .int p3), (5, .int (G 3 10)), (6, .int x122_6), (7, .int x122_7)] dX13_bestTeeth_237 (by decide) rfl ?_
        refine g_locals [(0, .ref (a 0)), (6, .int x122_6), (8, .int 0)] [1, 7, 0] rfl ?_
        have b30 : (0 : Int) ≤ (Gj122 0 32).toInt ∧ (Gj122 0 32).toInt ≤ 7 := jI122 0 32
        exact J_239 _ x122_6 0 (gu_up Gj122 3 10 (G 3 10)) (Nat.lt_succ_self _) (by have h9 := ti_rng x122_6; omega) (by decide) (gu_I.up (j := 3) (k := 10) (v := (G 3 10)) jI122 (show (1 : Int) ≤ Int32.toInt (G 3 10) by omega) (show Int32.toInt (G 3 10) ≤ 4 by omega)) (gu_un.up (j := 3) (k := 10) (v := (G 3 10)) (gu_un.tr gu_un.rf (gu_un.su jU122 rfl)) (show (300 : Nat) ∈ ([29, 33, 36, 37, 300, 500, 1300, 1400, 1500, 1600, 1700, 1800, 1900, 2000, 2100, 2700] : List Nat) by decide)) (⟨fun q hq => by by_cases e : q = 10 <;> first | (rw [e]; rfl) | (show upd (Gj122 3) 10 _ q = G 3 q; rw [show upd (Gj122 3) 10 _ q = Gj122 3 q from if_neg e]; exact rs122.1 q e), fun q hq => rs122.2 q hq, fun q hq => by have h9 : (q : Int) < 0 := hq; omega⟩) (by have e9_0_32 : (gu_up Gj122 3 10 (G 3 10)) 0 32 = (Gj122 0 32) := rfl; (try simp only [e9_0_32, true_and, and_true]) <;> (first | omega | (simp only [Int32.reduceToInt, true_and, and_true, ne_eq, not_true_eq_false, false_and, or_false, false_or, true_or, or_true, false_implies] <;> omega))) ((yNh.tr (show yNh G Gj122 from nh122) (yNh.un (show gu_un ycd [300] Gj122 (gu_up Gj122 3 10 (G 3 10)) from (gu_un.up (j := 3) (k := 10) (v := (G 3 10)) gu_un.rf (show (300 : Nat) ∈ ([300] : List Nat) by decide))) rfl)))
      · refine g_iload F 8 dX13_bestTeeth_129 rfl ?_
        refine g_iload F 4 dX13_bestTeeth_131 rfl ?_
        refine g_iconst F (-1) dX13_bestTeeth_133 (by decide) ?_
        refine u0_ixor F dX13_bestTeeth_134 (fun y31 => ?_)
        refine u0_iand F dX13_bestTeeth_135 (fun y32 => ?_)
        refine v_if_ne F 221 dX13_bestTeeth_136 (by decide) y32.toInt rfl (fun c33 => ?_) (fun c33 => ?_)
        · have b34 : (0 : Int) ≤ (Gj122 0 32).toInt ∧ (Gj122 0 32).toInt ≤ 7 := jI122 0 32
          exact J_221 x122_6 x122_7 Gj122 (by have h9 := ti_rng x122_6; omega) (by have h9 := ti_rng x122_7; omega) (by have h9 := ti_rng x122_8; omega) jI122 gu_un.rf (⟨fun q hq => (show Gj122 3 q = Gj122 3 q from (show gu_un ycd [] Gj122 Gj122 from gu_un.rf) 3 q (by simp [ycd])).trans (rs122.1 q hq), fun q hq => (show Gj122 27 q = Gj122 27 q from (show gu_un ycd [] Gj122 Gj122 from gu_un.rf) 27 q (by simp [ycd])).trans (rs122.2 q hq)⟩) (by (first | omega | (simp only [Int32.reduceToInt, true_and, and_true, ne_eq, not_true_eq_false, false_and, or_false, false_or, true_or, or_true, false_implies] <;> omega))) (nh122)
        · refine g_iload F 8 dX13_bestTeeth_139 rfl ?_
          refine u_call0 (k := 0) (n := 0) (As := [.int x122_8]) (st := []) F (fun sz => S_X13_bits_b65535 l D x122_8 x122_8.toInt rfl (by omega) sz) (va_cwS 1 hts gX13_bestTeeth_X13_bits rfl rfl rfl (by decide +kernel) ⟨Nat.le_of_ble_eq_true rfl, Nat.le_of_ble_eq_true rfl⟩) rfl (Nat.le_of_ble_eq_true rfl) ⟨Nat.zero_le _, Nat.zero_le _⟩ dX13_bestTeeth_141 (fun r35 _ hw36 => ?_)
          have q38 : (r35.toInt = (bt_CT 16 (x122_8.toInt).toNat : Int)) := hw36.2
          have rg39 := hw36.1
          have rg40 := hw36.2
          clear hw36
          refine g_iload_n F 3 dX13_bestTeeth_144 rfl rfl ?_
          refine v_icmp_eq F 151 dX13_bestTeeth_145 (by decide) r35.toInt s2 rfl e2 (fun c41 => ?_) (fun c41 => ?_)
          · refine g_iconst F 0 dX13_bestTeeth_151 (by decide) ?_
            refine g_istore F [(9, .int 0), (0, .ref (a 0)), (1, .int p0), (2, .int p1), (3, .int p2), (4, .int p3), (5, .int (G 3 10)), (6, .int x122_6), (7, .int x122_7), (8, .int x122_8)] dX13_bestTeeth_152 (by decide) rfl ?_
            refine g_iconst F 0 dX13_bestTeeth_154 (by decide) ?_
            refine g_istore F [(10, .int 0), (9, .int 0), (0, .ref (a 0)), (1, .int p0), (2, .int p1), (3, .int p2), (4, .int p3), (5, .int (G 3 10)), (6, .int x122_6), (7, .int x122_7), (8, .int x122_8)] dX13_bestTeeth_155 (by decide) rfl ?_
            refine g_locals [(0, .ref (a 0)), (1, .int p0), (2, .int p1), (3, .int p2), (4, .int p3), (5, .int (G 3 10)), (6, .int x122_6), (7, .int x122_7), (8, .int x122_8), (9, .int 0), (10, .int 0)] [2, 3, 4, 5, 6, 7, 8, 9, 10, 1, 0] rfl ?_
            have b42 : (0 : Int) ≤ (Gj122 0 32).toInt ∧ (Gj122 0 32).toInt ≤ 7 := jI122 0 32
            exact J_157 _ 0 0 Gj122 (Nat.lt_succ_self _) (by have h9 := ti_rng x122_8; omega) (by decide) (by decide) jI122 gu_un.rf (by first | rfl | omega) (by (first | omega | (simp only [Int32.reduceToInt, true_and, and_true, ne_eq, not_true_eq_false, false_and, or_false, false_or, true_or, or_true, false_implies] <;> omega))) (⟨fun q hq => (show Gj122 3 q = Gj122 3 q from (show gu_un ycd [] Gj122 Gj122 from gu_un.rf) 3 q (by simp [ycd])).trans (rs122.1 q hq), fun q hq => (show Gj122 27 q = Gj122 27 q from (show gu_un ycd [] Gj122 Gj122 from gu_un.rf) 27 q (by simp [ycd])).trans (rs122.2 q hq)⟩) (by (first | omega | (simp only [Int32.reduceToInt, true_and, and_true, ne_eq, not_true_eq_false, false_and, or_false, false_or, true_or, or_true, false_implies] <;> omega)))
          · refine g_goto F 221 dX13_bestTeeth_148 (by decide) ?_
            have b43 : (0 : Int) ≤ (Gj122 0 32).toInt ∧ (Gj122 0 32).toInt ≤ 7 := jI122 0 32
            exact J_221 x122_6 x122_7 Gj122 (by have h9 := ti_rng x122_6; omega) (by have h9 := ti_rng x122_7; omega) (by have h9 := ti_rng x122_8; omega) jI122 gu_un.rf (⟨fun q hq => (show Gj122 3 q = Gj122 3 q from (show gu_un ycd [] Gj122 Gj122 from gu_un.rf) 3 q (by simp [ycd])).trans (rs122.1 q hq), fun q hq => (show Gj122 27 q = Gj122 27 q from (show gu_un ycd [] Gj122 Gj122 from gu_un.rf) 27 q (by simp [ycd])).trans (rs122.2 q hq)⟩) (by (first | omega | (simp only [Int32.reduceToInt, true_and, and_true, ne_eq, not_true_eq_false, false_and, or_false, false_or, true_or, or_true, false_implies] <;> omega))) (nh122)
  have J_79 : ∀ (fuel : Nat) (x79_6 : Int32) (Gj79 : gS), (2147483647 - x79_6.toInt).toNat < fuel → (0 ≤ s0 ∧ s0 ≤ 5) → (1 ≤ s1 ∧ s1 ≤ 9) → (1 ≤ s2 ∧ s2 ≤ 4) → (1 ≤ s3 ∧ s3 ≤ 65535) → (0 ≤ x79_6.toInt ∧ x79_6.toInt ≤ 4) → (yI Gj79) → (gu_un ycd [2700] G Gj79) → (∀ q : Nat, (q : Int) < x79_6.toInt → Gj79 27 q = G 5 q) → (((G 0 32).toInt = (G 0 32).toInt)) → gG p l e (gR 9 0 0 252) s m args below meth c D A 11 Q 0 0 (yW K a Gj79) (tK K) [(0, .ref (a 0)), (1, .int p0), (2, .int p1), (3, .int p2), (4, .int p3), (5, .int (G 3 10)), (6, .int x79_6)] 79 [] := by
    intro fuel
    induction fuel with
    | zero => intro x79_6 Gj79 hm; exact absurd hm (Nat.not_lt_zero _)
    | succ fuel_79 ih_79 =>
      intro x79_6 Gj79 hm_79 k79_1 k79_2 k79_3 k79_4 h79_6 jI79 jU79 kt dc_79
      refine g_iload F 6 dX13_bestTeeth_79 rfl ?_
      refine g_iconst F 4 dX13_bestTeeth_81 (by decide) ?_
      refine v_icmp_ge F 105 dX13_bestTeeth_82 (by decide) x79_6.toInt 4 rfl rfl (fun c44 => ?_) (fun c44 => ?_)
      · refine g_aload_n F 0 dX13_bestTeeth_105 rfl rfl ?_
        refine yg_0_10 F i_X13 w_2 dX13_bestTeeth_106 ?_
        refine g_bipush F 10 dX13_bestTeeth_109 (by decide) ?_
        refine g_iload_n F 3 dX13_bestTeeth_111 rfl rfl ?_
        refine u_iast F 3 0 yc_3 rfl 10 rfl (by decide) (by decide) (yW K a (gu_up Gj79 3 10 p2)) (ys_3 _) dX13_bestTeeth_112 ?_
        refine g_iconst F (-1) dX13_bestTeeth_113 (by decide) ?_
        refine g_istore F [(6, .int (-1)), (0, .ref (a 0)), (1, .int p0), (2, .int p1), (3, .int p2), (4, .int p3), (5, .int (G 3 10))] dX13_bestTeeth_114 (by decide) rfl ?_
        refine g_iconst F 0 dX13_bestTeeth_116 (by decide) ?_
        refine g_istore F [(7, .int 0), (6, .int (-1)), (0, .ref (a 0)), (1, .int p0), (2, .int p1), (3, .int p2), (4, .int p3), (5, .int (G 3 10))] dX13_bestTeeth_117 (by decide) rfl ?_
        refine g_iconst F 1 dX13_bestTeeth_119 (by decide) ?_
        refine g_istore F [(8, .int 1), (7, .int 0), (6, .int (-1)), (0, .ref (a 0)), (1, .int p0), (2, .int p1), (3, .int p2), (4, .int p3), (5, .int (G 3 10))] dX13_bestTeeth_120 (by decide) rfl ?_
        refine g_locals [(0, .ref (a 0)), (1, .int p0), (2, .int p1), (3, .int p2), (4, .int p3), (5, .int (G 3 10)), (6, .int (-1)), (7, .int 0), (8, .int 1)] [3, 4, 5, 6, 7, 8, 2, 1, 0] rfl ?_
        exact J_122 _ (-1) 0 1 (gu_up Gj79 3 10 p2) (Nat.lt_succ_self _) (by have h9 := ti_rng p0; omega) (by have h9 := ti_rng p1; omega) (by have h9 := ti_rng p2; omega) (by have h9 := ti_rng p3; omega) (by decide) (by decide) (by decide) (gu_I.up (j := 3) (k := 10) (v := p2) jI79 (show (1 : Int) ≤ Int32.toInt p2 by omega) (show Int32.toInt p2 ≤ 4 by omega)) (gu_un.up (j := 3) (k := 10) (v := p2) (gu_un.tr gu_un.rf (gu_un.su jU79 rfl)) (show (300 : Nat) ∈ ([29, 33, 36, 37, 300, 500, 1300, 1400, 1500, 1600, 1700, 1800, 1900, 2000, 2100, 2700] : List Nat) by decide)) (⟨fun q hq => by rw [(show (gu_up Gj79 3 10 p2) 3 = (upd (G 3) 10 p2) from (congrArg (fun f_ => upd f_ 10 p2) ((show Gj79 3 = G 3 from funext fun k_ => jU79 3 k_ (by simp [ycd])).trans (show G 3 = (G 3) from rfl))))]; show upd (G 3) 10 _ q = G 3 q; exact if_neg hq, fun q hq => (show (gu_up Gj79 3 10 p2) 27 q = Gj79 27 q from (show gu_un ycd [300] Gj79 (gu_up Gj79 3 10 p2) from (gu_un.up (j := 3) (k := 10) (v := p2) gu_un.rf (show (300 : Nat) ∈ ([300] : List Nat) by decide))) 27 q (by simp [ycd])).trans (kt q (by omega))⟩) (by have e9_0_32 : (gu_up Gj79 3 10 p2) 0 32 = (G 0 32) := jU79 0 32 (by decide); (try simp only [e9_0_32, true_and, and_true]) <;> (first | omega | (simp only [Int32.reduceToInt, true_and, and_true, ne_eq, not_true_eq_false, false_and, or_false, false_or, true_or, or_true, false_implies] <;> omega))) ((yNh.tr (show yNh G Gj79 from (yNh.tr (show yNh G G from yNh.rf) (show yNh G Gj79 from (yNh.un jU79 rfl)))) (yNh.un (show gu_un ycd [300] Gj79 (gu_up Gj79 3 10 p2) from (gu_un.up (j := 3) (k := 10) (v := p2) gu_un.rf (show (300 : Nat) ∈ ([300] : List Nat) by decide))) rfl)))
      · refine g_aload_n F 0 dX13_bestTeeth_85 rfl rfl ?_
        refine yg_0_44 F i_X13 w_1 dX13_bestTeeth_86 ?_
        refine g_iload F 6 dX13_bestTeeth_89 rfl ?_
        refine g_aload_n F 0 dX13_bestTeeth_91 rfl rfl ?_
        refine yg_0_12 F i_X13 w_0 dX13_bestTeeth_92 ?_
        refine g_iload F 6 dX13_bestTeeth_95 rfl ?_
        refine u1_iald F 5 0 yc_5 rfl x79_6.toInt rfl (by omega) (by omega) dX13_bestTeeth_97 ((G 5) (x79_6.toInt).toNat) (congrFun ((show Gj79 5 = G 5 from funext fun k_ => jU79 5 k_ (show (500 : Nat) ∉ ([2700] : List Nat) by decide))) _) ?_
        have b45 : (0 : Int) ≤ ((G 5) (x79_6.toInt).toNat).toInt ∧ ((G 5) (x79_6.toInt).toNat).toInt ≤ 15 := hI 5 _
        refine u_iast F 27 0 yc_27 rfl x79_6.toInt rfl (by omega) (by omega) (yW K a (gu_up Gj79 27 (x79_6.toInt).toNat ((G 5) (x79_6.toInt).toNat))) (ys_27 _) dX13_bestTeeth_98 ?_
        refine u_iinc F (fun v_ => [(6, .int v_), (0, .ref (a 0)), (1, .int p0), (2, .int p1), (3, .int p2), (4, .int p3), (5, .int (G 3 10))]) dX13_bestTeeth_99 (j := 6) rfl x79_6.toInt 1 rfl rfl (by omega) (by omega) (by decide) (fun _ => rfl) (fun y46 ey46 => ?_)
        refine g_goto F 79 dX13_bestTeeth_102 (by decide) ?_
        refine g_locals [(0, .ref (a 0)), (1, .int p0), (2, .int p1), (3, .int p2), (4, .int p3), (5, .int (G 3 10)), (6, .int y46)] [1, 2, 3, 4, 5, 6, 0] rfl ?_
        exact ih_79 y46 (gu_up Gj79 27 (x79_6.toInt).toNat ((G 5) (x79_6.toInt).toNat)) (by omega) (by have h9 := ti_rng p0; omega) (by have h9 := ti_rng p1; omega) (by have h9 := ti_rng p2; omega) (by have h9 := ti_rng p3; omega) (by have h9 := ti_rng y46; omega) (gu_I.up (j := 27) (k := (x79_6.toInt).toNat) (v := ((G 5) (x79_6.toInt).toNat)) jI79 (show (0 : Int) ≤ Int32.toInt ((G 5) (x79_6.toInt).toNat) by omega) (show Int32.toInt ((G 5) (x79_6.toInt).toNat) ≤ 15 by omega)) (gu_un.up (j := 27) (k := (x79_6.toInt).toNat) (v := ((G 5) (x79_6.toInt).toNat)) (gu_un.tr gu_un.rf (gu_un.su jU79 rfl)) (show (2700 : Nat) ∈ ([2700] : List Nat) by decide)) (copy_1 (by omega) (by omega) kt rfl) (by have e9_0_32 : (gu_up Gj79 27 (x79_6.toInt).toNat ((G 5) (x79_6.toInt).toNat)) 0 32 = (G 0 32) := jU79 0 32 (by decide); (try simp only [e9_0_32, true_and, and_true]) <;> (first | omega | (simp only [Int32.reduceToInt, true_and, and_true, ne_eq, not_true_eq_false, false_and, or_false, false_or, true_or, or_true, false_implies] <;> omega)))
  refine g_aload_n F 0 dX13_bestTeeth_0 rfl rfl ?_
  refine g_iload_n F 1 dX13_bestTeeth_1 rfl rfl ?_
  refine u_callVi (k := 0) (n := 0) (b := a 0) (As := [.int p0]) (st := []) F (fun sz => S_X13_isRing l D K a G p0 s0 e0 hI sz) (cwV 1 hts gX13_bestTeeth_X13_isRing rfl rfl rfl (by decide +kernel) ⟨Nat.le_of_ble_eq_true rfl, Nat.le_of_ble_eq_true rfl⟩) rfl 0 yc_0 rfl (Nat.le_of_ble_eq_true rfl) ⟨Nat.zero_le _, Nat.zero_le _⟩ dX13_bestTeeth_2 (fun r47 _ hw48 => ?_)
  rcases hw48 with ⟨rfl, q50⟩ | ⟨rfl, q51⟩
  · have b52 : (1 : Int) ≤ (G 3 1).toInt ∧ (G 3 1).toInt ≤ 6 := hI 3 1
    have q50 : (0 ≤ s0 ∧ s0 < (G 3 1).toInt) := q50
    refine v_if_eq F 64 dX13_bestTeeth_5 (by decide) 1 rfl (fun c53 => absurd c53 (by decide)) (fun c53 => ?_)
    refine g_iload_n F 2 dX13_bestTeeth_8 rfl rfl ?_
    refine g_i2l F dX13_bestTeeth_9 ?_
    refine g_lconst F 1 dX13_bestTeeth_10 (by decide) ?_
    refine g_ldc2 F w_3 dX13_bestTeeth_11 ?_
    refine u_call0 (k := 0) (n := 0) (As := [.long (Int32.toInt64 p1), .long 1, .long 9]) (st := []) F (fun sz => S_X13_in l D (Int32.toInt64 p1) s1 1 1 9 9 (ti_i2l e1) rfl rfl sz) (va_cwS 3 hts gX13_bestTeeth_X13_in rfl rfl rfl (by decide +kernel) ⟨Nat.le_of_ble_eq_true rfl, Nat.le_of_ble_eq_true rfl⟩) rfl (Nat.le_of_ble_eq_true rfl) ⟨Nat.zero_le _, Nat.zero_le _⟩ dX13_bestTeeth_14 (fun r54 _ hw55 => ?_)
    rcases hw55 with ⟨rfl, q57⟩ | ⟨rfl, q58⟩
    · refine v_if_eq F 64 dX13_bestTeeth_17 (by decide) 1 rfl (fun c59 => absurd c59 (by decide)) (fun c59 => ?_)
      refine g_iload_n F 3 dX13_bestTeeth_20 rfl rfl ?_
      refine g_i2l F dX13_bestTeeth_21 ?_
      refine g_lconst F 1 dX13_bestTeeth_22 (by decide) ?_
      refine g_ldc2 F w_4 dX13_bestTeeth_23 ?_
      refine u_call0 (k := 0) (n := 0) (As := [.long (Int32.toInt64 p2), .long 1, .long 4]) (st := []) F (fun sz => S_X13_in l D (Int32.toInt64 p2) s2 1 1 4 4 (ti_i2l e2) rfl rfl sz) (va_cwS 3 hts gX13_bestTeeth_X13_in rfl rfl rfl (by decide +kernel) ⟨Nat.le_of_ble_eq_true rfl, Nat.le_of_ble_eq_true rfl⟩) rfl (Nat.le_of_ble_eq_true rfl) ⟨Nat.zero_le _, Nat.zero_le _⟩ dX13_bestTeeth_26 (fun r60 _ hw61 => ?_)
      rcases hw61 with ⟨rfl, q63⟩ | ⟨rfl, q64⟩
      · refine v_if_eq F 64 dX13_bestTeeth_29 (by decide) 1 rfl (fun c65 => absurd c65 (by decide)) (fun c65 => ?_)
        refine g_iload F 4 dX13_bestTeeth_32 rfl ?_
        refine g_i2l F dX13_bestTeeth_34 ?_
        refine g_lconst F 1 dX13_bestTeeth_35 (by decide) ?_
        refine g_ldc2 F w_5 dX13_bestTeeth_36 ?_
        refine u_call0 (k := 0) (n := 0) (As := [.long (Int32.toInt64 p3), .long 1, .long 65535]) (st := []) F (fun sz => S_X13_in l D (Int32.toInt64 p3) s3 1 1 65535 65535 (ti_i2l e3) rfl rfl sz) (va_cwS 3 hts gX13_bestTeeth_X13_in rfl rfl rfl (by decide +kernel) ⟨Nat.le_of_ble_eq_true rfl, Nat.le_of_ble_eq_true rfl⟩) rfl (Nat.le_of_ble_eq_true rfl) ⟨Nat.zero_le _, Nat.zero_le _⟩ dX13_bestTeeth_39 (fun r66 _ hw67 => ?_)
        rcases hw67 with ⟨rfl, q69⟩ | ⟨rfl, q70⟩
        · refine v_if_eq F 64 dX13_bestTeeth_42 (by decide) 1 rfl (fun c71 => absurd c71 (by decide)) (fun c71 => ?_)
          refine g_iload F 4 dX13_bestTeeth_45 rfl ?_
          refine u_call0 (k := 0) (n := 0) (As := [.int p3]) (st := []) F (fun sz => S_X13_bits_b65535 l D p3 s3 e3 (by omega) sz) (va_cwS 1 hts gX13_bestTeeth_X13_bits rfl rfl rfl (by decide +kernel) ⟨Nat.le_of_ble_eq_true rfl, Nat.le_of_ble_eq_true rfl⟩) rfl (Nat.le_of_ble_eq_true rfl) ⟨Nat.zero_le _, Nat.zero_le _⟩ dX13_bestTeeth_47 (fun r72 _ hw73 => ?_)
          have q75 : (r72.toInt = (bt_CT 16 (s3).toNat : Int)) := hw73.2
          have rg76 := hw73.1
          have rg77 := hw73.2
          clear hw73
          refine g_iload_n F 3 dX13_bestTeeth_50 rfl rfl ?_
          refine v_icmp_lt F 64 dX13_bestTeeth_51 (by decide) r72.toInt s2 rfl e2 (fun c78 => ?_) (fun c78 => ?_)
          · refine g_bipush F (-2) dX13_bestTeeth_64 (by decide) ?_
            exact u_iret F hA hQ hr G (⟨hI, gu_un.rf, (by decide), (yNh.rf), (by show ((G 0 32).toInt = (G 0 32).toInt); (first | omega | (simp only [Int32.reduceToInt, true_and, and_true, ne_eq, not_true_eq_false, false_and, or_false, false_or, true_or, or_true, false_implies] <;> omega))), (⟨fun q hq => rfl, fun q hq => rfl⟩)⟩) rfl rfl dX13_bestTeeth_66
          · refine g_iload F 4 dX13_bestTeeth_54 rfl ?_
            refine u_call0 (k := 0) (n := 0) (As := [.int p3]) (st := []) F (fun sz => S_X13_bits_b65535 l D p3 s3 e3 (by omega) sz) (va_cwS 1 hts gX13_bestTeeth_X13_bits rfl rfl rfl (by decide +kernel) ⟨Nat.le_of_ble_eq_true rfl, Nat.le_of_ble_eq_true rfl⟩) rfl (Nat.le_of_ble_eq_true rfl) ⟨Nat.zero_le _, Nat.zero_le _⟩ dX13_bestTeeth_56 (fun r79 _ hw80 => ?_)
            have q82 : (r79.toInt = (bt_CT 16 (s3).toNat : Int)) := hw80.2
            have rg83 := hw80.1
            have rg84 := hw80.2
            clear hw80
            refine g_bipush F 6 dX13_bestTeeth_59 (by decide) ?_
            refine v_icmp_le F 67 dX13_bestTeeth_61 (by decide) r79.toInt 6 rfl rfl (fun c85 => ?_) (fun c85 => ?_)
            · refine g_aload_n F 0 dX13_bestTeeth_67 rfl rfl ?_
              refine yg_0_10 F i_X13 w_2 dX13_bestTeeth_68 ?_
              refine g_bipush F 10 dX13_bestTeeth_71 (by decide) ?_
              refine u1_iald F 3 0 yc_3 rfl 10 rfl (by decide) (by decide) dX13_bestTeeth_73 (G 3 10) (rfl) ?_
              refine g_istore F [(5, .int (G 3 10)), (0, .ref (a 0)), (1, .int p0), (2, .int p1), (3, .int p2), (4, .int p3)] dX13_bestTeeth_74 (by decide) rfl ?_
              refine g_iconst F 0 dX13_bestTeeth_76 (by decide) ?_
              refine g_istore F [(6, .int 0), (5, .int (G 3 10)), (0, .ref (a 0)), (1, .int p0), (2, .int p1), (3, .int p2), (4, .int p3)] dX13_bestTeeth_77 (by decide) rfl ?_
              refine g_locals [(0, .ref (a 0)), (1, .int p0), (2, .int p1), (3, .int p2), (4, .int p3), (5, .int (G 3 10)), (6, .int 0)] [2, 3, 4, 5, 6, 1, 0] rfl ?_
              exact J_79 _ 0 G (Nat.lt_succ_self _) (by have h9 := ti_rng p0; omega) (by have h9 := ti_rng p1; omega) (by have h9 := ti_rng p2; omega) (by have h9 := ti_rng p3; omega) (by decide) hI gu_un.rf (fun q hq => by have h9 : (q : Int) < 0 := hq; omega) (by (first | omega | (simp only [Int32.reduceToInt, true_and, and_true, ne_eq, not_true_eq_false, false_and, or_false, false_or, true_or, or_true, false_implies] <;> omega)))
            · refine g_bipush F (-2) dX13_bestTeeth_64 (by decide) ?_
              exact u_iret F hA hQ hr G (⟨hI, gu_un.rf, (by decide), (yNh.rf), (by show ((G 0 32).toInt = (G 0 32).toInt); (first | omega | (simp only [Int32.reduceToInt, true_and, and_true, ne_eq, not_true_eq_false, false_and, or_false, false_or, true_or, or_true, false_implies] <;> omega))), (⟨fun q hq => rfl, fun q hq => rfl⟩)⟩) rfl rfl dX13_bestTeeth_66
        · refine v_if_eq F 64 dX13_bestTeeth_42 (by decide) 0 rfl (fun c86 => ?_) (fun c86 => absurd c86 (by decide))
          refine g_bipush F (-2) dX13_bestTeeth_64 (by decide) ?_
          exact u_iret F hA hQ hr G (⟨hI, gu_un.rf, (by decide), (yNh.rf), (by show ((G 0 32).toInt = (G 0 32).toInt); (first | omega | (simp only [Int32.reduceToInt, true_and, and_true, ne_eq, not_true_eq_false, false_and, or_false, false_or, true_or, or_true, false_implies] <;> omega))), (⟨fun q hq => rfl, fun q hq => rfl⟩)⟩) rfl rfl dX13_bestTeeth_66
      · refine v_if_eq F 64 dX13_bestTeeth_29 (by decide) 0 rfl (fun c87 => ?_) (fun c87 => absurd c87 (by decide))
        refine g_bipush F (-2) dX13_bestTeeth_64 (by decide) ?_
        exact u_iret F hA hQ hr G (⟨hI, gu_un.rf, (by decide), (yNh.rf), (by show ((G 0 32).toInt = (G 0 32).toInt); (first | omega | (simp only [Int32.reduceToInt, true_and, and_true, ne_eq, not_true_eq_false, false_and, or_false, false_or, true_or, or_true, false_implies] <;> omega))), (⟨fun q hq => rfl, fun q hq => rfl⟩)⟩) rfl rfl dX13_bestTeeth_66
    · refine v_if_eq F 64 dX13_bestTeeth_17 (by decide) 0 rfl (fun c88 => ?_) (fun c88 => absurd c88 (by decide))
      refine g_bipush F (-2) dX13_bestTeeth_64 (by decide) ?_
      exact u_iret F hA hQ hr G (⟨hI, gu_un.rf, (by decide), (yNh.rf), (by show ((G 0 32).toInt = (G 0 32).toInt); (first | omega | (simp only [Int32.reduceToInt, true_and, and_true, ne_eq, not_true_eq_false, false_and, or_false, false_or, true_or, or_true, false_implies] <;> omega))), (⟨fun q hq => rfl, fun q hq => rfl⟩)⟩) rfl rfl dX13_bestTeeth_66
  · have b89 : (1 : Int) ≤ (G 3 1).toInt ∧ (G 3 1).toInt ≤ 6 := hI 3 1
    have q51 : (s0 < 0 ∨ (G 3 1).toInt ≤ s0) := q51
    refine v_if_eq F 64 dX13_bestTeeth_5 (by decide) 0 rfl (fun c90 => ?_) (fun c90 => absurd c90 (by decide))
    refine g_bipush F (-2) dX13_bestTeeth_64 (by decide) ?_
    exact u_iret F hA hQ hr G (⟨hI, gu_un.rf, (by decide), (yNh.rf), (by show ((G 0 32).toInt = (G 0 32).toInt); (first | omega | (simp only [Int32.reduceToInt, true_and, and_true, ne_eq, not_true_eq_false, false_and, or_false, false_or, true_or, or_true, false_implies] <;> omega))), (⟨fun q hq => rfl, fun q hq => rfl⟩)⟩) rfl rfl dX13_bestTeeth_66
