theorem dX13_bestTeeth_0 : decode cX13_bestTeeth 0 = .ok (.aload_n 0, 1) := by decide +kernel
theorem dX13_bestTeeth_1 : decode cX13_bestTeeth 1 = .ok (.iload_n 1, 1) := by decide +kernel
theorem dX13_bestTeeth_2 : decode cX13_bestTeeth 2 = .ok (.invokevirtual 367, 3) := by decide +kernel
theorem dX13_bestTeeth_5 : decode cX13_bestTeeth 5 = .ok (.ifCond .eq 59, 3) := by decide +kernel
theorem dX13_bestTeeth_8 : decode cX13_bestTeeth 8 = .ok (.iload_n 2, 1) := by decide +kernel
theorem dX13_bestTeeth_9 : decode cX13_bestTeeth 9 = .ok (.i2l, 1) := by decide +kernel
theorem dX13_bestTeeth_10 : decode cX13_bestTeeth 10 = .ok (.lconst 1, 1) := by decide +kernel
theorem dX13_bestTeeth_11 : decode cX13_bestTeeth 11 = .ok (.ldc2_w 422, 3) := by decide +kernel
theorem dX13_bestTeeth_14 : decode cX13_bestTeeth 14 = .ok (.invokestatic 61, 3) := by decide +kernel
theorem dX13_bestTeeth_17 : decode cX13_bestTeeth 17 = .ok (.ifCond .eq 47, 3) := by decide +kernel
theorem dX13_bestTeeth_20 : decode cX13_bestTeeth 20 = .ok (.iload_n 3, 1) := by decide +kernel
theorem dX13_bestTeeth_21 : decode cX13_bestTeeth 21 = .ok (.i2l, 1) := by decide +kernel
theorem dX13_bestTeeth_22 : decode cX13_bestTeeth 22 = .ok (.lconst 1, 1) := by decide +kernel
theorem dX13_bestTeeth_23 : decode cX13_bestTeeth 23 = .ok (.ldc2_w 486, 3) := by decide +kernel
theorem dX13_bestTeeth_26 : decode cX13_bestTeeth 26 = .ok (.invokestatic 61, 3) := by decide +kernel
theorem dX13_bestTeeth_29 : decode cX13_bestTeeth 29 = .ok (.ifCond .eq 35, 3) := by decide +kernel
theorem dX13_bestTeeth_32 : decode cX13_bestTeeth 32 = .ok (.iload 4, 2) := by decide +kernel
theorem dX13_bestTeeth_34 : decode cX13_bestTeeth 34 = .ok (.i2l, 1) := by decide +kernel
theorem dX13_bestTeeth_35 : decode cX13_bestTeeth 35 = .ok (.lconst 1, 1) := by decide +kernel
theorem dX13_bestTeeth_36 : decode cX13_bestTeeth 36 = .ok (.ldc2_w 488, 3) := by decide +kernel
theorem dX13_bestTeeth_39 : decode cX13_bestTeeth 39 = .ok (.invokestatic 61, 3) := by decide +kernel
theorem dX13_bestTeeth_42 : decode cX13_bestTeeth 42 = .ok (.ifCond .eq 22, 3) := by decide +kernel
theorem dX13_bestTeeth_45 : decode cX13_bestTeeth 45 = .ok (.iload 4, 2) := by decide +kernel
theorem dX13_bestTeeth_47 : decode cX13_bestTeeth 47 = .ok (.invokestatic 490, 3) := by decide +kernel
theorem dX13_bestTeeth_50 : decode cX13_bestTeeth 50 = .ok (.iload_n 3, 1) := by decide +kernel
theorem dX13_bestTeeth_51 : decode cX13_bestTeeth 51 = .ok (.if_icmp .lt 13, 3) := by decide +kernel
theorem dX13_bestTeeth_54 : decode cX13_bestTeeth 54 = .ok (.iload 4, 2) := by decide +kernel
theorem dX13_bestTeeth_56 : decode cX13_bestTeeth 56 = .ok (.invokestatic 490, 3) := by decide +kernel
theorem dX13_bestTeeth_59 : decode cX13_bestTeeth 59 = .ok (.bipush 6, 2) := by decide +kernel
theorem dX13_bestTeeth_61 : decode cX13_bestTeeth 61 = .ok (.if_icmp .le 6, 3) := by decide +kernel
theorem dX13_bestTeeth_64 : decode cX13_bestTeeth 64 = .ok (.bipush (-2), 2) := by decide +kernel
theorem dX13_bestTeeth_66 : decode cX13_bestTeeth 66 = .ok (.ireturn, 1) := by decide +kernel
theorem dX13_bestTeeth_67 : decode cX13_bestTeeth 67 = .ok (.aload_n 0, 1) := by decide +kernel
theorem dX13_bestTeeth_68 : decode cX13_bestTeeth 68 = .ok (.getfield 199, 3) := by decide +kernel
theorem dX13_bestTeeth_71 : decode cX13_bestTeeth 71 = .ok (.bipush 10, 2) := by decide +kernel
theorem dX13_bestTeeth_73 : decode cX13_bestTeeth 73 = .ok (.iaload, 1) := by decide +kernel
theorem dX13_bestTeeth_74 : decode cX13_bestTeeth 74 = .ok (.istore 5, 2) := by decide +kernel
theorem dX13_bestTeeth_76 : decode cX13_bestTeeth 76 = .ok (.iconst 0, 1) := by decide +kernel
theorem dX13_bestTeeth_77 : decode cX13_bestTeeth 77 = .ok (.istore 6, 2) := by decide +kernel
theorem dX13_bestTeeth_79 : decode cX13_bestTeeth 79 = .ok (.iload 6, 2) := by decide +kernel
theorem dX13_bestTeeth_81 : decode cX13_bestTeeth 81 = .ok (.iconst 4, 1) := by decide +kernel
theorem dX13_bestTeeth_82 : decode cX13_bestTeeth 82 = .ok (.if_icmp .ge 23, 3) := by decide +kernel
theorem dX13_bestTeeth_85 : decode cX13_bestTeeth 85 = .ok (.aload_n 0, 1) := by decide +kernel
theorem dX13_bestTeeth_86 : decode cX13_bestTeeth 86 = .ok (.getfield 253, 3) := by decide +kernel
theorem dX13_bestTeeth_89 : decode cX13_bestTeeth 89 = .ok (.iload 6, 2) := by decide +kernel
theorem dX13_bestTeeth_91 : decode cX13_bestTeeth 91 = .ok (.aload_n 0, 1) := by decide +kernel
theorem dX13_bestTeeth_92 : decode cX13_bestTeeth 92 = .ok (.getfield 202, 3) := by decide +kernel
theorem dX13_bestTeeth_95 : decode cX13_bestTeeth 95 = .ok (.iload 6, 2) := by decide +kernel
theorem dX13_bestTeeth_97 : decode cX13_bestTeeth 97 = .ok (.iaload, 1) := by decide +kernel
theorem dX13_bestTeeth_98 : decode cX13_bestTeeth 98 = .ok (.iastore, 1) := by decide +kernel
theorem dX13_bestTeeth_99 : decode cX13_bestTeeth 99 = .ok (.iinc 6 1, 3) := by decide +kernel
theorem dX13_bestTeeth_102 : decode cX13_bestTeeth 102 = .ok (.goto (-23), 3) := by decide +kernel
theorem dX13_bestTeeth_105 : decode cX13_bestTeeth 105 = .ok (.aload_n 0, 1) := by decide +kernel
theorem dX13_bestTeeth_106 : decode cX13_bestTeeth 106 = .ok (.getfield 199, 3) := by decide +kernel
theorem dX13_bestTeeth_109 : decode cX13_bestTeeth 109 = .ok (.bipush 10, 2) := by decide +kernel
theorem dX13_bestTeeth_111 : decode cX13_bestTeeth 111 = .ok (.iload_n 3, 1) := by decide +kernel
theorem dX13_bestTeeth_112 : decode cX13_bestTeeth 112 = .ok (.iastore, 1) := by decide +kernel
theorem dX13_bestTeeth_113 : decode cX13_bestTeeth 113 = .ok (.iconst (-1), 1) := by decide +kernel
theorem dX13_bestTeeth_114 : decode cX13_bestTeeth 114 = .ok (.istore 6, 2) := by decide +kernel
theorem dX13_bestTeeth_116 : decode cX13_bestTeeth 116 = .ok (.iconst 0, 1) := by decide +kernel
theorem dX13_bestTeeth_117 : decode cX13_bestTeeth 117 = .ok (.istore 7, 2) := by decide +kernel
theorem dX13_bestTeeth_119 : decode cX13_bestTeeth 119 = .ok (.iconst 1, 1) := by decide +kernel
theorem dX13_bestTeeth_120 : decode cX13_bestTeeth 120 = .ok (.istore 8, 2) := by decide +kernel
theorem dX13_bestTeeth_122 : decode cX13_bestTeeth 122 = .ok (.iload 8, 2) := by decide +kernel
theorem dX13_bestTeeth_124 : decode cX13_bestTeeth 124 = .ok (.iload 4, 2) := by decide +kernel
theorem dX13_bestTeeth_126 : decode cX13_bestTeeth 126 = .ok (.if_icmp .gt 101, 3) := by decide +kernel
theorem dX13_bestTeeth_129 : decode cX13_bestTeeth 129 = .ok (.iload 8, 2) := by decide +kernel
theorem dX13_bestTeeth_131 : decode cX13_bestTeeth 131 = .ok (.iload 4, 2) := by decide +kernel
theorem dX13_bestTeeth_133 : decode cX13_bestTeeth 133 = .ok (.iconst (-1), 1) := by decide +kernel
theorem dX13_bestTeeth_134 : decode cX13_bestTeeth 134 = .ok (.ixor, 1) := by decide +kernel
theorem dX13_bestTeeth_135 : decode cX13_bestTeeth 135 = .ok (.iand, 1) := by decide +kernel
theorem dX13_bestTeeth_136 : decode cX13_bestTeeth 136 = .ok (.ifCond .ne 85, 3) := by decide +kernel
theorem dX13_bestTeeth_139 : decode cX13_bestTeeth 139 = .ok (.iload 8, 2) := by decide +kernel
theorem dX13_bestTeeth_141 : decode cX13_bestTeeth 141 = .ok (.invokestatic 490, 3) := by decide +kernel
theorem dX13_bestTeeth_144 : decode cX13_bestTeeth 144 = .ok (.iload_n 3, 1) := by decide +kernel
theorem dX13_bestTeeth_145 : decode cX13_bestTeeth 145 = .ok (.if_icmp .eq 6, 3) := by decide +kernel
theorem dX13_bestTeeth_148 : decode cX13_bestTeeth 148 = .ok (.goto 73, 3) := by decide +kernel
theorem dX13_bestTeeth_151 : decode cX13_bestTeeth 151 = .ok (.iconst 0, 1) := by decide +kernel
theorem dX13_bestTeeth_152 : decode cX13_bestTeeth 152 = .ok (.istore 9, 2) := by decide +kernel
theorem dX13_bestTeeth_154 : decode cX13_bestTeeth 154 = .ok (.iconst 0, 1) := by decide +kernel
theorem dX13_bestTeeth_155 : decode cX13_bestTeeth 155 = .ok (.istore 10, 2) := by decide +kernel
theorem dX13_bestTeeth_157 : decode cX13_bestTeeth 157 = .ok (.iload 10, 2) := by decide +kernel
theorem dX13_bestTeeth_159 : decode cX13_bestTeeth 159 = .ok (.bipush 16, 2) := by decide +kernel
theorem dX13_bestTeeth_161 : decode cX13_bestTeeth 161 = .ok (.if_icmp .ge 34, 3) := by decide +kernel
theorem dX13_bestTeeth_164 : decode cX13_bestTeeth 164 = .ok (.iload 8, 2) := by decide +kernel
theorem dX13_bestTeeth_166 : decode cX13_bestTeeth 166 = .ok (.iload 10, 2) := by decide +kernel
theorem dX13_bestTeeth_168 : decode cX13_bestTeeth 168 = .ok (.ishr, 1) := by decide +kernel
theorem dX13_bestTeeth_169 : decode cX13_bestTeeth 169 = .ok (.iconst 1, 1) := by decide +kernel
theorem dX13_bestTeeth_170 : decode cX13_bestTeeth 170 = .ok (.iand, 1) := by decide +kernel
theorem dX13_bestTeeth_171 : decode cX13_bestTeeth 171 = .ok (.ifCond .ne 6, 3) := by decide +kernel
theorem dX13_bestTeeth_174 : decode cX13_bestTeeth 174 = .ok (.goto 15, 3) := by decide +kernel
theorem dX13_bestTeeth_177 : decode cX13_bestTeeth 177 = .ok (.aload_n 0, 1) := by decide +kernel
theorem dX13_bestTeeth_178 : decode cX13_bestTeeth 178 = .ok (.getfield 202, 3) := by decide +kernel
theorem dX13_bestTeeth_181 : decode cX13_bestTeeth 181 = .ok (.iload 9, 2) := by decide +kernel
theorem dX13_bestTeeth_183 : decode cX13_bestTeeth 183 = .ok (.iload 10, 2) := by decide +kernel
theorem dX13_bestTeeth_185 : decode cX13_bestTeeth 185 = .ok (.iastore, 1) := by decide +kernel
theorem dX13_bestTeeth_186 : decode cX13_bestTeeth 186 = .ok (.iinc 9 1, 3) := by decide +kernel
theorem dX13_bestTeeth_189 : decode cX13_bestTeeth 189 = .ok (.iinc 10 1, 3) := by decide +kernel
theorem dX13_bestTeeth_192 : decode cX13_bestTeeth 192 = .ok (.goto (-35), 3) := by decide +kernel
theorem dX13_bestTeeth_195 : decode cX13_bestTeeth 195 = .ok (.aload_n 0, 1) := by decide +kernel
theorem dX13_bestTeeth_196 : decode cX13_bestTeeth 196 = .ok (.iload_n 1, 1) := by decide +kernel
theorem dX13_bestTeeth_197 : decode cX13_bestTeeth 197 = .ok (.iload_n 2, 1) := by decide +kernel
theorem dX13_bestTeeth_198 : decode cX13_bestTeeth 198 = .ok (.invokevirtual 454, 3) := by decide +kernel
theorem dX13_bestTeeth_201 : decode cX13_bestTeeth 201 = .ok (.istore 10, 2) := by decide +kernel
theorem dX13_bestTeeth_203 : decode cX13_bestTeeth 203 = .ok (.iload 10, 2) := by decide +kernel
theorem dX13_bestTeeth_205 : decode cX13_bestTeeth 205 = .ok (.iload 7, 2) := by decide +kernel
theorem dX13_bestTeeth_207 : decode cX13_bestTeeth 207 = .ok (.if_icmp .gt 6, 3) := by decide +kernel
theorem dX13_bestTeeth_210 : decode cX13_bestTeeth 210 = .ok (.goto 11, 3) := by decide +kernel
theorem dX13_bestTeeth_213 : decode cX13_bestTeeth 213 = .ok (.iload 10, 2) := by decide +kernel
theorem dX13_bestTeeth_215 : decode cX13_bestTeeth 215 = .ok (.istore 7, 2) := by decide +kernel
theorem dX13_bestTeeth_217 : decode cX13_bestTeeth 217 = .ok (.iload 8, 2) := by decide +kernel
theorem dX13_bestTeeth_219 : decode cX13_bestTeeth 219 = .ok (.istore 6, 2) := by decide +kernel
theorem dX13_bestTeeth_221 : decode cX13_bestTeeth 221 = .ok (.iinc 8 1, 3) := by decide +kernel
theorem dX13_bestTeeth_224 : decode cX13_bestTeeth 224 = .ok (.goto (-102), 3) := by decide +kernel
theorem dX13_bestTeeth_227 : decode cX13_bestTeeth 227 = .ok (.aload_n 0, 1) := by decide +kernel
theorem dX13_bestTeeth_228 : decode cX13_bestTeeth 228 = .ok (.getfield 199, 3) := by decide +kernel
theorem dX13_bestTeeth_231 : decode cX13_bestTeeth 231 = .ok (.bipush 10, 2) := by decide +kernel
theorem dX13_bestTeeth_233 : decode cX13_bestTeeth 233 = .ok (.iload 5, 2) := by decide +kernel
theorem dX13_bestTeeth_235 : decode cX13_bestTeeth 235 = .ok (.iastore, 1) := by decide +kernel
theorem dX13_bestTeeth_236 : decode cX13_bestTeeth 236 = .ok (.iconst 0, 1) := by decide +kernel
theorem dX13_bestTeeth_237 : decode cX13_bestTeeth 237 = .ok (.istore 8, 2) := by decide +kernel
theorem dX13_bestTeeth_239 : decode cX13_bestTeeth 239 = .ok (.iload 8, 2) := by decide +kernel
theorem dX13_bestTeeth_241 : decode cX13_bestTeeth 241 = .ok (.iconst 4, 1) := by decide +kernel
theorem dX13_bestTeeth_242 : decode cX13_bestTeeth 242 = .ok (.if_icmp .ge 23, 3) := by decide +kernel
theorem dX13_bestTeeth_245 : decode cX13_bestTeeth 245 = .ok (.aload_n 0, 1) := by decide +kernel
theorem dX13_bestTeeth_246 : decode cX13_bestTeeth 246 = .ok (.getfield 202, 3) := by decide +kernel
theorem dX13_bestTeeth_249 : decode cX13_bestTeeth 249 = .ok (.iload 8, 2) := by decide +kernel
theorem dX13_bestTeeth_251 : decode cX13_bestTeeth 251 = .ok (.aload_n 0, 1) := by decide +kernel
theorem dX13_bestTeeth_252 : decode cX13_bestTeeth 252 = .ok (.getfield 253, 3) := by decide +kernel
theorem dX13_bestTeeth_255 : decode cX13_bestTeeth 255 = .ok (.iload 8, 2) := by decide +kernel
theorem dX13_bestTeeth_257 : decode cX13_bestTeeth 257 = .ok (.iaload, 1) := by decide +kernel
theorem dX13_bestTeeth_258 : decode cX13_bestTeeth 258 = .ok (.iastore, 1) := by decide +kernel
theorem dX13_bestTeeth_259 : decode cX13_bestTeeth 259 = .ok (.iinc 8 1, 3) := by decide +kernel
theorem dX13_bestTeeth_262 : decode cX13_bestTeeth 262 = .ok (.goto (-23), 3) := by decide +kernel
theorem dX13_bestTeeth_265 : decode cX13_bestTeeth 265 = .ok (.iload 6, 2) := by decide +kernel
theorem dX13_bestTeeth_267 : decode cX13_bestTeeth 267 = .ok (.ireturn, 1) := by decide +kernel
set_option maxRecDepth 20000 in
theorem ggX13_bestTeeth_X13_bits : GoodIn wsX13_bestTeeth wsX13_bits := goodIn_r _ [17] rfl (by decide +kernel)
set_option maxRecDepth 20000 in
theorem gX13_bestTeeth_X13_bits : GoodIn wsX13_bestTeeth (va_wsS RX13 490 yX13_bits wsX13_bits) := goodIn_app (goodIn_of _ (by decide +kernel)) ggX13_bestTeeth_X13_bits
set_option maxRecDepth 20000 in
theorem ggX13_bestTeeth_X13_deepestOf : GoodIn wsX13_bestTeeth wsX13_deepestOf := goodIn_r _ [21, 22, 23, 24, 10, 25, 4, 26, 27, 28, 29, 30, 31, 32, 33, 34, 35, 36, 37, 38, 39, 40, 41, 42, 43, 44, 45, 46, 47, 48, 49, 50, 51, 52, 53, 54, 55, 56, 57, 58, 59, 60, 61, 62, 63, 64, 65, 66, 67, 68, 69, 70, 71, 72, 73, 74, 75, 76, 77, 78, 79, 80, 6, 81, 82, 83, 84, 85, 86, 87, 88, 89, 90, 91, 92, 93, 94, 95, 96, 97, 98, 99, 100, 101, 102, 103, 104, 105, 106, 107, 108, 109, 110, 111, 112, 113, 114, 115, 116, 117, 118, 119, 120, 121, 122, 123, 124, 125, 126, 127, 128, 129, 130, 131, 132, 133, 134, 135, 136, 137, 138, 139, 140, 141, 142, 143, 144, 145, 146, 147, 148, 149, 150, 151, 152, 153, 154, 155, 156, 157, 158, 159, 160, 161, 162, 163, 164, 165, 166, 167, 168, 169, 170, 171, 172, 173, 174, 175, 176, 177, 178, 179, 180] rfl (by decide +kernel)
set_option maxRecDepth 20000 in
theorem gX13_bestTeeth_X13_deepestOf : GoodIn wsX13_bestTeeth (wsV RX13 454 RX13 yX13_deepestOf wsX13_deepestOf) := goodIn_app (goodIn_of _ (by decide +kernel)) ggX13_bestTeeth_X13_deepestOf
set_option maxRecDepth 20000 in
theorem ggX13_bestTeeth_X13_in : GoodIn wsX13_bestTeeth wsX13_in := goodIn_r _ [14] rfl (by decide +kernel)
set_option maxRecDepth 20000 in
theorem gX13_bestTeeth_X13_in : GoodIn wsX13_bestTeeth (va_wsS RX13 61 yX13_in wsX13_in) := goodIn_app (goodIn_of _ (by decide +kernel)) ggX13_bestTeeth_X13_in
set_option maxRecDepth 20000 in
theorem ggX13_bestTeeth_X13_isRing : GoodIn wsX13_bestTeeth wsX13_isRing := goodIn_r _ [11, 4, 12, 13, 10, 14, 108, 109, 110, 111, 112, 113, 114, 115, 116, 117, 118, 119, 120, 121, 122, 123, 124, 125, 126, 127, 128, 129, 130, 131, 132, 133, 134, 135, 136, 137, 138, 139, 140, 141, 142, 143, 144, 145, 146, 147, 148, 149, 150, 151, 152, 153, 154, 155, 156, 157, 158, 159, 160, 161, 162, 163, 164, 165, 166, 167, 168, 169, 170, 171, 172, 173, 174, 175, 176, 177, 178, 179, 180] rfl (by decide +kernel)
set_option maxRecDepth 20000 in
theorem gX13_bestTeeth_X13_isRing : GoodIn wsX13_bestTeeth (wsV RX13 367 RX13 yX13_isRing wsX13_isRing) := goodIn_app (goodIn_of _ (by decide +kernel)) ggX13_bestTeeth_X13_isRing
set_option maxHeartbeats 4000000 in
set_option maxRecDepth 100000 in
theorem S_X13_bestTeeth (l : Launch) (D : va_G) (K : Nat → ClassId) (a : Nat → Nat) (G : gS) (p0 : Int32) (s0 : Int) (p1 : Int32) (s1 : Int) (p2 : Int32) (s2 : Int) (p3 : Int32) (s3 : Int) (e0 : p0.toInt = s0) (e1 : p1.toInt = s1) (e2 : p2.toInt = s2) (e3 : p3.toInt = s3) (wf : yW3 G) (dl : ((G 0 32).toInt ≤ 6)) (hI : yI G) (sz : Nat) : Ki l yX13_bestTeeth wsX13_bestTeeth 9 252 0 0 D [.ref (a 0), .int p0, .int p1, .int p2, .int p3] (yW K a G) (tK K) sz (fun (r : Int32) (G' : gS) => (yI G') ∧ (gu_un ycd [29, 33, 36, 37, 300, 500, 1300, 1400, 1500, 1600, 1700, 1800, 1900, 2000, 2100, 2700] G G') ∧ ((-2) ≤ r.toInt ∧ r.toInt ≤ 65535) ∧ (yNh G G') ∧ (((G' 0 32).toInt = (G 0 32).toInt)) ∧ (((∀ q : Nat, q < 12 → G' 3 q = (G 3) q) ∧ ∀ q : Nat, q < 4 → G' 5 q = (G 5) q)) ∧ ((∀ (Q : gS) (C : Nat → List Int), ySq G Q C → ((r.toInt = -2 ∧ ¬ (0 ≤ s0 ∧ s0 < (G 3 1).toInt ∧ 1 ≤ s1 ∧ s1 ≤ 9 ∧ 1 ≤ s2 ∧ s2 ≤ 4 ∧ 1 ≤ s3 ∧ s3 ≤ 65535 ∧ s2 ≤ (bt_CT 16 (s3).toNat : Int) ∧ (bt_CT 16 (s3).toNat : Int) ≤ 6)) ∨ ((0 ≤ s0 ∧ s0 < (G 3 1).toInt ∧ 1 ≤ s1 ∧ s1 ≤ 9 ∧ 1 ≤ s2 ∧ s2 ≤ 4 ∧ 1 ≤ s3 ∧ s3 ≤ 65535 ∧ s2 ≤ (bt_CT 16 (s3).toNat : Int) ∧ (bt_CT 16 (s3).toNat : Int) ≤ 6) ∧ ∃ d : Int, btR (btP Q C (G 14) (G 0 28) s0 s1 p1) s3.toNat s2.toNat s3.toNat r.toInt d))))) (fun (G' : gS) => (yW K a G')) (fun _ => (tK K)) := by
  unfold Ki
  refine g_ofW (cc := cX13_bestTeeth) (lv := [(0, .ref (a 0)), (1, .int p0), (2, .int p1), (3, .int p2), (4, .int p3)]) (by decide) rfl (Nat.le_of_ble_eq_true rfl) rfl ?_
  intro p e s m args below meth c A Q hA hQ F hr hnm
  have hts := F.2.2.2.2.1
  have w_0 : (Cond.fieldLink RX13 202 "QuietCutModel" "teeth" "[I").before args s = true := hts _ (List.mem_of_getElem? (i := 6) rfl)
  have i_X13 : ∀ w ∈ u_ws RX13 TX13 73, w ∈ wsX13_bestTeeth := fun _ h => List.mem_cons_of_mem _ (List.mem_append_right _ h)
  have w_1 : (Cond.fieldLink RX13 253 "QuietCutModel" "keptTeeth" "[I").before args s = true := hts _ (List.mem_of_getElem? (i := 5) rfl)
  have w_2 : (Cond.fieldLink RX13 199 "QuietCutModel" "rule" "[I").before args s = true := hts _ (List.mem_of_getElem? (i := 4) rfl)
  have w_3 : (Cond.constantLong RX13 422 (9)).before args s = true := hts _ (List.mem_of_getElem? (i := 1) rfl)
  have w_4 : (Cond.constantLong RX13 486 (4)).before args s = true := hts _ (List.mem_of_getElem? (i := 2) rfl)
  have w_5 : (Cond.constantLong RX13 488 (65535)).before args s = true := hts _ (List.mem_of_getElem? (i := 3) rfl)
  have rg0 : -2147483648 ≤ s0 ∧ s0 ≤ 2147483647 := e0 ▸ ti_rng p0
  have rg1 : -2147483648 ≤ s1 ∧ s1 ≤ 2147483647 := e1 ▸ ti_rng p1
  have rg2 : -2147483648 ≤ s2 ∧ s2 ≤ 2147483647 := e2 ▸ ti_rng p2
  have rg3 : -2147483648 ≤ s3 ∧ s3 ≤ 2147483647 := e3 ▸ ti_rng p3
  have b1 : (0 : Int) ≤ (G 0 32).toInt ∧ (G 0 32).toInt ≤ 7 := hI 0 32
  have b2 : (4 : Int) ≤ (G 3 0).toInt ∧ (G 3 0).toInt ≤ 16 := hI 3 0
  have b3 : (1 : Int) ≤ (G 3 1).toInt ∧ (G 3 1).toInt ≤ 6 := hI 3 1
  have J_239 : ∀ (fuel : Nat) (x239_6 : Int32) (x239_8 : Int32) (Gj239 : gS), (2147483647 - x239_8.toInt).toNat < fuel → ((-1) ≤ x239_6.toInt ∧ x239_6.toInt ≤ 65535) → (0 ≤ x239_8.toInt ∧ x239_8.toInt ≤ 4) → (yI Gj239) → (gu_un ycd [29, 33, 36, 37, 300, 500, 1300, 1400, 1500, 1600, 1700, 1800, 1900, 2000, 2100, 2700] G Gj239) → (((∀ q : Nat, q < 12 → Gj239 3 q = G 3 q) ∧ (∀ q : Nat, q < 4 → Gj239 27 q = G 5 q) ∧ ∀ q : Nat, (q : Int) < x239_8.toInt → Gj239 5 q = G 5 q)) → (∀ (Q : gS) (C : Nat → List Int), ySq G Q C → s0 < (G 3 1).toInt → 0 ≤ s0 → s0 ≤ 5 → 1 ≤ s1 → s1 ≤ 9 → 1 ≤ s2 → s2 ≤ 4 → 1 ≤ s3 → s3 ≤ 65535 → ∃ d : Int, btR (btP Q C (G 14) (G 0 28) s0 s1 p1) s3.toNat s2.toNat s3.toNat x239_6.toInt d) → (((Gj239 0 32).toInt = (G 0 32).toInt)) → ((0 ≤ s0 ∧ s0 < (Gj239 3 1).toInt ∧ s0 ≤ 5 ∧ 1 ≤ s1 ∧ s1 ≤ 9 ∧ 1 ≤ s2 ∧ s2 ≤ 4 ∧ 1 ≤ s3 ∧ s3 ≤ 65535 ∧ s2 ≤ (bt_CT 16 (s3).toNat : Int) ∧ (bt_CT 16 (s3).toNat : Int) ≤ 6)) → (yNh G Gj239) → gG p l e (gR 9 0 0 252) s m args below meth c D A 11 Q 0 0 (yW K a Gj239) (tK K) [(0, .ref (a 0)), (6, .int x239_6), (8, .int x239_8)] 239 [] := by
    intro fuel
    induction fuel with
    | zero => intro x239_6 x239_8 Gj239 hm; exact absurd hm (Nat.not_lt_zero _)
    | succ fuel_239 ih_239 =>
      intro x239_6 x239_8 Gj239 hm_239 h239_6 h239_8 jI239 jU239 rt bf dc_239 rgk_239 nh239
      refine g_iload F 2 dX13_bestTeeth_239 rfl ?_
      refine g_iconst F 4 dX13_bestTeeth_241 (by decide) ?_
      refine v_icmp_ge F 265 dX13_bestTeeth_242 (by decide) x239_8.toInt 4 rfl rfl (fun c4 => ?_) (fun c4 => ?_)
      · refine g_iload F 1 dX13_bestTeeth_265 rfl ?_
        have b5 : (0 : Int) ≤ (Gj239 0 32).toInt ∧ (Gj239 0 32).toInt ≤ 7 := jI239 0 32
        exact u_iret F hA hQ hr Gj239 (⟨jI239, (gu_un.tr gu_un.rf (gu_un.su jU239 rfl)), (by have h9 := ti_rng x239_6; omega), (nh239), (by show ((Gj239 0 32).toInt = (G 0 32).toInt); (first | omega | (simp only [Int32.reduceToInt, true_and, and_true, ne_eq, not_true_eq_false, false_and, or_false, false_or, true_or, or_true, false_implies] <;> omega))), (⟨rt.1, fun q hq => rt.2.2 q (by omega)⟩), (fun Q C hq => by have e31 := congrArg Int32.toInt (rt.1 1 (by decide)); exact Or.inr ⟨by omega, bf Q C hq (by omega) (by omega) (by omega) (by omega) (by omega) (by omega) (by omega) (by omega) (by omega)⟩)⟩) rfl rfl dX13_bestTeeth_267
      · refine g_aload_n F 0 dX13_bestTeeth_245 rfl rfl ?_
        refine yg_0_12 F i_X13 w_0 dX13_bestTeeth_246 ?_
        refine g_iload F 2 dX13_bestTeeth_249 rfl ?_
        refine g_aload_n F 0 dX13_bestTeeth_251 rfl rfl ?_
        refine yg_0_44 F i_X13 w_1 dX13_bestTeeth_252 ?_
        refine g_iload F 2 dX13_bestTeeth_255 rfl ?_
        refine u1_iald F 27 0 yc_27 rfl x239_8.toInt rfl (by omega) (by omega) dX13_bestTeeth_257 ((Gj239 27) (x239_8.toInt).toNat) (rfl) ?_
        have b6 : (0 : Int) ≤ ((Gj239 27) (x239_8.toInt).toNat).toInt ∧ ((Gj239 27) (x239_8.toInt).toNat).toInt ≤ 15 := jI239 27 _
        refine u_iast F 5 0 yc_5 rfl x239_8.toInt rfl (by omega) (by omega) (yW K a (gu_up Gj239 5 (x239_8.toInt).toNat ((Gj239 27) (x239_8.toInt).toNat))) (ys_5 _) dX13_bestTeeth_258 ?_
        refine u_iinc F (fun v_ => [(8, .int v_), (0, .ref (a 0)), (6, .int x239_6)]) dX13_bestTeeth_259 (j := 2) rfl x239_8.toInt 1 rfl rfl (by omega) (by omega) (by decide) (fun _ => rfl) (fun y7 ey7 => ?_)
        refine g_goto F 239 dX13_bestTeeth_262 (by decide) ?_
        refine g_locals [(0, .ref (a 0)), (6, .int x239_6), (8, .int y7)] [1, 2, 0] rfl ?_
        have b8 : (0 : Int) ≤ (Gj239 0 32).toInt ∧ (Gj239 0 32).toInt ≤ 7 := jI239 0 32
        have b9 : (1 : Int) ≤ (Gj239 3 1).toInt ∧ (Gj239 3 1).toInt ≤ 6 := jI239 3 1
        exact ih_239 x239_6 y7 (gu_up Gj239 5 (x239_8.toInt).toNat ((Gj239 27) (x239_8.toInt).toNat)) (by omega) (by have h9 := ti_rng x239_6; omega) (by have h9 := ti_rng y7; omega) (gu_I.up (j := 5) (k := (x239_8.toInt).toNat) (v := ((Gj239 27) (x239_8.toInt).toNat)) jI239 (show (0 : Int) ≤ Int32.toInt ((Gj239 27) (x239_8.toInt).toNat) by omega) (show Int32.toInt ((Gj239 27) (x239_8.toInt).toNat) ≤ 15 by omega)) (gu_un.up (j := 5) (k := (x239_8.toInt).toNat) (v := ((Gj239 27) (x239_8.toInt).toNat)) (gu_un.tr gu_un.rf (gu_un.su jU239 rfl)) (show (500 : Nat) ∈ ([29, 33, 36, 37, 300, 500, 1300, 1400, 1500, 1600, 1700, 1800, 1900, 2000, 2100, 2700] : List Nat) by decide)) (⟨fun q hq => rt.1 q hq, fun q hq => rt.2.1 q hq, copy_1 (by omega) (by omega) rt.2.2 (by first | exact rt.2.1 _ (by omega) | (rw [rt.2.1 _ (by omega)]))⟩) (bf) (by have e9_0_32 : (gu_up Gj239 5 (x239_8.toInt).toNat ((Gj239 27) (x239_8.toInt).toNat)) 0 32 = (Gj239 0 32) := rfl; (try simp only [e9_0_32, true_and, and_true]) <;> (first | omega | (simp only [Int32.reduceToInt, true_and, and_true, ne_eq, not_true_eq_false, false_and, or_false, false_or, true_or, or_true, false_implies] <;> omega))) (by have e9_3_1 : (gu_up Gj239 5 (x239_8.toInt).toNat ((Gj239 27) (x239_8.toInt).toNat)) 3 1 = (Gj239 3 1) := rfl; (try simp only [e9_3_1, true_and, and_true]) <;> (first | omega | (simp only [Int32.reduceToInt, true_and, and_true, ne_eq, not_true_eq_false, false_and, or_false, false_or, true_or, or_true, false_implies] <;> omega))) ((yNh.tr (show yNh G Gj239 from nh239) (yNh.un (show gu_un ycd [500] Gj239 (gu_up Gj239 5 (x239_8.toInt).toNat ((Gj239 27) (x239_8.toInt).toNat)) from (gu_un.up (j := 5) (k := (x239_8.toInt).toNat) (v := ((Gj239 27) (x239_8.toInt).toNat)) gu_un.rf (show (500 : Nat) ∈ ([500] : List Nat) by decide))) rfl)))
  have J_122 : ∀ (fuel : Nat) (x122_6 : Int32) (x122_7 : Int32) (x122_8 : Int32) (Gj122 : gS), (2147483647 - x122_8.toInt).toNat < fuel → (0 ≤ s0 ∧ s0 ≤ 5) → (1 ≤ s1 ∧ s1 ≤ 9) → (1 ≤ s2 ∧ s2 ≤ 4) → (1 ≤ s3 ∧ s3 ≤ 65535) → ((-1) ≤ x122_6.toInt ∧ x122_6.toInt ≤ 65535) → (0 ≤ x122_7.toInt ∧ x122_7.toInt ≤ 20) → (1 ≤ x122_8.toInt ∧ x122_8.toInt ≤ 65536) → (yI Gj122) → (gu_un ycd [29, 33, 36, 37, 300, 500, 1300, 1400, 1500, 1600, 1700, 1800, 1900, 2000, 2100, 2700] G Gj122) → (((∀ q : Nat, q ≠ 10 → Gj122 3 q = G 3 q) ∧ ∀ q : Nat, q < 4 → Gj122 27 q = G 5 q)) → (∀ (Q : gS) (C : Nat → List Int), ySq G Q C → s0 < (G 3 1).toInt → 0 ≤ s0 → s0 ≤ 5 → 1 ≤ s1 → s1 ≤ 9 → 1 ≤ s2 → s2 ≤ 4 → 1 ≤ s3 → s3 ≤ 65535 → btR (btP Q C (G 14) (G 0 28) s0 s1 p1) s3.toNat s2.toNat (x122_8.toInt - 1).toNat x122_6.toInt x122_7.toInt) → (((Gj122 3 10).toInt = s2)) → ((x122_8.toInt ≤ s3 + 1)) → (((Gj122 0 32).toInt = (G 0 32).toInt)) → ((0 ≤ s0 ∧ s0 < (Gj122 3 1).toInt ∧ s0 ≤ 5 ∧ 1 ≤ s1 ∧ s1 ≤ 9 ∧ 1 ≤ s2 ∧ s2 ≤ 4 ∧ 1 ≤ s3 ∧ s3 ≤ 65535 ∧ s2 ≤ (bt_CT 16 (s3).toNat : Int) ∧ (bt_CT 16 (s3).toNat : Int) ≤ 6)) → (yNh G Gj122) → gG p l e (gR 9 0 0 252) s m args below meth c D A 11 Q 0 0 (yW K a Gj122) (tK K) [(0, .ref (a 0)), (1, .int p0), (2, .int p1), (3, .int p2), (4, .int p3), (5, .int (G 3 10)), (6, .int x122_6), (7, .int x122_7), (8, .int x122_8)] 122 [] := by
    intro fuel
    induction fuel with
    | zero => intro x122_6 x122_7 x122_8 Gj122 hm; exact absurd hm (Nat.not_lt_zero _)
    | succ fuel_122 ih_122 =>
      intro x122_6 x122_7 x122_8 Gj122 hm_122 k122_1 k122_2 k122_3 k122_4 h122_6 h122_7 h122_8 jI122 jU122 rs122 br r10 l8 dc_122 rgk_122 nh122
      have J_157 : ∀ (fuel : Nat) (x157_9 : Int32) (x157_10 : Int32) (Gj157 : gS), (2147483647 - x157_10.toInt).toNat < fuel → (1 ≤ x122_8.toInt ∧ x122_8.toInt ≤ 65535) → (0 ≤ x157_9.toInt ∧ x157_9.toInt ≤ 16) → (0 ≤ x157_10.toInt ∧ x157_10.toInt ≤ 16) → (yI Gj157) → (gu_un ycd [500] Gj122 Gj157) → (x157_9.toInt = (bt_tm (x122_8.toInt).toNat (x157_10.toInt).toNat : Int)) → ((bt_CT 16 (x122_8.toInt).toNat : Int) = s2) → (((∀ q : Nat, q ≠ 10 → Gj157 3 q = G 3 q) ∧ ∀ q : Nat, q < 4 → Gj157 27 q = G 5 q)) → (((x122_8 &&& (p3 ^^^ (-1))) : Int32).toInt = 0) → (mS (x122_8.toInt).toNat x157_10.toInt x157_9.toInt (Gj157 5)) → (((Gj122 3 10).toInt = s2)) → ((x122_8.toInt ≤ s3)) → (((Gj122 0 32).toInt = (G 0 32).toInt)) → ((0 ≤ s0 ∧ s0 < (Gj122 3 1).toInt ∧ s0 ≤ 5 ∧ 1 ≤ s1 ∧ s1 ≤ 9 ∧ 1 ≤ s2 ∧ s2 ≤ 4 ∧ 1 ≤ s3 ∧ s3 ≤ 65535 ∧ s2 ≤ (bt_CT 16 (s3).toNat : Int) ∧ (bt_CT 16 (s3).toNat : Int) ≤ 6)) → gG p l e (gR 9 0 0 252) s m args below meth c D A 11 Q 0 0 (yW K a Gj157) (tK K) [(0, .ref (a 0)), (1, .int p0), (2, .int p1), (3, .int p2), (4, .int p3), (5, .int (G 3 10)), (6, .int x122_6), (7, .int x122_7), (8, .int x122_8), (9, .int x157_9), (10, .int x157_10)] 157 [] := by
        intro fuel
        induction fuel with
        | zero => intro x157_9 x157_10 Gj157 hm; exact absurd hm (Nat.not_lt_zero _)
        | succ fuel_157 ih_157 =>
          intro x157_9 x157_10 Gj157 hm_157 k157_8 h157_9 h157_10 jI157 jU157 tn tb rs157 sbb ms r10 l9 dc_157 rgk_157
          refine g_iload F 10 dX13_bestTeeth_157 rfl ?_
          refine g_bipush F 16 dX13_bestTeeth_159 (by decide) ?_
          refine v_icmp_ge F 195 dX13_bestTeeth_161 (by decide) x157_10.toInt 16 rfl rfl (fun c10 => ?_) (fun c10 => ?_)
          · refine g_aload_n F 0 dX13_bestTeeth_195 rfl rfl ?_
            refine g_iload_n F 1 dX13_bestTeeth_196 rfl rfl ?_
            refine g_iload_n F 2 dX13_bestTeeth_197 rfl rfl ?_
            have b11 : (0 : Int) ≤ (Gj122 0 32).toInt ∧ (Gj122 0 32).toInt ≤ 7 := jI122 0 32
            refine u_callVi (k := 0) (n := 0) (b := a 0) (As := [.int p0, .int p1]) (st := []) F (fun sz => S_X13_deepestOf l D K a Gj157 p0 s0 p1 s1 e0 (by omega) e1 (by omega) (yW3.un wf (show gu_un ycd [29, 33, 36, 37, 300, 500, 1300, 1400, 1500, 1600, 1700, 1800, 1900, 2000, 2100, 2700] G Gj157 from (gu_un.tr (gu_un.tr gu_un.rf (gu_un.su jU122 rfl)) (gu_un.su jU157 rfl))) rfl) (by have e9_0_32 : Gj157 0 32 = (Gj122 0 32) := jU157 0 32 (by decide); (try simp only [e9_0_32, true_and, and_true]) <;> (first | omega | (simp only [Int32.reduceToInt, true_and, and_true, ne_eq, not_true_eq_false, false_and, or_false, false_or, true_or, or_true, false_implies] <;> omega))) jI157 sz) (cwV 2 hts gX13_bestTeeth_X13_deepestOf rfl rfl rfl (by decide +kernel) ⟨Nat.le_of_ble_eq_true rfl, Nat.le_of_ble_eq_true rfl⟩) rfl 0 yc_0 rfl (Nat.le_of_ble_eq_true rfl) ⟨Nat.zero_le _, Nat.zero_le _⟩ dX13_bestTeeth_198 (fun r12 G14 hw13 => ?_)
            have hI15 : yI G14 := hw13.1
            have hU16 : gu_un ycd [29, 33, 36, 37, 1300, 1400, 1500, 1600, 1700, 1800, 1900, 2000, 2100] Gj157 G14 := hw13.2.1
            have hp17 := hw13.2.2
            have q18 : yNh Gj157 G14 := hp17.2.1
            have b19 : (1 : Int) ≤ (Gj122 3 1).toInt ∧ (Gj122 3 1).toInt ≤ 6 := jI122 3 1
            have q20 : (∀ (Q : gS) (C : Nat → List Int), ySq Gj157 Q C → s0 < (Gj122 3 1).toInt → 1 ≤ s1 → s1 ≤ 9 → dpR (fun f : Int => pvAr Q s0 s1 f ∧ pvA Q C (Gj122 14) (Gj122 0 28) s0 p1 (Int32.ofInt f) (Q 0 9)) 0 r12.toInt) := by have h9 := hp17.2.2.1; (try simp only [(show Gj157 3 1 = (Gj122 3 1) from jU157 3 1 (by decide)), (show Gj157 14 = (Gj122 14) from (show Gj157 14 = Gj122 14 from funext fun k_ => jU157 14 k_ (show (1400 : Nat) ∉ ([500] : List Nat) by decide))), (show Gj157 0 28 = (Gj122 0 28) from jU157 0 28 (by decide))] at h9); first | exact h9 | omega
            have b21 : (0 : Int) ≤ (G14 0 32).toInt ∧ (G14 0 32).toInt ≤ 7 := hI15 0 32
            have q22 : ((G14 0 32).toInt = (Gj122 0 32).toInt) := by have h9 := hp17.2.2.2; (try simp only [(show Gj157 0 32 = (Gj122 0 32) from jU157 0 32 (by decide))] at h9); first | exact h9 | omega
            have rg23 := hp17.1
            clear hp17 hw13
            refine g_istore F [(10, .int r12), (0, .ref (a 0)), (1, .int p0), (2, .int p1), (3, .int p2), (4, .int p3), (5, .int (G 3 10)), (6, .int x122_6), (7, .int x122_7), (8, .int x122_8), (9, .int x157_9)] dX13_bestTeeth_201 (by decide) rfl ?_
            refine g_iload F 0 dX13_bestTeeth_203 rfl ?_
            refine g_iload F 8 dX13_bestTeeth_205 rfl ?_
            refine v_icmp_gt F 213 dX13_bestTeeth_207 (by decide) r12.toInt x122_7.toInt rfl rfl (fun c24 => ?_) (fun c24 => ?_)
            · refine g_iload F 0 dX13_bestTeeth_213 rfl ?_
              refine g_istore F [(7, .int r12), (10, .int r12), (0, .ref (a 0)), (1, .int p0), (2, .int p1), (3, .int p2), (4, .int p3), (5, .int (G 3 10)), (6, .int x122_6), (8, .int x122_8), (9, .int x157_9)] dX13_bestTeeth_215 (by decide) rfl ?_
              refine g_iload F 9 dX13_bestTeeth_217 rfl ?_
              refine g_istore F [(6, .int x122_8), (7, .int r12), (10, .int r12), (0, .ref (a 0)), (1, .int p0), (2, .int p1), (3, .int p2), (4, .int p3), (5, .int (G 3 10)), (8, .int x122_8), (9, .int x157_9)] dX13_bestTeeth_219 (by decide) rfl ?_
              refine u_iinc F (fun v_ => [(8, .int v_), (6, .int x122_8), (7, .int r12), (10, .int r12), (0, .ref (a 0)), (1, .int p0), (2, .int p1), (3, .int p2), (4, .int p3), (5, .int (G 3 10)), (9, .int x157_9)]) dX13_bestTeeth_221 (j := 9) rfl x122_8.toInt 1 rfl rfl (by omega) (by omega) (by decide) (fun _ => rfl) (fun y25 ey25 => ?_)
              refine g_goto F 122 dX13_bestTeeth_224 (by decide) ?_
              refine g_locals [(0, .ref (a 0)), (1, .int p0), (2, .int p1), (3, .int p2), (4, .int p3), (5, .int (G 3 10)), (6, .int x122_8), (7, .int r12), (8, .int y25)] [4, 5, 6, 7, 8, 9, 1, 2, 0] rfl ?_
              have b26 : (1 : Int) ≤ (Gj122 3 10).toInt ∧ (Gj122 3 10).toInt ≤ 4 := jI122 3 10
              exact ih_122 x122_8 r12 y25 G14 (by omega) (by have h9 := ti_rng p0; omega) (by have h9 := ti_rng p1; omega) (by have h9 := ti_rng p2; omega) (by have h9 := ti_rng p3; omega) (by have h9 := ti_rng x122_8; omega) (by have h9 := ti_rng r12; omega) (by have h9 := ti_rng y25; omega) hI15 (gu_un.tr (gu_un.tr (gu_un.tr gu_un.rf (gu_un.su jU122 rfl)) (gu_un.su jU157 rfl)) (gu_un.su hU16 rfl)) (⟨fun q hq => (show G14 3 q = Gj157 3 q from (show gu_un ycd [29, 33, 36, 37, 1300, 1400, 1500, 1600, 1700, 1800, 1900, 2000, 2100] Gj157 G14 from (gu_un.tr gu_un.rf (gu_un.su hU16 rfl))) 3 q (by simp [ycd])).trans (rs157.1 q hq), fun q hq => (show G14 27 q = Gj157 27 q from (show gu_un ycd [29, 33, 36, 37, 1300, 1400, 1500, 1600, 1700, 1800, 1900, 2000, 2100] Gj157 G14 from (gu_un.tr gu_un.rf (gu_un.su hU16 rfl))) 27 q (by simp [ycd])).trans (rs157.2 q hq)⟩) (fun Q C hq hr r0 r5 t1 t9 m1 m4 l1 l5 => by have sbt := (sb_i (x := x122_8) (l := p3) (by omega) (by omega) (by omega) (by omega)).mp (by omega); rw [e3] at sbt; have okt : btO s3.toNat s2.toNat x122_8.toInt.toNat := ⟨by omega, sbt, by omega⟩; have hm : bt_tm x122_8.toInt.toNat 16 = s2.toNat := (by rw [bt_tmct]; omega); have nh9 : yNh G Gj122 := nh122; have hd := q20 (Qt Q x122_8.toInt.toNat) C (ySq.set (s := x122_8.toInt.toNat) hq (show gu_un ycd [29, 33, 36, 37, 300, 500, 1300, 1400, 1500, 1600, 1700, 1800, 1900, 2000, 2100, 2700] G Gj157 from (gu_un.tr (gu_un.tr gu_un.rf (gu_un.su jU122 rfl)) (gu_un.su jU157 rfl))) rfl rs157.1 (by rw [hm, show Gj157 3 10 = Gj122 3 10 from jU157 3 10 (by decide)]; omega) (fun q h9 => by have h8 := ms.2 q (by have h7 := ms.1; rw [show x157_10.toInt.toNat = 16 by omega] at h7; omega); rw [show x157_10.toInt.toNat = 16 by omega] at h8; exact h8)) (by first | omega | (rw [rs157.1 1 (by decide)]; omega)) (by omega) (by omega); have hd2 : dpR ((btP Q C (G 14) (G 0 28) s0 s1 p1) x122_8.toInt.toNat) 0 r12.toInt := dpR.to (fun f => by unfold btP; rw [pvA_eq (Q := Qt Q x122_8.toInt.toNat) (h := Gj122 14) (g := G 14) nh9.1 (by omega) (by omega) (by show (Q 0 1).toInt ≤ 6; rw [hq.1 1 (by decide) (by decide)]; omega) (by show (Q 0 0).toInt ≤ 16; rw [hq.1 0 (by decide) (by decide)]; omega), nh9.2.1] <;> exact Iff.rfl) hd; have g1 := br Q C hq hr r0 r5 t1 t9 m1 m4 l1 l5; rw [show (y25.toInt - 1).toNat = x122_8.toInt.toNat by omega]; exact btR.goy g1 g1.nn okt (by omega) hd2 (Or.inr ⟨by omega, by omega, by omega⟩)) (by have e9_3_10 : G14 3 10 = (Gj122 3 10) := (hU16 3 10 (by decide)).trans (jU157 3 10 (by decide)); (try simp only [e9_3_10, true_and, and_true]) <;> (first | omega | (simp only [Int32.reduceToInt, true_and, and_true, ne_eq, not_true_eq_false, false_and, or_false, false_or, true_or, or_true, false_implies] <;> omega))) (by (first | omega | (simp only [Int32.reduceToInt, true_and, and_true, ne_eq, not_true_eq_false, false_and, or_false, false_or, true_or, or_true, false_implies] <;> omega))) (by (first | omega | (simp only [Int32.reduceToInt, true_and, and_true, ne_eq, not_true_eq_false, false_and, or_false, false_or, true_or, or_true, false_implies] <;> omega))) (by have e9_3_1 : G14 3 1 = (Gj122 3 1) := (hU16 3 1 (by decide)).trans (jU157 3 1 (by decide)); (try simp only [e9_3_1, true_and, and_true]) <;> (first | omega | (simp only [Int32.reduceToInt, true_and, and_true, ne_eq, not_true_eq_false, false_and, or_false, false_or, true_or, or_true, false_implies] <;> omega))) ((yNh.tr (show yNh G Gj157 from (yNh.tr (show yNh G Gj122 from nh122) (show yNh Gj122 Gj157 from (yNh.un jU157 rfl)))) (show yNh Gj157 G14 from q18)))
            · refine g_goto F 221 dX13_bestTeeth_210 (by decide) ?_
              refine u_iinc F (fun v_ => [(8, .int v_), (10, .int r12), (0, .ref (a 0)), (1, .int p0), (2, .int p1), (3, .int p2), (4, .int p3), (5, .int (G 3 10)), (6, .int x122_6), (7, .int x122_7), (9, .int x157_9)]) dX13_bestTeeth_221 (j := 9) rfl x122_8.toInt 1 rfl rfl (by omega) (by omega) (by decide) (fun _ => rfl) (fun y27 ey27 => ?_)
              refine g_goto F 122 dX13_bestTeeth_224 (by decide) ?_
              refine g_locals [(0, .ref (a 0)), (1, .int p0), (2, .int p1), (3, .int p2), (4, .int p3), (5, .int (G 3 10)), (6, .int x122_6), (7, .int x122_7), (8, .int y27)] [2, 3, 4, 5, 6, 7, 8, 9, 0] rfl ?_
              have b28 : (1 : Int) ≤ (Gj122 3 10).toInt ∧ (Gj122 3 10).toInt ≤ 4 := jI122 3 10
              exact ih_122 x122_6 x122_7 y27 G14 (by omega) (by have h9 := ti_rng p0; omega) (by have h9 := ti_rng p1; omega) (by have h9 := ti_rng p2; omega) (by have h9 := ti_rng p3; omega) (by have h9 := ti_rng x122_6; omega) (by have h9 := ti_rng x122_7; omega) (by have h9 := ti_rng y27; omega) hI15 (gu_un.tr (gu_un.tr (gu_un.tr gu_un.rf (gu_un.su jU122 rfl)) (gu_un.su jU157 rfl)) (gu_un.su hU16 rfl)) (⟨fun q hq => (show G14 3 q = Gj157 3 q from (show gu_un ycd [29, 33, 36, 37, 1300, 1400, 1500, 1600, 1700, 1800, 1900, 2000, 2100] Gj157 G14 from (gu_un.tr gu_un.rf (gu_un.su hU16 rfl))) 3 q (by simp [ycd])).trans (rs157.1 q hq), fun q hq => (show G14 27 q = Gj157 27 q from (show gu_un ycd [29, 33, 36, 37, 1300, 1400, 1500, 1600, 1700, 1800, 1900, 2000, 2100] Gj157 G14 from (gu_un.tr gu_un.rf (gu_un.su hU16 rfl))) 27 q (by simp [ycd])).trans (rs157.2 q hq)⟩) (fun Q C hq hr r0 r5 t1 t9 m1 m4 l1 l5 => by have sbt := (sb_i (x := x122_8) (l := p3) (by omega) (by omega) (by omega) (by omega)).mp (by omega); rw [e3] at sbt; have okt : btO s3.toNat s2.toNat x122_8.toInt.toNat := ⟨by omega, sbt, by omega⟩; have hm : bt_tm x122_8.toInt.toNat 16 = s2.toNat := (by rw [bt_tmct]; omega); have nh9 : yNh G Gj122 := nh122; have hd := q20 (Qt Q x122_8.toInt.toNat) C (ySq.set (s := x122_8.toInt.toNat) hq (show gu_un ycd [29, 33, 36, 37, 300, 500, 1300, 1400, 1500, 1600, 1700, 1800, 1900, 2000, 2100, 2700] G Gj157 from (gu_un.tr (gu_un.tr gu_un.rf (gu_un.su jU122 rfl)) (gu_un.su jU157 rfl))) rfl rs157.1 (by rw [hm, show Gj157 3 10 = Gj122 3 10 from jU157 3 10 (by decide)]; omega) (fun q h9 => by have h8 := ms.2 q (by have h7 := ms.1; rw [show x157_10.toInt.toNat = 16 by omega] at h7; omega); rw [show x157_10.toInt.toNat = 16 by omega] at h8; exact h8)) (by first | omega | (rw [rs157.1 1 (by decide)]; omega)) (by omega) (by omega); have hd2 : dpR ((btP Q C (G 14) (G 0 28) s0 s1 p1) x122_8.toInt.toNat) 0 r12.toInt := dpR.to (fun f => by unfold btP; rw [pvA_eq (Q := Qt Q x122_8.toInt.toNat) (h := Gj122 14) (g := G 14) nh9.1 (by omega) (by omega) (by show (Q 0 1).toInt ≤ 6; rw [hq.1 1 (by decide) (by decide)]; omega) (by show (Q 0 0).toInt ≤ 16; rw [hq.1 0 (by decide) (by decide)]; omega), nh9.2.1] <;> exact Iff.rfl) hd; have g1 := br Q C hq hr r0 r5 t1 t9 m1 m4 l1 l5; rw [show (y27.toInt - 1).toNat = x122_8.toInt.toNat by omega]; exact btR.goy g1 g1.nn okt (by omega) hd2 (Or.inl ⟨by omega, by omega, by omega⟩)) (by have e9_3_10 : G14 3 10 = (Gj122 3 10) := (hU16 3 10 (by decide)).trans (jU157 3 10 (by decide)); (try simp only [e9_3_10, true_and, and_true]) <;> (first | omega | (simp only [Int32.reduceToInt, true_and, and_true, ne_eq, not_true_eq_false, false_and, or_false, false_or, true_or, or_true, false_implies] <;> omega))) (by (first | omega | (simp only [Int32.reduceToInt, true_and, and_true, ne_eq, not_true_eq_false, false_and, or_false, false_or, true_or, or_true, false_implies] <;> omega))) (by (first | omega | (simp only [Int32.reduceToInt, true_and, and_true, ne_eq, not_true_eq_false, false_and, or_false, false_or, true_or, or_true, false_implies] <;> omega))) (by have e9_3_1 : G14 3 1 = (Gj122 3 1) := (hU16 3 1 (by decide)).trans (jU157 3 1 (by decide)); (try simp only [e9_3_1, true_and, and_true]) <;> (first | omega | (simp only [Int32.reduceToInt, true_and, and_true, ne_eq, not_true_eq_false, false_and, or_false, false_or, true_or, or_true, false_implies] <;> omega))) ((yNh.tr (show yNh G Gj157 from (yNh.tr (show yNh G Gj122 from nh122) (show yNh Gj122 Gj157 from (yNh.un jU157 rfl)))) (show yNh Gj157 G14 from q18)))
          · refine g_iload F 8 dX13_bestTeeth_164 rfl ?_
            refine g_iload F 10 dX13_bestTeeth_166 rfl ?_
            refine g_ishr F dX13_bestTeeth_168 ?_
            refine g_iconst F 1 dX13_bestTeeth_169 (by decide) ?_
            refine g_iand F dX13_bestTeeth_170 ?_
            have b7 := bi_bit (x := x122_8) (k := x157_10) (by omega) (by omega) (by omega)
            have b6 : bt_tm (x122_8.toInt).toNat ((x157_10.toInt).toNat + 1) = bt_tm (x122_8.toInt).toNat (x157_10.toInt).toNat + (x122_8.toInt).toNat / 2 ^ (x157_10.toInt).toNat % 2 := rfl
            have b5 := bt_tmmono (x122_8.toInt).toNat (k := (x157_10.toInt).toNat + 1) (15 - (x157_10.toInt).toNat)
            rw [show (x157_10.toInt).toNat + 1 + (15 - (x157_10.toInt).toNat) = 16 by omega, bt_tmct 16] at b5
            refine v_if_ne F 177 dX13_bestTeeth_171 (by decide) (((x122_8 >>> (x157_10 &&& 31)) &&& 1) : Int32).toInt rfl (fun c29 => ?_) (fun c29 => ?_)
            · refine g_aload_n F 0 dX13_bestTeeth_177 rfl rfl ?_
              refine yg_0_12 F i_X13 w_0 dX13_bestTeeth_178 ?_
              refine g_iload F 9 dX13_bestTeeth_181 rfl ?_
              refine g_iload F 10 dX13_bestTeeth_183 rfl ?_
              refine u_iast F 5 0 yc_5 rfl x157_9.toInt rfl (by omega) (by omega) (yW K a (gu_up Gj157 5 (x157_9.toInt).toNat x157_10)) (ys_5 _) dX13_bestTeeth_185 ?_
              refine u_iinc F (fun v_ => [(9, .int v_), (0, .ref (a 0)), (1, .int p0), (2, .int p1), (3, .int p2), (4, .int p3), (5, .int (G 3 10)), (6, .int x122_6), (7, .int x122_7), (8, .int x122_8), (10, .int x157_10)]) dX13_bestTeeth_186 (j := 9) rfl x157_9.toInt 1 rfl rfl (by omega) (by omega) (by decide) (fun _ => rfl) (fun y30 ey30 => ?_)
              refine u_iinc F (fun v_ => [(10, .int v_), (9, .int y30), (0, .ref (a 0)), (1, .int p0), (2, .int p1), (3, .int p2), (4, .int p3), (5, .int (G 3 10)), (6, .int x122_6), (7, .int x122_7), (8, .int x122_8)]) dX13_bestTeeth_189 (j := 10) rfl x157_10.toInt 1 rfl rfl (by omega) (by omega) (by decide) (fun _ => rfl) (fun y31 ey31 => ?_)
              refine g_goto F 157 dX13_bestTeeth_192 (by decide) ?_
              refine g_locals [(0, .ref (a 0)), (1, .int p0), (2, .int p1), (3, .int p2), (4, .int p3), (5, .int (G 3 10)), (6, .int x122_6), (7, .int x122_7), (8, .int x122_8), (9, .int y30), (10, .int y31)] [2, 3, 4, 5, 6, 7, 8, 9, 10, 1, 0] rfl ?_
              have b32 : (1 : Int) ≤ (Gj122 3 10).toInt ∧ (Gj122 3 10).toInt ≤ 4 := jI122 3 10
              have b33 : (0 : Int) ≤ (Gj122 0 32).toInt ∧ (Gj122 0 32).toInt ≤ 7 := jI122 0 32
              have b34 : (1 : Int) ≤ (Gj122 3 1).toInt ∧ (Gj122 3 1).toInt ≤ 6 := jI122 3 1
              exact ih_157 y30 y31 (gu_up Gj157 5 (x157_9.toInt).toNat x157_10) (by omega) (by have h9 := ti_rng x122_8; omega) (by have h9 := ti_rng y30; omega) (by have h9 := ti_rng y31; omega) (gu_I.up (j := 5) (k := (x157_9.toInt).toNat) (v := x157_10) jI157 (show (0 : Int) ≤ Int32.toInt x157_10 by omega) (show Int32.toInt x157_10 ≤ 15 by omega)) (gu_un.up (j := 5) (k := (x157_9.toInt).toNat) (v := x157_10) (gu_un.tr gu_un.rf (gu_un.su jU157 rfl)) (show (500 : Nat) ∈ ([500] : List Nat) by decide)) (by rw [show (y31.toInt).toNat = x157_10.toInt.toNat + 1 by omega]; omega) (by (first | omega | (simp only [Int32.reduceToInt, true_and, and_true, ne_eq, not_true_eq_false, false_and, or_false, false_or, true_or, or_true, false_implies] <;> omega))) (⟨fun q hq => (show (gu_up Gj157 5 (x157_9.toInt).toNat x157_10) 3 q = Gj157 3 q from (show gu_un ycd [500] Gj157 (gu_up Gj157 5 (x157_9.toInt).toNat x157_10) from (gu_un.up (j := 5) (k := (x157_9.toInt).toNat) (v := x157_10) gu_un.rf (show (500 : Nat) ∈ ([500] : List Nat) by decide))) 3 q (by simp [ycd])).trans (rs157.1 q hq), fun q hq => (show (gu_up Gj157 5 (x157_9.toInt).toNat x157_10) 27 q = Gj157 27 q from (show gu_un ycd [500] Gj157 (gu_up Gj157 5 (x157_9.toInt).toNat x157_10) from (gu_un.up (j := 5) (k := (x157_9.toInt).toNat) (v := x157_10) gu_un.rf (show (500 : Nat) ∈ ([500] : List Nat) by decide))) 27 q (by simp [ycd])).trans (rs157.2 q hq)⟩) (sbb) (mS.yes (v := x157_10) ms (by omega) (by omega) (by omega) (by omega) (by omega) rfl (show (gu_up Gj157 5 (x157_9.toInt).toNat x157_10) 5 = (upd (Gj157 5) (x157_9.toInt).toNat x157_10) from rfl)) (by have e9_3_10 : (gu_up Gj157 5 (x157_9.toInt).toNat x157_10) 3 10 = (Gj122 3 10) := jU157 3 10 (by decide); (try simp only [e9_3_10, true_and, and_true]) <;> (first | omega | (simp only [Int32.reduceToInt, true_and, and_true, ne_eq, not_true_eq_false, false_and, or_false, false_or, true_or, or_true, false_implies] <;> omega))) (by (first | omega | (simp only [Int32.reduceToInt, true_and, and_true, ne_eq, not_true_eq_false, false_and, or_false, false_or, true_or, or_true, false_implies] <;> omega))) (by have e9_0_32 : (gu_up Gj157 5 (x157_9.toInt).toNat x157_10) 0 32 = (Gj122 0 32) := jU157 0 32 (by decide); (try simp only [e9_0_32, true_and, and_true]) <;> (first | omega | (simp only [Int32.reduceToInt, true_and, and_true, ne_eq, not_true_eq_false, false_and, or_false, false_or, true_or, or_true, false_implies] <;> omega))) (by have e9_3_1 : (gu_up Gj157 5 (x157_9.toInt).toNat x157_10) 3 1 = (Gj122 3 1) := jU157 3 1 (by decide); (try simp only [e9_3_1, true_and, and_true]) <;> (first | omega | (simp only [Int32.reduceToInt, true_and, and_true, ne_eq, not_true_eq_false, false_and, or_false, false_or, true_or, or_true, false_implies] <;> omega)))
            · refine g_goto F 189 dX13_bestTeeth_174 (by decide) ?_
              refine u_iinc F (fun v_ => [(10, .int v_), (0, .ref (a 0)), (1, .int p0), (2, .int p1), (3, .int p2), (4, .int p3), (5, .int (G 3 10)), (6, .int x122_6), (7, .int x122_7), (8, .int x122_8), (9, .int x157_9)]) dX13_bestTeeth_189 (j := 10) rfl x157_10.toInt 1 rfl rfl (by omega) (by omega) (by decide) (fun _ => rfl) (fun y35 ey35 => ?_)
              refine g_goto F 157 dX13_bestTeeth_192 (by decide) ?_
              refine g_locals [(0, .ref (a 0)), (1, .int p0), (2, .int p1), (3, .int p2), (4, .int p3), (5, .int (G 3 10)), (6, .int x122_6), (7, .int x122_7), (8, .int x122_8), (9, .int x157_9), (10, .int y35)] [1, 2, 3, 4, 5, 6, 7, 8, 9, 10, 0] rfl ?_
              have b36 : (1 : Int) ≤ (Gj122 3 10).toInt ∧ (Gj122 3 10).toInt ≤ 4 := jI122 3 10
              have b37 : (0 : Int) ≤ (Gj122 0 32).toInt ∧ (Gj122 0 32).toInt ≤ 7 := jI122 0 32
              have b38 : (1 : Int) ≤ (Gj122 3 1).toInt ∧ (Gj122 3 1).toInt ≤ 6 := jI122 3 1
              exact ih_157 x157_9 y35 Gj157 (by omega) (by have h9 := ti_rng x122_8; omega) (by have h9 := ti_rng x157_9; omega) (by have h9 := ti_rng y35; omega) jI157 (gu_un.tr gu_un.rf (gu_un.su jU157 rfl)) (by rw [show (y35.toInt).toNat = x157_10.toInt.toNat + 1 by omega]; omega) (by (first | omega | (simp only [Int32.reduceToInt, true_and, and_true, ne_eq, not_true_eq_false, false_and, or_false, false_or, true_or, or_true, false_implies] <;> omega))) (⟨fun q hq => (show Gj157 3 q = Gj157 3 q from (show gu_un ycd [] Gj157 Gj157 from gu_un.rf) 3 q (by simp [ycd])).trans (rs157.1 q hq), fun q hq => (show Gj157 27 q = Gj157 27 q from (show gu_un ycd [] Gj157 Gj157 from gu_un.rf) 27 q (by simp [ycd])).trans (rs157.2 q hq)⟩) (sbb) (mS.no ms (by omega) (by omega) (by omega)) (by have e9_3_10 : Gj157 3 10 = (Gj122 3 10) := jU157 3 10 (by decide); (try simp only [e9_3_10, true_and, and_true]) <;> (first | omega | (simp only [Int32.reduceToInt, true_and, and_true, ne_eq, not_true_eq_false, false_and, or_false, false_or, true_or, or_true, false_implies] <;> omega))) (by (first | omega | (simp only [Int32.reduceToInt, true_and, and_true, ne_eq, not_true_eq_false, false_and, or_false, false_or, true_or, or_true, false_implies] <;> omega))) (by have e9_0_32 : Gj157 0 32 = (Gj122 0 32) := jU157 0 32 (by decide); (try simp only [e9_0_32, true_and, and_true]) <;> (first | omega | (simp only [Int32.reduceToInt, true_and, and_true, ne_eq, not_true_eq_false, false_and, or_false, false_or, true_or, or_true, false_implies] <;> omega))) (by have e9_3_1 : Gj157 3 1 = (Gj122 3 1) := jU157 3 1 (by decide); (try simp only [e9_3_1, true_and, and_true]) <;> (first | omega | (simp only [Int32.reduceToInt, true_and, and_true, ne_eq, not_true_eq_false, false_and, or_false, false_or, true_or, or_true, false_implies] <;> omega)))
      refine g_iload F 8 dX13_bestTeeth_122 rfl ?_
      refine g_iload F 4 dX13_bestTeeth_124 rfl ?_
      refine v_icmp_gt F 227 dX13_bestTeeth_126 (by decide) x122_8.toInt s3 rfl e3 (fun c39 => ?_) (fun c39 => ?_)
      · refine g_aload_n F 0 dX13_bestTeeth_227 rfl rfl ?_
        refine yg_0_10 F i_X13 w_2 dX13_bestTeeth_228 ?_
        refine g_bipush F 10 dX13_bestTeeth_231 (by decide) ?_
        refine g_iload F 5 dX13_bestTeeth_233 rfl ?_
        have b40 : (1 : Int) ≤ (G 3 10).toInt ∧ (G 3 10).toInt ≤ 4 := hI 3 10
        refine u_iast F 3 0 yc_3 rfl 10 rfl (by decide) (by decide) (yW K a (gu_up Gj122 3 10 (G 3 10))) (ys_3 _) dX13_bestTeeth_235 ?_
        refine g_iconst F 0 dX13_bestTeeth_236 (by decide) ?_
        refine g_istore F [(8, .int 0), (0, .ref (a 0)), (1, .int p0), (2, .int p1), (3, .int p2), (4, .int p3), (5, .int (G 3 10)), (6, .int x122_6), (7, .int x122_7)] dX13_bestTeeth_237 (by decide) rfl ?_
        refine g_locals [(0, .ref (a 0)), (6, .int x122_6), (8, .int 0)] [1, 7, 0] rfl ?_
        have b41 : (0 : Int) ≤ (Gj122 0 32).toInt ∧ (Gj122 0 32).toInt ≤ 7 := jI122 0 32
        have b42 : (1 : Int) ≤ (Gj122 3 1).toInt ∧ (Gj122 3 1).toInt ≤ 6 := jI122 3 1
        exact J_239 _ x122_6 0 (gu_up Gj122 3 10 (G 3 10)) (Nat.lt_succ_self _) (by have h9 := ti_rng x122_6; omega) (by decide) (gu_I.up (j := 3) (k := 10) (v := (G 3 10)) jI122 (show (1 : Int) ≤ Int32.toInt (G 3 10) by omega) (show Int32.toInt (G 3 10) ≤ 4 by omega)) (gu_un.up (j := 3) (k := 10) (v := (G 3 10)) (gu_un.tr gu_un.rf (gu_un.su jU122 rfl)) (show (300 : Nat) ∈ ([29, 33, 36, 37, 300, 500, 1300, 1400, 1500, 1600, 1700, 1800, 1900, 2000, 2100, 2700] : List Nat) by decide)) (⟨fun q hq => by by_cases e : q = 10 <;> first | (rw [e]; rfl) | (show upd (Gj122 3) 10 _ q = G 3 q; rw [show upd (Gj122 3) 10 _ q = Gj122 3 q from if_neg e]; exact rs122.1 q e), fun q hq => rs122.2 q hq, fun q hq => by have h9 : (q : Int) < 0 := hq; omega⟩) (fun Q C hq hr r0 r5 t1 t9 m1 m4 l1 l5 => by have g1 := br Q C hq hr r0 r5 t1 t9 m1 m4 l1 l5; rw [show (x122_8.toInt - 1).toNat = s3.toNat by omega] at g1; exact ⟨_, g1⟩) (by have e9_0_32 : (gu_up Gj122 3 10 (G 3 10)) 0 32 = (Gj122 0 32) := rfl; (try simp only [e9_0_32, true_and, and_true]) <;> (first | omega | (simp only [Int32.reduceToInt, true_and, and_true, ne_eq, not_true_eq_false, false_and, or_false, false_or, true_or, or_true, false_implies] <;> omega))) (by have e9_3_1 : (gu_up Gj122 3 10 (G 3 10)) 3 1 = (Gj122 3 1) := rfl; (try simp only [e9_3_1, true_and, and_true]) <;> (first | omega | (simp only [Int32.reduceToInt, true_and, and_true, ne_eq, not_true_eq_false, false_and, or_false, false_or, true_or, or_true, false_implies] <;> omega))) ((yNh.tr (show yNh G Gj122 from nh122) (yNh.un (show gu_un ycd [300] Gj122 (gu_up Gj122 3 10 (G 3 10)) from (gu_un.up (j := 3) (k := 10) (v := (G 3 10)) gu_un.rf (show (300 : Nat) ∈ ([300] : List Nat) by decide))) rfl)))
      · refine g_iload F 8 dX13_bestTeeth_129 rfl ?_
        refine g_iload F 4 dX13_bestTeeth_131 rfl ?_
        refine g_iconst F (-1) dX13_bestTeeth_133 (by decide) ?_
        refine g_ixor F dX13_bestTeeth_134 ?_
        refine g_iand F dX13_bestTeeth_135 ?_
        refine v_if_ne F 221 dX13_bestTeeth_136 (by decide) ((x122_8 &&& (p3 ^^^ (-1))) : Int32).toInt rfl (fun c43 => ?_) (fun c43 => ?_)
        · refine u_iinc F (fun v_ => [(8, .int v_), (0, .ref (a 0)), (1, .int p0), (2, .int p1), (3, .int p2), (4, .int p3), (5, .int (G 3 10)), (6, .int x122_6), (7, .int x122_7)]) dX13_bestTeeth_221 (j := 8) rfl x122_8.toInt 1 rfl rfl (by omega) (by omega) (by decide) (fun _ => rfl) (fun y44 ey44 => ?_)
          refine g_goto F 122 dX13_bestTeeth_224 (by decide) ?_
          refine g_locals [(0, .ref (a 0)), (1, .int p0), (2, .int p1), (3, .int p2), (4, .int p3), (5, .int (G 3 10)), (6, .int x122_6), (7, .int x122_7), (8, .int y44)] [1, 2, 3, 4, 5, 6, 7, 8, 0] rfl ?_
          have b45 : (1 : Int) ≤ (Gj122 3 10).toInt ∧ (Gj122 3 10).toInt ≤ 4 := jI122 3 10
          have b46 : (0 : Int) ≤ (Gj122 0 32).toInt ∧ (Gj122 0 32).toInt ≤ 7 := jI122 0 32
          have b47 : (1 : Int) ≤ (Gj122 3 1).toInt ∧ (Gj122 3 1).toInt ≤ 6 := jI122 3 1
          exact ih_122 x122_6 x122_7 y44 Gj122 (by omega) (by have h9 := ti_rng p0; omega) (by have h9 := ti_rng p1; omega) (by have h9 := ti_rng p2; omega) (by have h9 := ti_rng p3; omega) (by have h9 := ti_rng x122_6; omega) (by have h9 := ti_rng x122_7; omega) (by have h9 := ti_rng y44; omega) jI122 (gu_un.tr gu_un.rf (gu_un.su jU122 rfl)) (⟨fun q hq => (show Gj122 3 q = Gj122 3 q from (show gu_un ycd [] Gj122 Gj122 from gu_un.rf) 3 q (by simp [ycd])).trans (rs122.1 q hq), fun q hq => (show Gj122 27 q = Gj122 27 q from (show gu_un ycd [] Gj122 Gj122 from gu_un.rf) 27 q (by simp [ycd])).trans (rs122.2 q hq)⟩) (fun Q C hq hr r0 r5 t1 t9 m1 m4 l1 l5 => by rw [show (y44.toInt - 1).toNat = x122_8.toInt.toNat by omega]; exact btR.skip (br Q C hq hr r0 r5 t1 t9 m1 m4 l1 l5) (by omega) (fun u hu h1 h2 => by have h3 : u = x122_8.toInt.toNat := (by omega); subst h3; have h4 := (sb_i (x := x122_8) (l := p3) (by omega) (by omega) (by omega) (by omega)).mpr (by rw [e3]; exact hu.2.1); omega)) (by (first | omega | (simp only [Int32.reduceToInt, true_and, and_true, ne_eq, not_true_eq_false, false_and, or_false, false_or, true_or, or_true, false_implies] <;> omega))) (by (first | omega | (simp only [Int32.reduceToInt, true_and, and_true, ne_eq, not_true_eq_false, false_and, or_false, false_or, true_or, or_true, false_implies] <;> omega))) (by (first | omega | (simp only [Int32.reduceToInt, true_and, and_true, ne_eq, not_true_eq_false, false_and, or_false, false_or, true_or, or_true, false_implies] <;> omega))) (by (first | omega | (simp only [Int32.reduceToInt, true_and, and_true, ne_eq, not_true_eq_false, false_and, or_false, false_or, true_or, or_true, false_implies] <;> omega))) (nh122)
        · refine g_iload F 8 dX13_bestTeeth_139 rfl ?_
          refine u_call0 (k := 0) (n := 0) (As := [.int x122_8]) (st := []) F (fun sz => S_X13_bits_b65535 l D x122_8 x122_8.toInt rfl (by omega) sz) (va_cwS 1 hts gX13_bestTeeth_X13_bits rfl rfl rfl (by decide +kernel) ⟨Nat.le_of_ble_eq_true rfl, Nat.le_of_ble_eq_true rfl⟩) rfl (Nat.le_of_ble_eq_true rfl) ⟨Nat.zero_le _, Nat.zero_le _⟩ dX13_bestTeeth_141 (fun r48 _ hw49 => ?_)
          have q51 : (r48.toInt = (bt_CT 16 (x122_8.toInt).toNat : Int)) := hw49.2
          have rg52 := hw49.1
          have rg53 := hw49.2
          clear hw49
          refine g_iload_n F 3 dX13_bestTeeth_144 rfl rfl ?_
          refine v_icmp_eq F 151 dX13_bestTeeth_145 (by decide) r48.toInt s2 rfl e2 (fun c54 => ?_) (fun c54 => ?_)
          · refine g_iconst F 0 dX13_bestTeeth_151 (by decide) ?_
            refine g_istore F [(9, .int 0), (0, .ref (a 0)), (1, .int p0), (2, .int p1), (3, .int p2), (4, .int p3), (5, .int (G 3 10)), (6, .int x122_6), (7, .int x122_7), (8, .int x122_8)] dX13_bestTeeth_152 (by decide) rfl ?_
            refine g_iconst F 0 dX13_bestTeeth_154 (by decide) ?_
            refine g_istore F [(10, .int 0), (9, .int 0), (0, .ref (a 0)), (1, .int p0), (2, .int p1), (3, .int p2), (4, .int p3), (5, .int (G 3 10)), (6, .int x122_6), (7, .int x122_7), (8, .int x122_8)] dX13_bestTeeth_155 (by decide) rfl ?_
            refine g_locals [(0, .ref (a 0)), (1, .int p0), (2, .int p1), (3, .int p2), (4, .int p3), (5, .int (G 3 10)), (6, .int x122_6), (7, .int x122_7), (8, .int x122_8), (9, .int 0), (10, .int 0)] [2, 3, 4, 5, 6, 7, 8, 9, 10, 1, 0] rfl ?_
            have b55 : (1 : Int) ≤ (Gj122 3 10).toInt ∧ (Gj122 3 10).toInt ≤ 4 := jI122 3 10
            have b56 : (0 : Int) ≤ (Gj122 0 32).toInt ∧ (Gj122 0 32).toInt ≤ 7 := jI122 0 32
            have b57 : (1 : Int) ≤ (Gj122 3 1).toInt ∧ (Gj122 3 1).toInt ≤ 6 := jI122 3 1
            exact J_157 _ 0 0 Gj122 (Nat.lt_succ_self _) (by have h9 := ti_rng x122_8; omega) (by decide) (by decide) jI122 gu_un.rf (by first | rfl | omega) (by (first | omega | (simp only [Int32.reduceToInt, true_and, and_true, ne_eq, not_true_eq_false, false_and, or_false, false_or, true_or, or_true, false_implies] <;> omega))) (⟨fun q hq => (show Gj122 3 q = Gj122 3 q from (show gu_un ycd [] Gj122 Gj122 from gu_un.rf) 3 q (by simp [ycd])).trans (rs122.1 q hq), fun q hq => (show Gj122 27 q = Gj122 27 q from (show gu_un ycd [] Gj122 Gj122 from gu_un.rf) 27 q (by simp [ycd])).trans (rs122.2 q hq)⟩) (by omega) (mS.at0 (by decide) (by decide)) (by (first | omega | (simp only [Int32.reduceToInt, true_and, and_true, ne_eq, not_true_eq_false, false_and, or_false, false_or, true_or, or_true, false_implies] <;> omega))) (by (first | omega | (simp only [Int32.reduceToInt, true_and, and_true, ne_eq, not_true_eq_false, false_and, or_false, false_or, true_or, or_true, false_implies] <;> omega))) (by (first | omega | (simp only [Int32.reduceToInt, true_and, and_true, ne_eq, not_true_eq_false, false_and, or_false, false_or, true_or, or_true, false_implies] <;> omega))) (by (first | omega | (simp only [Int32.reduceToInt, true_and, and_true, ne_eq, not_true_eq_false, false_and, or_false, false_or, true_or, or_true, false_implies] <;> omega)))
          · refine g_goto F 221 dX13_bestTeeth_148 (by decide) ?_
            refine u_iinc F (fun v_ => [(8, .int v_), (0, .ref (a 0)), (1, .int p0), (2, .int p1), (3, .int p2), (4, .int p3), (5, .int (G 3 10)), (6, .int x122_6), (7, .int x122_7)]) dX13_bestTeeth_221 (j := 8) rfl x122_8.toInt 1 rfl rfl (by omega) (by omega) (by decide) (fun _ => rfl) (fun y58 ey58 => ?_)
            refine g_goto F 122 dX13_bestTeeth_224 (by decide) ?_
            refine g_locals [(0, .ref (a 0)), (1, .int p0), (2, .int p1), (3, .int p2), (4, .int p3), (5, .int (G 3 10)), (6, .int x122_6), (7, .int x122_7), (8, .int y58)] [1, 2, 3, 4, 5, 6, 7, 8, 0] rfl ?_
            have b59 : (1 : Int) ≤ (Gj122 3 10).toInt ∧ (Gj122 3 10).toInt ≤ 4 := jI122 3 10
            have b60 : (0 : Int) ≤ (Gj122 0 32).toInt ∧ (Gj122 0 32).toInt ≤ 7 := jI122 0 32
            have b61 : (1 : Int) ≤ (Gj122 3 1).toInt ∧ (Gj122 3 1).toInt ≤ 6 := jI122 3 1
            exact ih_122 x122_6 x122_7 y58 Gj122 (by omega) (by have h9 := ti_rng p0; omega) (by have h9 := ti_rng p1; omega) (by have h9 := ti_rng p2; omega) (by have h9 := ti_rng p3; omega) (by have h9 := ti_rng x122_6; omega) (by have h9 := ti_rng x122_7; omega) (by have h9 := ti_rng y58; omega) jI122 (gu_un.tr gu_un.rf (gu_un.su jU122 rfl)) (⟨fun q hq => (show Gj122 3 q = Gj122 3 q from (show gu_un ycd [] Gj122 Gj122 from gu_un.rf) 3 q (by simp [ycd])).trans (rs122.1 q hq), fun q hq => (show Gj122 27 q = Gj122 27 q from (show gu_un ycd [] Gj122 Gj122 from gu_un.rf) 27 q (by simp [ycd])).trans (rs122.2 q hq)⟩) (fun Q C hq hr r0 r5 t1 t9 m1 m4 l1 l5 => by rw [show (y58.toInt - 1).toNat = x122_8.toInt.toNat by omega]; exact btR.skip (br Q C hq hr r0 r5 t1 t9 m1 m4 l1 l5) (by omega) (fun u hu h1 h2 => by have h3 : u = x122_8.toInt.toNat := (by omega); subst h3; have h4 := hu.2.2; omega)) (by (first | omega | (simp only [Int32.reduceToInt, true_and, and_true, ne_eq, not_true_eq_false, false_and, or_false, false_or, true_or, or_true, false_implies] <;> omega))) (by (first | omega | (simp only [Int32.reduceToInt, true_and, and_true, ne_eq, not_true_eq_false, false_and, or_false, false_or, true_or, or_true, false_implies] <;> omega))) (by (first | omega | (simp only [Int32.reduceToInt, true_and, and_true, ne_eq, not_true_eq_false, false_and, or_false, false_or, true_or, or_true, false_implies] <;> omega))) (by (first | omega | (simp only [Int32.reduceToInt, true_and, and_true, ne_eq, not_true_eq_false, false_and, or_false, false_or, true_or, or_true, false_implies] <;> omega))) (nh122)
  have J_79 : ∀ (fuel : Nat) (x79_6 : Int32) (Gj79 : gS), (2147483647 - x79_6.toInt).toNat < fuel → (0 ≤ s0 ∧ s0 ≤ 5) → (1 ≤ s1 ∧ s1 ≤ 9) → (1 ≤ s2 ∧ s2 ≤ 4) → (1 ≤ s3 ∧ s3 ≤ 65535) → (0 ≤ x79_6.toInt ∧ x79_6.toInt ≤ 4) → (yI Gj79) → (gu_un ycd [2700] G Gj79) → (∀ q : Nat, (q : Int) < x79_6.toInt → Gj79 27 q = G 5 q) → (((G 0 32).toInt = (G 0 32).toInt)) → ((0 ≤ s0 ∧ s0 < (G 3 1).toInt ∧ s0 ≤ 5 ∧ 1 ≤ s1 ∧ s1 ≤ 9 ∧ 1 ≤ s2 ∧ s2 ≤ 4 ∧ 1 ≤ s3 ∧ s3 ≤ 65535 ∧ s2 ≤ (bt_CT 16 (s3).toNat : Int) ∧ (bt_CT 16 (s3).toNat : Int) ≤ 6)) → gG p l e (gR 9 0 0 252) s m args below meth c D A 11 Q 0 0 (yW K a Gj79) (tK K) [(0, .ref (a 0)), (1, .int p0), (2, .int p1), (3, .int p2), (4, .int p3), (5, .int (G 3 10)), (6, .int x79_6)] 79 [] := by
    intro fuel
    induction fuel with
    | zero => intro x79_6 Gj79 hm; exact absurd hm (Nat.not_lt_zero _)
    | succ fuel_79 ih_79 =>
      intro x79_6 Gj79 hm_79 k79_1 k79_2 k79_3 k79_4 h79_6 jI79 jU79 kt dc_79 rgk_79
      refine g_iload F 6 dX13_bestTeeth_79 rfl ?_
      refine g_iconst F 4 dX13_bestTeeth_81 (by decide) ?_
      refine v_icmp_ge F 105 dX13_bestTeeth_82 (by decide) x79_6.toInt 4 rfl rfl (fun c62 => ?_) (fun c62 => ?_)
      · refine g_aload_n F 0 dX13_bestTeeth_105 rfl rfl ?_
        refine yg_0_10 F i_X13 w_2 dX13_bestTeeth_106 ?_
        refine g_bipush F 10 dX13_bestTeeth_109 (by decide) ?_
        refine g_iload_n F 3 dX13_bestTeeth_111 rfl rfl ?_
        refine u_iast F 3 0 yc_3 rfl 10 rfl (by decide) (by decide) (yW K a (gu_up Gj79 3 10 p2)) (ys_3 _) dX13_bestTeeth_112 ?_
        refine g_iconst F (-1) dX13_bestTeeth_113 (by decide) ?_
        refine g_istore F [(6, .int (-1)), (0, .ref (a 0)), (1, .int p0), (2, .int p1), (3, .int p2), (4, .int p3), (5, .int (G 3 10))] dX13_bestTeeth_114 (by decide) rfl ?_
        refine g_iconst F 0 dX13_bestTeeth_116 (by decide) ?_
        refine g_istore F [(7, .int 0), (6, .int (-1)), (0, .ref (a 0)), (1, .int p0), (2, .int p1), (3, .int p2), (4, .int p3), (5, .int (G 3 10))] dX13_bestTeeth_117 (by decide) rfl ?_
        refine g_iconst F 1 dX13_bestTeeth_119 (by decide) ?_
        refine g_istore F [(8, .int 1), (7, .int 0), (6, .int (-1)), (0, .ref (a 0)), (1, .int p0), (2, .int p1), (3, .int p2), (4, .int p3), (5, .int (G 3 10))] dX13_bestTeeth_120 (by decide) rfl ?_
        refine g_locals [(0, .ref (a 0)), (1, .int p0), (2, .int p1), (3, .int p2), (4, .int p3), (5, .int (G 3 10)), (6, .int (-1)), (7, .int 0), (8, .int 1)] [3, 4, 5, 6, 7, 8, 2, 1, 0] rfl ?_
        exact J_122 _ (-1) 0 1 (gu_up Gj79 3 10 p2) (Nat.lt_succ_self _) (by have h9 := ti_rng p0; omega) (by have h9 := ti_rng p1; omega) (by have h9 := ti_rng p2; omega) (by have h9 := ti_rng p3; omega) (by decide) (by decide) (by decide) (gu_I.up (j := 3) (k := 10) (v := p2) jI79 (show (1 : Int) ≤ Int32.toInt p2 by omega) (show Int32.toInt p2 ≤ 4 by omega)) (gu_un.up (j := 3) (k := 10) (v := p2) (gu_un.tr gu_un.rf (gu_un.su jU79 rfl)) (show (300 : Nat) ∈ ([29, 33, 36, 37, 300, 500, 1300, 1400, 1500, 1600, 1700, 1800, 1900, 2000, 2100, 2700] : List Nat) by decide)) (⟨fun q hq => by rw [(show (gu_up Gj79 3 10 p2) 3 = (upd (G 3) 10 p2) from (congrArg (fun f_ => upd f_ 10 p2) ((show Gj79 3 = G 3 from funext fun k_ => jU79 3 k_ (by simp [ycd])).trans (show G 3 = (G 3) from rfl))))]; show upd (G 3) 10 _ q = G 3 q; exact if_neg hq, fun q hq => (show (gu_up Gj79 3 10 p2) 27 q = Gj79 27 q from (show gu_un ycd [300] Gj79 (gu_up Gj79 3 10 p2) from (gu_un.up (j := 3) (k := 10) (v := p2) gu_un.rf (show (300 : Nat) ∈ ([300] : List Nat) by decide))) 27 q (by simp [ycd])).trans (kt q (by omega))⟩) (fun Q C hq hr r0 r5 t1 t9 m1 m4 l1 l5 => by rw [show (Int32.toInt 1 - 1).toNat = 0 by decide]; exact btR.zero) (by have e9_3_10 : (gu_up Gj79 3 10 p2) 3 10 = p2 := rfl; (try simp only [e9_3_10, true_and, and_true]) <;> (first | omega | (simp only [Int32.reduceToInt, true_and, and_true, ne_eq, not_true_eq_false, false_and, or_false, false_or, true_or, or_true, false_implies] <;> omega))) (by (first | omega | (simp only [Int32.reduceToInt, true_and, and_true, ne_eq, not_true_eq_false, false_and, or_false, false_or, true_or, or_true, false_implies] <;> omega))) (by have e9_0_32 : (gu_up Gj79 3 10 p2) 0 32 = (G 0 32) := jU79 0 32 (by decide); (try simp only [e9_0_32, true_and, and_true]) <;> (first | omega | (simp only [Int32.reduceToInt, true_and, and_true, ne_eq, not_true_eq_false, false_and, or_false, false_or, true_or, or_true, false_implies] <;> omega))) (by have e9_3_1 : (gu_up Gj79 3 10 p2) 3 1 = (G 3 1) := jU79 3 1 (by decide); (try simp only [e9_3_1, true_and, and_true]) <;> (first | omega | (simp only [Int32.reduceToInt, true_and, and_true, ne_eq, not_true_eq_false, false_and, or_false, false_or, true_or, or_true, false_implies] <;> omega))) ((yNh.tr (show yNh G Gj79 from (yNh.tr (show yNh G G from yNh.rf) (show yNh G Gj79 from (yNh.un jU79 rfl)))) (yNh.un (show gu_un ycd [300] Gj79 (gu_up Gj79 3 10 p2) from (gu_un.up (j := 3) (k := 10) (v := p2) gu_un.rf (show (300 : Nat) ∈ ([300] : List Nat) by decide))) rfl)))
      · refine g_aload_n F 0 dX13_bestTeeth_85 rfl rfl ?_
        refine yg_0_44 F i_X13 w_1 dX13_bestTeeth_86 ?_
        refine g_iload F 6 dX13_bestTeeth_89 rfl ?_
        refine g_aload_n F 0 dX13_bestTeeth_91 rfl rfl ?_
        refine yg_0_12 F i_X13 w_0 dX13_bestTeeth_92 ?_
        refine g_iload F 6 dX13_bestTeeth_95 rfl ?_
        refine u1_iald F 5 0 yc_5 rfl x79_6.toInt rfl (by omega) (by omega) dX13_bestTeeth_97 ((G 5) (x79_6.toInt).toNat) (congrFun ((show Gj79 5 = G 5 from funext fun k_ => jU79 5 k_ (show (500 : Nat) ∉ ([2700] : List Nat) by decide))) _) ?_
        have b63 : (0 : Int) ≤ ((G 5) (x79_6.toInt).toNat).toInt ∧ ((G 5) (x79_6.toInt).toNat).toInt ≤ 15 := hI 5 _
        refine u_iast F 27 0 yc_27 rfl x79_6.toInt rfl (by omega) (by omega) (yW K a (gu_up Gj79 27 (x79_6.toInt).toNat ((G 5) (x79_6.toInt).toNat))) (ys_27 _) dX13_bestTeeth_98 ?_
        refine u_iinc F (fun v_ => [(6, .int v_), (0, .ref (a 0)), (1, .int p0), (2, .int p1), (3, .int p2), (4, .int p3), (5, .int (G 3 10))]) dX13_bestTeeth_99 (j := 6) rfl x79_6.toInt 1 rfl rfl (by omega) (by omega) (by decide) (fun _ => rfl) (fun y64 ey64 => ?_)
        refine g_goto F 79 dX13_bestTeeth_102 (by decide) ?_
        refine g_locals [(0, .ref (a 0)), (1, .int p0), (2, .int p1), (3, .int p2), (4, .int p3), (5, .int (G 3 10)), (6, .int y64)] [1, 2, 3, 4, 5, 6, 0] rfl ?_
        exact ih_79 y64 (gu_up Gj79 27 (x79_6.toInt).toNat ((G 5) (x79_6.toInt).toNat)) (by omega) (by have h9 := ti_rng p0; omega) (by have h9 := ti_rng p1; omega) (by have h9 := ti_rng p2; omega) (by have h9 := ti_rng p3; omega) (by have h9 := ti_rng y64; omega) (gu_I.up (j := 27) (k := (x79_6.toInt).toNat) (v := ((G 5) (x79_6.toInt).toNat)) jI79 (show (0 : Int) ≤ Int32.toInt ((G 5) (x79_6.toInt).toNat) by omega) (show Int32.toInt ((G 5) (x79_6.toInt).toNat) ≤ 15 by omega)) (gu_un.up (j := 27) (k := (x79_6.toInt).toNat) (v := ((G 5) (x79_6.toInt).toNat)) (gu_un.tr gu_un.rf (gu_un.su jU79 rfl)) (show (2700 : Nat) ∈ ([2700] : List Nat) by decide)) (copy_1 (by omega) (by omega) kt rfl) (by have e9_0_32 : (gu_up Gj79 27 (x79_6.toInt).toNat ((G 5) (x79_6.toInt).toNat)) 0 32 = (G 0 32) := jU79 0 32 (by decide); (try simp only [e9_0_32, true_and, and_true]) <;> (first | omega | (simp only [Int32.reduceToInt, true_and, and_true, ne_eq, not_true_eq_false, false_and, or_false, false_or, true_or, or_true, false_implies] <;> omega))) (by have e9_3_1 : (gu_up Gj79 27 (x79_6.toInt).toNat ((G 5) (x79_6.toInt).toNat)) 3 1 = (G 3 1) := jU79 3 1 (by decide); (try simp only [e9_3_1, true_and, and_true]) <;> (first | omega | (simp only [Int32.reduceToInt, true_and, and_true, ne_eq, not_true_eq_false, false_and, or_false, false_or, true_or, or_true, false_implies] <;> omega)))
  refine g_aload_n F 0 dX13_bestTeeth_0 rfl rfl ?_
  refine g_iload_n F 1 dX13_bestTeeth_1 rfl rfl ?_
  refine u_callVi (k := 0) (n := 0) (b := a 0) (As := [.int p0]) (st := []) F (fun sz => S_X13_isRing l D K a G p0 s0 e0 hI sz) (cwV 1 hts gX13_bestTeeth_X13_isRing rfl rfl rfl (by decide +kernel) ⟨Nat.le_of_ble_eq_true rfl, Nat.le_of_ble_eq_true rfl⟩) rfl 0 yc_0 rfl (Nat.le_of_ble_eq_true rfl) ⟨Nat.zero_le _, Nat.zero_le _⟩ dX13_bestTeeth_2 (fun r65 _ hw66 => ?_)
  rcases hw66 with ⟨rfl, q68⟩ | ⟨rfl, q69⟩
  · have q68 : (0 ≤ s0 ∧ s0 < (G 3 1).toInt) := q68
    refine v_if_eq F 64 dX13_bestTeeth_5 (by decide) 1 rfl (fun c70 => absurd c70 (by decide)) (fun c70 => ?_)
    refine g_iload_n F 2 dX13_bestTeeth_8 rfl rfl ?_
    refine g_i2l F dX13_bestTeeth_9 ?_
    refine g_lconst F 1 dX13_bestTeeth_10 (by decide) ?_
    refine g_ldc2 F w_3 dX13_bestTeeth_11 ?_
    refine u_call0 (k := 0) (n := 0) (As := [.long (Int32.toInt64 p1), .long 1, .long 9]) (st := []) F (fun sz => S_X13_in l D (Int32.toInt64 p1) s1 1 1 9 9 (ti_i2l e1) rfl rfl sz) (va_cwS 3 hts gX13_bestTeeth_X13_in rfl rfl rfl (by decide +kernel) ⟨Nat.le_of_ble_eq_true rfl, Nat.le_of_ble_eq_true rfl⟩) rfl (Nat.le_of_ble_eq_true rfl) ⟨Nat.zero_le _, Nat.zero_le _⟩ dX13_bestTeeth_14 (fun r71 _ hw72 => ?_)
    rcases hw72 with ⟨rfl, q74⟩ | ⟨rfl, q75⟩
    · refine v_if_eq F 64 dX13_bestTeeth_17 (by decide) 1 rfl (fun c76 => absurd c76 (by decide)) (fun c76 => ?_)
      refine g_iload_n F 3 dX13_bestTeeth_20 rfl rfl ?_
      refine g_i2l F dX13_bestTeeth_21 ?_
      refine g_lconst F 1 dX13_bestTeeth_22 (by decide) ?_
      refine g_ldc2 F w_4 dX13_bestTeeth_23 ?_
      refine u_call0 (k := 0) (n := 0) (As := [.long (Int32.toInt64 p2), .long 1, .long 4]) (st := []) F (fun sz => S_X13_in l D (Int32.toInt64 p2) s2 1 1 4 4 (ti_i2l e2) rfl rfl sz) (va_cwS 3 hts gX13_bestTeeth_X13_in rfl rfl rfl (by decide +kernel) ⟨Nat.le_of_ble_eq_true rfl, Nat.le_of_ble_eq_true rfl⟩) rfl (Nat.le_of_ble_eq_true rfl) ⟨Nat.zero_le _, Nat.zero_le _⟩ dX13_bestTeeth_26 (fun r77 _ hw78 => ?_)
      rcases hw78 with ⟨rfl, q80⟩ | ⟨rfl, q81⟩
      · refine v_if_eq F 64 dX13_bestTeeth_29 (by decide) 1 rfl (fun c82 => absurd c82 (by decide)) (fun c82 => ?_)
        refine g_iload F 4 dX13_bestTeeth_32 rfl ?_
        refine g_i2l F dX13_bestTeeth_34 ?_
        refine g_lconst F 1 dX13_bestTeeth_35 (by decide) ?_
        refine g_ldc2 F w_5 dX13_bestTeeth_36 ?_
        refine u_call0 (k := 0) (n := 0) (As := [.long (Int32.toInt64 p3), .long 1, .long 65535]) (st := []) F (fun sz => S_X13_in l D (Int32.toInt64 p3) s3 1 1 65535 65535 (ti_i2l e3) rfl rfl sz) (va_cwS 3 hts gX13_bestTeeth_X13_in rfl rfl rfl (by decide +kernel) ⟨Nat.le_of_ble_eq_true rfl, Nat.le_of_ble_eq_true rfl⟩) rfl (Nat.le_of_ble_eq_true rfl) ⟨Nat.zero_le _, Nat.zero_le _⟩ dX13_bestTeeth_39 (fun r83 _ hw84 => ?_)
        rcases hw84 with ⟨rfl, q86⟩ | ⟨rfl, q87⟩
        · refine v_if_eq F 64 dX13_bestTeeth_42 (by decide) 1 rfl (fun c88 => absurd c88 (by decide)) (fun c88 => ?_)
          refine g_iload F 4 dX13_bestTeeth_45 rfl ?_
          refine u_call0 (k := 0) (n := 0) (As := [.int p3]) (st := []) F (fun sz => S_X13_bits_b65535 l D p3 s3 e3 (by omega) sz) (va_cwS 1 hts gX13_bestTeeth_X13_bits rfl rfl rfl (by decide +kernel) ⟨Nat.le_of_ble_eq_true rfl, Nat.le_of_ble_eq_true rfl⟩) rfl (Nat.le_of_ble_eq_true rfl) ⟨Nat.zero_le _, Nat.zero_le _⟩ dX13_bestTeeth_47 (fun r89 _ hw90 => ?_)
          have q92 : (r89.toInt = (bt_CT 16 (s3).toNat : Int)) := hw90.2
          have rg93 := hw90.1
          have rg94 := hw90.2
          clear hw90
          refine g_iload_n F 3 dX13_bestTeeth_50 rfl rfl ?_
          refine v_icmp_lt F 64 dX13_bestTeeth_51 (by decide) r89.toInt s2 rfl e2 (fun c95 => ?_) (fun c95 => ?_)
          · refine g_bipush F (-2) dX13_bestTeeth_64 (by decide) ?_
            exact u_iret F hA hQ hr G (⟨hI, gu_un.rf, (by decide), (yNh.rf), (by show ((G 0 32).toInt = (G 0 32).toInt); (first | omega | (simp only [Int32.reduceToInt, true_and, and_true, ne_eq, not_true_eq_false, false_and, or_false, false_or, true_or, or_true, false_implies] <;> omega))), (⟨fun q hq => rfl, fun q hq => rfl⟩), (fun Q C hq => Or.inl ⟨by decide, by omega⟩)⟩) rfl rfl dX13_bestTeeth_66
          · refine g_iload F 4 dX13_bestTeeth_54 rfl ?_
            refine u_call0 (k := 0) (n := 0) (As := [.int p3]) (st := []) F (fun sz => S_X13_bits_b65535 l D p3 s3 e3 (by omega) sz) (va_cwS 1 hts gX13_bestTeeth_X13_bits rfl rfl rfl (by decide +kernel) ⟨Nat.le_of_ble_eq_true rfl, Nat.le_of_ble_eq_true rfl⟩) rfl (Nat.le_of_ble_eq_true rfl) ⟨Nat.zero_le _, Nat.zero_le _⟩ dX13_bestTeeth_56 (fun r96 _ hw97 => ?_)
            have q99 : (r96.toInt = (bt_CT 16 (s3).toNat : Int)) := hw97.2
            have rg100 := hw97.1
            have rg101 := hw97.2
            clear hw97
            refine g_bipush F 6 dX13_bestTeeth_59 (by decide) ?_
            refine v_icmp_le F 67 dX13_bestTeeth_61 (by decide) r96.toInt 6 rfl rfl (fun c102 => ?_) (fun c102 => ?_)
            · refine g_aload_n F 0 dX13_bestTeeth_67 rfl rfl ?_
              refine yg_0_10 F i_X13 w_2 dX13_bestTeeth_68 ?_
              refine g_bipush F 10 dX13_bestTeeth_71 (by decide) ?_
              refine u1_iald F 3 0 yc_3 rfl 10 rfl (by decide) (by decide) dX13_bestTeeth_73 (G 3 10) (rfl) ?_
              refine g_istore F [(5, .int (G 3 10)), (0, .ref (a 0)), (1, .int p0), (2, .int p1), (3, .int p2), (4, .int p3)] dX13_bestTeeth_74 (by decide) rfl ?_
              refine g_iconst F 0 dX13_bestTeeth_76 (by decide) ?_
              refine g_istore F [(6, .int 0), (5, .int (G 3 10)), (0, .ref (a 0)), (1, .int p0), (2, .int p1), (3, .int p2), (4, .int p3)] dX13_bestTeeth_77 (by decide) rfl ?_
              refine g_locals [(0, .ref (a 0)), (1, .int p0), (2, .int p1), (3, .int p2), (4, .int p3), (5, .int (G 3 10)), (6, .int 0)] [2, 3, 4, 5, 6, 1, 0] rfl ?_
              exact J_79 _ 0 G (Nat.lt_succ_self _) (by have h9 := ti_rng p0; omega) (by have h9 := ti_rng p1; omega) (by have h9 := ti_rng p2; omega) (by have h9 := ti_rng p3; omega) (by decide) hI gu_un.rf (fun q hq => by have h9 : (q : Int) < 0 := hq; omega) (by (first | omega | (simp only [Int32.reduceToInt, true_and, and_true, ne_eq, not_true_eq_false, false_and, or_false, false_or, true_or, or_true, false_implies] <;> omega))) (by (first | omega | (simp only [Int32.reduceToInt, true_and, and_true, ne_eq, not_true_eq_false, false_and, or_false, false_or, true_or, or_true, false_implies] <;> omega)))
            · refine g_bipush F (-2) dX13_bestTeeth_64 (by decide) ?_
              exact u_iret F hA hQ hr G (⟨hI, gu_un.rf, (by decide), (yNh.rf), (by show ((G 0 32).toInt = (G 0 32).toInt); (first | omega | (simp only [Int32.reduceToInt, true_and, and_true, ne_eq, not_true_eq_false, false_and, or_false, false_or, true_or, or_true, false_implies] <;> omega))), (⟨fun q hq => rfl, fun q hq => rfl⟩), (fun Q C hq => Or.inl ⟨by decide, by omega⟩)⟩) rfl rfl dX13_bestTeeth_66
        · refine v_if_eq F 64 dX13_bestTeeth_42 (by decide) 0 rfl (fun c103 => ?_) (fun c103 => absurd c103 (by decide))
          refine g_bipush F (-2) dX13_bestTeeth_64 (by decide) ?_
          exact u_iret F hA hQ hr G (⟨hI, gu_un.rf, (by decide), (yNh.rf), (by show ((G 0 32).toInt = (G 0 32).toInt); (first | omega | (simp only [Int32.reduceToInt, true_and, and_true, ne_eq, not_true_eq_false, false_and, or_false, false_or, true_or, or_true, false_implies] <;> omega))), (⟨fun q hq => rfl, fun q hq => rfl⟩), (fun Q C hq => Or.inl ⟨by decide, by omega⟩)⟩) rfl rfl dX13_bestTeeth_66
      · refine v_if_eq F 64 dX13_bestTeeth_29 (by decide) 0 rfl (fun c104 => ?_) (fun c104 => absurd c104 (by decide))
        refine g_bipush F (-2) dX13_bestTeeth_64 (by decide) ?_
        exact u_iret F hA hQ hr G (⟨hI, gu_un.rf, (by decide), (yNh.rf), (by show ((G 0 32).toInt = (G 0 32).toInt); (first | omega | (simp only [Int32.reduceToInt, true_and, and_true, ne_eq, not_true_eq_false, false_and, or_false, false_or, true_or, or_true, false_implies] <;> omega))), (⟨fun q hq => rfl, fun q hq => rfl⟩), (fun Q C hq => Or.inl ⟨by decide, by omega⟩)⟩) rfl rfl dX13_bestTeeth_66
    · refine v_if_eq F 64 dX13_bestTeeth_17 (by decide) 0 rfl (fun c105 => ?_) (fun c105 => absurd c105 (by decide))
      refine g_bipush F (-2) dX13_bestTeeth_64 (by decide) ?_
      exact u_iret F hA hQ hr G (⟨hI, gu_un.rf, (by decide), (yNh.rf), (by show ((G 0 32).toInt = (G 0 32).toInt); (first | omega | (simp only [Int32.reduceToInt, true_and, and_true, ne_eq, not_true_eq_false, false_and, or_false, false_or, true_or, or_true, false_implies] <;> omega))), (⟨fun q hq => rfl, fun q hq => rfl⟩), (fun Q C hq => Or.inl ⟨by decide, by omega⟩)⟩) rfl rfl dX13_bestTeeth_66
  · have q69 : (s0 < 0 ∨ (G 3 1).toInt ≤ s0) := q69
    refine v_if_eq F 64 dX13_bestTeeth_5 (by decide) 0 rfl (fun c106 => ?_) (fun c106 => absurd c106 (by decide))
    refine g_bipush F (-2) dX13_bestTeeth_64 (by decide) ?_
    exact u_iret F hA hQ hr G (⟨hI, gu_un.rf, (by decide), (yNh.rf), (by show ((G 0 32).toInt = (G 0 32).toInt); (first | omega | (simp only [Int32.reduceToInt, true_and, and_true, ne_eq, not_true_eq_false, false_and, or_false, false_or, true_or, or_true, false_implies] <;> omega))), (⟨fun q hq => rfl, fun q hq => rfl⟩), (fun Q C hq => Or.inl ⟨by decide, by omega⟩)⟩) rfl rfl dX13_bestTeeth_66
