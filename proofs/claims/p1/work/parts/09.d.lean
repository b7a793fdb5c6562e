theorem dX5_bite_0 : decode cX5_bite 0 = .ok (.aload_n 0, 1) := by decide +kernel
theorem dX5_bite_1 : decode cX5_bite 1 = .ok (.getfield 29, 3) := by decide +kernel
theorem dX5_bite_4 : decode cX5_bite 4 = .ok (.getfield 56, 3) := by decide +kernel
theorem dX5_bite_7 : decode cX5_bite 7 = .ok (.iconst 0, 1) := by decide +kernel
theorem dX5_bite_8 : decode cX5_bite 8 = .ok (.iaload, 1) := by decide +kernel
theorem dX5_bite_9 : decode cX5_bite 9 = .ok (.istore 4, 2) := by decide +kernel
theorem dX5_bite_11 : decode cX5_bite 11 = .ok (.iconst 0, 1) := by decide +kernel
theorem dX5_bite_12 : decode cX5_bite 12 = .ok (.istore 5, 2) := by decide +kernel
theorem dX5_bite_14 : decode cX5_bite 14 = .ok (.iconst 0, 1) := by decide +kernel
theorem dX5_bite_15 : decode cX5_bite 15 = .ok (.istore 6, 2) := by decide +kernel
theorem dX5_bite_17 : decode cX5_bite 17 = .ok (.iload 6, 2) := by decide +kernel
theorem dX5_bite_19 : decode cX5_bite 19 = .ok (.aload_n 0, 1) := by decide +kernel
theorem dX5_bite_20 : decode cX5_bite 20 = .ok (.getfield 53, 3) := by decide +kernel
theorem dX5_bite_23 : decode cX5_bite 23 = .ok (.if_icmp .ge 186, 3) := by decide +kernel
theorem dX5_bite_26 : decode cX5_bite 26 = .ok (.iload 6, 2) := by decide +kernel
theorem dX5_bite_28 : decode cX5_bite 28 = .ok (.iconst 4, 1) := by decide +kernel
theorem dX5_bite_29 : decode cX5_bite 29 = .ok (.if_icmp .ge 180, 3) := by decide +kernel
theorem dX5_bite_32 : decode cX5_bite 32 = .ok (.iload_n 1, 1) := by decide +kernel
theorem dX5_bite_33 : decode cX5_bite 33 = .ok (.aload_n 0, 1) := by decide +kernel
theorem dX5_bite_34 : decode cX5_bite 34 = .ok (.getfield 11, 3) := by decide +kernel
theorem dX5_bite_37 : decode cX5_bite 37 = .ok (.iload 6, 2) := by decide +kernel
theorem dX5_bite_39 : decode cX5_bite 39 = .ok (.iaload, 1) := by decide +kernel
theorem dX5_bite_40 : decode cX5_bite 40 = .ok (.iadd, 1) := by decide +kernel
theorem dX5_bite_41 : decode cX5_bite 41 = .ok (.iconst 1, 1) := by decide +kernel
theorem dX5_bite_42 : decode cX5_bite 42 = .ok (.iload 4, 2) := by decide +kernel
theorem dX5_bite_44 : decode cX5_bite 44 = .ok (.invokestatic 146, 3) := by decide +kernel
theorem dX5_bite_47 : decode cX5_bite 47 = .ok (.invokestatic 151, 3) := by decide +kernel
theorem dX5_bite_50 : decode cX5_bite 50 = .ok (.istore 7, 2) := by decide +kernel
theorem dX5_bite_52 : decode cX5_bite 52 = .ok (.iload 7, 2) := by decide +kernel
theorem dX5_bite_54 : decode cX5_bite 54 = .ok (.bipush 16, 2) := by decide +kernel
theorem dX5_bite_56 : decode cX5_bite 56 = .ok (.if_icmp .ge 20, 3) := by decide +kernel
theorem dX5_bite_59 : decode cX5_bite 59 = .ok (.aload_n 0, 1) := by decide +kernel
theorem dX5_bite_60 : decode cX5_bite 60 = .ok (.getfield 17, 3) := by decide +kernel
theorem dX5_bite_63 : decode cX5_bite 63 = .ok (.iload 7, 2) := by decide +kernel
theorem dX5_bite_65 : decode cX5_bite 65 = .ok (.iaload, 1) := by decide +kernel
theorem dX5_bite_66 : decode cX5_bite 66 = .ok (.iload_n 3, 1) := by decide +kernel
theorem dX5_bite_67 : decode cX5_bite 67 = .ok (.isub, 1) := by decide +kernel
theorem dX5_bite_68 : decode cX5_bite 68 = .ok (.aload_n 0, 1) := by decide +kernel
theorem dX5_bite_69 : decode cX5_bite 69 = .ok (.getfield 131, 3) := by decide +kernel
theorem dX5_bite_72 : decode cX5_bite 72 = .ok (.isub, 1) := by decide +kernel
theorem dX5_bite_73 : decode cX5_bite 73 = .ok (.goto 4, 3) := by decide +kernel
theorem dX5_bite_76 : decode cX5_bite 76 = .ok (.iconst 0, 1) := by decide +kernel
theorem dX5_bite_77 : decode cX5_bite 77 = .ok (.istore 8, 2) := by decide +kernel
theorem dX5_bite_79 : decode cX5_bite 79 = .ok (.iload 8, 2) := by decide +kernel
theorem dX5_bite_81 : decode cX5_bite 81 = .ok (.ifCond .gt 16, 3) := by decide +kernel
theorem dX5_bite_84 : decode cX5_bite 84 = .ok (.aload_n 0, 1) := by decide +kernel
theorem dX5_bite_85 : decode cX5_bite 85 = .ok (.dup, 1) := by decide +kernel
theorem dX5_bite_86 : decode cX5_bite 86 = .ok (.getfield 140, 3) := by decide +kernel
theorem dX5_bite_89 : decode cX5_bite 89 = .ok (.iconst 1, 1) := by decide +kernel
theorem dX5_bite_90 : decode cX5_bite 90 = .ok (.iadd, 1) := by decide +kernel
theorem dX5_bite_91 : decode cX5_bite 91 = .ok (.putfield 140, 3) := by decide +kernel
theorem dX5_bite_94 : decode cX5_bite 94 = .ok (.goto 109, 3) := by decide +kernel
theorem dX5_bite_97 : decode cX5_bite 97 = .ok (.iload 5, 2) := by decide +kernel
theorem dX5_bite_99 : decode cX5_bite 99 = .ok (.aload_n 0, 1) := by decide +kernel
theorem dX5_bite_100 : decode cX5_bite 100 = .ok (.getfield 29, 3) := by decide +kernel
theorem dX5_bite_103 : decode cX5_bite 103 = .ok (.getfield 154, 3) := by decide +kernel
theorem dX5_bite_106 : decode cX5_bite 106 = .ok (.iload 8, 2) := by decide +kernel
theorem dX5_bite_108 : decode cX5_bite 108 = .ok (.aload_n 0, 1) := by decide +kernel
theorem dX5_bite_109 : decode cX5_bite 109 = .ok (.getfield 128, 3) := by decide +kernel
theorem dX5_bite_112 : decode cX5_bite 112 = .ok (.invokevirtual 94, 3) := by decide +kernel
theorem dX5_bite_115 : decode cX5_bite 115 = .ok (.sipush (-9999), 3) := by decide +kernel
theorem dX5_bite_118 : decode cX5_bite 118 = .ok (.sipush 9999, 3) := by decide +kernel
theorem dX5_bite_121 : decode cX5_bite 121 = .ok (.invokestatic 99, 3) := by decide +kernel
theorem dX5_bite_124 : decode cX5_bite 124 = .ok (.iadd, 1) := by decide +kernel
theorem dX5_bite_125 : decode cX5_bite 125 = .ok (.istore 5, 2) := by decide +kernel
theorem dX5_bite_127 : decode cX5_bite 127 = .ok (.aload_n 0, 1) := by decide +kernel
theorem dX5_bite_128 : decode cX5_bite 128 = .ok (.sipush 30000, 3) := by decide +kernel
theorem dX5_bite_131 : decode cX5_bite 131 = .ok (.aload_n 0, 1) := by decide +kernel
theorem dX5_bite_132 : decode cX5_bite 132 = .ok (.getfield 128, 3) := by decide +kernel
theorem dX5_bite_135 : decode cX5_bite 135 = .ok (.aload_n 0, 1) := by decide +kernel
theorem dX5_bite_136 : decode cX5_bite 136 = .ok (.getfield 29, 3) := by decide +kernel
theorem dX5_bite_139 : decode cX5_bite 139 = .ok (.getfield 157, 3) := by decide +kernel
theorem dX5_bite_142 : decode cX5_bite 142 = .ok (.iload 8, 2) := by decide +kernel
theorem dX5_bite_144 : decode cX5_bite 144 = .ok (.iconst 0, 1) := by decide +kernel
theorem dX5_bite_145 : decode cX5_bite 145 = .ok (.invokevirtual 94, 3) := by decide +kernel
theorem dX5_bite_148 : decode cX5_bite 148 = .ok (.iconst 0, 1) := by decide +kernel
theorem dX5_bite_149 : decode cX5_bite 149 = .ok (.sipush 30000, 3) := by decide +kernel
theorem dX5_bite_152 : decode cX5_bite 152 = .ok (.invokestatic 99, 3) := by decide +kernel
theorem dX5_bite_155 : decode cX5_bite 155 = .ok (.iadd, 1) := by decide +kernel
theorem dX5_bite_156 : decode cX5_bite 156 = .ok (.invokestatic 159, 3) := by decide +kernel
theorem dX5_bite_159 : decode cX5_bite 159 = .ok (.putfield 128, 3) := by decide +kernel
theorem dX5_bite_162 : decode cX5_bite 162 = .ok (.aload_n 0, 1) := by decide +kernel
theorem dX5_bite_163 : decode cX5_bite 163 = .ok (.getfield 17, 3) := by decide +kernel
theorem dX5_bite_166 : decode cX5_bite 166 = .ok (.iload 7, 2) := by decide +kernel
theorem dX5_bite_168 : decode cX5_bite 168 = .ok (.iload_n 3, 1) := by decide +kernel
theorem dX5_bite_169 : decode cX5_bite 169 = .ok (.aload_n 0, 1) := by decide +kernel
theorem dX5_bite_170 : decode cX5_bite 170 = .ok (.getfield 131, 3) := by decide +kernel
theorem dX5_bite_173 : decode cX5_bite 173 = .ok (.iadd, 1) := by decide +kernel
theorem dX5_bite_174 : decode cX5_bite 174 = .ok (.iastore, 1) := by decide +kernel
theorem dX5_bite_175 : decode cX5_bite 175 = .ok (.aload_n 0, 1) := by decide +kernel
theorem dX5_bite_176 : decode cX5_bite 176 = .ok (.getfield 20, 3) := by decide +kernel
theorem dX5_bite_179 : decode cX5_bite 179 = .ok (.iload 7, 2) := by decide +kernel
theorem dX5_bite_181 : decode cX5_bite 181 = .ok (.iload_n 2, 1) := by decide +kernel
theorem dX5_bite_182 : decode cX5_bite 182 = .ok (.iastore, 1) := by decide +kernel
theorem dX5_bite_183 : decode cX5_bite 183 = .ok (.aload_n 0, 1) := by decide +kernel
theorem dX5_bite_184 : decode cX5_bite 184 = .ok (.getfield 23, 3) := by decide +kernel
theorem dX5_bite_187 : decode cX5_bite 187 = .ok (.iload 7, 2) := by decide +kernel
theorem dX5_bite_189 : decode cX5_bite 189 = .ok (.iload 6, 2) := by decide +kernel
theorem dX5_bite_191 : decode cX5_bite 191 = .ok (.iastore, 1) := by decide +kernel
theorem dX5_bite_192 : decode cX5_bite 192 = .ok (.aload_n 0, 1) := by decide +kernel
theorem dX5_bite_193 : decode cX5_bite 193 = .ok (.getfield 26, 3) := by decide +kernel
theorem dX5_bite_196 : decode cX5_bite 196 = .ok (.iload 7, 2) := by decide +kernel
theorem dX5_bite_198 : decode cX5_bite 198 = .ok (.aload_n 0, 1) := by decide +kernel
theorem dX5_bite_199 : decode cX5_bite 199 = .ok (.getfield 131, 3) := by decide +kernel
theorem dX5_bite_202 : decode cX5_bite 202 = .ok (.iastore, 1) := by decide +kernel
theorem dX5_bite_203 : decode cX5_bite 203 = .ok (.iinc 6 1, 3) := by decide +kernel
theorem dX5_bite_206 : decode cX5_bite 206 = .ok (.goto (-189), 3) := by decide +kernel
theorem dX5_bite_209 : decode cX5_bite 209 = .ok (.iload 5, 2) := by decide +kernel
theorem dX5_bite_211 : decode cX5_bite 211 = .ok (.ireturn, 1) := by decide +kernel
set_option maxRecDepth 20000 in
theorem ggX5_bite_J9_floorMod_7cf53 : GoodIn wsX5_bite wsJ9_floorMod_7cf53 := goodIn_r _ [24] rfl (by decide +kernel)
set_option maxRecDepth 20000 in
theorem gX5_bite_J9_floorMod_7cf53 : GoodIn wsX5_bite (va_wsS RX5 151 yJ9_floorMod_7cf53 wsJ9_floorMod_7cf53) := goodIn_app (goodIn_of _ (by decide +kernel)) ggX5_bite_J9_floorMod_7cf53
set_option maxRecDepth 20000 in
theorem ggX5_bite_X3_value : GoodIn wsX5_bite wsX3_value := goodIn_r _ [29, 30, 31, 32, 33, 34, 28, 35, 64, 65, 66, 67, 68, 69, 70, 71, 72] rfl (by decide +kernel)
set_option maxRecDepth 20000 in
theorem gX5_bite_X3_value : GoodIn wsX5_bite (wsV RX5 94 RX3 yX3_value wsX3_value) := goodIn_app (goodIn_of _ (by decide +kernel)) ggX5_bite_X3_value
set_option maxRecDepth 20000 in
theorem ggX5_bite_X5_within : GoodIn wsX5_bite wsX5_within := goodIn_r _ [39, 15, 16, 7, 17, 5, 6, 8] rfl (by decide +kernel)
set_option maxRecDepth 20000 in
theorem gX5_bite_X5_within : GoodIn wsX5_bite (va_wsS RX5 99 yX5_within wsX5_within) := goodIn_app (goodIn_of _ (by decide +kernel)) ggX5_bite_X5_within
set_option maxHeartbeats 4000000 in
set_option maxRecDepth 100000 in
theorem K_X5_bite (l : Launch) (D : va_G) (xl : Nat) (xs : Nat) (la_t : Nat) (la_h : Nat) (la_u : Nat) (la_o : Nat) (la_x : Nat) (n : Nat) (fo : Nat) (wa : Nat) (we : Nat) (cf : Nat) (sf : Nat) (wf : Nat) (ch : Nat) (sh : Nat) (wh : Nat) (cI : ClassId) (l_ring : Int32) (l_speed : Int32) (l_feed : Int32) (l_turns : Int32) (l_teethSet : Int32) (l_teethMany : Int32) (l_x : Int32) (l_v : Int32) (l_wave : Int32) (l_time : Int32) (l_out : Int32) (l_farthest : Int32) (l_begun : Int32) (T_ : Nat → Int32) (fh : Nat → Int32) (fu : Nat → Int32) (fq : Nat → Int32) (fx : Nat → Int32) (s1 : Nat → Int32) (s3 : Nat → Int32) (si : Int32) (tv : Int32) (fl : Int32) (ii : Nat) (tm : Nat) (tf : Nat → Nat) (hsi : si = nI ii) (hii : ii < 8) (hM : l_teethMany = nI tm) (htm : tm ≤ 4) (hT : ∀ k, k < tm → T_ k = nI (tf k) ∧ tf k < 16) (sz : Nat) : Ki l yX5_bite wsX5_bite 2 65 0 0 D [.ref xl, .int si, .int tv, .int fl] [(xl, .inr (4, [.ref xs, .int l_ring, .int l_speed, .int l_feed, .int l_turns, .ref la_t, .int l_teethSet, .int l_teethMany, .ref la_h, .ref la_u, .ref la_o, .ref la_x, .int 0, .int l_x, .int l_v, .int l_wave, .int l_time, .int l_out, .int l_farthest, .int l_begun])), (la_t, .inl (cI, 4, .inl T_)), (la_h, .inl (cI, 16, .inl fh)), (la_u, .inl (cI, 16, .inl fu)), (la_o, .inl (cI, 16, .inl fq)), (la_x, .inl (cI, 16, .inl fx)), (xs, .inr (6, [.ref n, .ref fo, .ref wa, .ref we])), (n, .inl (cI, 36, .inl g_nums)), (fo, .inr (2, [.ref cf, .int 1, .ref sf, .ref wf, .int 0, .int 0, .int 0, .int 0, .int 0])), (cf, .inl (cI, 80, .inl (upd (fun _ => 0) 0 (-1)))), (sf, .inl (cI, 12, .inl s1)), (we, .inr (2, [.ref ch, .int 1, .ref sh, .ref wh, .int 0, .int 0, .int 0, .int 0, .int 0])), (ch, .inl (cI, 80, .inl (upd (fun _ => 0) 0 0))), (sh, .inl (cI, 12, .inl s3))] [(cI, .int)] sz (fun (r : Int32) (u : Int32 × (Nat → Int32) × (Nat → Int32) × (Nat → Int32) × (Nat → Int32) × (Nat → Int32)) => r = ((sp_bite fl l_x ii tf fh tm).2)) (fun (u : Int32 × (Nat → Int32) × (Nat → Int32) × (Nat → Int32) × (Nat → Int32) × (Nat → Int32)) => [(xl, .inr (4, [.ref xs, .int l_ring, .int l_speed, .int l_feed, .int l_turns, .ref la_t, .int l_teethSet, .int l_teethMany, .ref la_h, .ref la_u, .ref la_o, .ref la_x, .int 0, .int l_x, .int l_v, .int l_wave, .int l_time, .int u.1, .int l_farthest, .int l_begun])), (la_t, .inl (cI, 4, .inl T_)), (la_h, .inl (cI, 16, .inl ((sp_bite fl l_x ii tf fh tm).1))), (la_u, .inl (cI, 16, .inl u.2.1)), (la_o, .inl (cI, 16, .inl u.2.2.1)), (la_x, .inl (cI, 16, .inl u.2.2.2.1)), (xs, .inr (6, [.ref n, .ref fo, .ref wa, .ref we])), (n, .inl (cI, 36, .inl g_nums)), (fo, .inr (2, [.ref cf, .int 1, .ref sf, .ref wf, .int 0, .int 0, .int 0, .int 0, .int 0])), (cf, .inl (cI, 80, .inl (upd (fun _ => 0) 0 (-1)))), (sf, .inl (cI, 12, .inl u.2.2.2.2.1)), (we, .inr (2, [.ref ch, .int 1, .ref sh, .ref wh, .int 0, .int 0, .int 0, .int 0, .int 0])), (ch, .inl (cI, 80, .inl (upd (fun _ => 0) 0 0))), (sh, .inl (cI, 12, .inl u.2.2.2.2.2))]) (fun (_ : Int32 × (Nat → Int32) × (Nat → Int32) × (Nat → Int32) × (Nat → Int32) × (Nat → Int32)) => [(cI, .int)]) := by
  unfold Ki
  refine g_ofW (cc := cX5_bite) (lv := [(0, .ref xl), (1, .int si), (2, .int tv), (3, .int fl)]) (by decide) rfl (Nat.le_of_ble_eq_true rfl) rfl ?_
  intro p e s m args below meth c A Q hA hQ F hr hnm
  have hts := F.2.2.2.2.1
  have w_0 : (Cond.fieldLink RX5 29 "QuietCut$Lathe" "shop" "LQuietCut$Shop;").before args s = true := hts _ (List.mem_of_getElem? (i := 1) rfl)
  have i_X5 : ∀ w ∈ u_ws RX5 TX5 20, w ∈ wsX5_bite := fun _ h => List.mem_cons_of_mem _ (List.mem_append_left _ (List.mem_append_left _ (List.mem_append_right _ h)))
  have w_1 : (Cond.fieldLink RX5 56 "QuietCut$Shop" "numbers" "[I").before args s = true := hts _ (List.mem_of_getElem? (i := 2) rfl)
  have i_X7 : ∀ w ∈ u_ws RX7 TX7 4, w ∈ wsX5_bite := fun _ h => List.mem_cons_of_mem _ (List.mem_append_left _ (List.mem_append_right _ h))
  have w_2 : (Cond.fieldLink RX5 53 "QuietCut$Lathe" "teethMany" "I").before args s = true := hts _ (List.mem_of_getElem? (i := 3) rfl)
  have w_3 : (Cond.fieldLink RX5 11 "QuietCut$Lathe" "teeth" "[I").before args s = true := hts _ (List.mem_of_getElem? (i := 4) rfl)
  have w_4 : (Cond.methodLink RX5 146 Lib.Math.max.name).before args s = true := hts _ (List.mem_of_getElem? (i := 5) rfl)
  have w_5 : (Cond.static Lib.Math.max.name).before args s = true := hts _ (List.mem_of_getElem? (i := 6) rfl)
  have w_6 : (Cond.initialized "java/lang/Math").before args s = true := hts _ (List.mem_of_getElem? (i := 7) rfl)
  have w_7 : (Cond.code Lib.Math.max.name Lib.Math.max.code 2 (some .int)).before args s = true := hts _ (List.mem_of_getElem? (i := 8) rfl)
  have w_8 : (Cond.fieldLink RX5 17 "QuietCut$Lathe" "heights" "[I").before args s = true := hts _ (List.mem_of_getElem? (i := 9) rfl)
  have w_9 : (Cond.fieldLink RX5 131 "QuietCut$Lathe" "x" "I").before args s = true := hts _ (List.mem_of_getElem? (i := 10) rfl)
  have w_10 : (Cond.fieldLink RX5 154 "QuietCut$Shop" "force" "LQuietCut$Formula;").before args s = true := hts _ (List.mem_of_getElem? (i := 12) rfl)
  have w_11 : (Cond.fieldLink RX5 128 "QuietCut$Lathe" "wear" "I").before args s = true := hts _ (List.mem_of_getElem? (i := 13) rfl)
  have w_12 : (Cond.fieldLink RX5 157 "QuietCut$Shop" "wear" "LQuietCut$Formula;").before args s = true := hts _ (List.mem_of_getElem? (i := 14) rfl)
  have w_13 : (Cond.methodLink RX5 159 Lib.Math.min.name).before args s = true := hts _ (List.mem_of_getElem? (i := 15) rfl)
  have w_14 : (Cond.static Lib.Math.min.name).before args s = true := hts _ (List.mem_of_getElem? (i := 16) rfl)
  have w_15 : (Cond.code Lib.Math.min.name Lib.Math.min.code 2 (some .int)).before args s = true := hts _ (List.mem_of_getElem? (i := 17) rfl)
  have w_16 : (Cond.fieldLink RX5 20 "QuietCut$Lathe" "leftTurn" "[I").before args s = true := hts _ (List.mem_of_getElem? (i := 18) rfl)
  have w_17 : (Cond.fieldLink RX5 23 "QuietCut$Lathe" "leftTooth" "[I").before args s = true := hts _ (List.mem_of_getElem? (i := 19) rfl)
  have w_18 : (Cond.fieldLink RX5 26 "QuietCut$Lathe" "leftX" "[I").before args s = true := hts _ (List.mem_of_getElem? (i := 20) rfl)
  have w_19 : (Cond.fieldLink RX5 140 "QuietCut$Lathe" "out" "I").before args s = true := hts _ (List.mem_of_getElem? (i := 11) rfl)
  refine g_aload_n F 0 dX5_bite_0 rfl rfl ?_
  refine g_get (C := RX5) (T := TX5) (N := 20) (v := .ref xs) F i_X5 0 rfl rfl 0 (by decide) w_0 rfl rfl dX5_bite_1 ?_
  refine g_get (C := RX7) (T := TX7) (N := 4) (v := .ref n) F i_X7 6 rfl rfl 0 (by decide) w_1 rfl rfl dX5_bite_4 ?_
  refine g_iconst F 0 dX5_bite_7 (by decide) ?_
  refine g_iald F 7 0 rfl rfl (by unfold vp_in; decide) dX5_bite_8 ?_
  refine g_fold 8 (by rfl) ?_
  refine g_istore F [(4, .int 8), (0, .ref xl), (1, .int si), (2, .int tv), (3, .int fl)] dX5_bite_9 (by decide) rfl ?_
  refine g_iconst F 0 dX5_bite_11 (by decide) ?_
  refine g_istore F [(5, .int 0), (4, .int 8), (0, .ref xl), (1, .int si), (2, .int tv), (3, .int fl)] dX5_bite_12 (by decide) rfl ?_
  refine g_iconst F 0 dX5_bite_14 (by decide) ?_
  refine g_istore F [(6, .int 0), (5, .int 0), (4, .int 8), (0, .ref xl), (1, .int si), (2, .int tv), (3, .int fl)] dX5_bite_15 (by decide) rfl ?_
  refine g_locals [(0, .ref xl), (1, .int si), (2, .int tv), (3, .int fl), (4, .int 8), (5, .int 0), (6, .int 0)] [3, 4, 5, 6, 2, 1, 0] rfl ?_
  have loop_17 : ∀ (fuel : Nat) (k : Nat) (zo : Int32) (gu : Nat → Int32) (gq : Nat → Int32) (gx : Nat → Int32) (g1 : Nat → Int32) (g3 : Nat → Int32), tm - k < fuel → (k ≤ tm) → gG p l e (gR 2 0 0 65) s m args below meth c D A 9 Q 0 0 [(xl, .inr (4, [.ref xs, .int l_ring, .int l_speed, .int l_feed, .int l_turns, .ref la_t, .int l_teethSet, .int l_teethMany, .ref la_h, .ref la_u, .ref la_o, .ref la_x, .int 0, .int l_x, .int l_v, .int l_wave, .int l_time, .int zo, .int l_farthest, .int l_begun])), (la_t, .inl (cI, 4, .inl T_)), (la_h, .inl (cI, 16, .inl ((sp_bite fl l_x ii tf fh k).1))), (la_u, .inl (cI, 16, .inl gu)), (la_o, .inl (cI, 16, .inl gq)), (la_x, .inl (cI, 16, .inl gx)), (xs, .inr (6, [.ref n, .ref fo, .ref wa, .ref we])), (n, .inl (cI, 36, .inl g_nums)), (fo, .inr (2, [.ref cf, .int 1, .ref sf, .ref wf, .int 0, .int 0, .int 0, .int 0, .int 0])), (cf, .inl (cI, 80, .inl (upd (fun _ => 0) 0 (-1)))), (sf, .inl (cI, 12, .inl g1)), (we, .inr (2, [.ref ch, .int 1, .ref sh, .ref wh, .int 0, .int 0, .int 0, .int 0, .int 0])), (ch, .inl (cI, 80, .inl (upd (fun _ => 0) 0 0))), (sh, .inl (cI, 12, .inl g3))] [(cI, .int)] [(0, .ref xl), (1, .int si), (2, .int tv), (3, .int fl), (4, .int 8), (5, .int ((sp_bite fl l_x ii tf fh k).2)), (6, .int (nI k))] 17 [] := by
    intro fuel_17
    induction fuel_17 with
    | zero => intro k zo gu gq gx g1 g3 hm; exact absurd hm (Nat.not_lt_zero _)
    | succ fuel_17 ih_17 =>
      intro k zo gu gq gx g1 g3 hm17 hk0
      refine g_iload F 6 dX5_bite_17 rfl ?_
      refine g_aload_n F 0 dX5_bite_19 rfl rfl ?_
      refine g_get (C := RX5) (T := TX5) (N := 20) (v := .int l_teethMany) F i_X5 0 rfl rfl 7 (by decide) w_2 rfl rfl dX5_bite_20 ?_
      refine g_icmp_ge F 209 dX5_bite_23 (by decide) (fun c_23 => ?_) (fun c_23 => ?_)
      · have hk : tm = k := Nat.le_antisymm (Nat.le_of_not_lt (fun h => nI_ge h (by omega) (hM ▸ c_23))) hk0
        subst hk
        refine g_iload F 5 dX5_bite_209 rfl ?_
        exact g_iret F hA hQ hr (zo, gu, gq, gx, g1, g3) (rfl) [0, 1, 2, 3, 4, 5, 6, 7, 8, 9, 10, 11, 12, 13] [0] rfl (by decide) rfl rfl dX5_bite_211
      · have hk : k < tm := Nat.lt_of_not_le (fun h => c_23 (by rw [hM]; exact nI_le h (by omega)))
        refine g_iload F 6 dX5_bite_26 rfl ?_
        refine g_iconst F 4 dX5_bite_28 (by decide) ?_
        refine g_icmp_ge F 209 dX5_bite_29 (by decide) (fun h9 => absurd h9 (nI_ge (b := 4) (by omega) (by decide))) (fun c_29 => ?_)
        refine g_iload_n F 1 dX5_bite_32 rfl rfl ?_
        refine g_aload_n F 0 dX5_bite_33 rfl rfl ?_
        refine g_get (C := RX5) (T := TX5) (N := 20) (v := .ref la_t) F i_X5 0 rfl rfl 5 (by decide) w_3 rfl rfl dX5_bite_34 ?_
        refine g_iload F 6 dX5_bite_37 rfl ?_
        refine g_iald F 1 0 rfl rfl (vp_in_nI (by omega) (by decide)) dX5_bite_39 ?_
        refine g_fold (T_ k) (by rw [nI_clamp (by omega)]) ?_
        refine g_iadd F dX5_bite_40 ?_
        refine g_fold (nI (ii + tf k)) (by rw [hsi, (hT k hk).1]; exact nI_add _ _) ?_
        refine g_iconst F 1 dX5_bite_41 (by decide) ?_
        refine g_iload F 4 dX5_bite_42 rfl ?_
        refine g_mmax F w_4 w_5 w_6 w_7 (Nat.le_of_ble_eq_true rfl) (Nat.le_of_ble_eq_true rfl) (Nat.le_of_ble_eq_true rfl) (Nat.le_of_ble_eq_true rfl) dX5_bite_44 ?_
        refine g_fold 8 (by decide) ?_
        refine g_callSi (k := 0) (n := 0) (As := [.int (nI (ii + tf k)), .int 8]) (st := []) (wc := []) (wr := [(xl, .inr (4, [.ref xs, .int l_ring, .int l_speed, .int l_feed, .int l_turns, .ref la_t, .int l_teethSet, .int l_teethMany, .ref la_h, .ref la_u, .ref la_o, .ref la_x, .int 0, .int l_x, .int l_v, .int l_wave, .int l_time, .int zo, .int l_farthest, .int l_begun])), (la_t, .inl (cI, 4, .inl T_)), (la_h, .inl (cI, 16, .inl ((sp_bite fl l_x ii tf fh k).1))), (la_u, .inl (cI, 16, .inl gu)), (la_o, .inl (cI, 16, .inl gq)), (la_x, .inl (cI, 16, .inl gx)), (xs, .inr (6, [.ref n, .ref fo, .ref wa, .ref we])), (n, .inl (cI, 36, .inl g_nums)), (fo, .inr (2, [.ref cf, .int 1, .ref sf, .ref wf, .int 0, .int 0, .int 0, .int 0, .int 0])), (cf, .inl (cI, 80, .inl (upd (fun _ => 0) 0 (-1)))), (sf, .inl (cI, 12, .inl g1)), (we, .inr (2, [.ref ch, .int 1, .ref sh, .ref wh, .int 0, .int 0, .int 0, .int 0, .int 0])), (ch, .inl (cI, 80, .inl (upd (fun _ => 0) 0 0))), (sh, .inl (cI, 12, .inl g3))]) F [] [0, 1, 2, 3, 4, 5, 6, 7, 8, 9, 10, 11, 12, 13] [] rfl rfl (by decide) rfl (by decide) (by decide) rfl (fun sz => K_J9_floorMod_7cf53 l D (nI (ii + tf k)) (ii + tf k) (rfl) (by have := (hT k hk).2; omega) sz) (va_cwS 2 hts gX5_bite_J9_floorMod_7cf53 rfl rfl rfl (by decide +kernel) ⟨Nat.le_of_ble_eq_true rfl, Nat.le_of_ble_eq_true rfl⟩) rfl (Nat.le_of_ble_eq_true rfl) ⟨Nat.le_of_ble_eq_true rfl, Nat.le_of_ble_eq_true rfl⟩ dX5_bite_47 (fun r_1 _ hw_2 => ?_)
        have hw_2 : r_1 = (nI ((ii + tf k) % 8)) := hw_2
        have e_r_1 := hw_2
        show gG p l e (gR 2 0 0 65) s m args below meth c D A 9 Q 0 0 [(xl, .inr (4, [.ref xs, .int l_ring, .int l_speed, .int l_feed, .int l_turns, .ref la_t, .int l_teethSet, .int l_teethMany, .ref la_h, .ref la_u, .ref la_o, .ref la_x, .int 0, .int l_x, .int l_v, .int l_wave, .int l_time, .int zo, .int l_farthest, .int l_begun])), (la_t, .inl (cI, 4, .inl T_)), (la_h, .inl (cI, 16, .inl ((sp_bite fl l_x ii tf fh k).1))), (la_u, .inl (cI, 16, .inl gu)), (la_o, .inl (cI, 16, .inl gq)), (la_x, .inl (cI, 16, .inl gx)), (xs, .inr (6, [.ref n, .ref fo, .ref wa, .ref we])), (n, .inl (cI, 36, .inl g_nums)), (fo, .inr (2, [.ref cf, .int 1, .ref sf, .ref wf, .int 0, .int 0, .int 0, .int 0, .int 0])), (cf, .inl (cI, 80, .inl (upd (fun _ => 0) 0 (-1)))), (sf, .inl (cI, 12, .inl g1)), (we, .inr (2, [.ref ch, .int 1, .ref sh, .ref wh, .int 0, .int 0, .int 0, .int 0, .int 0])), (ch, .inl (cI, 80, .inl (upd (fun _ => 0) 0 0))), (sh, .inl (cI, 12, .inl g3))] [(cI, .int)] [(0, .ref xl), (1, .int si), (2, .int tv), (3, .int fl), (4, .int 8), (5, .int ((sp_bite fl l_x ii tf fh k).2)), (6, .int (nI k))] 50 [.int r_1]
        refine g_fold (nI ((ii + tf k) % 8)) e_r_1 ?_
        refine g_istore F [(7, .int (nI ((ii + tf k) % 8))), (0, .ref xl), (1, .int si), (2, .int tv), (3, .int fl), (4, .int 8), (5, .int ((sp_bite fl l_x ii tf fh k).2)), (6, .int (nI k))] dX5_bite_50 (by decide) rfl ?_
        refine g_iload F 0 dX5_bite_52 rfl ?_
        refine g_bipush F 16 dX5_bite_54 (by decide) ?_
        refine g_icmp_ge F 76 dX5_bite_56 (by decide) (fun h9 => absurd h9 (nI_ge (b := 16) (by omega) (by decide))) (fun c_56 => ?_)
        refine g_aload_n F 1 dX5_bite_59 rfl rfl ?_
        refine g_get (C := RX5) (T := TX5) (N := 20) (v := .ref la_h) F i_X5 0 rfl rfl 8 (by decide) w_8 rfl rfl dX5_bite_60 ?_
        refine g_iload F 0 dX5_bite_63 rfl ?_
        refine g_iald F 2 0 rfl rfl (vp_in_nI (by omega) (by decide)) dX5_bite_65 ?_
        refine g_fold (((sp_bite fl l_x ii tf fh k).1) ((ii + tf k) % 8)) (by rw [nI_clamp (by omega)]) ?_
        refine g_iload_n F 4 dX5_bite_66 rfl rfl ?_
        refine g_isub F dX5_bite_67 ?_
        refine g_aload_n F 1 dX5_bite_68 rfl rfl ?_
        refine g_get (C := RX5) (T := TX5) (N := 20) (v := .int l_x) F i_X5 0 rfl rfl 13 (by decide) w_9 rfl rfl dX5_bite_69 ?_
        refine g_isub F dX5_bite_72 ?_
        refine g_goto F 77 dX5_bite_73 (by decide) ?_
        refine g_istore F [(8, .int (((((sp_bite fl l_x ii tf fh k).1) ((ii + tf k) % 8)) - fl) - l_x)), (7, .int (nI ((ii + tf k) % 8))), (0, .ref xl), (1, .int si), (2, .int tv), (3, .int fl), (4, .int 8), (5, .int ((sp_bite fl l_x ii tf fh k).2)), (6, .int (nI k))] dX5_bite_77 (by decide) rfl ?_
        refine g_iload F 0 dX5_bite_79 rfl ?_
        refine g_if_gt F 97 dX5_bite_81 (by decide) (fun c_81 => ?_) (fun c_81 => ?_)
        · have hb1 : (sp_bite fl l_x ii tf fh (k + 1)) = (upd (sp_bite fl l_x ii tf fh k).1 ((ii + tf k) % 8) (fl + l_x), (sp_bite fl l_x ii tf fh k).2 + sp_cl ((sp_bite fl l_x ii tf fh k).1 ((ii + tf k) % 8) - fl - l_x)) := if_neg (Int32.not_le.mpr c_81)
          refine g_iload F 7 dX5_bite_97 rfl ?_
          refine g_aload_n F 2 dX5_bite_99 rfl rfl ?_
          refine g_get (C := RX5) (T := TX5) (N := 20) (v := .ref xs) F i_X5 0 rfl rfl 0 (by decide) w_0 rfl rfl dX5_bite_100 ?_
          refine g_get (C := RX7) (T := TX7) (N := 4) (v := .ref fo) F i_X7 6 rfl rfl 1 (by decide) w_10 rfl rfl dX5_bite_103 ?_
          refine g_iload F 0 dX5_bite_106 rfl ?_
          refine g_aload_n F 2 dX5_bite_108 rfl rfl ?_
          refine g_get (C := RX5) (T := TX5) (N := 20) (v := .int 0) F i_X5 0 rfl rfl 12 (by decide) w_11 rfl rfl dX5_bite_109 ?_
          refine g_callVi (k := 0) (n := 0) (b := fo) (As := [.int (((((sp_bite fl l_x ii tf fh k).1) ((ii + tf k) % 8)) - fl) - l_x), .int 0]) (st := [.int ((sp_bite fl l_x ii tf fh k).2)]) (wc := [(fo, .inr (2, [.ref cf, .int 1, .ref sf, .ref wf, .int 0, .int 0, .int 0, .int 0, .int 0])), (cf, .inl (cI, 80, .inl (upd (fun _ => 0) 0 (-1)))), (sf, .inl (cI, 12, .inl g1))]) (wr := [(xl, .inr (4, [.ref xs, .int l_ring, .int l_speed, .int l_feed, .int l_turns, .ref la_t, .int l_teethSet, .int l_teethMany, .ref la_h, .ref la_u, .ref la_o, .ref la_x, .int 0, .int l_x, .int l_v, .int l_wave, .int l_time, .int zo, .int l_farthest, .int l_begun])), (la_t, .inl (cI, 4, .inl T_)), (la_h, .inl (cI, 16, .inl ((sp_bite fl l_x ii tf fh k).1))), (la_u, .inl (cI, 16, .inl gu)), (la_o, .inl (cI, 16, .inl gq)), (la_x, .inl (cI, 16, .inl gx)), (xs, .inr (6, [.ref n, .ref fo, .ref wa, .ref we])), (n, .inl (cI, 36, .inl g_nums)), (we, .inr (2, [.ref ch, .int 1, .ref sh, .ref wh, .int 0, .int 0, .int 0, .int 0, .int 0])), (ch, .inl (cI, 80, .inl (upd (fun _ => 0) 0 0))), (sh, .inl (cI, 12, .inl g3))]) F [8, 9, 10] [0, 1, 2, 3, 4, 5, 6, 7, 11, 12, 13] [0] rfl rfl (by decide) rfl (by decide) (by decide) rfl (fun sz => K_X3_value_first l D fo cf sf wf cI g1 (((((sp_bite fl l_x ii tf fh k).1) ((ii + tf k) % 8)) - fl) - l_x) 0  sz) (cwV 2 hts gX5_bite_X3_value rfl rfl rfl (by decide +kernel) ⟨Nat.le_of_ble_eq_true rfl, Nat.le_of_ble_eq_true rfl⟩) rfl 0 rfl rfl (Nat.le_of_ble_eq_true rfl) ⟨Nat.le_of_ble_eq_true rfl, Nat.le_of_ble_eq_true rfl⟩ dX5_bite_112 (fun r_6 _ hw_7 => ?_)
          have hw_7 : r_6 = (((((sp_bite fl l_x ii tf fh k).1) ((ii + tf k) % 8)) - fl) - l_x) := hw_7
          have e_r_6 := hw_7
          show gG p l e (gR 2 0 0 65) s m args below meth c D A 9 Q 0 0 [(xl, .inr (4, [.ref xs, .int l_ring, .int l_speed, .int l_feed, .int l_turns, .ref la_t, .int l_teethSet, .int l_teethMany, .ref la_h, .ref la_u, .ref la_o, .ref la_x, .int 0, .int l_x, .int l_v, .int l_wave, .int l_time, .int zo, .int l_farthest, .int l_begun])), (la_t, .inl (cI, 4, .inl T_)), (la_h, .inl (cI, 16, .inl ((sp_bite fl l_x ii tf fh k).1))), (la_u, .inl (cI, 16, .inl gu)), (la_o, .inl (cI, 16, .inl gq)), (la_x, .inl (cI, 16, .inl gx)), (xs, .inr (6, [.ref n, .ref fo, .ref wa, .ref we])), (n, .inl (cI, 36, .inl g_nums)), (we, .inr (2, [.ref ch, .int 1, .ref sh, .ref wh, .int 0, .int 0, .int 0, .int 0, .int 0])), (ch, .inl (cI, 80, .inl (upd (fun _ => 0) 0 0))), (sh, .inl (cI, 12, .inl g3)), (fo, .inr (2, [.ref cf, .int 1, .ref sf, .ref wf, .int 0, .int 0, .int 0, .int 0, .int 0])), (cf, .inl (cI, 80, .inl (upd (fun _ => 0) 0 (-1)))), (sf, .inl (cI, 12, .inl (upd g1 0 (((((sp_bite fl l_x ii tf fh k).1) ((ii + tf k) % 8)) - fl) - l_x))))] [(cI, .int)] [(8, .int (((((sp_bite fl l_x ii tf fh k).1) ((ii + tf k) % 8)) - fl) - l_x)), (7, .int (nI ((ii + tf k) % 8))), (0, .ref xl), (1, .int si), (2, .int tv), (3, .int fl), (4, .int 8), (5, .int ((sp_bite fl l_x ii tf fh k).2)), (6, .int (nI k))] 115 [.int r_6, .int ((sp_bite fl l_x ii tf fh k).2)]
          refine g_fold (((((sp_bite fl l_x ii tf fh k).1) ((ii + tf k) % 8)) - fl) - l_x) e_r_6 ?_
          refine g_sipush F (-9999) dX5_bite_115 (by decide) ?_
          refine g_sipush F 9999 dX5_bite_118 (by decide) ?_
          refine g_callSi (k := 0) (n := 0) (As := [.int (((((sp_bite fl l_x ii tf fh k).1) ((ii + tf k) % 8)) - fl) - l_x), .int (-9999), .int 9999]) (st := [.int ((sp_bite fl l_x ii tf fh k).2)]) (wc := []) (wr := [(xl, .inr (4, [.ref xs, .int l_ring, .int l_speed, .int l_feed, .int l_turns, .ref la_t, .int l_teethSet, .int l_teethMany, .ref la_h, .ref la_u, .ref la_o, .ref la_x, .int 0, .int l_x, .int l_v, .int l_wave, .int l_time, .int zo, .int l_farthest, .int l_begun])), (la_t, .inl (cI, 4, .inl T_)), (la_h, .inl (cI, 16, .inl ((sp_bite fl l_x ii tf fh k).1))), (la_u, .inl (cI, 16, .inl gu)), (la_o, .inl (cI, 16, .inl gq)), (la_x, .inl (cI, 16, .inl gx)), (xs, .inr (6, [.ref n, .ref fo, .ref wa, .ref we])), (n, .inl (cI, 36, .inl g_nums)), (we, .inr (2, [.ref ch, .int 1, .ref sh, .ref wh, .int 0, .int 0, .int 0, .int 0, .int 0])), (ch, .inl (cI, 80, .inl (upd (fun _ => 0) 0 0))), (sh, .inl (cI, 12, .inl g3)), (fo, .inr (2, [.ref cf, .int 1, .ref sf, .ref wf, .int 0, .int 0, .int 0, .int 0, .int 0])), (cf, .inl (cI, 80, .inl (upd (fun _ => 0) 0 (-1)))), (sf, .inl (cI, 12, .inl (upd g1 0 (((((sp_bite fl l_x ii tf fh k).1) ((ii + tf k) % 8)) - fl) - l_x))))]) F [] [0, 1, 2, 3, 4, 5, 6, 7, 8, 9, 10, 11, 12, 13] [] rfl rfl (by decide) rfl (by decide) (by decide) rfl (fun sz => K_X5_within l D (((((sp_bite fl l_x ii tf fh k).1) ((ii + tf k) % 8)) - fl) - l_x) (-9999) 9999  sz) (va_cwS 3 hts gX5_bite_X5_within rfl rfl rfl (by decide +kernel) ⟨Nat.le_of_ble_eq_true rfl, Nat.le_of_ble_eq_true rfl⟩) rfl (Nat.le_of_ble_eq_true rfl) ⟨Nat.le_of_ble_eq_true rfl, Nat.le_of_ble_eq_true rfl⟩ dX5_bite_121 (fun r_11 _ hw_12 => ?_)
          have hw_12 : r_11 = (if (-9999 : Int32) < (if (((((sp_bite fl l_x ii tf fh k).1) ((ii + tf k) % 8)) - fl) - l_x) < (9999 : Int32) then (((((sp_bite fl l_x ii tf fh k).1) ((ii + tf k) % 8)) - fl) - l_x) else (9999 : Int32)) then (if (((((sp_bite fl l_x ii tf fh k).1) ((ii + tf k) % 8)) - fl) - l_x) < (9999 : Int32) then (((((sp_bite fl l_x ii tf fh k).1) ((ii + tf k) % 8)) - fl) - l_x) else (9999 : Int32)) else (-9999 : Int32)) := hw_12
          have e_r_11 := hw_12
          show gG p l e (gR 2 0 0 65) s m args below meth c D A 9 Q 0 0 [(xl, .inr (4, [.ref xs, .int l_ring, .int l_speed, .int l_feed, .int l_turns, .ref la_t, .int l_teethSet, .int l_teethMany, .ref la_h, .ref la_u, .ref la_o, .ref la_x, .int 0, .int l_x, .int l_v, .int l_wave, .int l_time, .int zo, .int l_farthest, .int l_begun])), (la_t, .inl (cI, 4, .inl T_)), (la_h, .inl (cI, 16, .inl ((sp_bite fl l_x ii tf fh k).1))), (la_u, .inl (cI, 16, .inl gu)), (la_o, .inl (cI, 16, .inl gq)), (la_x, .inl (cI, 16, .inl gx)), (xs, .inr (6, [.ref n, .ref fo, .ref wa, .ref we])), (n, .inl (cI, 36, .inl g_nums)), (we, .inr (2, [.ref ch, .int 1, .ref sh, .ref wh, .int 0, .int 0, .int 0, .int 0, .int 0])), (ch, .inl (cI, 80, .inl (upd (fun _ => 0) 0 0))), (sh, .inl (cI, 12, .inl g3)), (fo, .inr (2, [.ref cf, .int 1, .ref sf, .ref wf, .int 0, .int 0, .int 0, .int 0, .int 0])), (cf, .inl (cI, 80, .inl (upd (fun _ => 0) 0 (-1)))), (sf, .inl (cI, 12, .inl (upd g1 0 (((((sp_bite fl l_x ii tf fh k).1) ((ii + tf k) % 8)) - fl) - l_x))))] [(cI, .int)] [(8, .int (((((sp_bite fl l_x ii tf fh k).1) ((ii + tf k) % 8)) - fl) - l_x)), (7, .int (nI ((ii + tf k) % 8))), (0, .ref xl), (1, .int si), (2, .int tv), (3, .int fl), (4, .int 8), (5, .int ((sp_bite fl l_x ii tf fh k).2)), (6, .int (nI k))] 124 [.int r_11, .int ((sp_bite fl l_x ii tf fh k).2)]
          refine g_fold (if (-9999 : Int32) < (if (((((sp_bite fl l_x ii tf fh k).1) ((ii + tf k) % 8)) - fl) - l_x) < (9999 : Int32) then (((((sp_bite fl l_x ii tf fh k).1) ((ii + tf k) % 8)) - fl) - l_x) else (9999 : Int32)) then (if (((((sp_bite fl l_x ii tf fh k).1) ((ii + tf k) % 8)) - fl) - l_x) < (9999 : Int32) then (((((sp_bite fl l_x ii tf fh k).1) ((ii + tf k) % 8)) - fl) - l_x) else (9999 : Int32)) else (-9999 : Int32)) e_r_11 ?_
          refine g_iadd F dX5_bite_124 ?_
          refine g_fold ((sp_bite fl l_x ii tf fh (k + 1)).2) (by rw [hb1]; rfl) ?_
          refine g_istore F [(5, .int ((sp_bite fl l_x ii tf fh (k + 1)).2)), (8, .int (((((sp_bite fl l_x ii tf fh k).1) ((ii + tf k) % 8)) - fl) - l_x)), (7, .int (nI ((ii + tf k) % 8))), (0, .ref xl), (1, .int si), (2, .int tv), (3, .int fl), (4, .int 8), (6, .int (nI k))] dX5_bite_125 (by decide) rfl ?_
          refine g_aload_n F 3 dX5_bite_127 rfl rfl ?_
          refine g_sipush F 30000 dX5_bite_128 (by decide) ?_
          refine g_aload_n F 3 dX5_bite_131 rfl rfl ?_
          refine g_get (C := RX5) (T := TX5) (N := 20) (v := .int 0) F i_X5 0 rfl rfl 12 (by decide) w_11 rfl rfl dX5_bite_132 ?_
          refine g_aload_n F 3 dX5_bite_135 rfl rfl ?_
          refine g_get (C := RX5) (T := TX5) (N := 20) (v := .ref xs) F i_X5 0 rfl rfl 0 (by decide) w_0 rfl rfl dX5_bite_136 ?_
          refine g_get (C := RX7) (T := TX7) (N := 4) (v := .ref we) F i_X7 6 rfl rfl 3 (by decide) w_12 rfl rfl dX5_bite_139 ?_
          refine g_iload F 1 dX5_bite_142 rfl ?_
          refine g_iconst F 0 dX5_bite_144 (by decide) ?_
          refine g_callVi (k := 0) (n := 0) (b := we) (As := [.int (((((sp_bite fl l_x ii tf fh k).1) ((ii + tf k) % 8)) - fl) - l_x), .int 0]) (st := [.int 0, .int 30000, .ref xl]) (wc := [(we, .inr (2, [.ref ch, .int 1, .ref sh, .ref wh, .int 0, .int 0, .int 0, .int 0, .int 0])), (ch, .inl (cI, 80, .inl (upd (fun _ => 0) 0 0))), (sh, .inl (cI, 12, .inl g3))]) (wr := [(xl, .inr (4, [.ref xs, .int l_ring, .int l_speed, .int l_feed, .int l_turns, .ref la_t, .int l_teethSet, .int l_teethMany, .ref la_h, .ref la_u, .ref la_o, .ref la_x, .int 0, .int l_x, .int l_v, .int l_wave, .int l_time, .int zo, .int l_farthest, .int l_begun])), (la_t, .inl (cI, 4, .inl T_)), (la_h, .inl (cI, 16, .inl ((sp_bite fl l_x ii tf fh k).1))), (la_u, .inl (cI, 16, .inl gu)), (la_o, .inl (cI, 16, .inl gq)), (la_x, .inl (cI, 16, .inl gx)), (xs, .inr (6, [.ref n, .ref fo, .ref wa, .ref we])), (n, .inl (cI, 36, .inl g_nums)), (fo, .inr (2, [.ref cf, .int 1, .ref sf, .ref wf, .int 0, .int 0, .int 0, .int 0, .int 0])), (cf, .inl (cI, 80, .inl (upd (fun _ => 0) 0 (-1)))), (sf, .inl (cI, 12, .inl (upd g1 0 (((((sp_bite fl l_x ii tf fh k).1) ((ii + tf k) % 8)) - fl) - l_x))))]) F [8, 9, 10] [0, 1, 2, 3, 4, 5, 6, 7, 11, 12, 13] [0] rfl rfl (by decide) rfl (by decide) (by decide) rfl (fun sz => K_X3_value_zero l D we ch sh wh cI g3 (((((sp_bite fl l_x ii tf fh k).1) ((ii + tf k) % 8)) - fl) - l_x) 0  sz) (cwV 2 hts gX5_bite_X3_value rfl rfl rfl (by decide +kernel) ⟨Nat.le_of_ble_eq_true rfl, Nat.le_of_ble_eq_true rfl⟩) rfl 0 rfl rfl (Nat.le_of_ble_eq_true rfl) ⟨Nat.le_of_ble_eq_true rfl, Nat.le_of_ble_eq_true rfl⟩ dX5_bite_145 (fun r_16 _ hw_17 => ?_)
          have hw_17 : r_16 = 0 := hw_17
          have e_r_16 := hw_17
          show gG p l e (gR 2 0 0 65) s m args below meth c D A 9 Q 0 0 [(xl, .inr (4, [.ref xs, .int l_ring, .int l_speed, .int l_feed, .int l_turns, .ref la_t, .int l_teethSet, .int l_teethMany, .ref la_h, .ref la_u, .ref la_o, .ref la_x, .int 0, .int l_x, .int l_v, .int l_wave, .int l_time, .int zo, .int l_farthest, .int l_begun])), (la_t, .inl (cI, 4, .inl T_)), (la_h, .inl (cI, 16, .inl ((sp_bite fl l_x ii tf fh k).1))), (la_u, .inl (cI, 16, .inl gu)), (la_o, .inl (cI, 16, .inl gq)), (la_x, .inl (cI, 16, .inl gx)), (xs, .inr (6, [.ref n, .ref fo, .ref wa, .ref we])), (n, .inl (cI, 36, .inl g_nums)), (fo, .inr (2, [.ref cf, .int 1, .ref sf, .ref wf, .int 0, .int 0, .int 0, .int 0, .int 0])), (cf, .inl (cI, 80, .inl (upd (fun _ => 0) 0 (-1)))), (sf, .inl (cI, 12, .inl (upd g1 0 (((((sp_bite fl l_x ii tf fh k).1) ((ii + tf k) % 8)) - fl) - l_x)))), (we, .inr (2, [.ref ch, .int 1, .ref sh, .ref wh, .int 0, .int 0, .int 0, .int 0, .int 0])), (ch, .inl (cI, 80, .inl (upd (fun _ => 0) 0 0))), (sh, .inl (cI, 12, .inl (upd g3 0 0)))] [(cI, .int)] [(5, .int ((sp_bite fl l_x ii tf fh (k + 1)).2)), (8, .int (((((sp_bite fl l_x ii tf fh k).1) ((ii + tf k) % 8)) - fl) - l_x)), (7, .int (nI ((ii + tf k) % 8))), (0, .ref xl), (1, .int si), (2, .int tv), (3, .int fl), (4, .int 8), (6, .int (nI k))] 148 [.int r_16, .int 0, .int 30000, .ref xl]
          refine g_fold 0 e_r_16 ?_
          refine g_iconst F 0 dX5_bite_148 (by decide) ?_
          refine g_sipush F 30000 dX5_bite_149 (by decide) ?_
          refine g_callSi (k := 0) (n := 0) (As := [.int 0, .int 0, .int 30000]) (st := [.int 0, .int 30000, .ref xl]) (wc := []) (wr := [(xl, .inr (4, [.ref xs, .int l_ring, .int l_speed, .int l_feed, .int l_turns, .ref la_t, .int l_teethSet, .int l_teethMany, .ref la_h, .ref la_u, .ref la_o, .ref la_x, .int 0, .int l_x, .int l_v, .int l_wave, .int l_time, .int zo, .int l_farthest, .int l_begun])), (la_t, .inl (cI, 4, .inl T_)), (la_h, .inl (cI, 16, .inl ((sp_bite fl l_x ii tf fh k).1))), (la_u, .inl (cI, 16, .inl gu)), (la_o, .inl (cI, 16, .inl gq)), (la_x, .inl (cI, 16, .inl gx)), (xs, .inr (6, [.ref n, .ref fo, .ref wa, .ref we])), (n, .inl (cI, 36, .inl g_nums)), (fo, .inr (2, [.ref cf, .int 1, .ref sf, .ref wf, .int 0, .int 0, .int 0, .int 0, .int 0])), (cf, .inl (cI, 80, .inl (upd (fun _ => 0) 0 (-1)))), (sf, .inl (cI, 12, .inl (upd g1 0 (((((sp_bite fl l_x ii tf fh k).1) ((ii + tf k) % 8)) - fl) - l_x)))), (we, .inr (2, [.ref ch, .int 1, .ref sh, .ref wh, .int 0, .int 0, .int 0, .int 0, .int 0])), (ch, .inl (cI, 80, .inl (upd (fun _ => 0) 0 0))), (sh, .inl (cI, 12, .inl (upd g3 0 0)))]) F [] [0, 1, 2, 3, 4, 5, 6, 7, 8, 9, 10, 11, 12, 13] [] rfl rfl (by decide) rfl (by decide) (by decide) rfl (fun sz => K_X5_within l D 0 0 30000  sz) (va_cwS 3 hts gX5_bite_X5_within rfl rfl rfl (by decide +kernel) ⟨Nat.le_of_ble_eq_true rfl, Nat.le_of_ble_eq_true rfl⟩) rfl (Nat.le_of_ble_eq_true rfl) ⟨Nat.le_of_ble_eq_true rfl, Nat.le_of_ble_eq_true rfl⟩ dX5_bite_152 (fun r_21 _ hw_22 => ?_)
          have hw_22 : r_21 = (if (0 : Int32) < (if (0 : Int32) < (30000 : Int32) then (0 : Int32) else (30000 : Int32)) then (if (0 : Int32) < (30000 : Int32) then (0 : Int32) else (30000 : Int32)) else (0 : Int32)) := hw_22
          have e_r_21 := hw_22
          show gG p l e (gR 2 0 0 65) s m args below meth c D A 9 Q 0 0 [(xl, .inr (4, [.ref xs, .int l_ring, .int l_speed, .int l_feed, .int l_turns, .ref la_t, .int l_teethSet, .int l_teethMany, .ref la_h, .ref la_u, .ref la_o, .ref la_x, .int 0, .int l_x, .int l_v, .int l_wave, .int l_time, .int zo, .int l_farthest, .int l_begun])), (la_t, .inl (cI, 4, .inl T_)), (la_h, .inl (cI, 16, .inl ((sp_bite fl l_x ii tf fh k).1))), (la_u, .inl (cI, 16, .inl gu)), (la_o, .inl (cI, 16, .inl gq)), (la_x, .inl (cI, 16, .inl gx)), (xs, .inr (6, [.ref n, .ref fo, .ref wa, .ref we])), (n, .inl (cI, 36, .inl g_nums)), (fo, .inr (2, [.ref cf, .int 1, .ref sf, .ref wf, .int 0, .int 0, .int 0, .int 0, .int 0])), (cf, .inl (cI, 80, .inl (upd (fun _ => 0) 0 (-1)))), (sf, .inl (cI, 12, .inl (upd g1 0 (((((sp_bite fl l_x ii tf fh k).1) ((ii + tf k) % 8)) - fl) - l_x)))), (we, .inr (2, [.ref ch, .int 1, .ref sh, .ref wh, .int 0, .int 0, .int 0, .int 0, .int 0])), (ch, .inl (cI, 80, .inl (upd (fun _ => 0) 0 0))), (sh, .inl (cI, 12, .inl (upd g3 0 0)))] [(cI, .int)] [(5, .int ((sp_bite fl l_x ii tf fh (k + 1)).2)), (8, .int (((((sp_bite fl l_x ii tf fh k).1) ((ii + tf k) % 8)) - fl) - l_x)), (7, .int (nI ((ii + tf k) % 8))), (0, .ref xl), (1, .int si), (2, .int tv), (3, .int fl), (4, .int 8), (6, .int (nI k))] 155 [.int r_21, .int 0, .int 30000, .ref xl]
          refine g_fold (if (0 : Int32) < (if (0 : Int32) < (30000 : Int32) then (0 : Int32) else (30000 : Int32)) then (if (0 : Int32) < (30000 : Int32) then (0 : Int32) else (30000 : Int32)) else (0 : Int32)) e_r_21 ?_
          refine g_fold 0 (by decide) ?_
          refine g_iadd F dX5_bite_155 ?_
          refine g_fold 0 (by decide) ?_
          refine g_mmin F w_13 w_14 w_6 w_15 (Nat.le_of_ble_eq_true rfl) (Nat.le_of_ble_eq_true rfl) (Nat.le_of_ble_eq_true rfl) (Nat.le_of_ble_eq_true rfl) dX5_bite_156 ?_
          refine g_fold 0 (by decide) ?_
          refine g_put (C := RX5) (T := TX5) (N := 20) (ty := .int) (v := .int 0) F i_X5 0 rfl rfl 12 (by decide) w_11 rfl tyX5 tyX5_ok nmX5 rfl (by decide +kernel) rfl rfl (Nat.le_of_ble_eq_true rfl) [(xl, .inr (4, [.ref xs, .int l_ring, .int l_speed, .int l_feed, .int l_turns, .ref la_t, .int l_teethSet, .int l_teethMany, .ref la_h, .ref la_u, .ref la_o, .ref la_x, .int 0, .int l_x, .int l_v, .int l_wave, .int l_time, .int zo, .int l_farthest, .int l_begun])), (la_t, .inl (cI, 4, .inl T_)), (la_h, .inl (cI, 16, .inl ((sp_bite fl l_x ii tf fh k).1))), (la_u, .inl (cI, 16, .inl gu)), (la_o, .inl (cI, 16, .inl gq)), (la_x, .inl (cI, 16, .inl gx)), (xs, .inr (6, [.ref n, .ref fo, .ref wa, .ref we])), (n, .inl (cI, 36, .inl g_nums)), (fo, .inr (2, [.ref cf, .int 1, .ref sf, .ref wf, .int 0, .int 0, .int 0, .int 0, .int 0])), (cf, .inl (cI, 80, .inl (upd (fun _ => 0) 0 (-1)))), (sf, .inl (cI, 12, .inl (upd g1 0 (((((sp_bite fl l_x ii tf fh k).1) ((ii + tf k) % 8)) - fl) - l_x)))), (we, .inr (2, [.ref ch, .int 1, .ref sh, .ref wh, .int 0, .int 0, .int 0, .int 0, .int 0])), (ch, .inl (cI, 80, .inl (upd (fun _ => 0) 0 0))), (sh, .inl (cI, 12, .inl (upd g3 0 0)))] rfl dX5_bite_159 ?_
          refine g_aload_n F 3 dX5_bite_162 rfl rfl ?_
          refine g_get (C := RX5) (T := TX5) (N := 20) (v := .ref la_h) F i_X5 0 rfl rfl 8 (by decide) w_8 rfl rfl dX5_bite_163 ?_
          refine g_iload F 2 dX5_bite_166 rfl ?_
          refine g_iload_n F 6 dX5_bite_168 rfl rfl ?_
          refine g_aload_n F 3 dX5_bite_169 rfl rfl ?_
          refine g_get (C := RX5) (T := TX5) (N := 20) (v := .int l_x) F i_X5 0 rfl rfl 13 (by decide) w_9 rfl rfl dX5_bite_170 ?_
          refine g_iadd F dX5_bite_173 ?_
          refine g_iast F 2 0 rfl rfl (vp_in_nI (by omega) (by decide)) [(xl, .inr (4, [.ref xs, .int l_ring, .int l_speed, .int l_feed, .int l_turns, .ref la_t, .int l_teethSet, .int l_teethMany, .ref la_h, .ref la_u, .ref la_o, .ref la_x, .int 0, .int l_x, .int l_v, .int l_wave, .int l_time, .int zo, .int l_farthest, .int l_begun])), (la_t, .inl (cI, 4, .inl T_)), (la_h, .inl (cI, 16, .inl (upd ((sp_bite fl l_x ii tf fh k).1) ((ii + tf k) % 8) (fl + l_x)))), (la_u, .inl (cI, 16, .inl gu)), (la_o, .inl (cI, 16, .inl gq)), (la_x, .inl (cI, 16, .inl gx)), (xs, .inr (6, [.ref n, .ref fo, .ref wa, .ref we])), (n, .inl (cI, 36, .inl g_nums)), (fo, .inr (2, [.ref cf, .int 1, .ref sf, .ref wf, .int 0, .int 0, .int 0, .int 0, .int 0])), (cf, .inl (cI, 80, .inl (upd (fun _ => 0) 0 (-1)))), (sf, .inl (cI, 12, .inl (upd g1 0 (((((sp_bite fl l_x ii tf fh k).1) ((ii + tf k) % 8)) - fl) - l_x)))), (we, .inr (2, [.ref ch, .int 1, .ref sh, .ref wh, .int 0, .int 0, .int 0, .int 0, .int 0])), (ch, .inl (cI, 80, .inl (upd (fun _ => 0) 0 0))), (sh, .inl (cI, 12, .inl (upd g3 0 0)))] (by rw [nI_clamp (by omega)]; rfl) dX5_bite_174 ?_
          refine g_cell 2 ((sp_bite fl l_x ii tf fh (k + 1)).1) rfl (fun j _ => by rw [hb1]) [(xl, .inr (4, [.ref xs, .int l_ring, .int l_speed, .int l_feed, .int l_turns, .ref la_t, .int l_teethSet, .int l_teethMany, .ref la_h, .ref la_u, .ref la_o, .ref la_x, .int 0, .int l_x, .int l_v, .int l_wave, .int l_time, .int zo, .int l_farthest, .int l_begun])), (la_t, .inl (cI, 4, .inl T_)), (la_h, .inl (cI, 16, .inl ((sp_bite fl l_x ii tf fh (k + 1)).1))), (la_u, .inl (cI, 16, .inl gu)), (la_o, .inl (cI, 16, .inl gq)), (la_x, .inl (cI, 16, .inl gx)), (xs, .inr (6, [.ref n, .ref fo, .ref wa, .ref we])), (n, .inl (cI, 36, .inl g_nums)), (fo, .inr (2, [.ref cf, .int 1, .ref sf, .ref wf, .int 0, .int 0, .int 0, .int 0, .int 0])), (cf, .inl (cI, 80, .inl (upd (fun _ => 0) 0 (-1)))), (sf, .inl (cI, 12, .inl (upd g1 0 (((((sp_bite fl l_x ii tf fh k).1) ((ii + tf k) % 8)) - fl) - l_x)))), (we, .inr (2, [.ref ch, .int 1, .ref sh, .ref wh, .int 0, .int 0, .int 0, .int 0, .int 0])), (ch, .inl (cI, 80, .inl (upd (fun _ => 0) 0 0))), (sh, .inl (cI, 12, .inl (upd g3 0 0)))] rfl ?_
          refine g_aload_n F 3 dX5_bite_175 rfl rfl ?_
          refine g_get (C := RX5) (T := TX5) (N := 20) (v := .ref la_u) F i_X5 0 rfl rfl 9 (by decide) w_16 rfl rfl dX5_bite_176 ?_
          refine g_iload F 2 dX5_bite_179 rfl ?_
          refine g_iload_n F 5 dX5_bite_181 rfl rfl ?_
          refine g_iast F 3 0 rfl rfl (vp_in_nI (by omega) (by decide)) [(xl, .inr (4, [.ref xs, .int l_ring, .int l_speed, .int l_feed, .int l_turns, .ref la_t, .int l_teethSet, .int l_teethMany, .ref la_h, .ref la_u, .ref la_o, .ref la_x, .int 0, .int l_x, .int l_v, .int l_wave, .int l_time, .int zo, .int l_farthest, .int l_begun])), (la_t, .inl (cI, 4, .inl T_)), (la_h, .inl (cI, 16, .inl ((sp_bite fl l_x ii tf fh (k + 1)).1))), (la_u, .inl (cI, 16, .inl (upd gu ((ii + tf k) % 8) tv))), (la_o, .inl (cI, 16, .inl gq)), (la_x, .inl (cI, 16, .inl gx)), (xs, .inr (6, [.ref n, .ref fo, .ref wa, .ref we])), (n, .inl (cI, 36, .inl g_nums)), (fo, .inr (2, [.ref cf, .int 1, .ref sf, .ref wf, .int 0, .int 0, .int 0, .int 0, .int 0])), (cf, .inl (cI, 80, .inl (upd (fun _ => 0) 0 (-1)))), (sf, .inl (cI, 12, .inl (upd g1 0 (((((sp_bite fl l_x ii tf fh k).1) ((ii + tf k) % 8)) - fl) - l_x)))), (we, .inr (2, [.ref ch, .int 1, .ref sh, .ref wh, .int 0, .int 0, .int 0, .int 0, .int 0])), (ch, .inl (cI, 80, .inl (upd (fun _ => 0) 0 0))), (sh, .inl (cI, 12, .inl (upd g3 0 0)))] (by rw [nI_clamp (by omega)]; rfl) dX5_bite_182 ?_
          refine g_aload_n F 3 dX5_bite_183 rfl rfl ?_
          refine g_get (C := RX5) (T := TX5) (N := 20) (v := .ref la_o) F i_X5 0 rfl rfl 10 (by decide) w_17 rfl rfl dX5_bite_184 ?_
          refine g_iload F 2 dX5_bite_187 rfl ?_
          refine g_iload F 8 dX5_bite_189 rfl ?_
          refine g_iast F 4 0 rfl rfl (vp_in_nI (by omega) (by decide)) [(xl, .inr (4, [.ref xs, .int l_ring, .int l_speed, .int l_feed, .int l_turns, .ref la_t, .int l_teethSet, .int l_teethMany, .ref la_h, .ref la_u, .ref la_o, .ref la_x, .int 0, .int l_x, .int l_v, .int l_wave, .int l_time, .int zo, .int l_farthest, .int l_begun])), (la_t, .inl (cI, 4, .inl T_)), (la_h, .inl (cI, 16, .inl ((sp_bite fl l_x ii tf fh (k + 1)).1))), (la_u, .inl (cI, 16, .inl (upd gu ((ii + tf k) % 8) tv))), (la_o, .inl (cI, 16, .inl (upd gq ((ii + tf k) % 8) (nI k)))), (la_x, .inl (cI, 16, .inl gx)), (xs, .inr (6, [.ref n, .ref fo, .ref wa, .ref we])), (n, .inl (cI, 36, .inl g_nums)), (fo, .inr (2, [.ref cf, .int 1, .ref sf, .ref wf, .int 0, .int 0, .int 0, .int 0, .int 0])), (cf, .inl (cI, 80, .inl (upd (fun _ => 0) 0 (-1)))), (sf, .inl (cI, 12, .inl (upd g1 0 (((((sp_bite fl l_x ii tf fh k).1) ((ii + tf k) % 8)) - fl) - l_x)))), (we, .inr (2, [.ref ch, .int 1, .ref sh, .ref wh, .int 0, .int 0, .int 0, .int 0, .int 0])), (ch, .inl (cI, 80, .inl (upd (fun _ => 0) 0 0))), (sh, .inl (cI, 12, .inl (upd g3 0 0)))] (by rw [nI_clamp (by omega)]; rfl) dX5_bite_191 ?_
          refine g_aload_n F 3 dX5_bite_192 rfl rfl ?_
          refine g_get (C := RX5) (T := TX5) (N := 20) (v := .ref la_x) F i_X5 0 rfl rfl 11 (by decide) w_18 rfl rfl dX5_bite_193 ?_
          refine g_iload F 2 dX5_bite_196 rfl ?_
          refine g_aload_n F 3 dX5_bite_198 rfl rfl ?_
          refine g_get (C := RX5) (T := TX5) (N := 20) (v := .int l_x) F i_X5 0 rfl rfl 13 (by decide) w_9 rfl rfl dX5_bite_199 ?_
          refine g_iast F 5 0 rfl rfl (vp_in_nI (by omega) (by decide)) [(xl, .inr (4, [.ref xs, .int l_ring, .int l_speed, .int l_feed, .int l_turns, .ref la_t, .int l_teethSet, .int l_teethMany, .ref la_h, .ref la_u, .ref la_o, .ref la_x, .int 0, .int l_x, .int l_v, .int l_wave, .int l_time, .int zo, .int l_farthest, .int l_begun])), (la_t, .inl (cI, 4, .inl T_)), (la_h, .inl (cI, 16, .inl ((sp_bite fl l_x ii tf fh (k + 1)).1))), (la_u, .inl (cI, 16, .inl (upd gu ((ii + tf k) % 8) tv))), (la_o, .inl (cI, 16, .inl (upd gq ((ii + tf k) % 8) (nI k)))), (la_x, .inl (cI, 16, .inl (upd gx ((ii + tf k) % 8) l_x))), (xs, .inr (6, [.ref n, .ref fo, .ref wa, .ref we])), (n, .inl (cI, 36, .inl g_nums)), (fo, .inr (2, [.ref cf, .int 1, .ref sf, .ref wf, .int 0, .int 0, .int 0, .int 0, .int 0])), (cf, .inl (cI, 80, .inl (upd (fun _ => 0) 0 (-1)))), (sf, .inl (cI, 12, .inl (upd g1 0 (((((sp_bite fl l_x ii tf fh k).1) ((ii + tf k) % 8)) - fl) - l_x)))), (we, .inr (2, [.ref ch, .int 1, .ref sh, .ref wh, .int 0, .int 0, .int 0, .int 0, .int 0])), (ch, .inl (cI, 80, .inl (upd (fun _ => 0) 0 0))), (sh, .inl (cI, 12, .inl (upd g3 0 0)))] (by rw [nI_clamp (by omega)]; rfl) dX5_bite_202 ?_
          refine g_iinc F (j := 8) (nI (k + 1)) [(6, .int (nI (k + 1))), (5, .int ((sp_bite fl l_x ii tf fh (k + 1)).2)), (8, .int (((((sp_bite fl l_x ii tf fh k).1) ((ii + tf k) % 8)) - fl) - l_x)), (7, .int (nI ((ii + tf k) % 8))), (0, .ref xl), (1, .int si), (2, .int tv), (3, .int fl), (4, .int 8)] dX5_bite_203 rfl (nI_1 k) (by decide) rfl ?_
          refine g_goto F 17 dX5_bite_206 (by decide) ?_
          refine g_locals [(0, .ref xl), (1, .int si), (2, .int tv), (3, .int fl), (4, .int 8), (5, .int ((sp_bite fl l_x ii tf fh (k + 1)).2)), (6, .int (nI (k + 1)))] [4, 5, 6, 7, 8, 1, 0] rfl ?_
          exact ih_17 (k + 1) zo (upd gu ((ii + tf k) % 8) tv) (upd gq ((ii + tf k) % 8) (nI k)) (upd gx ((ii + tf k) % 8) l_x) (upd g1 0 (((((sp_bite fl l_x ii tf fh k).1) ((ii + tf k) % 8)) - fl) - l_x)) (upd g3 0 0) (by omega) (hk)
        · refine g_aload_n F 2 dX5_bite_84 rfl rfl ?_
          refine g_dup F dX5_bite_85 rfl ?_
          refine g_get (C := RX5) (T := TX5) (N := 20) (v := .int zo) F i_X5 0 rfl rfl 17 (by decide) w_19 rfl rfl dX5_bite_86 ?_
          refine g_iconst F 1 dX5_bite_89 (by decide) ?_
          refine g_iadd F dX5_bite_90 ?_
          refine g_put (C := RX5) (T := TX5) (N := 20) (ty := .int) (v := .int (zo + 1)) F i_X5 0 rfl rfl 17 (by decide) w_19 rfl tyX5 tyX5_ok nmX5 rfl (by decide +kernel) rfl rfl (Nat.le_of_ble_eq_true rfl) [(xl, .inr (4, [.ref xs, .int l_ring, .int l_speed, .int l_feed, .int l_turns, .ref la_t, .int l_teethSet, .int l_teethMany, .ref la_h, .ref la_u, .ref la_o, .ref la_x, .int 0, .int l_x, .int l_v, .int l_wave, .int l_time, .int (zo + 1), .int l_farthest, .int l_begun])), (la_t, .inl (cI, 4, .inl T_)), (la_h, .inl (cI, 16, .inl ((sp_bite fl l_x ii tf fh k).1))), (la_u, .inl (cI, 16, .inl gu)), (la_o, .inl (cI, 16, .inl gq)), (la_x, .inl (cI, 16, .inl gx)), (xs, .inr (6, [.ref n, .ref fo, .ref wa, .ref we])), (n, .inl (cI, 36, .inl g_nums)), (fo, .inr (2, [.ref cf, .int 1, .ref sf, .ref wf, .int 0, .int 0, .int 0, .int 0, .int 0])), (cf, .inl (cI, 80, .inl (upd (fun _ => 0) 0 (-1)))), (sf, .inl (cI, 12, .inl g1)), (we, .inr (2, [.ref ch, .int 1, .ref sh, .ref wh, .int 0, .int 0, .int 0, .int 0, .int 0])), (ch, .inl (cI, 80, .inl (upd (fun _ => 0) 0 0))), (sh, .inl (cI, 12, .inl g3))] rfl dX5_bite_91 ?_
          refine g_goto F 203 dX5_bite_94 (by decide) ?_
          have hbe : (sp_bite fl l_x ii tf fh (k + 1)) = (sp_bite fl l_x ii tf fh k) := if_pos (Int32.not_lt.mp c_81)
          rw [← hbe]
          refine g_iinc F (j := 8) (nI (k + 1)) [(6, .int (nI (k + 1))), (8, .int (((((sp_bite fl l_x ii tf fh (k + 1)).1) ((ii + tf k) % 8)) - fl) - l_x)), (7, .int (nI ((ii + tf k) % 8))), (0, .ref xl), (1, .int si), (2, .int tv), (3, .int fl), (4, .int 8), (5, .int ((sp_bite fl l_x ii tf fh (k + 1)).2))] dX5_bite_203 rfl (nI_1 k) (by decide) rfl ?_
          refine g_goto F 17 dX5_bite_206 (by decide) ?_
          refine g_locals [(0, .ref xl), (1, .int si), (2, .int tv), (3, .int fl), (4, .int 8), (5, .int ((sp_bite fl l_x ii tf fh (k + 1)).2)), (6, .int (nI (k + 1)))] [3, 4, 5, 6, 7, 8, 0] rfl ?_
          exact ih_17 (k + 1) (zo + 1) gu gq gx g1 g3 (by omega) (hk)
  exact loop_17 (_ + 1) 0 l_out fu fq fx s1 s3 (Nat.lt_succ_self _) (Nat.zero_le _)
