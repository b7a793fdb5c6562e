set_option maxRecDepth 20000 in
theorem ggL_law_X11_feed : GoodIn wsL_law wsX11_feed := goodIn_rn _ [(252, 1), (15, 1), (253, 4), (14, 1), (257, 6), (56, 1), (1440, 14), (1527, 6)] rfl (by decide +kernel)
set_option maxRecDepth 20000 in
theorem gL_law_X11_feed : GoodIn wsL_law (wsV RL 13 RX11 yX11_feed wsX11_feed) := goodIn_app (goodIn_of _ (by decide +kernel)) ggL_law_X11_feed
set_option maxRecDepth 20000 in
theorem ggL_law_X13_feed : GoodIn wsL_law wsX13_feed := goodIn_rn _ [(266, 5), (5, 1), (271, 1), (179, 1), (1454, 73)] rfl (by decide +kernel)
set_option maxRecDepth 20000 in
theorem gL_law_X13_feed : GoodIn wsL_law (wsV RL 17 RX13 yX13_feed wsX13_feed) := goodIn_app (goodIn_of _ (by decide +kernel)) ggL_law_X13_feed
set_option maxHeartbeats 4000000 in
set_option maxRecDepth 100000 in
theorem law_c0 {p : Program} {e : Env} {s : State} {m : MethodId} {args : Array Value} {below : List Frame} {meth : Method} {c : Code} {A : Nat → Prop} {Q : State → Prop} (l : Launch) (D : va_G) (F : gF p s m args meth c cL_law RL 4 wsL_law A) (hts0 : ∀ w ∈ wsL_t, w.before args s = true) {zf : Nat → Nat} (hZ : xZ zf A s s.heap) {qs vs : Nat → Nat} (hY : yZ qs vs A s s.heap) {sb L : Nat} {sx : Nat → Int32} (hX : va_X sb L sx s s.heap) (hbl : sb < s.heap.size) (hbA : ¬ A sb) (hL : L ≤ 3584) (K : Nat → ClassId) (a b : Nat → Nat) (G G2 : gS) (hl : lI G G2) (i : Int32) (i0 : Int) (ei : i.toInt = i0) (h0 : 0 ≤ i0) (h7 : i0 + 7 ≤ L) (kE : ∀ G1 G3 : gS, lI G1 G3 → gG p l e (gR 2048 601024 7293033 84000) s m args below meth c D A 4 Q 139 10449 (xW K a G1 ++ yW K b G3) (tK K) [(3, .int i), (2, .ref (b 0)), (1, .ref (a 0)), (0, .ref sb)] 1385 []) : gG p l e (gR 2048 601024 7293033 84000) s m args below meth c D A 4 Q 139 10449 (xW K a G ++ yW K b G2) (tK K) [(3, .int i), (2, .ref (b 0)), (1, .ref (a 0)), (0, .ref sb)] 180 [] := by
  have hts := F.2.2.2.2.1
  obtain ⟨hxI, hyI, hf3, h_w3, hd0, heq, htb, hsc, hsr, hfk, hfp, hlN, hjm, hlG, h66, hpB, hpK⟩ := hl
  refine g_aload_n F 2 dL_law_180 rfl rfl ?_
  refine g_aload_n F 3 dL_law_181 rfl rfl ?_
  refine g_iload_n F 0 dL_law_182 rfl rfl ?_
  refine g_iconst F 1 dL_law_183 (by decide) ?_
  refine u_iadd F dL_law_184 i0 1 ei rfl (by omega) (by omega) (fun y1 ey1 => ?_)
  refine g_sld F hX hbl hbA ((i0 + 1)).toNat (congrArg Int.toNat (show y1.toInt = (i0 + 1) by omega)) (ti_in rfl (by omega) (by omega)) dL_law_185 ?_
  refine g_aload_n F 3 dL_law_186 rfl rfl ?_
  refine g_iload_n F 0 dL_law_187 rfl rfl ?_
  refine g_iconst F 2 dL_law_188 (by decide) ?_
  refine u_iadd F dL_law_189 i0 2 ei rfl (by omega) (by omega) (fun y2 ey2 => ?_)
  refine g_sld F hX hbl hbA ((i0 + 2)).toNat (congrArg Int.toNat (show y2.toInt = (i0 + 2) by omega)) (ti_in rfl (by omega) (by omega)) dL_law_190 ?_
  refine g_aload_n F 3 dL_law_191 rfl rfl ?_
  refine g_iload_n F 0 dL_law_192 rfl rfl ?_
  refine g_iconst F 3 dL_law_193 (by decide) ?_
  refine u_iadd F dL_law_194 i0 3 ei rfl (by omega) (by omega) (fun y3 ey3 => ?_)
  refine g_sld F hX hbl hbA ((i0 + 3)).toNat (congrArg Int.toNat (show y3.toInt = (i0 + 3) by omega)) (ti_in rfl (by omega) (by omega)) dL_law_195 ?_
  refine g_aload_n F 3 dL_law_196 rfl rfl ?_
  refine g_iload_n F 0 dL_law_197 rfl rfl ?_
  refine g_iconst F 4 dL_law_198 (by decide) ?_
  refine u_iadd F dL_law_199 i0 4 ei rfl (by omega) (by omega) (fun y4 ey4 => ?_)
  refine g_sld F hX hbl hbA ((i0 + 4)).toNat (congrArg Int.toNat (show y4.toInt = (i0 + 4) by omega)) (ti_in rfl (by omega) (by omega)) dL_law_200 ?_
  refine g_aload_n F 3 dL_law_201 rfl rfl ?_
  refine g_iload_n F 0 dL_law_202 rfl rfl ?_
  refine g_iconst F 5 dL_law_203 (by decide) ?_
  refine u_iadd F dL_law_204 i0 5 ei rfl (by omega) (by omega) (fun y5 ey5 => ?_)
  refine g_sld F hX hbl hbA ((i0 + 5)).toNat (congrArg Int.toNat (show y5.toInt = (i0 + 5) by omega)) (ti_in rfl (by omega) (by omega)) dL_law_205 ?_
  refine u2_callVi (k := 139) (n := 10449) (b := a 0) (As := [.int (sx ((i0 + 1)).toNat), .int (sx ((i0 + 2)).toNat), .int (sx ((i0 + 3)).toNat), .int (sx ((i0 + 4)).toNat), .int (sx ((i0 + 5)).toNat)]) (st := []) (wc := (xW K a G)) (wr := (yW K b G2)) F (fun sz => S_X11_feed l D K a G (sx ((i0 + 1)).toNat) (sx ((i0 + 1)).toNat).toInt (sx ((i0 + 2)).toNat) (sx ((i0 + 2)).toNat).toInt (sx ((i0 + 3)).toNat) (sx ((i0 + 3)).toNat).toInt (sx ((i0 + 4)).toNat) (sx ((i0 + 4)).toNat).toInt (sx ((i0 + 5)).toNat) (sx ((i0 + 5)).toNat).toInt rfl rfl rfl rfl rfl hxI sz) (cwV 5 hts gL_law_X11_feed rfl rfl rfl (by decide +kernel) ⟨Nat.le_of_ble_eq_true rfl, Nat.le_of_ble_eq_true rfl⟩) rfl 0 xc_0 rfl (Nat.le_of_ble_eq_true rfl) ⟨Nat.le_of_ble_eq_true rfl, Nat.le_of_ble_eq_true rfl⟩ dL_law_206 (fun r6 G_7 hw8 => ?_)
  have hI9 : xI G_7 := hw8.1
  have hU10 : gu_un xcd [102, 1700] G G_7 := hw8.2.1
  have q11 := hw8.2.2.2.1
  have q12 := hw8.2.2.2.2
  have f13 : xF3 G_7 := xF3.un hf3 hU10 rfl rfl rfl
  have w_14 : G_7 88 = G 88 := funext fun k_ => hU10 88 k_ (by simp [xcd, ycd])
  have t15 : G_7 10 2 = G 10 2 := hU10 10 2 (by decide)
  have t15i := congrArg Int32.toInt t15
  have t16 : G_7 0 12 = G 0 12 := hU10 0 12 (by decide)
  have t16i := congrArg Int32.toInt t16
  have t17 : G_7 0 13 = G 0 13 := hU10 0 13 (by decide)
  have t17i := congrArg Int32.toInt t17
  have t18 : G_7 8 3 = G 8 3 := hU10 8 3 (by decide)
  have t18i := congrArg Int32.toInt t18
  have t19 : G_7 6 6 = G 6 6 := hU10 6 6 (by decide)
  have t19i := congrArg Int32.toInt t19
  have lG20 := lG.un hlG hU10 rfl
  have lNu21 := lNu.unx hlN hU10 rfl
  refine g_pop F dL_law_209 rfl ?_
  refine g_aload_n F 1 dL_law_210 rfl rfl ?_
  refine g_aload_n F 3 dL_law_211 rfl rfl ?_
  refine g_iload_n F 0 dL_law_212 rfl rfl ?_
  refine g_iconst F 1 dL_law_213 (by decide) ?_
  refine u_iadd F dL_law_214 i0 1 ei rfl (by omega) (by omega) (fun y22 ey22 => ?_)
  refine g_sld F hX hbl hbA ((i0 + 1)).toNat (congrArg Int.toNat (show y22.toInt = (i0 + 1) by omega)) (ti_in rfl (by omega) (by omega)) dL_law_215 ?_
  refine g_aload_n F 3 dL_law_216 rfl rfl ?_
  refine g_iload_n F 0 dL_law_217 rfl rfl ?_
  refine g_iconst F 2 dL_law_218 (by decide) ?_
  refine u_iadd F dL_law_219 i0 2 ei rfl (by omega) (by omega) (fun y23 ey23 => ?_)
  refine g_sld F hX hbl hbA ((i0 + 2)).toNat (congrArg Int.toNat (show y23.toInt = (i0 + 2) by omega)) (ti_in rfl (by omega) (by omega)) dL_law_220 ?_
  refine g_aload_n F 3 dL_law_221 rfl rfl ?_
  refine g_iload_n F 0 dL_law_222 rfl rfl ?_
  refine g_iconst F 3 dL_law_223 (by decide) ?_
  refine u_iadd F dL_law_224 i0 3 ei rfl (by omega) (by omega) (fun y24 ey24 => ?_)
  refine g_sld F hX hbl hbA ((i0 + 3)).toNat (congrArg Int.toNat (show y24.toInt = (i0 + 3) by omega)) (ti_in rfl (by omega) (by omega)) dL_law_225 ?_
  refine g_aload_n F 3 dL_law_226 rfl rfl ?_
  refine g_iload_n F 0 dL_law_227 rfl rfl ?_
  refine g_iconst F 4 dL_law_228 (by decide) ?_
  refine u_iadd F dL_law_229 i0 4 ei rfl (by omega) (by omega) (fun y25 ey25 => ?_)
  refine g_sld F hX hbl hbA ((i0 + 4)).toNat (congrArg Int.toNat (show y25.toInt = (i0 + 4) by omega)) (ti_in rfl (by omega) (by omega)) dL_law_230 ?_
  refine g_aload_n F 3 dL_law_231 rfl rfl ?_
  refine g_iload_n F 0 dL_law_232 rfl rfl ?_
  refine g_iconst F 5 dL_law_233 (by decide) ?_
  refine u_iadd F dL_law_234 i0 5 ei rfl (by omega) (by omega) (fun y26 ey26 => ?_)
  refine g_sld F hX hbl hbA ((i0 + 5)).toNat (congrArg Int.toNat (show y26.toInt = (i0 + 5) by omega)) (ti_in rfl (by omega) (by omega)) dL_law_235 ?_
  refine u2_callVi (k := 139) (n := 10449) (b := b 0) (As := [.int (sx ((i0 + 1)).toNat), .int (sx ((i0 + 2)).toNat), .int (sx ((i0 + 3)).toNat), .int (sx ((i0 + 4)).toNat), .int (sx ((i0 + 5)).toNat)]) (st := []) (wc := (yW K b G2)) (wr := (xW K a G_7)) F (fun sz => S_X13_feed l D K b G2 (sx ((i0 + 1)).toNat) (sx ((i0 + 1)).toNat).toInt (sx ((i0 + 2)).toNat) (sx ((i0 + 2)).toNat).toInt (sx ((i0 + 3)).toNat) (sx ((i0 + 3)).toNat).toInt (sx ((i0 + 4)).toNat) (sx ((i0 + 4)).toNat).toInt (sx ((i0 + 5)).toNat) (sx ((i0 + 5)).toNat).toInt rfl rfl rfl rfl rfl hyI sz) (cwV 5 hts gL_law_X13_feed rfl rfl rfl (by decide +kernel) ⟨Nat.le_of_ble_eq_true rfl, Nat.le_of_ble_eq_true rfl⟩) rfl 0 yc_0 rfl (Nat.le_of_ble_eq_true rfl) ⟨Nat.le_of_ble_eq_true rfl, Nat.le_of_ble_eq_true rfl⟩ dL_law_236 (fun r27 G_28 hw29 => ?_)
  have hI30 : yI G_28 := hw29.1
  have hU31 : gu_un ycd [3, 200] G2 G_28 := hw29.2.1
  have q32 := hw29.2.2.2.1
  have q33 := hw29.2.2.2.2
  have w34 : yW3 G_28 := yW3.un h_w3 hU31 rfl
  have w_35 : G_28 46 = G2 46 := funext fun k_ => hU31 46 k_ (by simp [xcd, ycd])
  have t36 : G_28 0 72 = G2 0 72 := hU31 0 72 (by decide)
  have t36i := congrArg Int32.toInt t36
  have t37 : G_28 0 32 = G2 0 32 := hU31 0 32 (by decide)
  have t37i := congrArg Int32.toInt t37
  have t38 : G_28 0 8 = G2 0 8 := hU31 0 8 (by decide)
  have t38i := congrArg Int32.toInt t38
  have t39 : G_28 0 9 = G2 0 9 := hU31 0 9 (by decide)
  have t39i := congrArg Int32.toInt t39
  have t40 : G_28 0 45 = G2 0 45 := hU31 0 45 (by decide)
  have t40i := congrArg Int32.toInt t40
  have lNu41 := lNu.uny lNu21 hU31 rfl
  have hr0 : (G 18 0).toInt = (G2 3 0).toInt := congrArg Int32.toInt (hlN.1.1 0 (by decide))
  have hr1 : (G 18 1).toInt = (G2 3 1).toInt := congrArg Int32.toInt (hlN.1.1 1 (by decide))
  have hb0 : (4 : Int) ≤ (G 18 0).toInt ∧ (G 18 0).toInt ≤ 16 := hxI 18 0
  have hb1 : (1 : Int) ≤ (G 18 1).toInt ∧ (G 18 1).toInt ≤ 6 := hxI 18 1
  have pB42 : pcB (xPc G_7) (yPc G_28) := pcB.go hpB (pcB.xun hU10 rfl) (pcB.yun hU31 rfl)
  have pK43 : pcK (xPc G_7) (yPc G_28) := pcK.go hpK (pcK.xun hU10 rfl) (pcK.yun hU31 rfl)
  refine g_pop F dL_law_239 rfl ?_
  refine g_goto F 1385 dL_law_240 (by decide) ?_
  exact kE G_7 G_28 ⟨hI9, hI30, f13, w34, by omega, by omega, (by rcases q12 with ⟨a1, a2⟩ | a1 <;> rcases q33 with ⟨b1, b2⟩ | b1 <;> first | (exfalso; omega) | exact (fun i hi => by rw [b2 i (by omega), a2 i (by omega)]; exact htb i (by omega)) | exact (fun i hi => by rw [tFd.lo b1 i (by omega), a2 i (by omega)]; exact htb i (by omega)) | exact (fun i hi => by rw [b2 i (by omega), tFd.lo a1 i (by omega)]; exact htb i (by omega)) | exact (fun i hi => tFd.eq a1 (by rw [heq]; exact b1) (by have h9 := hxI 1 1; have h8 : (0 : Int) ≤ (G 1 1).toInt := h9.1; exact h8) htb i (by simp only [List.length_cons, List.length_nil]; omega))), by omega, fun i hi => by rw [w_35, w_14]; exact hsr i (by omega), by omega, by omega, lNu41, by omega, lG20, by omega, pB42, pK43⟩
set_option maxRecDepth 20000 in
theorem ggL_law_X11_end : GoodIn wsL_law wsX11_end := goodIn_rn _ [(275, 1), (15, 1), (253, 1), (1440, 14), (1527, 6)] rfl (by decide +kernel)
set_option maxRecDepth 20000 in
theorem gL_law_X11_end : GoodIn wsL_law (wsV RL 18 RX11 yX11_end wsX11_end) := goodIn_app (goodIn_of _ (by decide +kernel)) ggL_law_X11_end
set_option maxRecDepth 20000 in
theorem ggL_law_X13_end : GoodIn wsL_law wsX13_end := goodIn_rn _ [(279, 1), (267, 1), (280, 2), (5, 1), (282, 1), (1454, 73)] rfl (by decide +kernel)
set_option maxRecDepth 20000 in
theorem gL_law_X13_end : GoodIn wsL_law (wsV RL 22 RX13 yX13_end wsX13_end) := goodIn_app (goodIn_of _ (by decide +kernel)) ggL_law_X13_end
set_option maxHeartbeats 4000000 in
set_option maxRecDepth 100000 in
theorem law_c1 {p : Program} {e : Env} {s : State} {m : MethodId} {args : Array Value} {below : List Frame} {meth : Method} {c : Code} {A : Nat → Prop} {Q : State → Prop} (l : Launch) (D : va_G) (F : gF p s m args meth c cL_law RL 4 wsL_law A) (hts0 : ∀ w ∈ wsL_t, w.before args s = true) {zf : Nat → Nat} (hZ : xZ zf A s s.heap) {qs vs : Nat → Nat} (hY : yZ qs vs A s s.heap) {sb L : Nat} {sx : Nat → Int32} (hX : va_X sb L sx s s.heap) (hbl : sb < s.heap.size) (hbA : ¬ A sb) (hL : L ≤ 3584) (K : Nat → ClassId) (a b : Nat → Nat) (G G2 : gS) (hl : lI G G2) (i : Int32) (i0 : Int) (ei : i.toInt = i0) (h0 : 0 ≤ i0) (h7 : i0 + 7 ≤ L) (kE : ∀ G1 G3 : gS, lI G1 G3 → gG p l e (gR 2048 601024 7293033 84000) s m args below meth c D A 4 Q 139 10449 (xW K a G1 ++ yW K b G3) (tK K) [(3, .int i), (2, .ref (b 0)), (1, .ref (a 0)), (0, .ref sb)] 1385 []) : gG p l e (gR 2048 601024 7293033 84000) s m args below meth c D A 4 Q 139 10449 (xW K a G ++ yW K b G2) (tK K) [(3, .int i), (2, .ref (b 0)), (1, .ref (a 0)), (0, .ref sb)] 243 [] := by
  have hts := F.2.2.2.2.1
  obtain ⟨hxI, hyI, hf3, h_w3, hd0, heq, htb, hsc, hsr, hfk, hfp, hlN, hjm, hlG, h66, hpB, hpK⟩ := hl
  refine g_aload_n F 2 dL_law_243 rfl rfl ?_
  refine g_aload_n F 3 dL_law_244 rfl rfl ?_
  refine g_iload_n F 0 dL_law_245 rfl rfl ?_
  refine g_iconst F 1 dL_law_246 (by decide) ?_
  refine u_iadd F dL_law_247 i0 1 ei rfl (by omega) (by omega) (fun y1 ey1 => ?_)
  refine g_sld F hX hbl hbA ((i0 + 1)).toNat (congrArg Int.toNat (show y1.toInt = (i0 + 1) by omega)) (ti_in rfl (by omega) (by omega)) dL_law_248 ?_
  refine u2_callVi (k := 139) (n := 10449) (b := a 0) (As := [.int (sx ((i0 + 1)).toNat)]) (st := []) (wc := (xW K a G)) (wr := (yW K b G2)) F (fun sz => S_X11_end l D K a G (sx ((i0 + 1)).toNat) (sx ((i0 + 1)).toNat).toInt rfl hxI sz) (cwV 1 hts gL_law_X11_end rfl rfl rfl (by decide +kernel) ⟨Nat.le_of_ble_eq_true rfl, Nat.le_of_ble_eq_true rfl⟩) rfl 0 xc_0 rfl (Nat.le_of_ble_eq_true rfl) ⟨Nat.le_of_ble_eq_true rfl, Nat.le_of_ble_eq_true rfl⟩ dL_law_249 (fun r2 G_3 hw4 => ?_)
  have hI5 : xI G_3 := hw4.1
  have hU6 : gu_un xcd [102] G G_3 := hw4.2.1
  have q7 := hw4.2.2.2
  have f8 : xF3 G_3 := xF3.un hf3 hU6 rfl rfl rfl
  have w_9 : G_3 17 = G 17 := funext fun k_ => hU6 17 k_ (by simp [xcd, ycd])
  have w_10 : G_3 88 = G 88 := funext fun k_ => hU6 88 k_ (by simp [xcd, ycd])
  have t11 : G_3 10 2 = G 10 2 := hU6 10 2 (by decide)
  have t11i := congrArg Int32.toInt t11
  have t12 : G_3 0 12 = G 0 12 := hU6 0 12 (by decide)
  have t12i := congrArg Int32.toInt t12
  have t13 : G_3 0 13 = G 0 13 := hU6 0 13 (by decide)
  have t13i := congrArg Int32.toInt t13
  have t14 : G_3 8 3 = G 8 3 := hU6 8 3 (by decide)
  have t14i := congrArg Int32.toInt t14
  have t15 : G_3 6 6 = G 6 6 := hU6 6 6 (by decide)
  have t15i := congrArg Int32.toInt t15
  have lG16 := lG.un hlG hU6 rfl
  have lNu17 := lNu.unx hlN hU6 rfl
  refine g_pop F dL_law_252 rfl ?_
  refine g_aload_n F 1 dL_law_253 rfl rfl ?_
  refine g_aload_n F 3 dL_law_254 rfl rfl ?_
  refine g_iload_n F 0 dL_law_255 rfl rfl ?_
  refine g_iconst F 1 dL_law_256 (by decide) ?_
  refine u_iadd F dL_law_257 i0 1 ei rfl (by omega) (by omega) (fun y18 ey18 => ?_)
  refine g_sld F hX hbl hbA ((i0 + 1)).toNat (congrArg Int.toNat (show y18.toInt = (i0 + 1) by omega)) (ti_in rfl (by omega) (by omega)) dL_law_258 ?_
  refine u2_callVi (k := 139) (n := 10449) (b := b 0) (As := [.int (sx ((i0 + 1)).toNat)]) (st := []) (wc := (yW K b G2)) (wr := (xW K a G_3)) F (fun sz => S_X13_end l D K b G2 (sx ((i0 + 1)).toNat) (sx ((i0 + 1)).toNat).toInt rfl hyI sz) (cwV 1 hts gL_law_X13_end rfl rfl rfl (by decide +kernel) ⟨Nat.le_of_ble_eq_true rfl, Nat.le_of_ble_eq_true rfl⟩) rfl 0 yc_0 rfl (Nat.le_of_ble_eq_true rfl) ⟨Nat.le_of_ble_eq_true rfl, Nat.le_of_ble_eq_true rfl⟩ dL_law_259 (fun r19 G_20 hw21 => ?_)
  have hI22 : yI G_20 := hw21.1
  have hU23 : gu_un ycd [3] G2 G_20 := hw21.2.1
  have q24 := hw21.2.2.2
  have w25 : yW3 G_20 := yW3.un h_w3 hU23 rfl
  have w_26 : G_20 2 = G2 2 := funext fun k_ => hU23 2 k_ (by simp [xcd, ycd])
  have w_27 : G_20 46 = G2 46 := funext fun k_ => hU23 46 k_ (by simp [xcd, ycd])
  have t28 : G_20 0 72 = G2 0 72 := hU23 0 72 (by decide)
  have t28i := congrArg Int32.toInt t28
  have t29 : G_20 0 32 = G2 0 32 := hU23 0 32 (by decide)
  have t29i := congrArg Int32.toInt t29
  have t30 : G_20 0 8 = G2 0 8 := hU23 0 8 (by decide)
  have t30i := congrArg Int32.toInt t30
  have t31 : G_20 0 9 = G2 0 9 := hU23 0 9 (by decide)
  have t31i := congrArg Int32.toInt t31
  have t32 : G_20 0 45 = G2 0 45 := hU23 0 45 (by decide)
  have t32i := congrArg Int32.toInt t32
  have lNu33 := lNu.uny lNu17 hU23 rfl
  have hr0 : (G 18 0).toInt = (G2 3 0).toInt := congrArg Int32.toInt (hlN.1.1 0 (by decide))
  have hr1 : (G 18 1).toInt = (G2 3 1).toInt := congrArg Int32.toInt (hlN.1.1 1 (by decide))
  have hb0 : (4 : Int) ≤ (G 18 0).toInt ∧ (G 18 0).toInt ≤ 16 := hxI 18 0
  have hb1 : (1 : Int) ≤ (G 18 1).toInt ∧ (G 18 1).toInt ≤ 6 := hxI 18 1
  have pB34 : pcB (xPc G_3) (yPc G_20) := pcB.go hpB (pcB.xun hU6 rfl) (pcB.yun hU23 rfl)
  have pK35 : pcK (xPc G_3) (yPc G_20) := pcK.go hpK (pcK.xun hU6 rfl) (pcK.yun hU23 rfl)
  refine g_pop F dL_law_262 rfl ?_
  refine g_goto F 1385 dL_law_263 (by decide) ?_
  exact kE G_3 G_20 ⟨hI5, hI22, f8, w25, by omega, by omega, fun i hi => by first | (exfalso; omega) | (rw [w_26, w_9]; exact htb i (by omega)), by omega, fun i hi => by rw [w_27, w_10]; exact hsr i (by omega), by omega, by omega, lNu33, by omega, lG16, by omega, pB34, pK35⟩
set_option maxRecDepth 20000 in
theorem ggL_law_X11_shop : GoodIn wsL_law wsX11_shop := goodIn_rn _ [(286, 1), (24, 1), (287, 1), (19, 2), (28, 1), (40, 1), (44, 1), (288, 4), (23, 1), (292, 1), (105, 1), (293, 3), (104, 1), (296, 2), (75, 2), (18, 1), (77, 1), (61, 1), (78, 5), (65, 3), (83, 7), (64, 1), (90, 6), (71, 1), (96, 4), (298, 3), (14, 1), (301, 6), (258, 1), (307, 7), (56, 1), (314, 187), (73, 1), (501, 63), (2, 1), (564, 1), (15, 1), (565, 1), (51, 1), (253, 1), (566, 10), (115, 2), (27, 1), (117, 1), (110, 1), (112, 1), (118, 3), (576, 3), (39, 1), (579, 6), (43, 1), (585, 5), (1440, 14), (1537, 7), (1527, 10), (1602, 9), (1544, 5), (1577, 22)] rfl (by decide +kernel)
set_option maxRecDepth 20000 in
theorem gL_law_X11_shop : GoodIn wsL_law (wsV RL 23 RX11 yX11_shop wsX11_shop) := goodIn_app (goodIn_of _ (by decide +kernel)) ggL_law_X11_shop
set_option maxHeartbeats 4000000 in
set_option maxRecDepth 100000 in
theorem law_c2 {p : Program} {e : Env} {s : State} {m : MethodId} {args : Array Value} {below : List Frame} {meth : Method} {c : Code} {A : Nat → Prop} {Q : State → Prop} (l : Launch) (D : va_G) (F : gF p s m args meth c cL_law RL 4 wsL_law A) (hts0 : ∀ w ∈ wsL_t, w.before args s = true) {zf : Nat → Nat} (hZ : xZ zf A s s.heap) {qs vs : Nat → Nat} (hY : yZ qs vs A s s.heap) {sb L : Nat} {sx : Nat → Int32} (hX : va_X sb L sx s s.heap) (hbl : sb < s.heap.size) (hbA : ¬ A sb) (hL : L ≤ 3584) (K : Nat → ClassId) (a b : Nat → Nat) (G G2 : gS) (hl : lI G G2) (i : Int32) (i0 : Int) (ei : i.toInt = i0) (h0 : 0 ≤ i0) (h7 : i0 + 7 ≤ L) (kE : ∀ G1 G3 : gS, lI G1 G3 → gG p l e (gR 2048 601024 7293033 84000) s m args below meth c D A 4 Q 139 10449 (xW K a G1 ++ yW K b G3) (tK K) [(3, .int i), (2, .ref (b 0)), (1, .ref (a 0)), (0, .ref sb)] 1385 []) : gG p l e (gR 2048 601024 7293033 84000) s m args below meth c D A 4 Q 139 10449 (xW K a G ++ yW K b G2) (tK K) [(3, .int i), (2, .ref (b 0)), (1, .ref (a 0)), (0, .ref sb)] 266 [] := by
  have hts := F.2.2.2.2.1
  obtain ⟨hxI, hyI, hf3, h_w3, hd0, heq, htb, hsc, hsr, hfk, hfp, hlN, hjm, hlG, h66, hpB, hpK⟩ := hl
  refine g_aload_n F 2 dL_law_266 rfl rfl ?_
  refine u2z_callVi (k := 139) (n := 10449) (b := a 0) (As := []) (st := []) (wc := (xW K a G)) (wr := (yW K b G2)) F xZ_st hZ (fun sz => S_X11_shop l D K a G zf  hf3 hxI sz) (cwV 0 hts gL_law_X11_shop rfl rfl rfl (by decide +kernel) ⟨Nat.le_of_ble_eq_true rfl, Nat.le_of_ble_eq_true rfl⟩) rfl 0 xc_0 rfl (Nat.le_of_ble_eq_true rfl) ⟨Nat.le_of_ble_eq_true rfl, Nat.le_of_ble_eq_true rfl⟩ dL_law_267 (fun r1 G_2 hw3 => ?_)
  have hI4 : xI G_2 := hw3.1
  have hU5 : gu_un xcd [13, 14, 102, 103, 104, 105, 106, 403, 404, 405, 406, 407, 503, 504, 804, 809, 905, 907, 909, 910, 1102, 1202, 1302, 1402, 1405, 1406, 1407, 1408, 1409, 1502, 1505, 1506, 1507, 1508, 1509, 1602, 1605, 1606, 1607, 1608, 1609, 1800, 1900, 2000, 2300, 2600, 2900, 3100, 3200, 3400, 3500, 3700, 3800, 4000] G G_2 := hw3.2.1
  have q6 := hw3.2.2.2.1
  have q7 := hw3.2.2.2.2.1
  have q8 := hw3.2.2.2.2.2.1
  have q9 := hw3.2.2.2.2.2.2.1
  have q10 := hw3.2.2.2.2.2.2.2
  have f11 : xF3 G_2 := q7
  have w_12 : G_2 17 = G 17 := funext fun k_ => hU5 17 k_ (by simp [xcd, ycd])
  have w_13 : G_2 88 = G 88 := funext fun k_ => hU5 88 k_ (by simp [xcd, ycd])
  have t14 : G_2 10 2 = G 10 2 := hU5 10 2 (by decide)
  have t14i := congrArg Int32.toInt t14
  have t15 : G_2 6 6 = G 6 6 := hU5 6 6 (by decide)
  have t15i := congrArg Int32.toInt t15
  refine g_pop F dL_law_270 rfl ?_
  refine g_aload_n F 1 dL_law_271 rfl rfl ?_
  refine u2wz_callVi (k := 139) (n := 10449) (b := b 0) (As := []) (st := []) (wc := (yW K b G2)) (wr := (xW K a G_2)) F yZ_st hY (fun sz => S_X13_shop l D K b G2 qs vs  h_w3 hyI sz) (gw_cwV 0 hts0 gL_Tshop rfl rfl rfl (by decide +kernel) ⟨Nat.le_of_ble_eq_true rfl, Nat.le_of_ble_eq_true rfl⟩) rfl 0 yc_0 rfl (Nat.le_of_ble_eq_true rfl) ⟨Nat.le_of_ble_eq_true rfl, Nat.le_of_ble_eq_true rfl⟩ dL_law_272 (fun r16 G_17 hw18 => ?_)
  have hI19 : yI G_17 := hw18.1
  have hU20 : gu_un ycd [3, 4, 5, 6, 7, 8, 9, 10, 21, 22, 29, 30, 46, 54, 56, 57, 58, 59, 300, 400, 500, 600, 700, 800, 900, 1000, 1100, 1200, 1400, 1500] G2 G_17 := hw18.2.1
  have q21 := hw18.2.2.2.1
  have q22 := hw18.2.2.2.2.1
  have q23 := hw18.2.2.2.2.2.1
  have q24 := hw18.2.2.2.2.2.2.1
  have q25 := hw18.2.2.2.2.2.2.2
  have w26 : yW3 G_17 := q22
  have w_27 : G_17 2 = G2 2 := funext fun k_ => hU20 2 k_ (by simp [xcd, ycd])
  have w_28 : G_17 46 = G2 46 := funext fun k_ => hU20 46 k_ (by simp [xcd, ycd])
  have t29 : G_17 0 72 = G2 0 72 := hU20 0 72 (by decide)
  have t29i := congrArg Int32.toInt t29
  have t30 : G_17 0 32 = G2 0 32 := hU20 0 32 (by decide)
  have t30i := congrArg Int32.toInt t30
  obtain ⟨shr31, shr31f, shr31p, shr31n⟩ := shp_eq heq htb (show (0 : Int) ≤ (G 1 1).toInt from (hxI 1 1).1) hI19 (show xSH G G_2 r1.toInt from q8) (show ySH G2 G_17 r16.toInt from q23)
  have lNu32 := shr31n hlN
  have lG33 := shp_ok (show (0 : Int) ≤ (G 1 1).toInt from (hxI 1 1).1) (show xSH G G_2 r1.toInt from q8) hlG
  have hr0 : (G 18 0).toInt = (G2 3 0).toInt := congrArg Int32.toInt (hlN.1.1 0 (by decide))
  have hr1 : (G 18 1).toInt = (G2 3 1).toInt := congrArg Int32.toInt (hlN.1.1 1 (by decide))
  have hb0 : (4 : Int) ≤ (G 18 0).toInt ∧ (G 18 0).toInt ≤ 16 := hxI 18 0
  have hb1 : (1 : Int) ≤ (G 18 1).toInt ∧ (G 18 1).toInt ≤ 6 := hxI 18 1
  have pB34 : pcB (xPc G_2) (yPc G_17) := by rcases q10 with ⟨a1, a2⟩ | ⟨a1, a2⟩ <;> rcases q25 with ⟨b1, b2⟩ | ⟨b1, b2⟩ <;> first | exact pcF.eq a2 b2 | exact pcB.go hpB a2 b2 | (exfalso; omega)
  have pK35 : pcK (xPc G_2) (yPc G_17) := pcK.go hpK (pcK.xun hU5 rfl) (pcK.yun hU20 rfl)
  refine g_pop F dL_law_275 rfl ?_
  refine g_goto F 1385 dL_law_276 (by decide) ?_
  exact kE G_2 G_17 ⟨hI4, hI19, f11, w26, by omega, by omega, fun i hi => by first | (exfalso; omega) | (rw [w_27, w_12]; exact htb i (by omega)), by omega, fun i hi => by rw [w_28, w_13]; exact hsr i (by omega), by omega, by omega, lNu32, by omega, lG33, by omega, pB34, pK35⟩
set_option maxRecDepth 20000 in
theorem ggL_law_X11_fault : GoodIn wsL_law wsX11_fault := goodIn_rn _ [(687, 1), (287, 1), (51, 1), (1440, 14)] rfl (by decide +kernel)
set_option maxRecDepth 20000 in
theorem gL_law_X11_fault : GoodIn wsL_law (wsV RL 28 RX11 yX11_fault wsX11_fault) := goodIn_app (goodIn_of _ (by decide +kernel)) ggL_law_X11_fault
set_option maxRecDepth 20000 in
theorem ggL_law_X13_fault : GoodIn wsL_law wsX13_fault := goodIn_rn _ [(691, 1), (606, 1), (180, 1), (1454, 73)] rfl (by decide +kernel)
set_option maxRecDepth 20000 in
theorem gL_law_X13_fault : GoodIn wsL_law (wsV RL 31 RX13 yX13_fault wsX13_fault) := goodIn_app (goodIn_of _ (by decide +kernel)) ggL_law_X13_fault
set_option maxHeartbeats 4000000 in
set_option maxRecDepth 100000 in
theorem law_c3 {p : Program} {e : Env} {s : State} {m : MethodId} {args : Array Value} {below : List Frame} {meth : Method} {c : Code} {A : Nat → Prop} {Q : State → Prop} (l : Launch) (D : va_G) (F : gF p s m args meth c cL_law RL 4 wsL_law A) (hts0 : ∀ w ∈ wsL_t, w.before args s = true) {zf : Nat → Nat} (hZ : xZ zf A s s.heap) {qs vs : Nat → Nat} (hY : yZ qs vs A s s.heap) {sb L : Nat} {sx : Nat → Int32} (hX : va_X sb L sx s s.heap) (hbl : sb < s.heap.size) (hbA : ¬ A sb) (hL : L ≤ 3584) (K : Nat → ClassId) (a b : Nat → Nat) (G G2 : gS) (hl : lI G G2) (i : Int32) (i0 : Int) (ei : i.toInt = i0) (h0 : 0 ≤ i0) (h7 : i0 + 7 ≤ L) (kE : ∀ G1 G3 : gS, lI G1 G3 → gG p l e (gR 2048 601024 7293033 84000) s m args below meth c D A 4 Q 139 10449 (xW K a G1 ++ yW K b G3) (tK K) [(3, .int i), (2, .ref (b 0)), (1, .ref (a 0)), (0, .ref sb)] 1385 []) : gG p l e (gR 2048 601024 7293033 84000) s m args below meth c D A 4 Q 139 10449 (xW K a G ++ yW K b G2) (tK K) [(3, .int i), (2, .ref (b 0)), (1, .ref (a 0)), (0, .ref sb)] 279 [] := by
  have hts := F.2.2.2.2.1
  obtain ⟨hxI, hyI, hf3, h_w3, hd0, heq, htb, hsc, hsr, hfk, hfp, hlN, hjm, hlG, h66, hpB, hpK⟩ := hl
  refine g_aload_n F 2 dL_law_279 rfl rfl ?_
  refine g_aload_n F 3 dL_law_280 rfl rfl ?_
  refine g_iload_n F 0 dL_law_281 rfl rfl ?_
  refine g_iconst F 1 dL_law_282 (by decide) ?_
  refine u_iadd F dL_law_283 i0 1 ei rfl (by omega) (by omega) (fun y1 ey1 => ?_)
  refine g_sld F hX hbl hbA ((i0 + 1)).toNat (congrArg Int.toNat (show y1.toInt = (i0 + 1) by omega)) (ti_in rfl (by omega) (by omega)) dL_law_284 ?_
  refine u2_callVi (k := 139) (n := 10449) (b := a 0) (As := [.int (sx ((i0 + 1)).toNat)]) (st := []) (wc := (xW K a G)) (wr := (yW K b G2)) F (fun sz => S_X11_fault l D K a G (sx ((i0 + 1)).toNat) (sx ((i0 + 1)).toNat).toInt rfl hxI sz) (cwV 1 hts gL_law_X11_fault rfl rfl rfl (by decide +kernel) ⟨Nat.le_of_ble_eq_true rfl, Nat.le_of_ble_eq_true rfl⟩) rfl 0 xc_0 rfl (Nat.le_of_ble_eq_true rfl) ⟨Nat.le_of_ble_eq_true rfl, Nat.le_of_ble_eq_true rfl⟩ dL_law_285 (fun r2 _ hw4 => ?_)
  have q5 := hw4
  refine g_pop F dL_law_288 rfl ?_
  refine g_aload_n F 1 dL_law_289 rfl rfl ?_
  refine g_aload_n F 3 dL_law_290 rfl rfl ?_
  refine g_iload_n F 0 dL_law_291 rfl rfl ?_
  refine g_iconst F 1 dL_law_292 (by decide) ?_
  refine u_iadd F dL_law_293 i0 1 ei rfl (by omega) (by omega) (fun y6 ey6 => ?_)
  refine g_sld F hX hbl hbA ((i0 + 1)).toNat (congrArg Int.toNat (show y6.toInt = (i0 + 1) by omega)) (ti_in rfl (by omega) (by omega)) dL_law_294 ?_
  refine u2_callVi (k := 139) (n := 10449) (b := b 0) (As := [.int (sx ((i0 + 1)).toNat)]) (st := []) (wc := (yW K b G2)) (wr := (xW K a G)) F (fun sz => S_X13_fault l D K b G2 (sx ((i0 + 1)).toNat) (sx ((i0 + 1)).toNat).toInt rfl hyI sz) (cwV 1 hts gL_law_X13_fault rfl rfl rfl (by decide +kernel) ⟨Nat.le_of_ble_eq_true rfl, Nat.le_of_ble_eq_true rfl⟩) rfl 0 yc_0 rfl (Nat.le_of_ble_eq_true rfl) ⟨Nat.le_of_ble_eq_true rfl, Nat.le_of_ble_eq_true rfl⟩ dL_law_295 (fun r7 _ hw9 => ?_)
  have q10 := hw9
  have hr0 : (G 18 0).toInt = (G2 3 0).toInt := congrArg Int32.toInt (hlN.1.1 0 (by decide))
  have hr1 : (G 18 1).toInt = (G2 3 1).toInt := congrArg Int32.toInt (hlN.1.1 1 (by decide))
  have hb0 : (4 : Int) ≤ (G 18 0).toInt ∧ (G 18 0).toInt ≤ 16 := hxI 18 0
  have hb1 : (1 : Int) ≤ (G 18 1).toInt ∧ (G 18 1).toInt ≤ 6 := hxI 18 1
  have pB11 : pcB (xPc G) (yPc G2) := pcB.go hpB pcB.rf pcB.rf
  have pK12 : pcK (xPc G) (yPc G2) := pcK.go hpK pcK.rf pcK.rf
  refine g_pop F dL_law_298 rfl ?_
  refine g_goto F 1385 dL_law_299 (by decide) ?_
  exact kE G G2 ⟨hxI, hyI, hf3, h_w3, by omega, by omega, fun i hi => by first | (exfalso; omega) | (exact htb i (by omega)), by omega, fun i hi => by exact hsr i (by omega), by omega, by omega, hlN, by omega, hlG, by omega, pB11, pK12⟩
set_option maxRecDepth 20000 in
theorem ggL_law_X11_told : GoodIn wsL_law wsX11_told := goodIn_rn _ [(695, 1), (19, 1), (696, 3), (18, 1), (699, 1), (61, 1), (1440, 14), (1533, 4)] rfl (by decide +kernel)
set_option maxRecDepth 20000 in
theorem gL_law_X11_told : GoodIn wsL_law (wsV RL 32 RX11 yX11_told wsX11_told) := goodIn_app (goodIn_of _ (by decide +kernel)) ggL_law_X11_told
set_option maxRecDepth 20000 in
theorem ggL_law_X13_told : GoodIn wsL_law wsX13_told := goodIn_rn _ [(703, 2), (181, 1), (705, 2), (183, 1), (707, 2), (185, 1), (280, 2), (5, 1), (282, 1), (1454, 73)] rfl (by decide +kernel)
set_option maxRecDepth 20000 in
theorem gL_law_X13_told : GoodIn wsL_law (wsV RL 35 RX13 yX13_told wsX13_told) := goodIn_app (goodIn_of _ (by decide +kernel)) ggL_law_X13_told
set_option maxHeartbeats 4000000 in
set_option maxRecDepth 100000 in
theorem law_c4 {p : Program} {e : Env} {s : State} {m : MethodId} {args : Array Value} {below : List Frame} {meth : Method} {c : Code} {A : Nat → Prop} {Q : State → Prop} (l : Launch) (D : va_G) (F : gF p s m args meth c cL_law RL 4 wsL_law A) (hts0 : ∀ w ∈ wsL_t, w.before args s = true) {zf : Nat → Nat} (hZ : xZ zf A s s.heap) {qs vs : Nat → Nat} (hY : yZ qs vs A s s.heap) {sb L : Nat} {sx : Nat → Int32} (hX : va_X sb L sx s s.heap) (hbl : sb < s.heap.size) (hbA : ¬ A sb) (hL : L ≤ 3584) (K : Nat → ClassId) (a b : Nat → Nat) (G G2 : gS) (hl : lI G G2) (i : Int32) (i0 : Int) (ei : i.toInt = i0) (h0 : 0 ≤ i0) (h7 : i0 + 7 ≤ L) (kE : ∀ G1 G3 : gS, lI G1 G3 → gG p l e (gR 2048 601024 7293033 84000) s m args below meth c D A 4 Q 139 10449 (xW K a G1 ++ yW K b G3) (tK K) [(3, .int i), (2, .ref (b 0)), (1, .ref (a 0)), (0, .ref sb)] 1385 []) : gG p l e (gR 2048 601024 7293033 84000) s m args below meth c D A 4 Q 139 10449 (xW K a G ++ yW K b G2) (tK K) [(3, .int i), (2, .ref (b 0)), (1, .ref (a 0)), (0, .ref sb)] 302 [] := by
  have hts := F.2.2.2.2.1
  obtain ⟨hxI, hyI, hf3, h_w3, hd0, heq, htb, hsc, hsr, hfk, hfp, hlN, hjm, hlG, h66, hpB, hpK⟩ := hl
  refine g_aload_n F 2 dL_law_302 rfl rfl ?_
  refine g_aload_n F 3 dL_law_303 rfl rfl ?_
  refine g_iload_n F 0 dL_law_304 rfl rfl ?_
  refine g_iconst F 1 dL_law_305 (by decide) ?_
  refine u_iadd F dL_law_306 i0 1 ei rfl (by omega) (by omega) (fun y1 ey1 => ?_)
  refine g_sld F hX hbl hbA ((i0 + 1)).toNat (congrArg Int.toNat (show y1.toInt = (i0 + 1) by omega)) (ti_in rfl (by omega) (by omega)) dL_law_307 ?_
  refine u2_callVi (k := 139) (n := 10449) (b := a 0) (As := [.int (sx ((i0 + 1)).toNat)]) (st := []) (wc := (xW K a G)) (wr := (yW K b G2)) F (fun sz => S_X11_told l D K a G (sx ((i0 + 1)).toNat) (sx ((i0 + 1)).toNat).toInt rfl hxI sz) (cwV 1 hts gL_law_X11_told rfl rfl rfl (by decide +kernel) ⟨Nat.le_of_ble_eq_true rfl, Nat.le_of_ble_eq_true rfl⟩) rfl 0 xc_0 rfl (Nat.le_of_ble_eq_true rfl) ⟨Nat.le_of_ble_eq_true rfl, Nat.le_of_ble_eq_true rfl⟩ dL_law_308 (fun r2 _ hw4 => ?_)
  have q5 := hw4
  refine g_pop F dL_law_311 rfl ?_
  refine g_aload_n F 1 dL_law_312 rfl rfl ?_
  refine g_aload_n F 3 dL_law_313 rfl rfl ?_
  refine g_iload_n F 0 dL_law_314 rfl rfl ?_
  refine g_iconst F 1 dL_law_315 (by decide) ?_
  refine u_iadd F dL_law_316 i0 1 ei rfl (by omega) (by omega) (fun y6 ey6 => ?_)
  refine g_sld F hX hbl hbA ((i0 + 1)).toNat (congrArg Int.toNat (show y6.toInt = (i0 + 1) by omega)) (ti_in rfl (by omega) (by omega)) dL_law_317 ?_
  refine u2_callVi (k := 139) (n := 10449) (b := b 0) (As := [.int (sx ((i0 + 1)).toNat)]) (st := []) (wc := (yW K b G2)) (wr := (xW K a G)) F (fun sz => S_X13_told l D K b G2 (sx ((i0 + 1)).toNat) (sx ((i0 + 1)).toNat).toInt rfl hyI sz) (cwV 1 hts gL_law_X13_told rfl rfl rfl (by decide +kernel) ⟨Nat.le_of_ble_eq_true rfl, Nat.le_of_ble_eq_true rfl⟩) rfl 0 yc_0 rfl (Nat.le_of_ble_eq_true rfl) ⟨Nat.le_of_ble_eq_true rfl, Nat.le_of_ble_eq_true rfl⟩ dL_law_318 (fun r7 _ hw9 => ?_)
  have q10 := hw9
  have tld : r2.toInt = r7.toInt := tld_eq hyI hlN.1 q5 q10
  have hr0 : (G 18 0).toInt = (G2 3 0).toInt := congrArg Int32.toInt (hlN.1.1 0 (by decide))
  have hr1 : (G 18 1).toInt = (G2 3 1).toInt := congrArg Int32.toInt (hlN.1.1 1 (by decide))
  have hb0 : (4 : Int) ≤ (G 18 0).toInt ∧ (G 18 0).toInt ≤ 16 := hxI 18 0
  have hb1 : (1 : Int) ≤ (G 18 1).toInt ∧ (G 18 1).toInt ≤ 6 := hxI 18 1
  have pB11 : pcB (xPc G) (yPc G2) := pcB.go hpB pcB.rf pcB.rf
  have pK12 : pcK (xPc G) (yPc G2) := pcK.go hpK pcK.rf pcK.rf
  refine g_pop F dL_law_321 rfl ?_
  refine g_goto F 1385 dL_law_322 (by decide) ?_
  exact kE G G2 ⟨hxI, hyI, hf3, h_w3, by omega, by omega, fun i hi => by first | (exfalso; omega) | (exact htb i (by omega)), by omega, fun i hi => by exact hsr i (by omega), by omega, by omega, hlN, by omega, hlG, by omega, pB11, pK12⟩
set_option maxRecDepth 20000 in
theorem ggL_law_X11_tells : GoodIn wsL_law wsX11_tells := goodIn_rn _ [(712, 1), (19, 1), (713, 1), (468, 2), (18, 1), (470, 1), (65, 3), (714, 3), (64, 1), (717, 1), (91, 1), (71, 2), (718, 3), (1440, 14), (1533, 4), (1602, 9)] rfl (by decide +kernel)
set_option maxRecDepth 20000 in
theorem gL_law_X11_tells : GoodIn wsL_law (wsV RL 36 RX11 yX11_tells wsX11_tells) := goodIn_app (goodIn_of _ (by decide +kernel)) ggL_law_X11_tells
set_option maxRecDepth 20000 in
theorem ggL_law_X13_tells : GoodIn wsL_law wsX13_tells := goodIn_rn _ [(724, 2), (280, 2), (5, 1), (282, 1), (726, 4), (191, 1), (190, 1), (189, 1), (192, 1), (730, 3), (1454, 73)] rfl (by decide +kernel)
set_option maxRecDepth 20000 in
theorem gL_law_X13_tells : GoodIn wsL_law (wsV RL 40 RX13 yX13_tells wsX13_tells) := goodIn_app (goodIn_of _ (by decide +kernel)) ggL_law_X13_tells
set_option maxHeartbeats 4000000 in
set_option maxRecDepth 100000 in
theorem law_c5 {p : Program} {e : Env} {s : State} {m : MethodId} {args : Array Value} {below : List Frame} {meth : Method} {c : Code} {A : Nat → Prop} {Q : State → Prop} (l : Launch) (D : va_G) (F : gF p s m args meth c cL_law RL 4 wsL_law A) (hts0 : ∀ w ∈ wsL_t, w.before args s = true) {zf : Nat → Nat} (hZ : xZ zf A s s.heap) {qs vs : Nat → Nat} (hY : yZ qs vs A s s.heap) {sb L : Nat} {sx : Nat → Int32} (hX : va_X sb L sx s s.heap) (hbl : sb < s.heap.size) (hbA : ¬ A sb) (hL : L ≤ 3584) (K : Nat → ClassId) (a b : Nat → Nat) (G G2 : gS) (hl : lI G G2) (i : Int32) (i0 : Int) (ei : i.toInt = i0) (h0 : 0 ≤ i0) (h7 : i0 + 7 ≤ L) (kE : ∀ G1 G3 : gS, lI G1 G3 → gG p l e (gR 2048 601024 7293033 84000) s m args below meth c D A 4 Q 139 10449 (xW K a G1 ++ yW K b G3) (tK K) [(3, .int i), (2, .ref (b 0)), (1, .ref (a 0)), (0, .ref sb)] 1385 []) : gG p l e (gR 2048 601024 7293033 84000) s m args below meth c D A 4 Q 139 10449 (xW K a G ++ yW K b G2) (tK K) [(3, .int i), (2, .ref (b 0)), (1, .ref (a 0)), (0, .ref sb)] 325 [] := by
  have hts := F.2.2.2.2.1
  obtain ⟨hxI, hyI, hf3, h_w3, hd0, heq, htb, hsc, hsr, hfk, hfp, hlN, hjm, hlG, h66, hpB, hpK⟩ := hl
  refine g_aload_n F 2 dL_law_325 rfl rfl ?_
  refine g_aload_n F 3 dL_law_326 rfl rfl ?_
  refine g_iload_n F 0 dL_law_327 rfl rfl ?_
  refine g_iconst F 1 dL_law_328 (by decide) ?_
  refine u_iadd F dL_law_329 i0 1 ei rfl (by omega) (by omega) (fun y1 ey1 => ?_)
  refine g_sld F hX hbl hbA ((i0 + 1)).toNat (congrArg Int.toNat (show y1.toInt = (i0 + 1) by omega)) (ti_in rfl (by omega) (by omega)) dL_law_330 ?_
  refine g_aload_n F 3 dL_law_331 rfl rfl ?_
  refine g_iload_n F 0 dL_law_332 rfl rfl ?_
  refine g_iconst F 2 dL_law_333 (by decide) ?_
  refine u_iadd F dL_law_334 i0 2 ei rfl (by omega) (by omega) (fun y2 ey2 => ?_)
  refine g_sld F hX hbl hbA ((i0 + 2)).toNat (congrArg Int.toNat (show y2.toInt = (i0 + 2) by omega)) (ti_in rfl (by omega) (by omega)) dL_law_335 ?_
  refine g_aload_n F 3 dL_law_336 rfl rfl ?_
  refine g_iload_n F 0 dL_law_337 rfl rfl ?_
  refine g_iconst F 3 dL_law_338 (by decide) ?_
  refine u_iadd F dL_law_339 i0 3 ei rfl (by omega) (by omega) (fun y3 ey3 => ?_)
  refine g_sld F hX hbl hbA ((i0 + 3)).toNat (congrArg Int.toNat (show y3.toInt = (i0 + 3) by omega)) (ti_in rfl (by omega) (by omega)) dL_law_340 ?_
  refine u2_callVi (k := 139) (n := 10449) (b := a 0) (As := [.int (sx ((i0 + 1)).toNat), .int (sx ((i0 + 2)).toNat), .int (sx ((i0 + 3)).toNat)]) (st := []) (wc := (xW K a G)) (wr := (yW K b G2)) F (fun sz => S_X11_tells l D K a G (sx ((i0 + 1)).toNat) (sx ((i0 + 1)).toNat).toInt (sx ((i0 + 2)).toNat) (sx ((i0 + 2)).toNat).toInt (sx ((i0 + 3)).toNat) (sx ((i0 + 3)).toNat).toInt rfl rfl rfl hxI sz) (cwV 3 hts gL_law_X11_tells rfl rfl rfl (by decide +kernel) ⟨Nat.le_of_ble_eq_true rfl, Nat.le_of_ble_eq_true rfl⟩) rfl 0 xc_0 rfl (Nat.le_of_ble_eq_true rfl) ⟨Nat.le_of_ble_eq_true rfl, Nat.le_of_ble_eq_true rfl⟩ dL_law_341 (fun r4 G_5 hw6 => ?_)
  have hI7 : xI G_5 := hw6.1
  have hU8 : gu_un xcd [2100, 2400, 2700] G G_5 := hw6.2.1
  have q9 := hw6.2.2
  have f10 : xF3 G_5 := xF3.un hf3 hU8 rfl rfl rfl
  have w_11 : G_5 17 = G 17 := funext fun k_ => hU8 17 k_ (by simp [xcd, ycd])
  have w_12 : G_5 88 = G 88 := funext fun k_ => hU8 88 k_ (by simp [xcd, ycd])
  have t13 : G_5 10 2 = G 10 2 := hU8 10 2 (by decide)
  have t13i := congrArg Int32.toInt t13
  have t14 : G_5 1 1 = G 1 1 := hU8 1 1 (by decide)
  have t14i := congrArg Int32.toInt t14
  have t15 : G_5 0 12 = G 0 12 := hU8 0 12 (by decide)
  have t15i := congrArg Int32.toInt t15
  have t16 : G_5 0 13 = G 0 13 := hU8 0 13 (by decide)
  have t16i := congrArg Int32.toInt t16
  have t17 : G_5 8 3 = G 8 3 := hU8 8 3 (by decide)
  have t17i := congrArg Int32.toInt t17
  have t18 : G_5 6 6 = G 6 6 := hU8 6 6 (by decide)
  have t18i := congrArg Int32.toInt t18
  have lG19 := lG.un hlG hU8 rfl
  have lNu20 := lNu.unx hlN hU8 rfl
  refine g_pop F dL_law_344 rfl ?_
  refine g_aload_n F 1 dL_law_345 rfl rfl ?_
  refine g_aload_n F 3 dL_law_346 rfl rfl ?_
  refine g_iload_n F 0 dL_law_347 rfl rfl ?_
  refine g_iconst F 1 dL_law_348 (by decide) ?_
  refine u_iadd F dL_law_349 i0 1 ei rfl (by omega) (by omega) (fun y21 ey21 => ?_)
  refine g_sld F hX hbl hbA ((i0 + 1)).toNat (congrArg Int.toNat (show y21.toInt = (i0 + 1) by omega)) (ti_in rfl (by omega) (by omega)) dL_law_350 ?_
  refine g_aload_n F 3 dL_law_351 rfl rfl ?_
  refine g_iload_n F 0 dL_law_352 rfl rfl ?_
  refine g_iconst F 2 dL_law_353 (by decide) ?_
  refine u_iadd F dL_law_354 i0 2 ei rfl (by omega) (by omega) (fun y22 ey22 => ?_)
  refine g_sld F hX hbl hbA ((i0 + 2)).toNat (congrArg Int.toNat (show y22.toInt = (i0 + 2) by omega)) (ti_in rfl (by omega) (by omega)) dL_law_355 ?_
  refine g_aload_n F 3 dL_law_356 rfl rfl ?_
  refine g_iload_n F 0 dL_law_357 rfl rfl ?_
  refine g_iconst F 3 dL_law_358 (by decide) ?_
  refine u_iadd F dL_law_359 i0 3 ei rfl (by omega) (by omega) (fun y23 ey23 => ?_)
  refine g_sld F hX hbl hbA ((i0 + 3)).toNat (congrArg Int.toNat (show y23.toInt = (i0 + 3) by omega)) (ti_in rfl (by omega) (by omega)) dL_law_360 ?_
  refine u2_callVi (k := 139) (n := 10449) (b := b 0) (As := [.int (sx ((i0 + 1)).toNat), .int (sx ((i0 + 2)).toNat), .int (sx ((i0 + 3)).toNat)]) (st := []) (wc := (yW K b G2)) (wr := (xW K a G_5)) F (fun sz => S_X13_tells l D K b G2 (sx ((i0 + 1)).toNat) (sx ((i0 + 1)).toNat).toInt (sx ((i0 + 2)).toNat) (sx ((i0 + 2)).toNat).toInt (sx ((i0 + 3)).toNat) (sx ((i0 + 3)).toNat).toInt rfl rfl rfl h_w3 hyI sz) (cwV 3 hts gL_law_X13_tells rfl rfl rfl (by decide +kernel) ⟨Nat.le_of_ble_eq_true rfl, Nat.le_of_ble_eq_true rfl⟩) rfl 0 yc_0 rfl (Nat.le_of_ble_eq_true rfl) ⟨Nat.le_of_ble_eq_true rfl, Nat.le_of_ble_eq_true rfl⟩ dL_law_361 (fun r24 G_25 hw26 => ?_)
  have hI27 : yI G_25 := hw26.1
  have hU28 : gu_un ycd [1300] G2 G_25 := hw26.2.1
  have q29 := hw26.2.2
  have w30 : yW3 G_25 := yW3.un h_w3 hU28 rfl
  have w_31 : G_25 2 = G2 2 := funext fun k_ => hU28 2 k_ (by simp [xcd, ycd])
  have w_32 : G_25 46 = G2 46 := funext fun k_ => hU28 46 k_ (by simp [xcd, ycd])
  have t33 : G_25 0 72 = G2 0 72 := hU28 0 72 (by decide)
  have t33i := congrArg Int32.toInt t33
  have t34 : G_25 0 2 = G2 0 2 := hU28 0 2 (by decide)
  have t34i := congrArg Int32.toInt t34
  have t35 : G_25 0 32 = G2 0 32 := hU28 0 32 (by decide)
  have t35i := congrArg Int32.toInt t35
  have t36 : G_25 0 8 = G2 0 8 := hU28 0 8 (by decide)
  have t36i := congrArg Int32.toInt t36
  have t37 : G_25 0 9 = G2 0 9 := hU28 0 9 (by decide)
  have t37i := congrArg Int32.toInt t37
  have t38 : G_25 0 45 = G2 0 45 := hU28 0 45 (by decide)
  have t38i := congrArg Int32.toInt t38
  have lNu39 := lNu.uny lNu20 hU28 rfl
  have tel : r4.toInt = r24.toInt := tel_eq hlN hlG q9 q29
  have hr0 : (G 18 0).toInt = (G2 3 0).toInt := congrArg Int32.toInt (hlN.1.1 0 (by decide))
  have hr1 : (G 18 1).toInt = (G2 3 1).toInt := congrArg Int32.toInt (hlN.1.1 1 (by decide))
  have hb0 : (4 : Int) ≤ (G 18 0).toInt ∧ (G 18 0).toInt ≤ 16 := hxI 18 0
  have hb1 : (1 : Int) ≤ (G 18 1).toInt ∧ (G 18 1).toInt ≤ 6 := hxI 18 1
  have pB40 : pcB (xPc G_5) (yPc G_25) := pcB.go hpB (pcB.xun hU8 rfl) (pcB.yun hU28 rfl)
  have pK41 : pcK (xPc G_5) (yPc G_25) := pcK.go hpK (pcK.xun hU8 rfl) (pcK.yun hU28 rfl)
  refine g_pop F dL_law_364 rfl ?_
  refine g_goto F 1385 dL_law_365 (by decide) ?_
  exact kE G_5 G_25 ⟨hI7, hI27, f10, w30, by omega, by omega, fun i hi => by first | (exfalso; omega) | (rw [w_31, w_11]; exact htb i (by omega)), by omega, fun i hi => by rw [w_32, w_12]; exact hsr i (by omega), by omega, by omega, lNu39, by omega, lG19, by omega, pB40, pK41⟩
set_option maxRecDepth 20000 in
theorem ggL_law_X11_piece : GoodIn wsL_law wsX11_piece := goodIn_rn _ [(736, 1), (28, 1), (737, 2), (27, 1), (739, 1), (575, 1), (115, 3), (110, 1), (112, 1), (118, 3), (84, 3), (1440, 14), (1544, 5)] rfl (by decide +kernel)
set_option maxRecDepth 20000 in
theorem gL_law_X11_piece : GoodIn wsL_law (wsV RL 41 RX11 yX11_piece wsX11_piece) := goodIn_app (goodIn_of _ (by decide +kernel)) ggL_law_X11_piece
set_option maxRecDepth 20000 in
theorem ggL_law_X13_piece : GoodIn wsL_law wsX13_piece := goodIn_rn _ [(743, 3), (280, 2), (5, 1), (282, 1), (243, 4), (193, 2), (247, 2), (1454, 73)] rfl (by decide +kernel)
set_option maxRecDepth 20000 in
theorem gL_law_X13_piece : GoodIn wsL_law (wsV RL 44 RX13 yX13_piece wsX13_piece) := goodIn_app (goodIn_of _ (by decide +kernel)) ggL_law_X13_piece
set_option maxHeartbeats 4000000 in
set_option maxRecDepth 100000 in
theorem law_c6 {p : Program} {e : Env} {s : State} {m : MethodId} {args : Array Value} {below : List Frame} {meth : Method} {c : Code} {A : Nat → Prop} {Q : State → Prop} (l : Launch) (D : va_G) (F : gF p s m args meth c cL_law RL 4 wsL_law A) (hts0 : ∀ w ∈ wsL_t, w.before args s = true) {zf : Nat → Nat} (hZ : xZ zf A s s.heap) {qs vs : Nat → Nat} (hY : yZ qs vs A s s.heap) {sb L : Nat} {sx : Nat → Int32} (hX : va_X sb L sx s s.heap) (hbl : sb < s.heap.size) (hbA : ¬ A sb) (hL : L ≤ 3584) (K : Nat → ClassId) (a b : Nat → Nat) (G G2 : gS) (hl : lI G G2) (i : Int32) (i0 : Int) (ei : i.toInt = i0) (h0 : 0 ≤ i0) (h7 : i0 + 7 ≤ L) (kE : ∀ G1 G3 : gS, lI G1 G3 → gG p l e (gR 2048 601024 7293033 84000) s m args below meth c D A 4 Q 139 10449 (xW K a G1 ++ yW K b G3) (tK K) [(3, .int i), (2, .ref (b 0)), (1, .ref (a 0)), (0, .ref sb)] 1385 []) : gG p l e (gR 2048 601024 7293033 84000) s m args below meth c D A 4 Q 139 10449 (xW K a G ++ yW K b G2) (tK K) [(3, .int i), (2, .ref (b 0)), (1, .ref (a 0)), (0, .ref sb)] 368 [] := by
  have hts := F.2.2.2.2.1
  obtain ⟨hxI, hyI, hf3, h_w3, hd0, heq, htb, hsc, hsr, hfk, hfp, hlN, hjm, hlG, h66, hpB, hpK⟩ := hl
  refine g_aload_n F 2 dL_law_368 rfl rfl ?_
  refine g_aload_n F 3 dL_law_369 rfl rfl ?_
  refine g_iload_n F 0 dL_law_370 rfl rfl ?_
  refine g_iconst F 1 dL_law_371 (by decide) ?_
  refine u_iadd F dL_law_372 i0 1 ei rfl (by omega) (by omega) (fun y1 ey1 => ?_)
  refine g_sld F hX hbl hbA ((i0 + 1)).toNat (congrArg Int.toNat (show y1.toInt = (i0 + 1) by omega)) (ti_in rfl (by omega) (by omega)) dL_law_373 ?_
  refine u2_callVi (k := 139) (n := 10449) (b := a 0) (As := [.int (sx ((i0 + 1)).toNat)]) (st := []) (wc := (xW K a G)) (wr := (yW K b G2)) F (fun sz => S_X11_piece l D K a G (sx ((i0 + 1)).toNat) (sx ((i0 + 1)).toNat).toInt rfl hxI sz) (cwV 1 hts gL_law_X11_piece rfl rfl rfl (by decide +kernel) ⟨Nat.le_of_ble_eq_true rfl, Nat.le_of_ble_eq_true rfl⟩) rfl 0 xc_0 rfl (Nat.le_of_ble_eq_true rfl) ⟨Nat.le_of_ble_eq_true rfl, Nat.le_of_ble_eq_true rfl⟩ dL_law_374 (fun r2 G_3 hw4 => ?_)
  have hI5 : xI G_3 := hw4.1
  have hU6 : gu_un xcd [503, 504, 3800, 4000] G G_3 := hw4.2.1
  have q7 := hw4.2.2.2.1
  have q8 := hw4.2.2.2.2
  have f9 : xF3 G_3 := xF3.un hf3 hU6 rfl rfl rfl
  have w_10 : G_3 17 = G 17 := funext fun k_ => hU6 17 k_ (by simp [xcd, ycd])
  have w_11 : G_3 88 = G 88 := funext fun k_ => hU6 88 k_ (by simp [xcd, ycd])
  have t12 : G_3 10 2 = G 10 2 := hU6 10 2 (by decide)
  have t12i := congrArg Int32.toInt t12
  have t13 : G_3 1 1 = G 1 1 := hU6 1 1 (by decide)
  have t13i := congrArg Int32.toInt t13
  have t14 : G_3 0 12 = G 0 12 := hU6 0 12 (by decide)
  have t14i := congrArg Int32.toInt t14
  have t15 : G_3 0 13 = G 0 13 := hU6 0 13 (by decide)
  have t15i := congrArg Int32.toInt t15
  have t16 : G_3 8 3 = G 8 3 := hU6 8 3 (by decide)
  have t16i := congrArg Int32.toInt t16
  have t17 : G_3 6 6 = G 6 6 := hU6 6 6 (by decide)
  have t17i := congrArg Int32.toInt t17
  have lG18 := lG.un hlG hU6 rfl
  have lNu19 := lNu.unx hlN hU6 rfl
  refine g_pop F dL_law_377 rfl ?_
  refine g_aload_n F 1 dL_law_378 rfl rfl ?_
  refine g_aload_n F 3 dL_law_379 rfl rfl ?_
  refine g_iload_n F 0 dL_law_380 rfl rfl ?_
  refine g_iconst F 1 dL_law_381 (by decide) ?_
  refine u_iadd F dL_law_382 i0 1 ei rfl (by omega) (by omega) (fun y20 ey20 => ?_)
  refine g_sld F hX hbl hbA ((i0 + 1)).toNat (congrArg Int.toNat (show y20.toInt = (i0 + 1) by omega)) (ti_in rfl (by omega) (by omega)) dL_law_383 ?_
  refine u2_callVi (k := 139) (n := 10449) (b := b 0) (As := [.int (sx ((i0 + 1)).toNat)]) (st := []) (wc := (yW K b G2)) (wr := (xW K a G_3)) F (fun sz => S_X13_piece l D K b G2 (sx ((i0 + 1)).toNat) (sx ((i0 + 1)).toNat).toInt rfl hyI sz) (cwV 1 hts gL_law_X13_piece rfl rfl rfl (by decide +kernel) ⟨Nat.le_of_ble_eq_true rfl, Nat.le_of_ble_eq_true rfl⟩) rfl 0 yc_0 rfl (Nat.le_of_ble_eq_true rfl) ⟨Nat.le_of_ble_eq_true rfl, Nat.le_of_ble_eq_true rfl⟩ dL_law_384 (fun r21 G_22 hw23 => ?_)
  have hI24 : yI G_22 := hw23.1
  have hU25 : gu_un ycd [29, 30, 1400, 1500] G2 G_22 := hw23.2.1
  have q26 := hw23.2.2.2.1
  have q27 := hw23.2.2.2.2
  have w28 : yW3 G_22 := yW3.un h_w3 hU25 rfl
  have w_29 : G_22 2 = G2 2 := funext fun k_ => hU25 2 k_ (by simp [xcd, ycd])
  have w_30 : G_22 46 = G2 46 := funext fun k_ => hU25 46 k_ (by simp [xcd, ycd])
  have t31 : G_22 0 72 = G2 0 72 := hU25 0 72 (by decide)
  have t31i := congrArg Int32.toInt t31
  have t32 : G_22 0 2 = G2 0 2 := hU25 0 2 (by decide)
  have t32i := congrArg Int32.toInt t32
  have t33 : G_22 0 32 = G2 0 32 := hU25 0 32 (by decide)
  have t33i := congrArg Int32.toInt t33
  have t34 : G_22 0 8 = G2 0 8 := hU25 0 8 (by decide)
  have t34i := congrArg Int32.toInt t34
  have t35 : G_22 0 9 = G2 0 9 := hU25 0 9 (by decide)
  have t35i := congrArg Int32.toInt t35
  have t36 : G_22 0 45 = G2 0 45 := hU25 0 45 (by decide)
  have t36i := congrArg Int32.toInt t36
  have lNu37 := lNu.uny lNu19 hU25 rfl
  have hr0 : (G 18 0).toInt = (G2 3 0).toInt := congrArg Int32.toInt (hlN.1.1 0 (by decide))
  have hr1 : (G 18 1).toInt = (G2 3 1).toInt := congrArg Int32.toInt (hlN.1.1 1 (by decide))
  have hb0 : (4 : Int) ≤ (G 18 0).toInt ∧ (G 18 0).toInt ≤ 16 := hxI 18 0
  have hb1 : (1 : Int) ≤ (G 18 1).toInt ∧ (G 18 1).toInt ≤ 6 := hxI 18 1
  have pB38 : pcB (xPc G_3) (yPc G_22) := by rcases q8 with ⟨a1, a2⟩ | ⟨a1, a2⟩ <;> rcases q27 with ⟨b1, b2⟩ | ⟨b1, b2⟩ <;> first | exact pcF.eq a2 b2 | exact pcB.go hpB a2 b2 | (exfalso; omega)
  have pK39 : pcK (xPc G_3) (yPc G_22) := pcK.go hpK (pcK.xun hU6 rfl) (pcK.yun hU25 rfl)
  refine g_pop F dL_law_387 rfl ?_
  refine g_goto F 1385 dL_law_388 (by decide) ?_
  exact kE G_3 G_22 ⟨hI5, hI24, f9, w28, by omega, by omega, fun i hi => by first | (exfalso; omega) | (rw [w_29, w_10]; exact htb i (by omega)), by omega, fun i hi => by rw [w_30, w_11]; exact hsr i (by omega), by omega, by omega, lNu37, by omega, lG18, by omega, pB38, pK39⟩
