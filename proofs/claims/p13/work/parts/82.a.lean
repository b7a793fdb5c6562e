set_option maxHeartbeats 4000000 in
set_option maxRecDepth 100000 in
theorem law_loop {p : Program} {e : Env} {s : State} {m : MethodId} {args : Array Value} {below : List Frame} {meth : Method} {c : Code} {A : Nat → Prop} {Q : State → Prop} (l : Launch) (D : va_G) (F : gF p s m args meth c cL_law RL 4 wsL_law A) (hts0 : ∀ w ∈ wsL_t, w.before args s = true) {zf : Nat → Nat} (hZ : xZ zf A s s.heap) {qs vs : Nat → Nat} (hY : yZ qs vs A s s.heap) {sb L : Nat} {sx : Nat → Int32} (hX : va_X sb L sx s s.heap) (hbl : sb < s.heap.size) (hbA : ¬ A sb) (hL : L ≤ 3584) (K : Nat → ClassId) (a b : Nat → Nat) (kF : ∀ ws : va_W, ∀ lv : List (Nat × Value), gG p l e (gR 2048 601024 7293033 84000) s m args below meth c D A 4 Q 139 10449 ws (tK K) lv 1392 [.int 1]) : ∀ (fuel : Nat) (G G2 : gS) (i : Int32) (i0 : Int), i.toInt = i0 → 0 ≤ i0 → i0 ≤ 3591 → (4000 - i0).toNat < fuel → lI G G2 → gG p l e (gR 2048 601024 7293033 84000) s m args below meth c D A 4 Q 139 10449 (xW K a G ++ yW K b G2) (tK K) [(3, .int i), (2, .ref (b 0)), (1, .ref (a 0)), (0, .ref sb)] 18 [] := by
  intro fuel
  induction fuel with
  | zero => intro G G2 i i0 _ _ _ h; exact absurd h (Nat.not_lt_zero _)
  | succ fuel ih =>
    intro G G2 i i0 ei h0 h1 hm hl
    have hLi : (Int32.ofNat L).toInt = (L : Int) := Int32.toInt_ofNat_of_lt (by omega)
    refine g_iload_n F 0 dL_law_18 rfl rfl ?_
    refine g_aload_n F 3 dL_law_19 rfl rfl ?_
    refine g_slen F hX hbl hbA (v := Int32.ofNat L) rfl dL_law_20 ?_
    refine g_bipush F 7 dL_law_21 (by decide) ?_
    refine u_isub F dL_law_23 (L : Int) 7 hLi rfl (by omega) (by omega) (fun y1 ey1 => ?_)
    refine v_icmp_gt F 1391 dL_law_24 (by decide) i0 y1.toInt ei rfl (fun c1 => ?_) (fun c1 => ?_)
    · refine g_iconst F 1 dL_law_1391 (by decide) ?_
      exact kF _ _
    have kE : ∀ G1 G3 : gS, lI G1 G3 → gG p l e (gR 2048 601024 7293033 84000) s m args below meth c D A 4 Q 139 10449 (xW K a G1 ++ yW K b G3) (tK K) [(3, .int i), (2, .ref (b 0)), (1, .ref (a 0)), (0, .ref sb)] 1385 [] := by
      intro G1 G3 hl1
      refine u_iinc F (fun v_ => [(3, .int v_), (2, .ref (b 0)), (1, .ref (a 0)), (0, .ref sb)]) dL_law_1385 (j := 0) rfl i0 7 ei rfl (by omega) (by omega) (by decide) (fun _ => rfl) (fun y2 ey2 => ?_)
      refine g_goto F 18 dL_law_1388 (by decide) ?_
      exact ih G1 G3 y2 y2.toInt rfl (by omega) (by omega) (by omega) hl1
    refine g_aload_n F 3 dL_law_27 rfl rfl ?_
    refine g_iload_n F 0 dL_law_28 rfl rfl ?_
    refine g_sld F hX hbl hbA (i.toInt).toNat rfl (ti_in ei (by omega) (by omega)) dL_law_29 ?_
    refine g_bipush F 63 dL_law_30 (by decide) ?_
    refine u_iand F dL_law_32 _ 63 rfl rfl (by omega) (fun z ez => ?_)
    rcases (show z.toInt = 0 ∨ z.toInt = 1 ∨ z.toInt = 2 ∨ z.toInt = 3 ∨ z.toInt = 4 ∨ z.toInt = 5 ∨ z.toInt = 6 ∨ z.toInt = 7 ∨ z.toInt = 8 ∨ z.toInt = 9 ∨ z.toInt = 10 ∨ z.toInt = 11 ∨ z.toInt = 12 ∨ z.toInt = 13 ∨ z.toInt = 14 ∨ z.toInt = 15 ∨ z.toInt = 16 ∨ z.toInt = 17 ∨ z.toInt = 18 ∨ z.toInt = 19 ∨ z.toInt = 20 ∨ z.toInt = 21 ∨ z.toInt = 22 ∨ z.toInt = 23 ∨ z.toInt = 24 ∨ z.toInt = 25 ∨ z.toInt = 26 ∨ z.toInt = 27 ∨ z.toInt = 28 ∨ z.toInt = 29 ∨ z.toInt = 30 ∨ z.toInt = 31 ∨ z.toInt = 32 ∨ (z.toInt < 0 ∨ 32 < z.toInt) by omega) with c2 | c2 | c2 | c2 | c2 | c2 | c2 | c2 | c2 | c2 | c2 | c2 | c2 | c2 | c2 | c2 | c2 | c2 | c2 | c2 | c2 | c2 | c2 | c2 | c2 | c2 | c2 | c2 | c2 | c2 | c2 | c2 | c2 | c2
    · refine g_tableIn F 180 dL_law_33 (by rw [c2]; decide) (by rw [c2]; decide) (by rw [c2]; rfl) (by decide) ?_
      exact law_c0 l D F hts0 hZ hY hX hbl hbA hL K a b G G2 hl i i0 ei h0 (by omega) kE
    · refine g_tableIn F 243 dL_law_33 (by rw [c2]; decide) (by rw [c2]; decide) (by rw [c2]; rfl) (by decide) ?_
      exact law_c1 l D F hts0 hZ hY hX hbl hbA hL K a b G G2 hl i i0 ei h0 (by omega) kE
    · refine g_tableIn F 266 dL_law_33 (by rw [c2]; decide) (by rw [c2]; decide) (by rw [c2]; rfl) (by decide) ?_
      exact law_c2 l D F hts0 hZ hY hX hbl hbA hL K a b G G2 hl i i0 ei h0 (by omega) kE
    · refine g_tableIn F 279 dL_law_33 (by rw [c2]; decide) (by rw [c2]; decide) (by rw [c2]; rfl) (by decide) ?_
      exact law_c3 l D F hts0 hZ hY hX hbl hbA hL K a b G G2 hl i i0 ei h0 (by omega) kE
    · refine g_tableIn F 302 dL_law_33 (by rw [c2]; decide) (by rw [c2]; decide) (by rw [c2]; rfl) (by decide) ?_
      exact law_c4 l D F hts0 hZ hY hX hbl hbA hL K a b G G2 hl i i0 ei h0 (by omega) kE
    · refine g_tableIn F 325 dL_law_33 (by rw [c2]; decide) (by rw [c2]; decide) (by rw [c2]; rfl) (by decide) ?_
      exact law_c5 l D F hts0 hZ hY hX hbl hbA hL K a b G G2 hl i i0 ei h0 (by omega) kE
    · refine g_tableIn F 368 dL_law_33 (by rw [c2]; decide) (by rw [c2]; decide) (by rw [c2]; rfl) (by decide) ?_
      exact law_c6 l D F hts0 hZ hY hX hbl hbA hL K a b G G2 hl i i0 ei h0 (by omega) kE
    · refine g_tableIn F 391 dL_law_33 (by rw [c2]; decide) (by rw [c2]; decide) (by rw [c2]; rfl) (by decide) ?_
      exact law_c7 l D F hts0 hZ hY hX hbl hbA hL K a b G G2 hl i i0 ei h0 (by omega) kE
    · refine g_tableIn F 424 dL_law_33 (by rw [c2]; decide) (by rw [c2]; decide) (by rw [c2]; rfl) (by decide) ?_
      exact law_c8 l D F hts0 hZ hY hX hbl hbA hL K a b G G2 hl i i0 ei h0 (by omega) kE
    · refine g_tableIn F 467 dL_law_33 (by rw [c2]; decide) (by rw [c2]; decide) (by rw [c2]; rfl) (by decide) ?_
      exact law_c9 l D F hts0 hZ hY hX hbl hbA hL K a b G G2 hl i i0 ei h0 (by omega) kE
    · refine g_tableIn F 480 dL_law_33 (by rw [c2]; decide) (by rw [c2]; decide) (by rw [c2]; rfl) (by decide) ?_
      exact law_c10 l D F hts0 hZ hY hX hbl hbA hL K a b G G2 hl i i0 ei h0 (by omega) kE
    · refine g_tableIn F 555 dL_law_33 (by rw [c2]; decide) (by rw [c2]; decide) (by rw [c2]; rfl) (by decide) ?_
      exact law_c11 l D F hts0 hZ hY hX hbl hbA hL K a b G G2 hl i i0 ei h0 (by omega) kE
    · refine g_tableIn F 630 dL_law_33 (by rw [c2]; decide) (by rw [c2]; decide) (by rw [c2]; rfl) (by decide) ?_
      exact law_c12 l D F hts0 hZ hY hX hbl hbA hL K a b G G2 hl i i0 ei h0 (by omega) kE
    · refine g_tableIn F 653 dL_law_33 (by rw [c2]; decide) (by rw [c2]; decide) (by rw [c2]; rfl) (by decide) ?_
      exact law_c13 l D F hts0 hZ hY hX hbl hbA hL K a b G G2 hl i i0 ei h0 (by omega) kE
    · refine g_tableIn F 696 dL_law_33 (by rw [c2]; decide) (by rw [c2]; decide) (by rw [c2]; rfl) (by decide) ?_
      exact law_c14 l D F hts0 hZ hY hX hbl hbA hL K a b G G2 hl i i0 ei h0 (by omega) kE
    · refine g_tableIn F 749 dL_law_33 (by rw [c2]; decide) (by rw [c2]; decide) (by rw [c2]; rfl) (by decide) ?_
      exact law_c15 l D F hts0 hZ hY hX hbl hbA hL K a b G G2 hl i i0 ei h0 (by omega) kE
    · refine g_tableIn F 782 dL_law_33 (by rw [c2]; decide) (by rw [c2]; decide) (by rw [c2]; rfl) (by decide) ?_
      exact law_c16 l D F hts0 hZ hY hX hbl hbA hL K a b G G2 hl i i0 ei h0 (by omega) kE
    · refine g_tableIn F 805 dL_law_33 (by rw [c2]; decide) (by rw [c2]; decide) (by rw [c2]; rfl) (by decide) ?_
      exact law_c17 l D F hts0 hZ hY hX hbl hbA hL K a b G G2 hl i i0 ei h0 (by omega) kE
    · refine g_tableIn F 838 dL_law_33 (by rw [c2]; decide) (by rw [c2]; decide) (by rw [c2]; rfl) (by decide) ?_
      exact law_c18 l D F hts0 hZ hY hX hbl hbA hL K a b G G2 hl i i0 ei h0 (by omega) kE
    · refine g_tableIn F 861 dL_law_33 (by rw [c2]; decide) (by rw [c2]; decide) (by rw [c2]; rfl) (by decide) ?_
      exact law_c19 l D F hts0 hZ hY hX hbl hbA hL K a b G G2 hl i i0 ei h0 (by omega) kE
    · refine g_tableIn F 914 dL_law_33 (by rw [c2]; decide) (by rw [c2]; decide) (by rw [c2]; rfl) (by decide) ?_
      exact law_c20 l D F hts0 hZ hY hX hbl hbA hL K a b G G2 hl i i0 ei h0 (by omega) kE
    · refine g_tableIn F 967 dL_law_33 (by rw [c2]; decide) (by rw [c2]; decide) (by rw [c2]; rfl) (by decide) ?_
      exact law_c21 l D F hts0 hZ hY hX hbl hbA hL K a b G G2 hl i i0 ei h0 (by omega) kE
    · refine g_tableIn F 1000 dL_law_33 (by rw [c2]; decide) (by rw [c2]; decide) (by rw [c2]; rfl) (by decide) ?_
      exact law_c22 l D F hts0 hZ hY hX hbl hbA hL K a b G G2 hl i i0 ei h0 (by omega) kE
    · refine g_tableIn F 1023 dL_law_33 (by rw [c2]; decide) (by rw [c2]; decide) (by rw [c2]; rfl) (by decide) ?_
      exact law_c23 l D F hts0 hZ hY hX hbl hbA hL K a b G G2 hl i i0 ei h0 (by omega) kE
    · refine g_tableIn F 1098 dL_law_33 (by rw [c2]; decide) (by rw [c2]; decide) (by rw [c2]; rfl) (by decide) ?_
      exact law_c24 l D F hts0 hZ hY hX hbl hbA hL K a b G G2 hl i i0 ei h0 (by omega) kE
    · refine g_tableIn F 1151 dL_law_33 (by rw [c2]; decide) (by rw [c2]; decide) (by rw [c2]; rfl) (by decide) ?_
      exact law_c25 l D F hts0 hZ hY hX hbl hbA hL K a b G G2 hl i i0 ei h0 (by omega) kE
    · refine g_tableIn F 1194 dL_law_33 (by rw [c2]; decide) (by rw [c2]; decide) (by rw [c2]; rfl) (by decide) ?_
      exact law_c26 l D F hts0 hZ hY hX hbl hbA hL K a b G G2 hl i i0 ei h0 (by omega) kE
    · refine g_tableIn F 1237 dL_law_33 (by rw [c2]; decide) (by rw [c2]; decide) (by rw [c2]; rfl) (by decide) ?_
      exact law_c27 l D F hts0 hZ hY hX hbl hbA hL K a b G G2 hl i i0 ei h0 (by omega) kE
    · refine g_tableIn F 1260 dL_law_33 (by rw [c2]; decide) (by rw [c2]; decide) (by rw [c2]; rfl) (by decide) ?_
      exact law_c28 l D F hts0 hZ hY hX hbl hbA hL K a b G G2 hl i i0 ei h0 (by omega) kE
    · refine g_tableIn F 1273 dL_law_33 (by rw [c2]; decide) (by rw [c2]; decide) (by rw [c2]; rfl) (by decide) ?_
      exact law_c29 l D F hts0 hZ hY hX hbl hbA hL K a b G G2 hl i i0 ei h0 (by omega) kE
    · refine g_tableIn F 1286 dL_law_33 (by rw [c2]; decide) (by rw [c2]; decide) (by rw [c2]; rfl) (by decide) ?_
      exact law_c30 l D F hts0 hZ hY hX hbl hbA hL K a b G G2 hl i i0 ei h0 (by omega) kE
    · refine g_tableIn F 1339 dL_law_33 (by rw [c2]; decide) (by rw [c2]; decide) (by rw [c2]; rfl) (by decide) ?_
      exact law_c31 l D F hts0 hZ hY hX hbl hbA hL K a b G G2 hl i i0 ei h0 (by omega) kE
    · refine g_tableIn F 1362 dL_law_33 (by rw [c2]; decide) (by rw [c2]; decide) (by rw [c2]; rfl) (by decide) ?_
      exact law_c32 l D F hts0 hZ hY hX hbl hbA hL K a b G G2 hl i i0 ei h0 (by omega) kE
    · refine g_tableOut F 1385 dL_law_33 (by exact c2) (by decide) ?_
      exact kE G G2 hl
