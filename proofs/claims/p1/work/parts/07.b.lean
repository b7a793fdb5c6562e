theorem dX6_placeOf_0 : decode cX6_placeOf 0 = .ok (.iload_n 0, 1) := by decide +kernel
theorem dX6_placeOf_1 : decode cX6_placeOf 1 = .ok (.bipush 16, 2) := by decide +kernel
theorem dX6_placeOf_3 : decode cX6_placeOf 3 = .ok (.imul, 1) := by decide +kernel
theorem dX6_placeOf_4 : decode cX6_placeOf 4 = .ok (.iload_n 1, 1) := by decide +kernel
theorem dX6_placeOf_5 : decode cX6_placeOf 5 = .ok (.iadd, 1) := by decide +kernel
theorem dX6_placeOf_6 : decode cX6_placeOf 6 = .ok (.ireturn, 1) := by decide +kernel
set_option maxHeartbeats 4000000 in
set_option maxRecDepth 100000 in
theorem K_X6_placeOf (l : Launch) (D : va_G) (ring : Int32) (sector : Int32) (sz : Nat) : Ki l yX6_placeOf wsX6_placeOf 1 30 0 0 D [.int ring, .int sector] [] [] sz (fun (r : Int32) (_ : Unit) => r = ((ring * 16) + sector)) (fun (_ : Unit) => []) (fun (_ : Unit) => []) := by
  unfold Ki
  refine g_ofW (cc := cX6_placeOf) (lv := [(0, .int ring), (1, .int sector)]) (by decide) rfl (Nat.le_of_ble_eq_true rfl) rfl ?_
  intro p e s m args below meth c A Q hA hQ F hr hnm
  have hts := F.2.2.2.2.1
  refine g_iload_n F 0 dX6_placeOf_0 rfl rfl ?_
  refine g_bipush F 16 dX6_placeOf_1 (by decide) ?_
  refine g_imul F dX6_placeOf_3 ?_
  refine g_iload_n F 1 dX6_placeOf_4 rfl rfl ?_
  refine g_iadd F dX6_placeOf_5 ?_
  exact g_iret F hA hQ hr () (rfl) [] [] rfl (by decide) rfl rfl dX6_placeOf_6

theorem dX7_hasRing_0 : decode cX7_hasRing 0 = .ok (.iload_n 1, 1) := by decide +kernel
theorem dX7_hasRing_1 : decode cX7_hasRing 1 = .ok (.ifCond .lt 17, 3) := by decide +kernel
theorem dX7_hasRing_4 : decode cX7_hasRing 4 = .ok (.iload_n 1, 1) := by decide +kernel
theorem dX7_hasRing_5 : decode cX7_hasRing 5 = .ok (.aload_n 0, 1) := by decide +kernel
theorem dX7_hasRing_6 : decode cX7_hasRing 6 = .ok (.getfield 11, 3) := by decide +kernel
theorem dX7_hasRing_9 : decode cX7_hasRing 9 = .ok (.iconst 1, 1) := by decide +kernel
theorem dX7_hasRing_10 : decode cX7_hasRing 10 = .ok (.iaload, 1) := by decide +kernel
theorem dX7_hasRing_11 : decode cX7_hasRing 11 = .ok (.if_icmp .ge 7, 3) := by decide +kernel
theorem dX7_hasRing_14 : decode cX7_hasRing 14 = .ok (.iconst 1, 1) := by decide +kernel
theorem dX7_hasRing_15 : decode cX7_hasRing 15 = .ok (.goto 4, 3) := by decide +kernel
theorem dX7_hasRing_18 : decode cX7_hasRing 18 = .ok (.iconst 0, 1) := by decide +kernel
theorem dX7_hasRing_19 : decode cX7_hasRing 19 = .ok (.ireturn, 1) := by decide +kernel
set_option maxHeartbeats 4000000 in
set_option maxRecDepth 100000 in
theorem K_X7_hasRing (l : Launch) (D : va_G) (xs : Nat) (n : Nat) (fo : Nat) (wa : Nat) (we : Nat) (cI : ClassId) (a : Int32) (sz : Nat) : Ki l yX7_hasRing wsX7_hasRing 1 40 0 0 D [.ref xs, .int a] [(xs, .inr (6, [.ref n, .ref fo, .ref wa, .ref we])), (n, .inl (cI, 36, .inl g_nums))] [(cI, .int)] sz (fun (r : Int32) (_ : Unit) => r = (if 0 ≤ a ∧ a < 3 then 1 else 0)) (fun (_ : Unit) => [(xs, .inr (6, [.ref n, .ref fo, .ref wa, .ref we])), (n, .inl (cI, 36, .inl g_nums))]) (fun (_ : Unit) => [(cI, .int)]) := by
  unfold Ki
  refine g_ofW (cc := cX7_hasRing) (lv := [(0, .ref xs), (1, .int a)]) (by decide) rfl (Nat.le_of_ble_eq_true rfl) rfl ?_
  intro p e s m args below meth c A Q hA hQ F hr hnm
  have hts := F.2.2.2.2.1
  have w_0 : (Cond.fieldLink RX7 11 "QuietCut$Shop" "numbers" "[I").before args s = true := hts _ (List.mem_of_getElem? (i := 1) rfl)
  have i_X7 : ∀ w ∈ u_ws RX7 TX7 4, w ∈ wsX7_hasRing := fun _ h => List.mem_cons_of_mem _ (List.mem_append_right _ h)
  refine g_iload_n F 1 dX7_hasRing_0 rfl rfl ?_
  refine g_if_lt F 18 dX7_hasRing_1 (by decide) (fun c_1 => ?_) (fun c_1 => ?_)
  · refine g_iconst F 0 dX7_hasRing_18 (by decide) ?_
    exact g_zret F hA hQ hr rfl () (gb_f (by (simp only [Int32.lt_iff_toInt_lt, Int32.le_iff_toInt_le, ← Int32.toInt_inj, Int32.reduceToInt] at c_1 ⊢; omega))) [0, 1] [0] rfl (by decide) rfl rfl dX7_hasRing_19
  · refine g_iload_n F 1 dX7_hasRing_4 rfl rfl ?_
    refine g_aload_n F 0 dX7_hasRing_5 rfl rfl ?_
    refine g_get (C := RX7) (T := TX7) (N := 4) (v := .ref n) F i_X7 0 rfl rfl 0 (by decide) w_0 rfl rfl dX7_hasRing_6 ?_
    refine g_iconst F 1 dX7_hasRing_9 (by decide) ?_
    refine g_iald F 1 0 rfl rfl (by unfold vp_in; decide) dX7_hasRing_10 ?_
    refine g_fold 3 (by rfl) ?_
    refine g_icmp_ge F 18 dX7_hasRing_11 (by decide) (fun c_11 => ?_) (fun c_11 => ?_)
    · refine g_iconst F 0 dX7_hasRing_18 (by decide) ?_
      exact g_zret F hA hQ hr rfl () (gb_f (by (simp only [Int32.lt_iff_toInt_lt, Int32.le_iff_toInt_le, ← Int32.toInt_inj, Int32.reduceToInt] at c_1 c_11 ⊢; omega))) [0, 1] [0] rfl (by decide) rfl rfl dX7_hasRing_19
    · refine g_iconst F 1 dX7_hasRing_14 (by decide) ?_
      refine g_goto F 19 dX7_hasRing_15 (by decide) ?_
      exact g_zret F hA hQ hr rfl () (gb_t (by (simp only [Int32.lt_iff_toInt_lt, Int32.le_iff_toInt_le, ← Int32.toInt_inj, Int32.reduceToInt] at c_1 c_11 ⊢; omega))) [0, 1] [0] rfl (by decide) rfl rfl dX7_hasRing_19

theorem dX6_has_0 : decode cX6_has 0 = .ok (.aload_n 0, 1) := by decide +kernel
theorem dX6_has_1 : decode cX6_has 1 = .ok (.getfield 20, 3) := by decide +kernel
theorem dX6_has_4 : decode cX6_has 4 = .ok (.iload_n 1, 1) := by decide +kernel
theorem dX6_has_5 : decode cX6_has 5 = .ok (.invokevirtual 41, 3) := by decide +kernel
theorem dX6_has_8 : decode cX6_has 8 = .ok (.ifCond .eq 24, 3) := by decide +kernel
theorem dX6_has_11 : decode cX6_has 11 = .ok (.iload_n 2, 1) := by decide +kernel
theorem dX6_has_12 : decode cX6_has 12 = .ok (.ifCond .lt 20, 3) := by decide +kernel
theorem dX6_has_15 : decode cX6_has 15 = .ok (.iload_n 2, 1) := by decide +kernel
theorem dX6_has_16 : decode cX6_has 16 = .ok (.aload_n 0, 1) := by decide +kernel
theorem dX6_has_17 : decode cX6_has 17 = .ok (.getfield 20, 3) := by decide +kernel
theorem dX6_has_20 : decode cX6_has 20 = .ok (.getfield 47, 3) := by decide +kernel
theorem dX6_has_23 : decode cX6_has 23 = .ok (.iconst 0, 1) := by decide +kernel
theorem dX6_has_24 : decode cX6_has 24 = .ok (.iaload, 1) := by decide +kernel
theorem dX6_has_25 : decode cX6_has 25 = .ok (.if_icmp .ge 7, 3) := by decide +kernel
theorem dX6_has_28 : decode cX6_has 28 = .ok (.iconst 1, 1) := by decide +kernel
theorem dX6_has_29 : decode cX6_has 29 = .ok (.goto 4, 3) := by decide +kernel
theorem dX6_has_32 : decode cX6_has 32 = .ok (.iconst 0, 1) := by decide +kernel
theorem dX6_has_33 : decode cX6_has 33 = .ok (.ireturn, 1) := by decide +kernel
set_option maxRecDepth 20000 in
theorem ggX6_has_X7_hasRing : GoodIn wsX6_has wsX7_hasRing := goodIn_r _ [7, 8, 14, 15, 16, 17] rfl (by decide +kernel)
set_option maxRecDepth 20000 in
theorem gX6_has_X7_hasRing : GoodIn wsX6_has (wsV RX6 41 RX7 yX7_hasRing wsX7_hasRing) := goodIn_app (goodIn_of _ (by decide +kernel)) ggX6_has_X7_hasRing
set_option maxHeartbeats 4000000 in
set_option maxRecDepth 100000 in
theorem K_X6_has (l : Launch) (D : va_G) (xp : Nat) (xs : Nat) (ph : Nat) (pl : Nat) (n : Nat) (fo : Nat) (wa : Nat) (we : Nat) (cI : ClassId) (a : Int32) (b : Int32) (sz : Nat) : Ki l yX6_has wsX6_has 2 61 0 0 D [.ref xp, .int a, .int b] [(xp, .inr (5, [.ref xs, .ref ph, .int 0, .int 0, .ref pl])), (xs, .inr (6, [.ref n, .ref fo, .ref wa, .ref we])), (n, .inl (cI, 36, .inl g_nums))] [(cI, .int)] sz (fun (r : Int32) (_ : Unit) => r = (if 0 ≤ a ∧ a < 3 ∧ 0 ≤ b ∧ b < 8 then 1 else 0)) (fun (_ : Unit) => [(xp, .inr (5, [.ref xs, .ref ph, .int 0, .int 0, .ref pl])), (xs, .inr (6, [.ref n, .ref fo, .ref wa, .ref we])), (n, .inl (cI, 36, .inl g_nums))]) (fun (_ : Unit) => [(cI, .int)]) := by
  unfold Ki
  refine g_ofW (cc := cX6_has) (lv := [(0, .ref xp), (1, .int a), (2, .int b)]) (by decide) rfl (Nat.le_of_ble_eq_true rfl) rfl ?_
  intro p e s m args below meth c A Q hA hQ F hr hnm
  have hts := F.2.2.2.2.1
  have w_0 : (Cond.fieldLink RX6 20 "QuietCut$Piece" "shop" "LQuietCut$Shop;").before args s = true := hts _ (List.mem_of_getElem? (i := 1) rfl)
  have i_X6 : ∀ w ∈ u_ws RX6 TX6 5, w ∈ wsX6_has := fun _ h => List.mem_cons_of_mem _ (List.mem_append_left _ (List.mem_append_right _ h))
  have w_1 : (Cond.fieldLink RX6 47 "QuietCut$Shop" "numbers" "[I").before args s = true := hts _ (List.mem_of_getElem? (i := 2) rfl)
  have i_X7 : ∀ w ∈ u_ws RX7 TX7 4, w ∈ wsX6_has := fun _ h => List.mem_cons_of_mem _ (List.mem_append_right _ h)
  refine g_aload_n F 0 dX6_has_0 rfl rfl ?_
  refine g_get (C := RX6) (T := TX6) (N := 5) (v := .ref xs) F i_X6 0 rfl rfl 0 (by decide) w_0 rfl rfl dX6_has_1 ?_
  refine g_iload_n F 1 dX6_has_4 rfl rfl ?_
  refine g_callVi (k := 0) (n := 0) (b := xs) (As := [.int a]) (st := []) (wc := [(xs, .inr (6, [.ref n, .ref fo, .ref wa, .ref we])), (n, .inl (cI, 36, .inl g_nums))]) (wr := [(xp, .inr (5, [.ref xs, .ref ph, .int 0, .int 0, .ref pl]))]) F [1, 2] [0] [0] rfl rfl (by decide) rfl (by decide) (by decide) rfl (fun sz => K_X7_hasRing l D xs n fo wa we cI a  sz) (cwV 1 hts gX6_has_X7_hasRing rfl rfl rfl (by decide +kernel) ⟨Nat.le_of_ble_eq_true rfl, Nat.le_of_ble_eq_true rfl⟩) rfl 0 rfl rfl (Nat.le_of_ble_eq_true rfl) ⟨Nat.le_of_ble_eq_true rfl, Nat.le_of_ble_eq_true rfl⟩ dX6_has_5 (fun r_1 _ hw_2 => ?_)
  have hw_2 : r_1 = (if 0 ≤ a ∧ a < 3 then 1 else 0) := hw_2
  have e_r_1 := hw_2
  show gG p l e (gR 2 0 0 61) s m args below meth c D A 3 Q 0 0 [(xp, .inr (5, [.ref xs, .ref ph, .int 0, .int 0, .ref pl])), (xs, .inr (6, [.ref n, .ref fo, .ref wa, .ref we])), (n, .inl (cI, 36, .inl g_nums))] [(cI, .int)] [(0, .ref xp), (1, .int a), (2, .int b)] 8 [.int r_1]
  refine g_fold (if 0 ≤ a ∧ a < 3 then 1 else 0) e_r_1 ?_
  refine g_if_eq F 32 dX6_has_8 (by decide) (fun c_8 => ?_) (fun c_8 => ?_)
  · have c_8 := gb_0 c_8
    refine g_iconst F 0 dX6_has_32 (by decide) ?_
    exact g_zret F hA hQ hr rfl () (gb_f (by (simp only [Int32.lt_iff_toInt_lt, Int32.le_iff_toInt_le, ← Int32.toInt_inj, Int32.reduceToInt] at c_8 ⊢; omega))) [0, 1, 2] [0] rfl (by decide) rfl rfl dX6_has_33
  · have c_8 := gb_n0 c_8
    refine g_iload_n F 2 dX6_has_11 rfl rfl ?_
    refine g_if_lt F 32 dX6_has_12 (by decide) (fun c_12 => ?_) (fun c_12 => ?_)
    · refine g_iconst F 0 dX6_has_32 (by decide) ?_
      exact g_zret F hA hQ hr rfl () (gb_f (by (simp only [Int32.lt_iff_toInt_lt, Int32.le_iff_toInt_le, ← Int32.toInt_inj, Int32.reduceToInt] at c_8 c_12 ⊢; omega))) [0, 1, 2] [0] rfl (by decide) rfl rfl dX6_has_33
    · refine g_iload_n F 2 dX6_has_15 rfl rfl ?_
      refine g_aload_n F 0 dX6_has_16 rfl rfl ?_
      refine g_get (C := RX6) (T := TX6) (N := 5) (v := .ref xs) F i_X6 0 rfl rfl 0 (by decide) w_0 rfl rfl dX6_has_17 ?_
      refine g_get (C := RX7) (T := TX7) (N := 4) (v := .ref n) F i_X7 1 rfl rfl 0 (by decide) w_1 rfl rfl dX6_has_20 ?_
      refine g_iconst F 0 dX6_has_23 (by decide) ?_
      refine g_iald F 2 0 rfl rfl (by unfold vp_in; decide) dX6_has_24 ?_
      refine g_fold 8 (by rfl) ?_
      refine g_icmp_ge F 32 dX6_has_25 (by decide) (fun c_25 => ?_) (fun c_25 => ?_)
      · refine g_iconst F 0 dX6_has_32 (by decide) ?_
        exact g_zret F hA hQ hr rfl () (gb_f (by (simp only [Int32.lt_iff_toInt_lt, Int32.le_iff_toInt_le, ← Int32.toInt_inj, Int32.reduceToInt] at c_8 c_12 c_25 ⊢; omega))) [0, 1, 2] [0] rfl (by decide) rfl rfl dX6_has_33
      · refine g_iconst F 1 dX6_has_28 (by decide) ?_
        refine g_goto F 33 dX6_has_29 (by decide) ?_
        exact g_zret F hA hQ hr rfl () (gb_t (by (simp only [Int32.lt_iff_toInt_lt, Int32.le_iff_toInt_le, ← Int32.toInt_inj, Int32.reduceToInt] at c_8 c_12 c_25 ⊢; omega))) [0, 1, 2] [0] rfl (by decide) rfl rfl dX6_has_33

theorem gi_place {a b : Int32} (h : 0 ≤ a ∧ a < 3 ∧ 0 ≤ b ∧ b < 8) : ∃ j : Nat, j < 96 ∧ a * 16 + b = nI j := by
  obtain ⟨h1, h2, h3, h4⟩ := h
  obtain ⟨x, hx, rfl⟩ := nI_of (x := a) (by simpa only [Int32.not_lt] using h1)
  obtain ⟨y, hy, rfl⟩ := nI_of (x := b) (by simpa only [Int32.not_lt] using h3)
  have e1 : x < 3 := (nI_ltI hx (by decide)).mp (show nI x < nI 3 from h2)
  have e2 : y < 8 := (nI_ltI hy (by decide)).mp (show nI y < nI 8 from h4)
  exact ⟨x * 16 + y, by omega, by rw [← nI_add, ← pk_mul]; rfl⟩

theorem dX11_height_0 : decode cX11_height 0 = .ok (.aload_n 0, 1) := by decide +kernel
theorem dX11_height_1 : decode cX11_height 1 = .ok (.getfield 40, 3) := by decide +kernel
theorem dX11_height_4 : decode cX11_height 4 = .ok (.iload_n 1, 1) := by decide +kernel
theorem dX11_height_5 : decode cX11_height 5 = .ok (.iload_n 2, 1) := by decide +kernel
theorem dX11_height_6 : decode cX11_height 6 = .ok (.invokevirtual 147, 3) := by decide +kernel
theorem dX11_height_9 : decode cX11_height 9 = .ok (.ifCond .eq 19, 3) := by decide +kernel
theorem dX11_height_12 : decode cX11_height 12 = .ok (.aload_n 0, 1) := by decide +kernel
theorem dX11_height_13 : decode cX11_height 13 = .ok (.getfield 40, 3) := by decide +kernel
theorem dX11_height_16 : decode cX11_height 16 = .ok (.getfield 151, 3) := by decide +kernel
theorem dX11_height_19 : decode cX11_height 19 = .ok (.iload_n 1, 1) := by decide +kernel
theorem dX11_height_20 : decode cX11_height 20 = .ok (.iload_n 2, 1) := by decide +kernel
theorem dX11_height_21 : decode cX11_height 21 = .ok (.invokestatic 154, 3) := by decide +kernel
theorem dX11_height_24 : decode cX11_height 24 = .ok (.iaload, 1) := by decide +kernel
theorem dX11_height_25 : decode cX11_height 25 = .ok (.goto 5, 3) := by decide +kernel
theorem dX11_height_28 : decode cX11_height 28 = .ok (.ldc 157, 2) := by decide +kernel
theorem dX11_height_30 : decode cX11_height 30 = .ok (.ireturn, 1) := by decide +kernel
set_option maxRecDepth 20000 in
theorem ggX11_height_X6_has : GoodIn wsX11_height wsX6_has := goodIn_r _ [8, 9, 10, 11, 12, 13, 14, 15, 16, 34, 35, 36, 37, 38, 39, 40, 41, 42] rfl (by decide +kernel)
set_option maxRecDepth 20000 in
theorem gX11_height_X6_has : GoodIn wsX11_height (wsV RX11 147 RX6 yX6_has wsX6_has) := goodIn_app (goodIn_of _ (by decide +kernel)) ggX11_height_X6_has
set_option maxRecDepth 20000 in
theorem ggX11_height_X6_placeOf : GoodIn wsX11_height wsX6_placeOf := goodIn_r _ [19] rfl (by decide +kernel)
set_option maxRecDepth 20000 in
theorem gX11_height_X6_placeOf : GoodIn wsX11_height (va_wsS RX11 154 yX6_placeOf wsX6_placeOf) := goodIn_app (goodIn_of _ (by decide +kernel)) ggX11_height_X6_placeOf
set_option maxHeartbeats 4000000 in
set_option maxRecDepth 100000 in
theorem K_X11_height (l : Launch) (D : va_G) (x0 : Nat) (xt : Nat) (xs : Nat) (xq : Nat) (xr : Nat) (xp : Nat) (xl : Nat) (xc : Nat) (xj : Nat) (xe : Nat) (xo : Nat) (pa : Nat) (ph : Nat) (pl : Nat) (cI : ClassId) (n : Nat) (fo : Nat) (wa : Nat) (we : Nat) (a : Int32) (b : Int32) (sz : Nat) : Ki l yX11_height wsX11_height 3 83 0 0 D [.ref x0, .int a, .int b] [(x0, .inr (10, [.ref xt, .ref xs, .ref xq, .ref xr, .ref xp, .ref xl, .ref xc, .ref xj, .ref xe, .ref xo, .ref pa, .int 0, .int 0, .int (-1)])), (xp, .inr (5, [.ref xs, .ref ph, .int 0, .int 0, .ref pl])), (ph, .inl (cI, 96, .inl (fun _ => 1000))), (xs, .inr (6, [.ref n, .ref fo, .ref wa, .ref we])), (n, .inl (cI, 36, .inl g_nums))] [(cI, .int)] sz (fun (r : Int32) (_ : Unit) => r = (if 0 ≤ a ∧ a < 3 ∧ 0 ≤ b ∧ b < 8 then 1000 else (-100000))) (fun (_ : Unit) => [(x0, .inr (10, [.ref xt, .ref xs, .ref xq, .ref xr, .ref xp, .ref xl, .ref xc, .ref xj, .ref xe, .ref xo, .ref pa, .int 0, .int 0, .int (-1)])), (xp, .inr (5, [.ref xs, .ref ph, .int 0, .int 0, .ref pl])), (ph, .inl (cI, 96, .inl (fun _ => 1000))), (xs, .inr (6, [.ref n, .ref fo, .ref wa, .ref we])), (n, .inl (cI, 36, .inl g_nums))]) (fun (_ : Unit) => [(cI, .int)]) := by
  unfold Ki
  refine g_ofW (cc := cX11_height) (lv := [(0, .ref x0), (1, .int a), (2, .int b)]) (by decide) rfl (Nat.le_of_ble_eq_true rfl) rfl ?_
  intro p e s m args below meth c A Q hA hQ F hr hnm
  have hts := F.2.2.2.2.1
  have w_0 : (Cond.fieldLink RX11 40 "QuietCut" "piece" "LQuietCut$Piece;").before args s = true := hts _ (List.mem_of_getElem? (i := 1) rfl)
  have i_X11 : ∀ w ∈ u_ws RX11 TX11 14, w ∈ wsX11_height := fun _ h => List.mem_cons_of_mem _ (List.mem_append_left _ (List.mem_append_left _ (List.mem_append_right _ h)))
  have w_1 : (Cond.constant RX11 157 (-100000)).before args s = true := hts _ (List.mem_of_getElem? (i := 3) rfl)
  have w_2 : (Cond.fieldLink RX11 151 "QuietCut$Piece" "heights" "[I").before args s = true := hts _ (List.mem_of_getElem? (i := 2) rfl)
  have i_X6 : ∀ w ∈ u_ws RX6 TX6 5, w ∈ wsX11_height := fun _ h => List.mem_cons_of_mem _ (List.mem_append_left _ (List.mem_append_right _ h))
  refine g_aload_n F 0 dX11_height_0 rfl rfl ?_
  refine g_get (C := RX11) (T := TX11) (N := 14) (v := .ref xp) F i_X11 0 rfl rfl 4 (by decide) w_0 rfl rfl dX11_height_1 ?_
  refine g_iload_n F 1 dX11_height_4 rfl rfl ?_
  refine g_iload_n F 2 dX11_height_5 rfl rfl ?_
  refine g_callVi (k := 0) (n := 0) (b := xp) (As := [.int a, .int b]) (st := []) (wc := [(xp, .inr (5, [.ref xs, .ref ph, .int 0, .int 0, .ref pl])), (xs, .inr (6, [.ref n, .ref fo, .ref wa, .ref we])), (n, .inl (cI, 36, .inl g_nums))]) (wr := [(x0, .inr (10, [.ref xt, .ref xs, .ref xq, .ref xr, .ref xp, .ref xl, .ref xc, .ref xj, .ref xe, .ref xo, .ref pa, .int 0, .int 0, .int (-1)])), (ph, .inl (cI, 96, .inl (fun _ => 1000)))]) F [1, 3, 4] [0, 2] [0] rfl rfl (by decide) rfl (by decide) (by decide) rfl (fun sz => K_X6_has l D xp xs ph pl n fo wa we cI a b  sz) (cwV 2 hts gX11_height_X6_has rfl rfl rfl (by decide +kernel) ⟨Nat.le_of_ble_eq_true rfl, Nat.le_of_ble_eq_true rfl⟩) rfl 0 rfl rfl (Nat.le_of_ble_eq_true rfl) ⟨Nat.le_of_ble_eq_true rfl, Nat.le_of_ble_eq_true rfl⟩ dX11_height_6 (fun r_1 _ hw_2 => ?_)
  have hw_2 : r_1 = (if 0 ≤ a ∧ a < 3 ∧ 0 ≤ b ∧ b < 8 then 1 else 0) := hw_2
  have e_r_1 := hw_2
  show gG p l e (gR 3 0 0 83) s m args below meth c D A 3 Q 0 0 [(x0, .inr (10, [.ref xt, .ref xs, .ref xq, .ref xr, .ref xp, .ref xl, .ref xc, .ref xj, .ref xe, .ref xo, .ref pa, .int 0, .int 0, .int (-1)])), (ph, .inl (cI, 96, .inl (fun _ => 1000))), (xp, .inr (5, [.ref xs, .ref ph, .int 0, .int 0, .ref pl])), (xs, .inr (6, [.ref n, .ref fo, .ref wa, .ref we])), (n, .inl (cI, 36, .inl g_nums))] [(cI, .int)] [(0, .ref x0), (1, .int a), (2, .int b)] 9 [.int r_1]
  refine g_fold (if 0 ≤ a ∧ a < 3 ∧ 0 ≤ b ∧ b < 8 then 1 else 0) e_r_1 ?_
  refine g_if_eq F 28 dX11_height_9 (by decide) (fun c_9 => ?_) (fun c_9 => ?_)
  · have c_9 := gb_0 c_9
    refine g_ldc F w_1 dX11_height_28 ?_
    exact g_iret F hA hQ hr () (by first | exact (gi_e (by (simp only [Int32.lt_iff_toInt_lt, Int32.le_iff_toInt_le, ← Int32.toInt_inj, Int32.reduceToInt] at c_9 ⊢; omega)) rfl)) [0, 2, 1, 3, 4] [0] rfl (by decide) rfl rfl dX11_height_30
  · have c_9 := gb_n0 c_9
    refine g_aload_n F 0 dX11_height_12 rfl rfl ?_
    refine g_get (C := RX11) (T := TX11) (N := 14) (v := .ref xp) F i_X11 0 rfl rfl 4 (by decide) w_0 rfl rfl dX11_height_13 ?_
    refine g_get (C := RX6) (T := TX6) (N := 5) (v := .ref ph) F i_X6 2 rfl rfl 1 (by decide) w_2 rfl rfl dX11_height_16 ?_
    refine g_iload_n F 1 dX11_height_19 rfl rfl ?_
    refine g_iload_n F 2 dX11_height_20 rfl rfl ?_
    refine g_callSi (k := 0) (n := 0) (As := [.int a, .int b]) (st := [.ref ph]) (wc := []) (wr := [(x0, .inr (10, [.ref xt, .ref xs, .ref xq, .ref xr, .ref xp, .ref xl, .ref xc, .ref xj, .ref xe, .ref xo, .ref pa, .int 0, .int 0, .int (-1)])), (ph, .inl (cI, 96, .inl (fun _ => 1000))), (xp, .inr (5, [.ref xs, .ref ph, .int 0, .int 0, .ref pl])), (xs, .inr (6, [.ref n, .ref fo, .ref wa, .ref we])), (n, .inl (cI, 36, .inl g_nums))]) F [] [0, 1, 2, 3, 4] [] rfl rfl (by decide) rfl (by decide) (by decide) rfl (fun sz => K_X6_placeOf l D a b  sz) (va_cwS 2 hts gX11_height_X6_placeOf rfl rfl rfl (by decide +kernel) ⟨Nat.le_of_ble_eq_true rfl, Nat.le_of_ble_eq_true rfl⟩) rfl (Nat.le_of_ble_eq_true rfl) ⟨Nat.le_of_ble_eq_true rfl, Nat.le_of_ble_eq_true rfl⟩ dX11_height_21 (fun r_6 _ hw_7 => ?_)
    have hw_7 : r_6 = ((a * 16) + b) := hw_7
    have e_r_6 := hw_7
    show gG p l e (gR 3 0 0 83) s m args below meth c D A 3 Q 0 0 [(x0, .inr (10, [.ref xt, .ref xs, .ref xq, .ref xr, .ref xp, .ref xl, .ref xc, .ref xj, .ref xe, .ref xo, .ref pa, .int 0, .int 0, .int (-1)])), (ph, .inl (cI, 96, .inl (fun _ => 1000))), (xp, .inr (5, [.ref xs, .ref ph, .int 0, .int 0, .ref pl])), (xs, .inr (6, [.ref n, .ref fo, .ref wa, .ref we])), (n, .inl (cI, 36, .inl g_nums))] [(cI, .int)] [(0, .ref x0), (1, .int a), (2, .int b)] 24 [.int r_6, .ref ph]
    refine g_fold ((a * 16) + b) e_r_6 ?_
    obtain ⟨j_, hj_, ej_⟩ := gi_place c_9
    refine g_iald F 1 0 rfl rfl (by rw [ej_]; exact vp_in_nI hj_ (by decide)) dX11_height_24 ?_
    refine g_fold 1000 (by rfl) ?_
    refine g_goto F 30 dX11_height_25 (by decide) ?_
    exact g_iret F hA hQ hr () (by first | exact (gi_p (by (simp only [Int32.lt_iff_toInt_lt, Int32.le_iff_toInt_le, ← Int32.toInt_inj, Int32.reduceToInt] at c_9 ⊢; omega)) rfl)) [0, 2, 1, 3, 4] [0] rfl (by decide) rfl rfl dX11_height_30

theorem dX6_putByHand_0 : decode cX6_putByHand 0 = .ok (.iload_n 1, 1) := by decide +kernel
theorem dX6_putByHand_1 : decode cX6_putByHand 1 = .ok (.ifCond .lt 9, 3) := by decide +kernel
theorem dX6_putByHand_4 : decode cX6_putByHand 4 = .ok (.iload_n 1, 1) := by decide +kernel
theorem dX6_putByHand_5 : decode cX6_putByHand 5 = .ok (.bipush 96, 2) := by decide +kernel
theorem dX6_putByHand_7 : decode cX6_putByHand 7 = .ok (.if_icmp .lt 6, 3) := by decide +kernel
theorem dX6_putByHand_10 : decode cX6_putByHand 10 = .ok (.ldc 50, 2) := by decide +kernel
theorem dX6_putByHand_12 : decode cX6_putByHand 12 = .ok (.ireturn, 1) := by decide +kernel
theorem dX6_putByHand_13 : decode cX6_putByHand 13 = .ok (.aload_n 0, 1) := by decide +kernel
theorem dX6_putByHand_14 : decode cX6_putByHand 14 = .ok (.getfield 9, 3) := by decide +kernel
theorem dX6_putByHand_17 : decode cX6_putByHand 17 = .ok (.iload_n 1, 1) := by decide +kernel
theorem dX6_putByHand_18 : decode cX6_putByHand 18 = .ok (.iaload, 1) := by decide +kernel
theorem dX6_putByHand_19 : decode cX6_putByHand 19 = .ok (.istore_n 3, 1) := by decide +kernel
theorem dX6_putByHand_20 : decode cX6_putByHand 20 = .ok (.aload_n 0, 1) := by decide +kernel
theorem dX6_putByHand_21 : decode cX6_putByHand 21 = .ok (.getfield 9, 3) := by decide +kernel
theorem dX6_putByHand_24 : decode cX6_putByHand 24 = .ok (.iload_n 1, 1) := by decide +kernel
theorem dX6_putByHand_25 : decode cX6_putByHand 25 = .ok (.iload_n 2, 1) := by decide +kernel
theorem dX6_putByHand_26 : decode cX6_putByHand 26 = .ok (.iastore, 1) := by decide +kernel
theorem dX6_putByHand_27 : decode cX6_putByHand 27 = .ok (.aload_n 0, 1) := by decide +kernel
theorem dX6_putByHand_28 : decode cX6_putByHand 28 = .ok (.getfield 17, 3) := by decide +kernel
theorem dX6_putByHand_31 : decode cX6_putByHand 31 = .ok (.iconst 0, 1) := by decide +kernel
theorem dX6_putByHand_32 : decode cX6_putByHand 32 = .ok (.aaload, 1) := by decide +kernel
theorem dX6_putByHand_33 : decode cX6_putByHand 33 = .ok (.iload_n 1, 1) := by decide +kernel
theorem dX6_putByHand_34 : decode cX6_putByHand 34 = .ok (.iconst (-1), 1) := by decide +kernel
theorem dX6_putByHand_35 : decode cX6_putByHand 35 = .ok (.iastore, 1) := by decide +kernel
theorem dX6_putByHand_36 : decode cX6_putByHand 36 = .ok (.iload_n 3, 1) := by decide +kernel
theorem dX6_putByHand_37 : decode cX6_putByHand 37 = .ok (.ireturn, 1) := by decide +kernel
set_option maxHeartbeats 4000000 in
set_option maxRecDepth 100000 in
theorem K_X6_putByHand (l : Launch) (D : va_G) (xp : Nat) (xs : Nat) (ph : Nat) (pl : Nat) (cI : ClassId) (cII : ClassId) (pr : Nat → Nat) (a : Int32) (b : Int32) (j_ : Nat) (hj_ : j_ < 96) (ej_ : a = nI j_) (sz : Nat) : Ki l yX6_putByHand wsX6_putByHand 1 40 0 0 D [.ref xp, .int a, .int b] [(xp, .inr (5, [.ref xs, .ref ph, .int 0, .int 0, .ref pl])), (ph, .inl (cI, 96, .inl (fun _ => 1000))), (pl, .inl (cII, 4, .inr (.inr (.inr (.inr (fun i => if i < 4 then some (pr i) else none)))))), ((pr 0), .inl (cI, 96, .inl (fun _ => (-1))))] [(cI, .int), (cII, .array .int)] sz (fun (r : Int32) (u : (Nat → Int32) × (Nat → Int32)) => r = 1000) (fun (u : (Nat → Int32) × (Nat → Int32)) => [(xp, .inr (5, [.ref xs, .ref ph, .int 0, .int 0, .ref pl])), (ph, .inl (cI, 96, .inl u.1)), (pl, .inl (cII, 4, .inr (.inr (.inr (.inr (fun i => if i < 4 then some (pr i) else none)))))), ((pr 0), .inl (cI, 96, .inl u.2))]) (fun (_ : (Nat → Int32) × (Nat → Int32)) => [(cI, .int), (cII, .array .int)]) := by
  unfold Ki
  refine g_ofW (cc := cX6_putByHand) (lv := [(0, .ref xp), (1, .int a), (2, .int b)]) (by decide) rfl (Nat.le_of_ble_eq_true rfl) rfl ?_
  intro p e s m args below meth c A Q hA hQ F hr hnm
  have hts := F.2.2.2.2.1
  have w_0 : (Cond.fieldLink RX6 9 "QuietCut$Piece" "heights" "[I").before args s = true := hts _ (List.mem_of_getElem? (i := 2) rfl)
  have i_X6 : ∀ w ∈ u_ws RX6 TX6 5, w ∈ wsX6_putByHand := fun _ h => List.mem_cons_of_mem _ (List.mem_append_right _ h)
  have w_1 : (Cond.fieldLink RX6 17 "QuietCut$Piece" "left" "[[I").before args s = true := hts _ (List.mem_of_getElem? (i := 3) rfl)
  refine g_iload_n F 1 dX6_putByHand_0 rfl rfl ?_
  refine g_if_lt F 10 dX6_putByHand_1 (by decide) (fun h9 => absurd h9 (by rw [ej_]; exact nI_pos (by omega))) (fun c_1 => ?_)
  refine g_iload_n F 1 dX6_putByHand_4 rfl rfl ?_
  refine g_bipush F 96 dX6_putByHand_5 (by decide) ?_
  refine g_icmp_lt F 13 dX6_putByHand_7 (by decide) (fun c_7 => ?_) (fun h9 => absurd (by rw [ej_]; exact nI_lt (b := 96) hj_ (by decide)) h9) 
  refine g_aload_n F 0 dX6_putByHand_13 rfl rfl ?_
  refine g_get (C := RX6) (T := TX6) (N := 5) (v := .ref ph) F i_X6 0 rfl rfl 1 (by decide) w_0 rfl rfl dX6_putByHand_14 ?_
  refine g_iload_n F 1 dX6_putByHand_17 rfl rfl ?_
  refine g_iald F 1 0 rfl rfl (by rw [ej_]; exact vp_in_nI hj_ (by decide)) dX6_putByHand_18 ?_
  refine g_fold 1000 (by rfl) ?_
  refine g_istore_n F [(3, .int 1000), (0, .ref xp), (1, .int a), (2, .int b)] dX6_putByHand_19 rfl (by decide) rfl ?_
  refine g_aload_n F 1 dX6_putByHand_20 rfl rfl ?_
  refine g_get (C := RX6) (T := TX6) (N := 5) (v := .ref ph) F i_X6 0 rfl rfl 1 (by decide) w_0 rfl rfl dX6_putByHand_21 ?_
  refine g_iload_n F 2 dX6_putByHand_24 rfl rfl ?_
  refine g_iload_n F 3 dX6_putByHand_25 rfl rfl ?_
  refine g_iast F 1 0 rfl rfl (by rw [ej_]; exact vp_in_nI hj_ (by decide)) [(xp, .inr (5, [.ref xs, .ref ph, .int 0, .int 0, .ref pl])), (ph, .inl (cI, 96, .inl (upd (fun _ => 1000) a.toNatClampNeg b))), (pl, .inl (cII, 4, .inr (.inr (.inr (.inr (fun i => if i < 4 then some (pr i) else none)))))), ((pr 0), .inl (cI, 96, .inl (fun _ => (-1))))] (rfl) dX6_putByHand_26 ?_
  refine g_aload_n F 1 dX6_putByHand_27 rfl rfl ?_
  refine g_get (C := RX6) (T := TX6) (N := 5) (v := .ref pl) F i_X6 0 rfl rfl 4 (by decide) w_1 rfl rfl dX6_putByHand_28 ?_
  refine g_iconst F 0 dX6_putByHand_31 (by decide) ?_
  refine g_aald (b := (pr 0)) F 2 1 rfl rfl (by unfold vp_in; decide) (by rfl) dX6_putByHand_32 ?_
  refine g_iload_n F 2 dX6_putByHand_33 rfl rfl ?_
  refine g_iconst F (-1) dX6_putByHand_34 (by decide) ?_
  refine g_iast F 3 0 rfl rfl (by rw [ej_]; exact vp_in_nI hj_ (by decide)) [(xp, .inr (5, [.ref xs, .ref ph, .int 0, .int 0, .ref pl])), (ph, .inl (cI, 96, .inl (upd (fun _ => 1000) a.toNatClampNeg b))), (pl, .inl (cII, 4, .inr (.inr (.inr (.inr (fun i => if i < 4 then some (pr i) else none)))))), ((pr 0), .inl (cI, 96, .inl (upd (fun _ => (-1)) a.toNatClampNeg (-1))))] (rfl) dX6_putByHand_35 ?_
  refine g_iload_n F 0 dX6_putByHand_36 rfl rfl ?_
  exact g_iret F hA hQ hr ((upd (fun _ => 1000) a.toNatClampNeg b), (upd (fun _ => (-1)) a.toNatClampNeg (-1))) (rfl) [0, 1, 2, 3] [0, 1] rfl (by decide) rfl rfl dX6_putByHand_37

theorem dX11_set_0 : decode cX11_set 0 = .ok (.aload_n 0, 1) := by decide +kernel
theorem dX11_set_1 : decode cX11_set 1 = .ok (.getfield 40, 3) := by decide +kernel
theorem dX11_set_4 : decode cX11_set 4 = .ok (.iload_n 1, 1) := by decide +kernel
theorem dX11_set_5 : decode cX11_set 5 = .ok (.iload_n 2, 1) := by decide +kernel
theorem dX11_set_6 : decode cX11_set 6 = .ok (.invokevirtual 147, 3) := by decide +kernel
theorem dX11_set_9 : decode cX11_set 9 = .ok (.ifCond .eq 10, 3) := by decide +kernel
theorem dX11_set_12 : decode cX11_set 12 = .ok (.iload_n 3, 1) := by decide +kernel
theorem dX11_set_13 : decode cX11_set 13 = .ok (.invokestatic 144, 3) := by decide +kernel
theorem dX11_set_16 : decode cX11_set 16 = .ok (.ifCond .ne 6, 3) := by decide +kernel
theorem dX11_set_19 : decode cX11_set 19 = .ok (.ldc 157, 2) := by decide +kernel
theorem dX11_set_21 : decode cX11_set 21 = .ok (.ireturn, 1) := by decide +kernel
theorem dX11_set_22 : decode cX11_set 22 = .ok (.aload_n 0, 1) := by decide +kernel
theorem dX11_set_23 : decode cX11_set 23 = .ok (.getfield 40, 3) := by decide +kernel
theorem dX11_set_26 : decode cX11_set 26 = .ok (.iload_n 1, 1) := by decide +kernel
theorem dX11_set_27 : decode cX11_set 27 = .ok (.iload_n 2, 1) := by decide +kernel
theorem dX11_set_28 : decode cX11_set 28 = .ok (.invokestatic 154, 3) := by decide +kernel
theorem dX11_set_31 : decode cX11_set 31 = .ok (.iload_n 3, 1) := by decide +kernel
theorem dX11_set_32 : decode cX11_set 32 = .ok (.invokevirtual 158, 3) := by decide +kernel
theorem dX11_set_35 : decode cX11_set 35 = .ok (.ireturn, 1) := by decide +kernel
set_option maxRecDepth 20000 in
theorem ggX11_set_X6_has : GoodIn wsX11_set wsX6_has := goodIn_r _ [7, 8, 9, 10, 11, 12, 13, 14, 15, 43, 44, 45, 46, 47, 48, 49, 50, 51] rfl (by decide +kernel)
set_option maxRecDepth 20000 in
theorem gX11_set_X6_has : GoodIn wsX11_set (wsV RX11 147 RX6 yX6_has wsX6_has) := goodIn_app (goodIn_of _ (by decide +kernel)) ggX11_set_X6_has
set_option maxRecDepth 20000 in
theorem ggX11_set_X6_mayBeHigh : GoodIn wsX11_set wsX6_mayBeHigh := goodIn_r _ [18] rfl (by decide +kernel)
set_option maxRecDepth 20000 in
theorem gX11_set_X6_mayBeHigh : GoodIn wsX11_set (va_wsS RX11 144 yX6_mayBeHigh wsX6_mayBeHigh) := goodIn_app (goodIn_of _ (by decide +kernel)) ggX11_set_X6_mayBeHigh
set_option maxRecDepth 20000 in
theorem ggX11_set_X6_placeOf : GoodIn wsX11_set wsX6_placeOf := goodIn_r _ [21] rfl (by decide +kernel)
set_option maxRecDepth 20000 in
theorem gX11_set_X6_placeOf : GoodIn wsX11_set (va_wsS RX11 154 yX6_placeOf wsX6_placeOf) := goodIn_app (goodIn_of _ (by decide +kernel)) ggX11_set_X6_placeOf
set_option maxRecDepth 20000 in
theorem ggX11_set_X6_putByHand : GoodIn wsX11_set wsX6_putByHand := goodIn_r _ [25, 26, 27, 28, 43, 44, 45, 46, 47] rfl (by decide +kernel)
set_option maxRecDepth 20000 in
theorem gX11_set_X6_putByHand : GoodIn wsX11_set (wsV RX11 158 RX6 yX6_putByHand wsX6_putByHand) := goodIn_app (goodIn_of _ (by decide +kernel)) ggX11_set_X6_putByHand
set_option maxHeartbeats 4000000 in
set_option maxRecDepth 100000 in
theorem K_X11_set (l : Launch) (D : va_G) (x0 : Nat) (xt : Nat) (xs : Nat) (xq : Nat) (xr : Nat) (xp : Nat) (xl : Nat) (xc : Nat) (xj : Nat) (xe : Nat) (xo : Nat) (pa : Nat) (ph : Nat) (pl : Nat) (cI : ClassId) (cII : ClassId) (pr : Nat → Nat) (n : Nat) (fo : Nat) (wa : Nat) (we : Nat) (a : Int32) (b : Int32) (h : Int32) (sz : Nat) : Ki l yX11_set wsX11_set 3 83 0 0 D [.ref x0, .int a, .int b, .int h] [(x0, .inr (10, [.ref xt, .ref xs, .ref xq, .ref xr, .ref xp, .ref xl, .ref xc, .ref xj, .ref xe, .ref xo, .ref pa, .int 0, .int 0, .int (-1)])), (xp, .inr (5, [.ref xs, .ref ph, .int 0, .int 0, .ref pl])), (ph, .inl (cI, 96, .inl (fun _ => 1000))), (pl, .inl (cII, 4, .inr (.inr (.inr (.inr (fun i => if i < 4 then some (pr i) else none)))))), ((pr 0), .inl (cI, 96, .inl (fun _ => (-1)))), (xs, .inr (6, [.ref n, .ref fo, .ref wa, .ref we])), (n, .inl (cI, 36, .inl g_nums))] [(cI, .int), (cII, .array .int)] sz (fun (r : Int32) (u : (Nat → Int32) × (Nat → Int32)) => r = (if (0 ≤ a ∧ a < 3 ∧ 0 ≤ b ∧ b < 8) ∧ (100 ≤ h ∧ h ≤ 5000) then 1000 else (-100000))) (fun (u : (Nat → Int32) × (Nat → Int32)) => [(x0, .inr (10, [.ref xt, .ref xs, .ref xq, .ref xr, .ref xp, .ref xl, .ref xc, .ref xj, .ref xe, .ref xo, .ref pa, .int 0, .int 0, .int (-1)])), (xp, .inr (5, [.ref xs, .ref ph, .int 0, .int 0, .ref pl])), (ph, .inl (cI, 96, .inl u.1)), (pl, .inl (cII, 4, .inr (.inr (.inr (.inr (fun i => if i < 4 then some (pr i) else none)))))), ((pr 0), .inl (cI, 96, .inl u.2)), (xs, .inr (6, [.ref n, .ref fo, .ref wa, .ref we])), (n, .inl (cI, 36, .inl g_nums))]) (fun (_ : (Nat → Int32) × (Nat → Int32)) => [(cI, .int), (cII, .array .int)]) := by
  unfold Ki
  refine g_ofW (cc := cX11_set) (lv := [(0, .ref x0), (1, .int a), (2, .int b), (3, .int h)]) (by decide) rfl (Nat.le_of_ble_eq_true rfl) rfl ?_
  intro p e s m args below meth c A Q hA hQ F hr hnm
  have hts := F.2.2.2.2.1
  have w_0 : (Cond.fieldLink RX11 40 "QuietCut" "piece" "LQuietCut$Piece;").before args s = true := hts _ (List.mem_of_getElem? (i := 1) rfl)
  have i_X11 : ∀ w ∈ u_ws RX11 TX11 14, w ∈ wsX11_set := fun _ h => List.mem_cons_of_mem _ (List.mem_append_left _ (List.mem_append_left _ (List.mem_append_right _ h)))
  have w_1 : (Cond.constant RX11 157 (-100000)).before args s = true := hts _ (List.mem_of_getElem? (i := 2) rfl)
  refine g_aload_n F 0 dX11_set_0 rfl rfl ?_
  refine g_get (C := RX11) (T := TX11) (N := 14) (v := .ref xp) F i_X11 0 rfl rfl 4 (by decide) w_0 rfl rfl dX11_set_1 ?_
  refine g_iload_n F 1 dX11_set_4 rfl rfl ?_
  refine g_iload_n F 2 dX11_set_5 rfl rfl ?_
  refine g_callVi (k := 0) (n := 0) (b := xp) (As := [.int a, .int b]) (st := []) (wc := [(xp, .inr (5, [.ref xs, .ref ph, .int 0, .int 0, .ref pl])), (xs, .inr (6, [.ref n, .ref fo, .ref wa, .ref we])), (n, .inl (cI, 36, .inl g_nums))]) (wr := [(x0, .inr (10, [.ref xt, .ref xs, .ref xq, .ref xr, .ref xp, .ref xl, .ref xc, .ref xj, .ref xe, .ref xo, .ref pa, .int 0, .int 0, .int (-1)])), (ph, .inl (cI, 96, .inl (fun _ => 1000))), (pl, .inl (cII, 4, .inr (.inr (.inr (.inr (fun i => if i < 4 then some (pr i) else none)))))), ((pr 0), .inl (cI, 96, .inl (fun _ => (-1))))]) F [1, 5, 6] [0, 2, 3, 4] [0] rfl rfl (by decide) rfl (by decide) (by decide) rfl (fun sz => K_X6_has l D xp xs ph pl n fo wa we cI a b  sz) (cwV 2 hts gX11_set_X6_has rfl rfl rfl (by decide +kernel) ⟨Nat.le_of_ble_eq_true rfl, Nat.le_of_ble_eq_true rfl⟩) rfl 0 rfl rfl (Nat.le_of_ble_eq_true rfl) ⟨Nat.le_of_ble_eq_true rfl, Nat.le_of_ble_eq_true rfl⟩ dX11_set_6 (fun r_1 _ hw_2 => ?_)
  have hw_2 : r_1 = (if 0 ≤ a ∧ a < 3 ∧ 0 ≤ b ∧ b < 8 then 1 else 0) := hw_2
  have e_r_1 := hw_2
  show gG p l e (gR 3 0 0 83) s m args below meth c D A 4 Q 0 0 [(x0, .inr (10, [.ref xt, .ref xs, .ref xq, .ref xr, .ref xp, .ref xl, .ref xc, .ref xj, .ref xe, .ref xo, .ref pa, .int 0, .int 0, .int (-1)])), (ph, .inl (cI, 96, .inl (fun _ => 1000))), (pl, .inl (cII, 4, .inr (.inr (.inr (.inr (fun i => if i < 4 then some (pr i) else none)))))), ((pr 0), .inl (cI, 96, .inl (fun _ => (-1)))), (xp, .inr (5, [.ref xs, .ref ph, .int 0, .int 0, .ref pl])), (xs, .inr (6, [.ref n, .ref fo, .ref wa, .ref we])), (n, .inl (cI, 36, .inl g_nums))] [(cI, .int), (cII, .array .int)] [(0, .ref x0), (1, .int a), (2, .int b), (3, .int h)] 9 [.int r_1]
  refine g_fold (if 0 ≤ a ∧ a < 3 ∧ 0 ≤ b ∧ b < 8 then 1 else 0) e_r_1 ?_
  refine g_if_eq F 19 dX11_set_9 (by decide) (fun c_9 => ?_) (fun c_9 => ?_)
  · have c_9 := gb_0 c_9
    refine g_ldc F w_1 dX11_set_19 ?_
    exact g_iret F hA hQ hr ((fun _ => 1000), (fun _ => (-1))) (by first | exact (gi_e (by (simp only [Int32.lt_iff_toInt_lt, Int32.le_iff_toInt_le, ← Int32.toInt_inj, Int32.reduceToInt] at c_9 ⊢; omega)) rfl)) [0, 4, 1, 2, 3, 5, 6] [0, 1] rfl (by decide) rfl rfl dX11_set_21
  · have c_9 := gb_n0 c_9
    refine g_iload_n F 3 dX11_set_12 rfl rfl ?_
    refine g_callSi (k := 0) (n := 0) (As := [.int h]) (st := []) (wc := []) (wr := [(x0, .inr (10, [.ref xt, .ref xs, .ref xq, .ref xr, .ref xp, .ref xl, .ref xc, .ref xj, .ref xe, .ref xo, .ref pa, .int 0, .int 0, .int (-1)])), (ph, .inl (cI, 96, .inl (fun _ => 1000))), (pl, .inl (cII, 4, .inr (.inr (.inr (.inr (fun i => if i < 4 then some (pr i) else none)))))), ((pr 0), .inl (cI, 96, .inl (fun _ => (-1)))), (xp, .inr (5, [.ref xs, .ref ph, .int 0, .int 0, .ref pl])), (xs, .inr (6, [.ref n, .ref fo, .ref wa, .ref we])), (n, .inl (cI, 36, .inl g_nums))]) F [] [0, 1, 2, 3, 4, 5, 6] [] rfl rfl (by decide) rfl (by decide) (by decide) rfl (fun sz => K_X6_mayBeHigh l D h  sz) (va_cwS 1 hts gX11_set_X6_mayBeHigh rfl rfl rfl (by decide +kernel) ⟨Nat.le_of_ble_eq_true rfl, Nat.le_of_ble_eq_true rfl⟩) rfl (Nat.le_of_ble_eq_true rfl) ⟨Nat.le_of_ble_eq_true rfl, Nat.le_of_ble_eq_true rfl⟩ dX11_set_13 (fun r_6 _ hw_7 => ?_)
    have hw_7 : r_6 = (if 100 ≤ h ∧ h ≤ 5000 then 1 else 0) := hw_7
    have e_r_6 := hw_7
    show gG p l e (gR 3 0 0 83) s m args below meth c D A 4 Q 0 0 [(x0, .inr (10, [.ref xt, .ref xs, .ref xq, .ref xr, .ref xp, .ref xl, .ref xc, .ref xj, .ref xe, .ref xo, .ref pa, .int 0, .int 0, .int (-1)])), (ph, .inl (cI, 96, .inl (fun _ => 1000))), (pl, .inl (cII, 4, .inr (.inr (.inr (.inr (fun i => if i < 4 then some (pr i) else none)))))), ((pr 0), .inl (cI, 96, .inl (fun _ => (-1)))), (xp, .inr (5, [.ref xs, .ref ph, .int 0, .int 0, .ref pl])), (xs, .inr (6, [.ref n, .ref fo, .ref wa, .ref we])), (n, .inl (cI, 36, .inl g_nums))] [(cI, .int), (cII, .array .int)] [(0, .ref x0), (1, .int a), (2, .int b), (3, .int h)] 16 [.int r_6]
    refine g_fold (if 100 ≤ h ∧ h ≤ 5000 then 1 else 0) e_r_6 ?_
    refine g_if_ne F 22 dX11_set_16 (by decide) (fun c_16 => ?_) (fun c_16 => ?_)
    · have c_16 := gb_n0 c_16
      refine g_aload_n F 0 dX11_set_22 rfl rfl ?_
      refine g_get (C := RX11) (T := TX11) (N := 14) (v := .ref xp) F i_X11 0 rfl rfl 4 (by decide) w_0 rfl rfl dX11_set_23 ?_
      refine g_iload_n F 1 dX11_set_26 rfl rfl ?_
      refine g_iload_n F 2 dX11_set_27 rfl rfl ?_
      refine g_callSi (k := 0) (n := 0) (As := [.int a, .int b]) (st := [.ref xp]) (wc := []) (wr := [(x0, .inr (10, [.ref xt, .ref xs, .ref xq, .ref xr, .ref xp, .ref xl, .ref xc, .ref xj, .ref xe, .ref xo, .ref pa, .int 0, .int 0, .int (-1)])), (ph, .inl (cI, 96, .inl (fun _ => 1000))), (pl, .inl (cII, 4, .inr (.inr (.inr (.inr (fun i => if i < 4 then some (pr i) else none)))))), ((pr 0), .inl (cI, 96, .inl (fun _ => (-1)))), (xp, .inr (5, [.ref xs, .ref ph, .int 0, .int 0, .ref pl])), (xs, .inr (6, [.ref n, .ref fo, .ref wa, .ref we])), (n, .inl (cI, 36, .inl g_nums))]) F [] [0, 1, 2, 3, 4, 5, 6] [] rfl rfl (by decide) rfl (by decide) (by decide) rfl (fun sz => K_X6_placeOf l D a b  sz) (va_cwS 2 hts gX11_set_X6_placeOf rfl rfl rfl (by decide +kernel) ⟨Nat.le_of_ble_eq_true rfl, Nat.le_of_ble_eq_true rfl⟩) rfl (Nat.le_of_ble_eq_true rfl) ⟨Nat.le_of_ble_eq_true rfl, Nat.le_of_ble_eq_true rfl⟩ dX11_set_28 (fun r_11 _ hw_12 => ?_)
      have hw_12 : r_11 = ((a * 16) + b) := hw_12
      have e_r_11 := hw_12
      show gG p l e (gR 3 0 0 83) s m args below meth c D A 4 Q 0 0 [(x0, .inr (10, [.ref xt, .ref xs, .ref xq, .ref xr, .ref xp, .ref xl, .ref xc, .ref xj, .ref xe, .ref xo, .ref pa, .int 0, .int 0, .int (-1)])), (ph, .inl (cI, 96, .inl (fun _ => 1000))), (pl, .inl (cII, 4, .inr (.inr (.inr (.inr (fun i => if i < 4 then some (pr i) else none)))))), ((pr 0), .inl (cI, 96, .inl (fun _ => (-1)))), (xp, .inr (5, [.ref xs, .ref ph, .int 0, .int 0, .ref pl])), (xs, .inr (6, [.ref n, .ref fo, .ref wa, .ref we])), (n, .inl (cI, 36, .inl g_nums))] [(cI, .int), (cII, .array .int)] [(0, .ref x0), (1, .int a), (2, .int b), (3, .int h)] 31 [.int r_11, .ref xp]
      refine g_fold ((a * 16) + b) e_r_11 ?_
      refine g_iload_n F 3 dX11_set_31 rfl rfl ?_
      obtain ⟨j_, hj_, ej_⟩ := gi_place c_9
      refine g_callVi (k := 0) (n := 0) (b := xp) (As := [.int ((a * 16) + b), .int h]) (st := []) (wc := [(xp, .inr (5, [.ref xs, .ref ph, .int 0, .int 0, .ref pl])), (ph, .inl (cI, 96, .inl (fun _ => 1000))), (pl, .inl (cII, 4, .inr (.inr (.inr (.inr (fun i => if i < 4 then some (pr i) else none)))))), ((pr 0), .inl (cI, 96, .inl (fun _ => (-1))))]) (wr := [(x0, .inr (10, [.ref xt, .ref xs, .ref xq, .ref xr, .ref xp, .ref xl, .ref xc, .ref xj, .ref xe, .ref xo, .ref pa, .int 0, .int 0, .int (-1)])), (xs, .inr (6, [.ref n, .ref fo, .ref wa, .ref we])), (n, .inl (cI, 36, .inl g_nums))]) F [4, 1, 2, 3] [0, 5, 6] [0, 1] rfl rfl (by decide) rfl (by decide) (by decide) rfl (fun sz => K_X6_putByHand l D xp xs ph pl cI cII pr ((a * 16) + b) h j_ (hj_) (ej_) sz) (cwV 2 hts gX11_set_X6_putByHand rfl rfl rfl (by decide +kernel) ⟨Nat.le_of_ble_eq_true rfl, Nat.le_of_ble_eq_true rfl⟩) rfl 0 rfl rfl (Nat.le_of_ble_eq_true rfl) ⟨Nat.le_of_ble_eq_true rfl, Nat.le_of_ble_eq_true rfl⟩ dX11_set_32 (fun r_16 u_15 hw_17 => ?_)
      obtain ⟨g1_18, g2_18⟩ := u_15
      have hw_17 : r_16 = 1000 := hw_17
      have e_r_16 := hw_17
      show gG p l e (gR 3 0 0 83) s m args below meth c D A 4 Q 0 0 [(x0, .inr (10, [.ref xt, .ref xs, .ref xq, .ref xr, .ref xp, .ref xl, .ref xc, .ref xj, .ref xe, .ref xo, .ref pa, .int 0, .int 0, .int (-1)])), (xs, .inr (6, [.ref n, .ref fo, .ref wa, .ref we])), (n, .inl (cI, 36, .inl g_nums)), (xp, .inr (5, [.ref xs, .ref ph, .int 0, .int 0, .ref pl])), (ph, .inl (cI, 96, .inl g1_18)), (pl, .inl (cII, 4, .inr (.inr (.inr (.inr (fun i => if i < 4 then some (pr i) else none)))))), ((pr 0), .inl (cI, 96, .inl g2_18))] [(cI, .int), (cII, .array .int)] [(0, .ref x0), (1, .int a), (2, .int b), (3, .int h)] 35 [.int r_16]
      refine g_fold 1000 e_r_16 ?_
      exact g_iret F hA hQ hr (g1_18, g2_18) (by first | exact (gi_p (by (simp only [Int32.lt_iff_toInt_lt, Int32.le_iff_toInt_le, ← Int32.toInt_inj, Int32.reduceToInt] at c_9 c_16 ⊢; omega)) rfl)) [0, 3, 4, 5, 6, 1, 2] [0, 1] rfl (by decide) rfl rfl dX11_set_35
    · have c_16 := gb_0 c_16
      refine g_ldc F w_1 dX11_set_19 ?_
      exact g_iret F hA hQ hr ((fun _ => 1000), (fun _ => (-1))) (by first | exact (gi_e (by (simp only [Int32.lt_iff_toInt_lt, Int32.le_iff_toInt_le, ← Int32.toInt_inj, Int32.reduceToInt] at c_9 c_16 ⊢; omega)) rfl)) [0, 4, 1, 2, 3, 5, 6] [0, 1] rfl (by decide) rfl rfl dX11_set_21

theorem dX6_leftBy_0 : decode cX6_leftBy 0 = .ok (.iload_n 1, 1) := by decide +kernel
theorem dX6_leftBy_1 : decode cX6_leftBy 1 = .ok (.ifCond .lt 22, 3) := by decide +kernel
theorem dX6_leftBy_4 : decode cX6_leftBy 4 = .ok (.iload_n 1, 1) := by decide +kernel
theorem dX6_leftBy_5 : decode cX6_leftBy 5 = .ok (.bipush 96, 2) := by decide +kernel
theorem dX6_leftBy_7 : decode cX6_leftBy 7 = .ok (.if_icmp .ge 16, 3) := by decide +kernel
theorem dX6_leftBy_10 : decode cX6_leftBy 10 = .ok (.iload_n 2, 1) := by decide +kernel
theorem dX6_leftBy_11 : decode cX6_leftBy 11 = .ok (.ifCond .lt 12, 3) := by decide +kernel
theorem dX6_leftBy_14 : decode cX6_leftBy 14 = .ok (.iload_n 2, 1) := by decide +kernel
theorem dX6_leftBy_15 : decode cX6_leftBy 15 = .ok (.aload_n 0, 1) := by decide +kernel
theorem dX6_leftBy_16 : decode cX6_leftBy 16 = .ok (.getfield 17, 3) := by decide +kernel
theorem dX6_leftBy_19 : decode cX6_leftBy 19 = .ok (.arraylength, 1) := by decide +kernel
theorem dX6_leftBy_20 : decode cX6_leftBy 20 = .ok (.if_icmp .lt 5, 3) := by decide +kernel
theorem dX6_leftBy_23 : decode cX6_leftBy 23 = .ok (.iconst (-1), 1) := by decide +kernel
theorem dX6_leftBy_24 : decode cX6_leftBy 24 = .ok (.ireturn, 1) := by decide +kernel
theorem dX6_leftBy_25 : decode cX6_leftBy 25 = .ok (.aload_n 0, 1) := by decide +kernel
theorem dX6_leftBy_26 : decode cX6_leftBy 26 = .ok (.getfield 17, 3) := by decide +kernel
theorem dX6_leftBy_29 : decode cX6_leftBy 29 = .ok (.iconst 0, 1) := by decide +kernel
theorem dX6_leftBy_30 : decode cX6_leftBy 30 = .ok (.aaload, 1) := by decide +kernel
theorem dX6_leftBy_31 : decode cX6_leftBy 31 = .ok (.iload_n 1, 1) := by decide +kernel
theorem dX6_leftBy_32 : decode cX6_leftBy 32 = .ok (.iaload, 1) := by decide +kernel
theorem dX6_leftBy_33 : decode cX6_leftBy 33 = .ok (.iconst (-1), 1) := by decide +kernel
theorem dX6_leftBy_34 : decode cX6_leftBy 34 = .ok (.if_icmp .ne 7, 3) := by decide +kernel
theorem dX6_leftBy_37 : decode cX6_leftBy 37 = .ok (.iconst (-1), 1) := by decide +kernel
theorem dX6_leftBy_38 : decode cX6_leftBy 38 = .ok (.goto 11, 3) := by decide +kernel
theorem dX6_leftBy_41 : decode cX6_leftBy 41 = .ok (.aload_n 0, 1) := by decide +kernel
theorem dX6_leftBy_42 : decode cX6_leftBy 42 = .ok (.getfield 17, 3) := by decide +kernel
theorem dX6_leftBy_45 : decode cX6_leftBy 45 = .ok (.iload_n 2, 1) := by decide +kernel
theorem dX6_leftBy_46 : decode cX6_leftBy 46 = .ok (.aaload, 1) := by decide +kernel
theorem dX6_leftBy_47 : decode cX6_leftBy 47 = .ok (.iload_n 1, 1) := by decide +kernel
theorem dX6_leftBy_48 : decode cX6_leftBy 48 = .ok (.iaload, 1) := by decide +kernel
theorem dX6_leftBy_49 : decode cX6_leftBy 49 = .ok (.ireturn, 1) := by decide +kernel
set_option maxHeartbeats 4000000 in
set_option maxRecDepth 100000 in
theorem K_X6_leftBy (l : Launch) (D : va_G) (xp : Nat) (xs : Nat) (ph : Nat) (pl : Nat) (cII : ClassId) (pr : Nat → Nat) (cI : ClassId) (a : Int32) (b : Int32) (j_ : Nat) (hj_ : j_ < 96) (ej_ : a = nI j_) (sz : Nat) : Ki l yX6_leftBy wsX6_leftBy 1 40 0 0 D [.ref xp, .int a, .int b] [(xp, .inr (5, [.ref xs, .ref ph, .int 0, .int 0, .ref pl])), (pl, .inl (cII, 4, .inr (.inr (.inr (.inr (fun i => if i < 4 then some (pr i) else none)))))), ((pr 0), .inl (cI, 96, .inl (fun _ => (-1))))] [(cII, .array .int), (cI, .int)] sz (fun (r : Int32) (_ : Unit) => r = (-1)) (fun (_ : Unit) => [(xp, .inr (5, [.ref xs, .ref ph, .int 0, .int 0, .ref pl])), (pl, .inl (cII, 4, .inr (.inr (.inr (.inr (fun i => if i < 4 then some (pr i) else none)))))), ((pr 0), .inl (cI, 96, .inl (fun _ => (-1))))]) (fun (_ : Unit) => [(cII, .array .int), (cI, .int)]) := by
  unfold Ki
  refine g_ofW (cc := cX6_leftBy) (lv := [(0, .ref xp), (1, .int a), (2, .int b)]) (by decide) rfl (Nat.le_of_ble_eq_true rfl) rfl ?_
  intro p e s m args below meth c A Q hA hQ F hr hnm
  have hts := F.2.2.2.2.1
  have w_0 : (Cond.fieldLink RX6 17 "QuietCut$Piece" "left" "[[I").before args s = true := hts _ (List.mem_of_getElem? (i := 1) rfl)
  have i_X6 : ∀ w ∈ u_ws RX6 TX6 5, w ∈ wsX6_leftBy := fun _ h => List.mem_cons_of_mem _ (List.mem_append_right _ h)
  refine g_iload_n F 1 dX6_leftBy_0 rfl rfl ?_
  refine g_if_lt F 23 dX6_leftBy_1 (by decide) (fun h9 => absurd h9 (by rw [ej_]; exact nI_pos (by omega))) (fun c_1 => ?_)
  refine g_iload_n F 1 dX6_leftBy_4 rfl rfl ?_
  refine g_bipush F 96 dX6_leftBy_5 (by decide) ?_
  refine g_icmp_ge F 23 dX6_leftBy_7 (by decide) (fun h9 => absurd h9 (by rw [ej_]; exact nI_ge (b := 96) hj_ (by decide))) (fun c_7 => ?_)
  refine g_iload_n F 2 dX6_leftBy_10 rfl rfl ?_
  refine g_if_lt F 23 dX6_leftBy_11 (by decide) (fun c_11 => ?_) (fun c_11 => ?_)
  · refine g_iconst F (-1) dX6_leftBy_23 (by decide) ?_
    exact g_iret F hA hQ hr () (rfl) [0, 1, 2] [0, 1] rfl (by decide) rfl rfl dX6_leftBy_24
  · refine g_iload_n F 2 dX6_leftBy_14 rfl rfl ?_
    refine g_aload_n F 0 dX6_leftBy_15 rfl rfl ?_
    refine g_get (C := RX6) (T := TX6) (N := 5) (v := .ref pl) F i_X6 0 rfl rfl 4 (by decide) w_0 rfl rfl dX6_leftBy_16 ?_
    refine g_alen F 1 0 rfl rfl 4 rfl dX6_leftBy_19 ?_
    refine g_icmp_lt F 25 dX6_leftBy_20 (by decide) (fun c_20 => ?_) (fun c_20 => ?_)
    · refine g_aload_n F 0 dX6_leftBy_25 rfl rfl ?_
      refine g_get (C := RX6) (T := TX6) (N := 5) (v := .ref pl) F i_X6 0 rfl rfl 4 (by decide) w_0 rfl rfl dX6_leftBy_26 ?_
      refine g_iconst F 0 dX6_leftBy_29 (by decide) ?_
      refine g_aald (b := (pr 0)) F 1 0 rfl rfl (by unfold vp_in; decide) (by rfl) dX6_leftBy_30 ?_
      refine g_iload_n F 1 dX6_leftBy_31 rfl rfl ?_
      refine g_iald F 2 1 rfl rfl (by rw [ej_]; exact vp_in_nI hj_ (by decide)) dX6_leftBy_32 ?_
      refine g_fold (-1) (by rfl) ?_
      refine g_iconst F (-1) dX6_leftBy_33 (by decide) ?_
      refine g_icmp_ne F 41 dX6_leftBy_34 (by decide) (fun h9 => absurd (by decide) h9) (fun c_34 => ?_)
      refine g_iconst F (-1) dX6_leftBy_37 (by decide) ?_
      refine g_goto F 49 dX6_leftBy_38 (by decide) ?_
      exact g_iret F hA hQ hr () (rfl) [0, 1, 2] [0, 1] rfl (by decide) rfl rfl dX6_leftBy_49
    · refine g_iconst F (-1) dX6_leftBy_23 (by decide) ?_
      exact g_iret F hA hQ hr () (rfl) [0, 1, 2] [0, 1] rfl (by decide) rfl rfl dX6_leftBy_24

theorem dX11_left_0 : decode cX11_left 0 = .ok (.aload_n 0, 1) := by decide +kernel
theorem dX11_left_1 : decode cX11_left 1 = .ok (.getfield 40, 3) := by decide +kernel
theorem dX11_left_4 : decode cX11_left 4 = .ok (.iload_n 1, 1) := by decide +kernel
theorem dX11_left_5 : decode cX11_left 5 = .ok (.iload_n 2, 1) := by decide +kernel
theorem dX11_left_6 : decode cX11_left 6 = .ok (.invokevirtual 147, 3) := by decide +kernel
theorem dX11_left_9 : decode cX11_left 9 = .ok (.ifCond .eq 19, 3) := by decide +kernel
theorem dX11_left_12 : decode cX11_left 12 = .ok (.aload_n 0, 1) := by decide +kernel
theorem dX11_left_13 : decode cX11_left 13 = .ok (.getfield 40, 3) := by decide +kernel
theorem dX11_left_16 : decode cX11_left 16 = .ok (.iload_n 1, 1) := by decide +kernel
theorem dX11_left_17 : decode cX11_left 17 = .ok (.iload_n 2, 1) := by decide +kernel
theorem dX11_left_18 : decode cX11_left 18 = .ok (.invokestatic 154, 3) := by decide +kernel
theorem dX11_left_21 : decode cX11_left 21 = .ok (.iload_n 3, 1) := by decide +kernel
theorem dX11_left_22 : decode cX11_left 22 = .ok (.invokevirtual 209, 3) := by decide +kernel
theorem dX11_left_25 : decode cX11_left 25 = .ok (.goto 4, 3) := by decide +kernel
theorem dX11_left_28 : decode cX11_left 28 = .ok (.iconst (-1), 1) := by decide +kernel
theorem dX11_left_29 : decode cX11_left 29 = .ok (.ireturn, 1) := by decide +kernel
set_option maxRecDepth 20000 in
theorem ggX11_left_X6_has : GoodIn wsX11_left wsX6_has := goodIn_r _ [6, 7, 8, 9, 10, 11, 12, 13, 14, 37, 38, 39, 40, 41, 42, 43, 44, 45] rfl (by decide +kernel)
set_option maxRecDepth 20000 in
theorem gX11_left_X6_has : GoodIn wsX11_left (wsV RX11 147 RX6 yX6_has wsX6_has) := goodIn_app (goodIn_of _ (by decide +kernel)) ggX11_left_X6_has
set_option maxRecDepth 20000 in
theorem ggX11_left_X6_leftBy : GoodIn wsX11_left wsX6_leftBy := goodIn_r _ [21, 22, 37, 38, 39, 40, 41] rfl (by decide +kernel)
set_option maxRecDepth 20000 in
theorem gX11_left_X6_leftBy : GoodIn wsX11_left (wsV RX11 209 RX6 yX6_leftBy wsX6_leftBy) := goodIn_app (goodIn_of _ (by decide +kernel)) ggX11_left_X6_leftBy
set_option maxRecDepth 20000 in
theorem ggX11_left_X6_placeOf : GoodIn wsX11_left wsX6_placeOf := goodIn_r _ [17] rfl (by decide +kernel)
set_option maxRecDepth 20000 in
theorem gX11_left_X6_placeOf : GoodIn wsX11_left (va_wsS RX11 154 yX6_placeOf wsX6_placeOf) := goodIn_app (goodIn_of _ (by decide +kernel)) ggX11_left_X6_placeOf
set_option maxHeartbeats 4000000 in
set_option maxRecDepth 100000 in
theorem K_X11_left (l : Launch) (D : va_G) (x0 : Nat) (xt : Nat) (xs : Nat) (xq : Nat) (xr : Nat) (xp : Nat) (xl : Nat) (xc : Nat) (xj : Nat) (xe : Nat) (xo : Nat) (pa : Nat) (ph : Nat) (pl : Nat) (cII : ClassId) (pr : Nat → Nat) (cI : ClassId) (n : Nat) (fo : Nat) (wa : Nat) (we : Nat) (a : Int32) (b : Int32) (w : Int32) (sz : Nat) : Ki l yX11_left wsX11_left 3 83 0 0 D [.ref x0, .int a, .int b, .int w] [(x0, .inr (10, [.ref xt, .ref xs, .ref xq, .ref xr, .ref xp, .ref xl, .ref xc, .ref xj, .ref xe, .ref xo, .ref pa, .int 0, .int 0, .int (-1)])), (xp, .inr (5, [.ref xs, .ref ph, .int 0, .int 0, .ref pl])), (pl, .inl (cII, 4, .inr (.inr (.inr (.inr (fun i => if i < 4 then some (pr i) else none)))))), ((pr 0), .inl (cI, 96, .inl (fun _ => (-1)))), (xs, .inr (6, [.ref n, .ref fo, .ref wa, .ref we])), (n, .inl (cI, 36, .inl g_nums))] [(cII, .array .int), (cI, .int)] sz (fun (r : Int32) (_ : Unit) => r = (-1)) (fun (_ : Unit) => [(x0, .inr (10, [.ref xt, .ref xs, .ref xq, .ref xr, .ref xp, .ref xl, .ref xc, .ref xj, .ref xe, .ref xo, .ref pa, .int 0, .int 0, .int (-1)])), (xp, .inr (5, [.ref xs, .ref ph, .int 0, .int 0, .ref pl])), (pl, .inl (cII, 4, .inr (.inr (.inr (.inr (fun i => if i < 4 then some (pr i) else none)))))), ((pr 0), .inl (cI, 96, .inl (fun _ => (-1)))), (xs, .inr (6, [.ref n, .ref fo, .ref wa, .ref we])), (n, .inl (cI, 36, .inl g_nums))]) (fun (_ : Unit) => [(cII, .array .int), (cI, .int)]) := by
  unfold Ki
  refine g_ofW (cc := cX11_left) (lv := [(0, .ref x0), (1, .int a), (2, .int b), (3, .int w)]) (by decide) rfl (Nat.le_of_ble_eq_true rfl) rfl ?_
  intro p e s m args below meth c A Q hA hQ F hr hnm
  have hts := F.2.2.2.2.1
  have w_0 : (Cond.fieldLink RX11 40 "QuietCut" "piece" "LQuietCut$Piece;").before args s = true := hts _ (List.mem_of_getElem? (i := 1) rfl)
  have i_X11 : ∀ w ∈ u_ws RX11 TX11 14, w ∈ wsX11_left := fun _ h => List.mem_cons_of_mem _ (List.mem_append_left _ (List.mem_append_left _ (List.mem_append_right _ h)))
  refine g_aload_n F 0 dX11_left_0 rfl rfl ?_
  refine g_get (C := RX11) (T := TX11) (N := 14) (v := .ref xp) F i_X11 0 rfl rfl 4 (by decide) w_0 rfl rfl dX11_left_1 ?_
  refine g_iload_n F 1 dX11_left_4 rfl rfl ?_
  refine g_iload_n F 2 dX11_left_5 rfl rfl ?_
  refine g_callVi (k := 0) (n := 0) (b := xp) (As := [.int a, .int b]) (st := []) (wc := [(xp, .inr (5, [.ref xs, .ref ph, .int 0, .int 0, .ref pl])), (xs, .inr (6, [.ref n, .ref fo, .ref wa, .ref we])), (n, .inl (cI, 36, .inl g_nums))]) (wr := [(x0, .inr (10, [.ref xt, .ref xs, .ref xq, .ref xr, .ref xp, .ref xl, .ref xc, .ref xj, .ref xe, .ref xo, .ref pa, .int 0, .int 0, .int (-1)])), (pl, .inl (cII, 4, .inr (.inr (.inr (.inr (fun i => if i < 4 then some (pr i) else none)))))), ((pr 0), .inl (cI, 96, .inl (fun _ => (-1))))]) F [1, 4, 5] [0, 2, 3] [1] rfl rfl (by decide) rfl (by decide) (by decide) rfl (fun sz => K_X6_has l D xp xs ph pl n fo wa we cI a b  sz) (cwV 2 hts gX11_left_X6_has rfl rfl rfl (by decide +kernel) ⟨Nat.le_of_ble_eq_true rfl, Nat.le_of_ble_eq_true rfl⟩) rfl 0 rfl rfl (Nat.le_of_ble_eq_true rfl) ⟨Nat.le_of_ble_eq_true rfl, Nat.le_of_ble_eq_true rfl⟩ dX11_left_6 (fun r_1 _ hw_2 => ?_)
  have hw_2 : r_1 = (if 0 ≤ a ∧ a < 3 ∧ 0 ≤ b ∧ b < 8 then 1 else 0) := hw_2
  have e_r_1 := hw_2
  show gG p l e (gR 3 0 0 83) s m args below meth c D A 4 Q 0 0 [(x0, .inr (10, [.ref xt, .ref xs, .ref xq, .ref xr, .ref xp, .ref xl, .ref xc, .ref xj, .ref xe, .ref xo, .ref pa, .int 0, .int 0, .int (-1)])), (pl, .inl (cII, 4, .inr (.inr (.inr (.inr (fun i => if i < 4 then some (pr i) else none)))))), ((pr 0), .inl (cI, 96, .inl (fun _ => (-1)))), (xp, .inr (5, [.ref xs, .ref ph, .int 0, .int 0, .ref pl])), (xs, .inr (6, [.ref n, .ref fo, .ref wa, .ref we])), (n, .inl (cI, 36, .inl g_nums))] [(cII, .array .int), (cI, .int)] [(0, .ref x0), (1, .int a), (2, .int b), (3, .int w)] 9 [.int r_1]
  refine g_fold (if 0 ≤ a ∧ a < 3 ∧ 0 ≤ b ∧ b < 8 then 1 else 0) e_r_1 ?_
  refine g_if_eq F 28 dX11_left_9 (by decide) (fun c_9 => ?_) (fun c_9 => ?_)
  · have c_9 := gb_0 c_9
    refine g_iconst F (-1) dX11_left_28 (by decide) ?_
    exact g_iret F hA hQ hr () (rfl) [0, 3, 1, 2, 4, 5] [0, 1] rfl (by decide) rfl rfl dX11_left_29
  · have c_9 := gb_n0 c_9
    refine g_aload_n F 0 dX11_left_12 rfl rfl ?_
    refine g_get (C := RX11) (T := TX11) (N := 14) (v := .ref xp) F i_X11 0 rfl rfl 4 (by decide) w_0 rfl rfl dX11_left_13 ?_
    refine g_iload_n F 1 dX11_left_16 rfl rfl ?_
    refine g_iload_n F 2 dX11_left_17 rfl rfl ?_
    refine g_callSi (k := 0) (n := 0) (As := [.int a, .int b]) (st := [.ref xp]) (wc := []) (wr := [(x0, .inr (10, [.ref xt, .ref xs, .ref xq, .ref xr, .ref xp, .ref xl, .ref xc, .ref xj, .ref xe, .ref xo, .ref pa, .int 0, .int 0, .int (-1)])), (pl, .inl (cII, 4, .inr (.inr (.inr (.inr (fun i => if i < 4 then some (pr i) else none)))))), ((pr 0), .inl (cI, 96, .inl (fun _ => (-1)))), (xp, .inr (5, [.ref xs, .ref ph, .int 0, .int 0, .ref pl])), (xs, .inr (6, [.ref n, .ref fo, .ref wa, .ref we])), (n, .inl (cI, 36, .inl g_nums))]) F [] [0, 1, 2, 3, 4, 5] [] rfl rfl (by decide) rfl (by decide) (by decide) rfl (fun sz => K_X6_placeOf l D a b  sz) (va_cwS 2 hts gX11_left_X6_placeOf rfl rfl rfl (by decide +kernel) ⟨Nat.le_of_ble_eq_true rfl, Nat.le_of_ble_eq_true rfl⟩) rfl (Nat.le_of_ble_eq_true rfl) ⟨Nat.le_of_ble_eq_true rfl, Nat.le_of_ble_eq_true rfl⟩ dX11_left_18 (fun r_6 _ hw_7 => ?_)
    have hw_7 : r_6 = ((a * 16) + b) := hw_7
    have e_r_6 := hw_7
    show gG p l e (gR 3 0 0 83) s m args below meth c D A 4 Q 0 0 [(x0, .inr (10, [.ref xt, .ref xs, .ref xq, .ref xr, .ref xp, .ref xl, .ref xc, .ref xj, .ref xe, .ref xo, .ref pa, .int 0, .int 0, .int (-1)])), (pl, .inl (cII, 4, .inr (.inr (.inr (.inr (fun i => if i < 4 then some (pr i) else none)))))), ((pr 0), .inl (cI, 96, .inl (fun _ => (-1)))), (xp, .inr (5, [.ref xs, .ref ph, .int 0, .int 0, .ref pl])), (xs, .inr (6, [.ref n, .ref fo, .ref wa, .ref we])), (n, .inl (cI, 36, .inl g_nums))] [(cII, .array .int), (cI, .int)] [(0, .ref x0), (1, .int a), (2, .int b), (3, .int w)] 21 [.int r_6, .ref xp]
    refine g_fold ((a * 16) + b) e_r_6 ?_
    refine g_iload_n F 3 dX11_left_21 rfl rfl ?_
    obtain ⟨j_, hj_, ej_⟩ := gi_place c_9
    refine g_callVi (k := 0) (n := 0) (b := xp) (As := [.int ((a * 16) + b), .int w]) (st := []) (wc := [(xp, .inr (5, [.ref xs, .ref ph, .int 0, .int 0, .ref pl])), (pl, .inl (cII, 4, .inr (.inr (.inr (.inr (fun i => if i < 4 then some (pr i) else none)))))), ((pr 0), .inl (cI, 96, .inl (fun _ => (-1))))]) (wr := [(x0, .inr (10, [.ref xt, .ref xs, .ref xq, .ref xr, .ref xp, .ref xl, .ref xc, .ref xj, .ref xe, .ref xo, .ref pa, .int 0, .int 0, .int (-1)])), (xs, .inr (6, [.ref n, .ref fo, .ref wa, .ref we])), (n, .inl (cI, 36, .inl g_nums))]) F [3, 1, 2] [0, 4, 5] [0, 1] rfl rfl (by decide) rfl (by decide) (by decide) rfl (fun sz => K_X6_leftBy l D xp xs ph pl cII pr cI ((a * 16) + b) w j_ (hj_) (ej_) sz) (cwV 2 hts gX11_left_X6_leftBy rfl rfl rfl (by decide +kernel) ⟨Nat.le_of_ble_eq_true rfl, Nat.le_of_ble_eq_true rfl⟩) rfl 0 rfl rfl (Nat.le_of_ble_eq_true rfl) ⟨Nat.le_of_ble_eq_true rfl, Nat.le_of_ble_eq_true rfl⟩ dX11_left_22 (fun r_11 _ hw_12 => ?_)
    have hw_12 : r_11 = (-1) := hw_12
    have e_r_11 := hw_12
    show gG p l e (gR 3 0 0 83) s m args below meth c D A 4 Q 0 0 [(x0, .inr (10, [.ref xt, .ref xs, .ref xq, .ref xr, .ref xp, .ref xl, .ref xc, .ref xj, .ref xe, .ref xo, .ref pa, .int 0, .int 0, .int (-1)])), (xs, .inr (6, [.ref n, .ref fo, .ref wa, .ref we])), (n, .inl (cI, 36, .inl g_nums)), (xp, .inr (5, [.ref xs, .ref ph, .int 0, .int 0, .ref pl])), (pl, .inl (cII, 4, .inr (.inr (.inr (.inr (fun i => if i < 4 then some (pr i) else none)))))), ((pr 0), .inl (cI, 96, .inl (fun _ => (-1))))] [(cII, .array .int), (cI, .int)] [(0, .ref x0), (1, .int a), (2, .int b), (3, .int w)] 25 [.int r_11]
    refine g_fold (-1) e_r_11 ?_
    refine g_goto F 29 dX11_left_25 (by decide) ?_
    exact g_iret F hA hQ hr () (rfl) [0, 3, 4, 5, 1, 2] [0, 1] rfl (by decide) rfl rfl dX11_left_29

theorem gi_in36 {a : Int32} (k : Nat) (h1 : ¬ a < 0) (h2 : a.toInt < k) (hk : k ≤ 36) : ∃ j : Nat, j < k ∧ a = nI j := by
  obtain ⟨x, hx, rfl⟩ := nI_of (x := a) h1
  rw [nI_toInt hx] at h2
  exact ⟨x, by omega, rfl⟩

theorem dX7_numberTold_0 : decode cX7_numberTold 0 = .ok (.iload_n 1, 1) := by decide +kernel
theorem dX7_numberTold_1 : decode cX7_numberTold 1 = .ok (.ifCond .lt 16, 3) := by decide +kernel
theorem dX7_numberTold_4 : decode cX7_numberTold 4 = .ok (.iload_n 1, 1) := by decide +kernel
theorem dX7_numberTold_5 : decode cX7_numberTold 5 = .ok (.bipush 11, 2) := by decide +kernel
theorem dX7_numberTold_7 : decode cX7_numberTold 7 = .ok (.if_icmp .gt 10, 3) := by decide +kernel
theorem dX7_numberTold_10 : decode cX7_numberTold 10 = .ok (.aload_n 0, 1) := by decide +kernel
theorem dX7_numberTold_11 : decode cX7_numberTold 11 = .ok (.getfield 11, 3) := by decide +kernel
theorem dX7_numberTold_14 : decode cX7_numberTold 14 = .ok (.iload_n 1, 1) := by decide +kernel
theorem dX7_numberTold_15 : decode cX7_numberTold 15 = .ok (.iaload, 1) := by decide +kernel
theorem dX7_numberTold_16 : decode cX7_numberTold 16 = .ok (.ireturn, 1) := by decide +kernel
theorem dX7_numberTold_17 : decode cX7_numberTold 17 = .ok (.iload_n 1, 1) := by decide +kernel
theorem dX7_numberTold_18 : decode cX7_numberTold 18 = .ok (.bipush 20, 2) := by decide +kernel
theorem dX7_numberTold_20 : decode cX7_numberTold 20 = .ok (.if_icmp .lt 30, 3) := by decide +kernel
theorem dX7_numberTold_23 : decode cX7_numberTold 23 = .ok (.iload_n 1, 1) := by decide +kernel
theorem dX7_numberTold_24 : decode cX7_numberTold 24 = .ok (.bipush 20, 2) := by decide +kernel
theorem dX7_numberTold_26 : decode cX7_numberTold 26 = .ok (.aload_n 0, 1) := by decide +kernel
theorem dX7_numberTold_27 : decode cX7_numberTold 27 = .ok (.getfield 11, 3) := by decide +kernel
theorem dX7_numberTold_30 : decode cX7_numberTold 30 = .ok (.bipush 10, 2) := by decide +kernel
theorem dX7_numberTold_32 : decode cX7_numberTold 32 = .ok (.iaload, 1) := by decide +kernel
theorem dX7_numberTold_33 : decode cX7_numberTold 33 = .ok (.iadd, 1) := by decide +kernel
theorem dX7_numberTold_34 : decode cX7_numberTold 34 = .ok (.if_icmp .ge 16, 3) := by decide +kernel
theorem dX7_numberTold_37 : decode cX7_numberTold 37 = .ok (.iload_n 1, 1) := by decide +kernel
theorem dX7_numberTold_38 : decode cX7_numberTold 38 = .ok (.bipush 24, 2) := by decide +kernel
theorem dX7_numberTold_40 : decode cX7_numberTold 40 = .ok (.if_icmp .ge 10, 3) := by decide +kernel
theorem dX7_numberTold_43 : decode cX7_numberTold 43 = .ok (.aload_n 0, 1) := by decide +kernel
theorem dX7_numberTold_44 : decode cX7_numberTold 44 = .ok (.getfield 11, 3) := by decide +kernel
theorem dX7_numberTold_47 : decode cX7_numberTold 47 = .ok (.iload_n 1, 1) := by decide +kernel
theorem dX7_numberTold_48 : decode cX7_numberTold 48 = .ok (.iaload, 1) := by decide +kernel
theorem dX7_numberTold_49 : decode cX7_numberTold 49 = .ok (.ireturn, 1) := by decide +kernel
theorem dX7_numberTold_50 : decode cX7_numberTold 50 = .ok (.iload_n 1, 1) := by decide +kernel
theorem dX7_numberTold_51 : decode cX7_numberTold 51 = .ok (.bipush 30, 2) := by decide +kernel
theorem dX7_numberTold_53 : decode cX7_numberTold 53 = .ok (.if_icmp .lt 30, 3) := by decide +kernel
theorem dX7_numberTold_56 : decode cX7_numberTold 56 = .ok (.iload_n 1, 1) := by decide +kernel
theorem dX7_numberTold_57 : decode cX7_numberTold 57 = .ok (.bipush 30, 2) := by decide +kernel
theorem dX7_numberTold_59 : decode cX7_numberTold 59 = .ok (.aload_n 0, 1) := by decide +kernel
theorem dX7_numberTold_60 : decode cX7_numberTold 60 = .ok (.getfield 11, 3) := by decide +kernel
theorem dX7_numberTold_63 : decode cX7_numberTold 63 = .ok (.bipush 11, 2) := by decide +kernel
theorem dX7_numberTold_65 : decode cX7_numberTold 65 = .ok (.iaload, 1) := by decide +kernel
theorem dX7_numberTold_66 : decode cX7_numberTold 66 = .ok (.iadd, 1) := by decide +kernel
theorem dX7_numberTold_67 : decode cX7_numberTold 67 = .ok (.if_icmp .ge 16, 3) := by decide +kernel
theorem dX7_numberTold_70 : decode cX7_numberTold 70 = .ok (.iload_n 1, 1) := by decide +kernel
theorem dX7_numberTold_71 : decode cX7_numberTold 71 = .ok (.bipush 36, 2) := by decide +kernel
theorem dX7_numberTold_73 : decode cX7_numberTold 73 = .ok (.if_icmp .ge 10, 3) := by decide +kernel
theorem dX7_numberTold_76 : decode cX7_numberTold 76 = .ok (.aload_n 0, 1) := by decide +kernel
theorem dX7_numberTold_77 : decode cX7_numberTold 77 = .ok (.getfield 11, 3) := by decide +kernel
theorem dX7_numberTold_80 : decode cX7_numberTold 80 = .ok (.iload_n 1, 1) := by decide +kernel
theorem dX7_numberTold_81 : decode cX7_numberTold 81 = .ok (.iaload, 1) := by decide +kernel
theorem dX7_numberTold_82 : decode cX7_numberTold 82 = .ok (.ireturn, 1) := by decide +kernel
theorem dX7_numberTold_83 : decode cX7_numberTold 83 = .ok (.iconst (-1), 1) := by decide +kernel
theorem dX7_numberTold_84 : decode cX7_numberTold 84 = .ok (.ireturn, 1) := by decide +kernel
set_option maxHeartbeats 4000000 in
set_option maxRecDepth 100000 in
theorem K_X7_numberTold (l : Launch) (D : va_G) (xs : Nat) (n : Nat) (fo : Nat) (wa : Nat) (we : Nat) (cI : ClassId) (a : Int32) (sz : Nat) : Ki l yX7_numberTold wsX7_numberTold 1 40 0 0 D [.ref xs, .int a] [(xs, .inr (6, [.ref n, .ref fo, .ref wa, .ref we])), (n, .inl (cI, 36, .inl g_nums))] [(cI, .int)] sz (fun (r : Int32) (_ : Unit) => r = (if 0 ≤ a ∧ a ≤ 11 then (gz_untold a.toNatClampNeg) else (if a = 20 then 0 else (if a = 30 then 0 else (-1))))) (fun (_ : Unit) => [(xs, .inr (6, [.ref n, .ref fo, .ref wa, .ref we])), (n, .inl (cI, 36, .inl g_nums))]) (fun (_ : Unit) => [(cI, .int)]) := by
  unfold Ki
  refine g_ofW (cc := cX7_numberTold) (lv := [(0, .ref xs), (1, .int a)]) (by decide) rfl (Nat.le_of_ble_eq_true rfl) rfl ?_
  intro p e s m args below meth c A Q hA hQ F hr hnm
  have hts := F.2.2.2.2.1
  have w_0 : (Cond.fieldLink RX7 11 "QuietCut$Shop" "numbers" "[I").before args s = true := hts _ (List.mem_of_getElem? (i := 1) rfl)
  have i_X7 : ∀ w ∈ u_ws RX7 TX7 4, w ∈ wsX7_numberTold := fun _ h => List.mem_cons_of_mem _ (List.mem_append_right _ h)
  refine g_iload_n F 1 dX7_numberTold_0 rfl rfl ?_
  refine g_if_lt F 17 dX7_numberTold_1 (by decide) (fun c_1 => ?_) (fun c_1 => ?_)
  · refine g_iload_n F 1 dX7_numberTold_17 rfl rfl ?_
    refine g_bipush F 20 dX7_numberTold_18 (by decide) ?_
    refine g_icmp_lt F 50 dX7_numberTold_20 (by decide) (fun c_20 => ?_) (fun c_20 => ?_)
    · refine g_iload_n F 1 dX7_numberTold_50 rfl rfl ?_
      refine g_bipush F 30 dX7_numberTold_51 (by decide) ?_
      refine g_icmp_lt F 83 dX7_numberTold_53 (by decide) (fun c_53 => ?_) (fun c_53 => ?_)
      · refine g_iconst F (-1) dX7_numberTold_83 (by decide) ?_
        exact g_iret F hA hQ hr () (by first | exact (gi_e (by (simp only [Int32.lt_iff_toInt_lt, Int32.le_iff_toInt_le, ← Int32.toInt_inj, Int32.reduceToInt] at c_1 c_20 c_53 ⊢; omega)) (gi_e (by (simp only [Int32.lt_iff_toInt_lt, Int32.le_iff_toInt_le, ← Int32.toInt_inj, Int32.reduceToInt] at c_1 c_20 c_53 ⊢; omega)) (gi_e (by (simp only [Int32.lt_iff_toInt_lt, Int32.le_iff_toInt_le, ← Int32.toInt_inj, Int32.reduceToInt] at c_1 c_20 c_53 ⊢; omega)) rfl)))) [0, 1] [0] rfl (by decide) rfl rfl dX7_numberTold_84
      · exfalso; simp only [Int32.lt_iff_toInt_lt, Int32.le_iff_toInt_le, ← Int32.toInt_inj, Int32.reduceToInt] at c_1 c_20 c_53; omega
    · exfalso; simp only [Int32.lt_iff_toInt_lt, Int32.le_iff_toInt_le, ← Int32.toInt_inj, Int32.reduceToInt] at c_1 c_20; omega
  · refine g_iload_n F 1 dX7_numberTold_4 rfl rfl ?_
    refine g_bipush F 11 dX7_numberTold_5 (by decide) ?_
    refine g_icmp_gt F 17 dX7_numberTold_7 (by decide) (fun c_7 => ?_) (fun c_7 => ?_)
    · refine g_iload_n F 1 dX7_numberTold_17 rfl rfl ?_
      refine g_bipush F 20 dX7_numberTold_18 (by decide) ?_
      refine g_icmp_lt F 50 dX7_numberTold_20 (by decide) (fun c_20 => ?_) (fun c_20 => ?_)
      · refine g_iload_n F 1 dX7_numberTold_50 rfl rfl ?_
        refine g_bipush F 30 dX7_numberTold_51 (by decide) ?_
        refine g_icmp_lt F 83 dX7_numberTold_53 (by decide) (fun c_53 => ?_) (fun c_53 => ?_)
        · refine g_iconst F (-1) dX7_numberTold_83 (by decide) ?_
          exact g_iret F hA hQ hr () (by first | exact (gi_e (by (simp only [Int32.lt_iff_toInt_lt, Int32.le_iff_toInt_le, ← Int32.toInt_inj, Int32.reduceToInt] at c_1 c_7 c_20 c_53 ⊢; omega)) (gi_e (by (simp only [Int32.lt_iff_toInt_lt, Int32.le_iff_toInt_le, ← Int32.toInt_inj, Int32.reduceToInt] at c_1 c_7 c_20 c_53 ⊢; omega)) (gi_e (by (simp only [Int32.lt_iff_toInt_lt, Int32.le_iff_toInt_le, ← Int32.toInt_inj, Int32.reduceToInt] at c_1 c_7 c_20 c_53 ⊢; omega)) rfl)))) [0, 1] [0] rfl (by decide) rfl rfl dX7_numberTold_84
        · exfalso; simp only [Int32.lt_iff_toInt_lt, Int32.le_iff_toInt_le, ← Int32.toInt_inj, Int32.reduceToInt] at c_1 c_7 c_20 c_53; omega
      · refine g_iload_n F 1 dX7_numberTold_23 rfl rfl ?_
        refine g_bipush F 20 dX7_numberTold_24 (by decide) ?_
        refine g_aload_n F 0 dX7_numberTold_26 rfl rfl ?_
        refine g_get (C := RX7) (T := TX7) (N := 4) (v := .ref n) F i_X7 0 rfl rfl 0 (by decide) w_0 rfl rfl dX7_numberTold_27 ?_
        refine g_bipush F 10 dX7_numberTold_30 (by decide) ?_
        refine g_iald F 1 0 rfl rfl (by unfold vp_in; decide) dX7_numberTold_32 ?_
        refine g_fold 1 (by rfl) ?_
        refine g_iadd F dX7_numberTold_33 ?_
        refine g_fold 21 (by decide) ?_
        refine g_icmp_ge F 50 dX7_numberTold_34 (by decide) (fun c_34 => ?_) (fun c_34 => ?_)
        · refine g_iload_n F 1 dX7_numberTold_50 rfl rfl ?_
          refine g_bipush F 30 dX7_numberTold_51 (by decide) ?_
          refine g_icmp_lt F 83 dX7_numberTold_53 (by decide) (fun c_53 => ?_) (fun c_53 => ?_)
          · refine g_iconst F (-1) dX7_numberTold_83 (by decide) ?_
            exact g_iret F hA hQ hr () (by first | exact (gi_e (by (simp only [Int32.lt_iff_toInt_lt, Int32.le_iff_toInt_le, ← Int32.toInt_inj, Int32.reduceToInt] at c_1 c_7 c_20 c_34 c_53 ⊢; omega)) (gi_e (by (simp only [Int32.lt_iff_toInt_lt, Int32.le_iff_toInt_le, ← Int32.toInt_inj, Int32.reduceToInt] at c_1 c_7 c_20 c_34 c_53 ⊢; omega)) (gi_e (by (simp only [Int32.lt_iff_toInt_lt, Int32.le_iff_toInt_le, ← Int32.toInt_inj, Int32.reduceToInt] at c_1 c_7 c_20 c_34 c_53 ⊢; omega)) rfl)))) [0, 1] [0] rfl (by decide) rfl rfl dX7_numberTold_84
          · refine g_iload_n F 1 dX7_numberTold_56 rfl rfl ?_
            refine g_bipush F 30 dX7_numberTold_57 (by decide) ?_
            refine g_aload_n F 0 dX7_numberTold_59 rfl rfl ?_
            refine g_get (C := RX7) (T := TX7) (N := 4) (v := .ref n) F i_X7 0 rfl rfl 0 (by decide) w_0 rfl rfl dX7_numberTold_60 ?_
            refine g_bipush F 11 dX7_numberTold_63 (by decide) ?_
            refine g_iald F 1 0 rfl rfl (by unfold vp_in; decide) dX7_numberTold_65 ?_
            refine g_fold 1 (by rfl) ?_
            refine g_iadd F dX7_numberTold_66 ?_
            refine g_fold 31 (by decide) ?_
            refine g_icmp_ge F 83 dX7_numberTold_67 (by decide) (fun c_67 => ?_) (fun c_67 => ?_)
            · refine g_iconst F (-1) dX7_numberTold_83 (by decide) ?_
              exact g_iret F hA hQ hr () (by first | exact (gi_e (by (simp only [Int32.lt_iff_toInt_lt, Int32.le_iff_toInt_le, ← Int32.toInt_inj, Int32.reduceToInt] at c_1 c_7 c_20 c_34 c_53 c_67 ⊢; omega)) (gi_e (by (simp only [Int32.lt_iff_toInt_lt, Int32.le_iff_toInt_le, ← Int32.toInt_inj, Int32.reduceToInt] at c_1 c_7 c_20 c_34 c_53 c_67 ⊢; omega)) (gi_e (by (simp only [Int32.lt_iff_toInt_lt, Int32.le_iff_toInt_le, ← Int32.toInt_inj, Int32.reduceToInt] at c_1 c_7 c_20 c_34 c_53 c_67 ⊢; omega)) rfl)))) [0, 1] [0] rfl (by decide) rfl rfl dX7_numberTold_84
            · refine g_iload_n F 1 dX7_numberTold_70 rfl rfl ?_
              refine g_bipush F 36 dX7_numberTold_71 (by decide) ?_
              refine g_icmp_ge F 83 dX7_numberTold_73 (by decide) (fun c_73 => ?_) (fun c_73 => ?_)
              · exfalso; simp only [Int32.lt_iff_toInt_lt, Int32.le_iff_toInt_le, ← Int32.toInt_inj, Int32.reduceToInt] at c_1 c_7 c_20 c_34 c_53 c_67 c_73; omega
              · refine g_aload_n F 0 dX7_numberTold_76 rfl rfl ?_
                refine g_get (C := RX7) (T := TX7) (N := 4) (v := .ref n) F i_X7 0 rfl rfl 0 (by decide) w_0 rfl rfl dX7_numberTold_77 ?_
                refine g_iload_n F 1 dX7_numberTold_80 rfl rfl ?_
                obtain ⟨j_, hj_, ej_⟩ := gi_in36 (a := a) 31 (by (simp only [Int32.lt_iff_toInt_lt, Int32.le_iff_toInt_le, ← Int32.toInt_inj, Int32.reduceToInt] at c_1 c_7 c_20 c_34 c_53 c_67 c_73 ⊢; omega)) (by (simp only [Int32.lt_iff_toInt_lt, Int32.le_iff_toInt_le, ← Int32.toInt_inj, Int32.reduceToInt] at c_1 c_7 c_20 c_34 c_53 c_67 c_73 ⊢; omega)) (by decide)
                refine g_iald F 1 0 rfl rfl (by rw [ej_]; exact vp_in_nI (by omega) (by decide)) dX7_numberTold_81 ?_
                refine g_fold 0 (by rw [show a = 30 from by (simp only [Int32.lt_iff_toInt_lt, Int32.le_iff_toInt_le, ← Int32.toInt_inj, Int32.reduceToInt] at c_53 c_67 ⊢; omega)]; rfl) ?_
                exact g_iret F hA hQ hr () (by first | exact (gi_e (by (simp only [Int32.lt_iff_toInt_lt, Int32.le_iff_toInt_le, ← Int32.toInt_inj, Int32.reduceToInt] at c_1 c_7 c_20 c_34 c_53 c_67 c_73 ⊢; omega)) (gi_p (by (simp only [Int32.lt_iff_toInt_lt, Int32.le_iff_toInt_le, ← Int32.toInt_inj, Int32.reduceToInt] at c_1 c_7 c_20 c_34 c_53 c_67 c_73 ⊢; omega)) rfl)) | exact (gi_e (by (simp only [Int32.lt_iff_toInt_lt, Int32.le_iff_toInt_le, ← Int32.toInt_inj, Int32.reduceToInt] at c_1 c_7 c_20 c_34 c_53 c_67 c_73 ⊢; omega)) (gi_e (by (simp only [Int32.lt_iff_toInt_lt, Int32.le_iff_toInt_le, ← Int32.toInt_inj, Int32.reduceToInt] at c_1 c_7 c_20 c_34 c_53 c_67 c_73 ⊢; omega)) (gi_p (by (simp only [Int32.lt_iff_toInt_lt, Int32.le_iff_toInt_le, ← Int32.toInt_inj, Int32.reduceToInt] at c_1 c_7 c_20 c_34 c_53 c_67 c_73 ⊢; omega)) rfl)))) [0, 1] [0] rfl (by decide) rfl rfl dX7_numberTold_82
        · refine g_iload_n F 1 dX7_numberTold_37 rfl rfl ?_
          refine g_bipush F 24 dX7_numberTold_38 (by decide) ?_
          refine g_icmp_ge F 50 dX7_numberTold_40 (by decide) (fun c_40 => ?_) (fun c_40 => ?_)
          · exfalso; simp only [Int32.lt_iff_toInt_lt, Int32.le_iff_toInt_le, ← Int32.toInt_inj, Int32.reduceToInt] at c_1 c_7 c_20 c_34 c_40; omega
          · refine g_aload_n F 0 dX7_numberTold_43 rfl rfl ?_
            refine g_get (C := RX7) (T := TX7) (N := 4) (v := .ref n) F i_X7 0 rfl rfl 0 (by decide) w_0 rfl rfl dX7_numberTold_44 ?_
            refine g_iload_n F 1 dX7_numberTold_47 rfl rfl ?_
            obtain ⟨j_, hj_, ej_⟩ := gi_in36 (a := a) 21 (by (simp only [Int32.lt_iff_toInt_lt, Int32.le_iff_toInt_le, ← Int32.toInt_inj, Int32.reduceToInt] at c_1 c_7 c_20 c_34 c_40 ⊢; omega)) (by (simp only [Int32.lt_iff_toInt_lt, Int32.le_iff_toInt_le, ← Int32.toInt_inj, Int32.reduceToInt] at c_1 c_7 c_20 c_34 c_40 ⊢; omega)) (by decide)
            refine g_iald F 1 0 rfl rfl (by rw [ej_]; exact vp_in_nI (by omega) (by decide)) dX7_numberTold_48 ?_
            refine g_fold 0 (by rw [show a = 20 from by (simp only [Int32.lt_iff_toInt_lt, Int32.le_iff_toInt_le, ← Int32.toInt_inj, Int32.reduceToInt] at c_1 c_7 c_20 c_34 ⊢; omega)]; rfl) ?_
            exact g_iret F hA hQ hr () (by first | exact (gi_e (by (simp only [Int32.lt_iff_toInt_lt, Int32.le_iff_toInt_le, ← Int32.toInt_inj, Int32.reduceToInt] at c_1 c_7 c_20 c_34 c_40 ⊢; omega)) (gi_p (by (simp only [Int32.lt_iff_toInt_lt, Int32.le_iff_toInt_le, ← Int32.toInt_inj, Int32.reduceToInt] at c_1 c_7 c_20 c_34 c_40 ⊢; omega)) rfl)) | exact (gi_e (by (simp only [Int32.lt_iff_toInt_lt, Int32.le_iff_toInt_le, ← Int32.toInt_inj, Int32.reduceToInt] at c_1 c_7 c_20 c_34 c_40 ⊢; omega)) (gi_e (by (simp only [Int32.lt_iff_toInt_lt, Int32.le_iff_toInt_le, ← Int32.toInt_inj, Int32.reduceToInt] at c_1 c_7 c_20 c_34 c_40 ⊢; omega)) (gi_p (by (simp only [Int32.lt_iff_toInt_lt, Int32.le_iff_toInt_le, ← Int32.toInt_inj, Int32.reduceToInt] at c_1 c_7 c_20 c_34 c_40 ⊢; omega)) rfl)))) [0, 1] [0] rfl (by decide) rfl rfl dX7_numberTold_49
    · refine g_aload_n F 0 dX7_numberTold_10 rfl rfl ?_
      refine g_get (C := RX7) (T := TX7) (N := 4) (v := .ref n) F i_X7 0 rfl rfl 0 (by decide) w_0 rfl rfl dX7_numberTold_11 ?_
      refine g_iload_n F 1 dX7_numberTold_14 rfl rfl ?_
      obtain ⟨j_, hj_, ej_⟩ := gi_in36 (a := a) 12 (by (simp only [Int32.lt_iff_toInt_lt, Int32.le_iff_toInt_le, ← Int32.toInt_inj, Int32.reduceToInt] at c_1 c_7 ⊢; omega)) (by (simp only [Int32.lt_iff_toInt_lt, Int32.le_iff_toInt_le, ← Int32.toInt_inj, Int32.reduceToInt] at c_1 c_7 ⊢; omega)) (by decide)
      refine g_iald F 1 0 rfl rfl (by rw [ej_]; exact vp_in_nI (by omega) (by decide)) dX7_numberTold_15 ?_
      refine g_fold (gz_untold a.toNatClampNeg) (by rw [ej_, nI_clamp (by omega)]; unfold g_nums; rw [if_pos hj_]) ?_
      exact g_iret F hA hQ hr () (by first | exact (gi_p (by (simp only [Int32.lt_iff_toInt_lt, Int32.le_iff_toInt_le, ← Int32.toInt_inj, Int32.reduceToInt] at c_1 c_7 ⊢; omega)) rfl)) [0, 1] [0] rfl (by decide) rfl rfl dX7_numberTold_16

theorem dX11_told_0 : decode cX11_told 0 = .ok (.aload_n 0, 1) := by decide +kernel
theorem dX11_told_1 : decode cX11_told 1 = .ok (.getfield 19, 3) := by decide +kernel
theorem dX11_told_4 : decode cX11_told 4 = .ok (.iload_n 1, 1) := by decide +kernel
theorem dX11_told_5 : decode cX11_told 5 = .ok (.invokevirtual 130, 3) := by decide +kernel
theorem dX11_told_8 : decode cX11_told 8 = .ok (.ireturn, 1) := by decide +kernel
set_option maxRecDepth 20000 in
theorem ggX11_told_X7_numberTold : GoodIn wsX11_told wsX7_numberTold := goodIn_r _ [6, 7, 22, 23, 24, 25] rfl (by decide +kernel)
set_option maxRecDepth 20000 in
theorem gX11_told_X7_numberTold : GoodIn wsX11_told (wsV RX11 130 RX7 yX7_numberTold wsX7_numberTold) := goodIn_app (goodIn_of _ (by decide +kernel)) ggX11_told_X7_numberTold
set_option maxHeartbeats 4000000 in
set_option maxRecDepth 100000 in
theorem K_X11_told (l : Launch) (D : va_G) (x0 : Nat) (xt : Nat) (xs : Nat) (xq : Nat) (xr : Nat) (xp : Nat) (xl : Nat) (xc : Nat) (xj : Nat) (xe : Nat) (xo : Nat) (pa : Nat) (n : Nat) (fo : Nat) (wa : Nat) (we : Nat) (cI : ClassId) (a : Int32) (sz : Nat) : Ki l yX11_told wsX11_told 2 61 0 0 D [.ref x0, .int a] [(x0, .inr (10, [.ref xt, .ref xs, .ref xq, .ref xr, .ref xp, .ref xl, .ref xc, .ref xj, .ref xe, .ref xo, .ref pa, .int 0, .int 0, .int (-1)])), (xs, .inr (6, [.ref n, .ref fo, .ref wa, .ref we])), (n, .inl (cI, 36, .inl g_nums))] [(cI, .int)] sz (fun (r : Int32) (_ : Unit) => r = (if 0 ≤ a ∧ a ≤ 11 then (gz_untold a.toNatClampNeg) else (if a = 20 then 0 else (if a = 30 then 0 else (-1))))) (fun (_ : Unit) => [(x0, .inr (10, [.ref xt, .ref xs, .ref xq, .ref xr, .ref xp, .ref xl, .ref xc, .ref xj, .ref xe, .ref xo, .ref pa, .int 0, .int 0, .int (-1)])), (xs, .inr (6, [.ref n, .ref fo, .ref wa, .ref we])), (n, .inl (cI, 36, .inl g_nums))]) (fun (_ : Unit) => [(cI, .int)]) := by
  unfold Ki
  refine g_ofW (cc := cX11_told) (lv := [(0, .ref x0), (1, .int a)]) (by decide) rfl (Nat.le_of_ble_eq_true rfl) rfl ?_
  intro p e s m args below meth c A Q hA hQ F hr hnm
  have hts := F.2.2.2.2.1
  have w_0 : (Cond.fieldLink RX11 19 "QuietCut" "shop" "LQuietCut$Shop;").before args s = true := hts _ (List.mem_of_getElem? (i := 1) rfl)
  have i_X11 : ∀ w ∈ u_ws RX11 TX11 14, w ∈ wsX11_told := fun _ h => List.mem_cons_of_mem _ (List.mem_append_left _ (List.mem_append_right _ h))
  refine g_aload_n F 0 dX11_told_0 rfl rfl ?_
  refine g_get (C := RX11) (T := TX11) (N := 14) (v := .ref xs) F i_X11 0 rfl rfl 1 (by decide) w_0 rfl rfl dX11_told_1 ?_
  refine g_iload_n F 1 dX11_told_4 rfl rfl ?_
  refine g_callVi (k := 0) (n := 0) (b := xs) (As := [.int a]) (st := []) (wc := [(xs, .inr (6, [.ref n, .ref fo, .ref wa, .ref we])), (n, .inl (cI, 36, .inl g_nums))]) (wr := [(x0, .inr (10, [.ref xt, .ref xs, .ref xq, .ref xr, .ref xp, .ref xl, .ref xc, .ref xj, .ref xe, .ref xo, .ref pa, .int 0, .int 0, .int (-1)]))]) F [1, 2] [0] [0] rfl rfl (by decide) rfl (by decide) (by decide) rfl (fun sz => K_X7_numberTold l D xs n fo wa we cI a  sz) (cwV 1 hts gX11_told_X7_numberTold rfl rfl rfl (by decide +kernel) ⟨Nat.le_of_ble_eq_true rfl, Nat.le_of_ble_eq_true rfl⟩) rfl 0 rfl rfl (Nat.le_of_ble_eq_true rfl) ⟨Nat.le_of_ble_eq_true rfl, Nat.le_of_ble_eq_true rfl⟩ dX11_told_5 (fun r_1 _ hw_2 => ?_)
  have hw_2 : r_1 = (if 0 ≤ a ∧ a ≤ 11 then (gz_untold a.toNatClampNeg) else (if a = 20 then 0 else (if a = 30 then 0 else (-1)))) := hw_2
  have e_r_1 := hw_2
  show gG p l e (gR 2 0 0 61) s m args below meth c D A 2 Q 0 0 [(x0, .inr (10, [.ref xt, .ref xs, .ref xq, .ref xr, .ref xp, .ref xl, .ref xc, .ref xj, .ref xe, .ref xo, .ref pa, .int 0, .int 0, .int (-1)])), (xs, .inr (6, [.ref n, .ref fo, .ref wa, .ref we])), (n, .inl (cI, 36, .inl g_nums))] [(cI, .int)] [(0, .ref x0), (1, .int a)] 8 [.int r_1]
  refine g_fold (if 0 ≤ a ∧ a ≤ 11 then (gz_untold a.toNatClampNeg) else (if a = 20 then 0 else (if a = 30 then 0 else (-1)))) e_r_1 ?_
  exact g_iret F hA hQ hr () (rfl) [0, 1, 2] [0] rfl (by decide) rfl rfl dX11_told_8
