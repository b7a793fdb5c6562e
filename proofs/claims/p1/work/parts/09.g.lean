theorem dX5_storeHeights_0 : decode cX5_storeHeights 0 = .ok (.aload_n 0, 1) := by decide +kernel
theorem dX5_storeHeights_1 : decode cX5_storeHeights 1 = .ok (.getfield 29, 3) := by decide +kernel
theorem dX5_storeHeights_4 : decode cX5_storeHeights 4 = .ok (.getfield 56, 3) := by decide +kernel
theorem dX5_storeHeights_7 : decode cX5_storeHeights 7 = .ok (.iconst 0, 1) := by decide +kernel
theorem dX5_storeHeights_8 : decode cX5_storeHeights 8 = .ok (.iaload, 1) := by decide +kernel
theorem dX5_storeHeights_9 : decode cX5_storeHeights 9 = .ok (.istore_n 2, 1) := by decide +kernel
theorem dX5_storeHeights_10 : decode cX5_storeHeights 10 = .ok (.aload_n 0, 1) := by decide +kernel
theorem dX5_storeHeights_11 : decode cX5_storeHeights 11 = .ok (.getfield 33, 3) := by decide +kernel
theorem dX5_storeHeights_14 : decode cX5_storeHeights 14 = .ok (.iconst 0, 1) := by decide +kernel
theorem dX5_storeHeights_15 : decode cX5_storeHeights 15 = .ok (.invokestatic 59, 3) := by decide +kernel
theorem dX5_storeHeights_18 : decode cX5_storeHeights 18 = .ok (.istore_n 3, 1) := by decide +kernel
theorem dX5_storeHeights_19 : decode cX5_storeHeights 19 = .ok (.iconst 0, 1) := by decide +kernel
theorem dX5_storeHeights_20 : decode cX5_storeHeights 20 = .ok (.istore 4, 2) := by decide +kernel
theorem dX5_storeHeights_22 : decode cX5_storeHeights 22 = .ok (.iload 4, 2) := by decide +kernel
theorem dX5_storeHeights_24 : decode cX5_storeHeights 24 = .ok (.iload_n 2, 1) := by decide +kernel
theorem dX5_storeHeights_25 : decode cX5_storeHeights 25 = .ok (.if_icmp .ge 42, 3) := by decide +kernel
theorem dX5_storeHeights_28 : decode cX5_storeHeights 28 = .ok (.iload 4, 2) := by decide +kernel
theorem dX5_storeHeights_30 : decode cX5_storeHeights 30 = .ok (.bipush 16, 2) := by decide +kernel
theorem dX5_storeHeights_32 : decode cX5_storeHeights 32 = .ok (.if_icmp .ge 35, 3) := by decide +kernel
theorem dX5_storeHeights_35 : decode cX5_storeHeights 35 = .ok (.iload_n 3, 1) := by decide +kernel
theorem dX5_storeHeights_36 : decode cX5_storeHeights 36 = .ok (.ifCond .lt 25, 3) := by decide +kernel
theorem dX5_storeHeights_39 : decode cX5_storeHeights 39 = .ok (.iload_n 3, 1) := by decide +kernel
theorem dX5_storeHeights_40 : decode cX5_storeHeights 40 = .ok (.iload 4, 2) := by decide +kernel
theorem dX5_storeHeights_42 : decode cX5_storeHeights 42 = .ok (.iadd, 1) := by decide +kernel
theorem dX5_storeHeights_43 : decode cX5_storeHeights 43 = .ok (.aload_n 1, 1) := by decide +kernel
theorem dX5_storeHeights_44 : decode cX5_storeHeights 44 = .ok (.arraylength, 1) := by decide +kernel
theorem dX5_storeHeights_45 : decode cX5_storeHeights 45 = .ok (.if_icmp .ge 16, 3) := by decide +kernel
theorem dX5_storeHeights_48 : decode cX5_storeHeights 48 = .ok (.aload_n 1, 1) := by decide +kernel
theorem dX5_storeHeights_49 : decode cX5_storeHeights 49 = .ok (.iload_n 3, 1) := by decide +kernel
theorem dX5_storeHeights_50 : decode cX5_storeHeights 50 = .ok (.iload 4, 2) := by decide +kernel
theorem dX5_storeHeights_52 : decode cX5_storeHeights 52 = .ok (.iadd, 1) := by decide +kernel
theorem dX5_storeHeights_53 : decode cX5_storeHeights 53 = .ok (.aload_n 0, 1) := by decide +kernel
theorem dX5_storeHeights_54 : decode cX5_storeHeights 54 = .ok (.getfield 17, 3) := by decide +kernel
theorem dX5_storeHeights_57 : decode cX5_storeHeights 57 = .ok (.iload 4, 2) := by decide +kernel
theorem dX5_storeHeights_59 : decode cX5_storeHeights 59 = .ok (.iaload, 1) := by decide +kernel
theorem dX5_storeHeights_60 : decode cX5_storeHeights 60 = .ok (.iastore, 1) := by decide +kernel
theorem dX5_storeHeights_61 : decode cX5_storeHeights 61 = .ok (.iinc 4 1, 3) := by decide +kernel
theorem dX5_storeHeights_64 : decode cX5_storeHeights 64 = .ok (.goto (-42), 3) := by decide +kernel
theorem dX5_storeHeights_67 : decode cX5_storeHeights 67 = .ok (.return_, 1) := by decide +kernel
set_option maxRecDepth 20000 in
theorem ggX5_storeHeights_X6_placeOf : GoodIn wsX5_storeHeights wsX6_placeOf := goodIn_r _ [8] rfl (by decide +kernel)
set_option maxRecDepth 20000 in
theorem gX5_storeHeights_X6_placeOf : GoodIn wsX5_storeHeights (va_wsS RX5 59 yX6_placeOf wsX6_placeOf) := goodIn_app (goodIn_of _ (by decide +kernel)) ggX5_storeHeights_X6_placeOf
set_option maxHeartbeats 4000000 in
set_option maxRecDepth 100000 in
theorem K_X5_storeHeights (l : Launch) (D : va_G) (xl : Nat) (xs : Nat) (la_t : Nat) (la_h : Nat) (la_u : Nat) (la_o : Nat) (la_x : Nat) (n : Nat) (fo : Nat) (wa : Nat) (we : Nat) (in_ : Nat) (cI : ClassId) (l_ring : Int32) (l_speed : Int32) (l_feed : Int32) (l_turns : Int32) (l_teethSet : Int32) (l_teethMany : Int32) (l_wear : Int32) (l_x : Int32) (l_v : Int32) (l_wave : Int32) (l_time : Int32) (l_out : Int32) (l_farthest : Int32) (l_begun : Int32) (fh : Nat → Int32) (fi : Nat → Int32) (rr : Nat) (hrr : l_ring = nI rr) (hr3 : rr < 3) (sz : Nat) : Kv l yX5_storeHeights wsX5_storeHeights 2 51 0 0 D [.ref xl, .ref in_] [(xl, .inr (4, [.ref xs, .int l_ring, .int l_speed, .int l_feed, .int l_turns, .ref la_t, .int l_teethSet, .int l_teethMany, .ref la_h, .ref la_u, .ref la_o, .ref la_x, .int l_wear, .int l_x, .int l_v, .int l_wave, .int l_time, .int l_out, .int l_farthest, .int l_begun])), (xs, .inr (6, [.ref n, .ref fo, .ref wa, .ref we])), (n, .inl (cI, 36, .inl g_nums)), (la_h, .inl (cI, 16, .inl fh)), (in_, .inl (cI, 96, .inl fi))] [(cI, .int)] sz (fun (u : (Nat → Int32)) => (∀ j, j < 8 → u (16 * rr + j) = fh j) ∧ (∀ j, (∀ q, q < 8 → j ≠ 16 * rr + q) → u j = fi j)) (fun (u : (Nat → Int32)) => [(xl, .inr (4, [.ref xs, .int l_ring, .int l_speed, .int l_feed, .int l_turns, .ref la_t, .int l_teethSet, .int l_teethMany, .ref la_h, .ref la_u, .ref la_o, .ref la_x, .int l_wear, .int l_x, .int l_v, .int l_wave, .int l_time, .int l_out, .int l_farthest, .int l_begun])), (xs, .inr (6, [.ref n, .ref fo, .ref wa, .ref we])), (n, .inl (cI, 36, .inl g_nums)), (la_h, .inl (cI, 16, .inl fh)), (in_, .inl (cI, 96, .inl u))]) (fun (_ : (Nat → Int32)) => [(cI, .int)]) := by
  unfold Kv
  refine g_ofW (cc := cX5_storeHeights) (lv := [(0, .ref xl), (1, .ref in_)]) (by decide) rfl (Nat.le_of_ble_eq_true rfl) rfl ?_
  intro p e s m args below meth c A Q hA hQ F hr hnm
  have hts := F.2.2.2.2.1
  have w_0 : (Cond.fieldLink RX5 29 "QuietCut$Lathe" "shop" "LQuietCut$Shop;").before args s = true := hts _ (List.mem_of_getElem? (i := 1) rfl)
  have i_X5 : ∀ w ∈ u_ws RX5 TX5 20, w ∈ wsX5_storeHeights := fun _ h => List.mem_cons_of_mem _ (List.mem_append_left _ (List.mem_append_right _ h))
  have w_1 : (Cond.fieldLink RX5 56 "QuietCut$Shop" "numbers" "[I").before args s = true := hts _ (List.mem_of_getElem? (i := 2) rfl)
  have i_X7 : ∀ w ∈ u_ws RX7 TX7 4, w ∈ wsX5_storeHeights := fun _ h => List.mem_cons_of_mem _ (List.mem_append_right _ h)
  have w_2 : (Cond.fieldLink RX5 33 "QuietCut$Lathe" "ring" "I").before args s = true := hts _ (List.mem_of_getElem? (i := 3) rfl)
  have w_3 : (Cond.fieldLink RX5 17 "QuietCut$Lathe" "heights" "[I").before args s = true := hts _ (List.mem_of_getElem? (i := 4) rfl)
  refine g_aload_n F 0 dX5_storeHeights_0 rfl rfl ?_
  refine g_get (C := RX5) (T := TX5) (N := 20) (v := .ref xs) F i_X5 0 rfl rfl 0 (by decide) w_0 rfl rfl dX5_storeHeights_1 ?_
  refine g_get (C := RX7) (T := TX7) (N := 4) (v := .ref n) F i_X7 1 rfl rfl 0 (by decide) w_1 rfl rfl dX5_storeHeights_4 ?_
  refine g_iconst F 0 dX5_storeHeights_7 (by decide) ?_
  refine g_iald F 2 0 rfl rfl (by unfold vp_in; decide) dX5_storeHeights_8 ?_
  refine g_fold 8 (by rfl) ?_
  refine g_istore_n F [(2, .int 8), (0, .ref xl), (1, .ref in_)] dX5_storeHeights_9 rfl (by decide) rfl ?_
  refine g_aload_n F 1 dX5_storeHeights_10 rfl rfl ?_
  refine g_get (C := RX5) (T := TX5) (N := 20) (v := .int l_ring) F i_X5 0 rfl rfl 1 (by decide) w_2 rfl rfl dX5_storeHeights_11 ?_
  refine g_iconst F 0 dX5_storeHeights_14 (by decide) ?_
  refine g_callSi (k := 0) (n := 0) (As := [.int l_ring, .int 0]) (st := []) (wc := []) (wr := [(xl, .inr (4, [.ref xs, .int l_ring, .int l_speed, .int l_feed, .int l_turns, .ref la_t, .int l_teethSet, .int l_teethMany, .ref la_h, .ref la_u, .ref la_o, .ref la_x, .int l_wear, .int l_x, .int l_v, .int l_wave, .int l_time, .int l_out, .int l_farthest, .int l_begun])), (xs, .inr (6, [.ref n, .ref fo, .ref wa, .ref we])), (n, .inl (cI, 36, .inl g_nums)), (la_h, .inl (cI, 16, .inl fh)), (in_, .inl (cI, 96, .inl fi))]) F [] [0, 1, 2, 3, 4] [] rfl rfl (by decide) rfl (by decide) (by decide) rfl (fun sz => K_X6_placeOf l D l_ring 0  sz) (va_cwS 2 hts gX5_storeHeights_X6_placeOf rfl rfl rfl (by decide +kernel) ⟨Nat.le_of_ble_eq_true rfl, Nat.le_of_ble_eq_true rfl⟩) rfl (Nat.le_of_ble_eq_true rfl) ⟨Nat.le_of_ble_eq_true rfl, Nat.le_of_ble_eq_true rfl⟩ dX5_storeHeights_15 (fun r_1 _ hw_2 => ?_)
  have hw_2 : r_1 = ((l_ring * 16) + (0 : Int32)) := hw_2
  have e_r_1 := hw_2
  show gG p l e (gR 2 0 0 51) s m args below meth c D A 5 Q 0 0 [(xl, .inr (4, [.ref xs, .int l_ring, .int l_speed, .int l_feed, .int l_turns, .ref la_t, .int l_teethSet, .int l_teethMany, .ref la_h, .ref la_u, .ref la_o, .ref la_x, .int l_wear, .int l_x, .int l_v, .int l_wave, .int l_time, .int l_out, .int l_farthest, .int l_begun])), (xs, .inr (6, [.ref n, .ref fo, .ref wa, .ref we])), (n, .inl (cI, 36, .inl g_nums)), (la_h, .inl (cI, 16, .inl fh)), (in_, .inl (cI, 96, .inl fi))] [(cI, .int)] [(2, .int 8), (0, .ref xl), (1, .ref in_)] 18 [.int r_1]
  refine g_fold ((l_ring * 16) + (0 : Int32)) e_r_1 ?_
  refine g_fold (nI (16 * rr)) (gr_ring hrr hr3) ?_
  refine g_istore_n F [(3, .int (nI (16 * rr))), (2, .int 8), (0, .ref xl), (1, .ref in_)] dX5_storeHeights_18 rfl (by decide) rfl ?_
  refine g_iconst F 0 dX5_storeHeights_19 (by decide) ?_
  refine g_istore F [(4, .int 0), (3, .int (nI (16 * rr))), (2, .int 8), (0, .ref xl), (1, .ref in_)] dX5_storeHeights_20 (by decide) rfl ?_
  refine g_locals [(0, .ref xl), (1, .ref in_), (2, .int 8), (3, .int (nI (16 * rr))), (4, .int 0)] [3, 4, 2, 1, 0] rfl ?_
  have loop_22 : ∀ (fuel : Nat) (k : Nat) (gi : Nat → Int32), 8 - k < fuel → (k ≤ 8) → (∀ j, j < k → gi (16 * rr + j) = fh j) → (∀ j, (∀ q, q < 8 → j ≠ 16 * rr + q) → gi j = fi j) → gG p l e (gR 2 0 0 51) s m args below meth c D A 5 Q 0 0 [(xl, .inr (4, [.ref xs, .int l_ring, .int l_speed, .int l_feed, .int l_turns, .ref la_t, .int l_teethSet, .int l_teethMany, .ref la_h, .ref la_u, .ref la_o, .ref la_x, .int l_wear, .int l_x, .int l_v, .int l_wave, .int l_time, .int l_out, .int l_farthest, .int l_begun])), (xs, .inr (6, [.ref n, .ref fo, .ref wa, .ref we])), (n, .inl (cI, 36, .inl g_nums)), (la_h, .inl (cI, 16, .inl fh)), (in_, .inl (cI, 96, .inl gi))] [(cI, .int)] [(0, .ref xl), (1, .ref in_), (2, .int 8), (3, .int (nI (16 * rr))), (4, .int (nI k))] 22 [] := by
    intro fuel_22
    induction fuel_22 with
    | zero => intro k gi hm; exact absurd hm (Nat.not_lt_zero _)
    | succ fuel_22 ih_22 =>
      intro k gi hm22 hk0 hg1 hg2
      refine g_iload F 4 dX5_storeHeights_22 rfl ?_
      refine g_iload_n F 2 dX5_storeHeights_24 rfl rfl ?_
      refine g_icmp_ge F 67 dX5_storeHeights_25 (by decide) (fun c_25 => ?_) (fun c_25 => ?_)
      · have hk : k = 8 := Nat.le_antisymm hk0 (Nat.le_of_not_lt (fun h => nI_ge (b := 8) h (by decide) c_25))
        exact g_vret F hA hQ hr gi (⟨fun j hj => hg1 j (by omega), hg2⟩) [0, 1, 2, 3, 4] [0] rfl (by decide) rfl rfl dX5_storeHeights_67
      · have hk : k < 8 := Nat.lt_of_not_le (fun h => c_25 (nI_le (a := 8) h (by omega)))
        refine g_iload F 4 dX5_storeHeights_28 rfl ?_
        refine g_bipush F 16 dX5_storeHeights_30 (by decide) ?_
        refine g_icmp_ge F 67 dX5_storeHeights_32 (by decide) (fun h9 => absurd h9 (nI_ge (b := 16) (by omega) (by decide))) (fun c_32 => ?_)
        refine g_iload_n F 3 dX5_storeHeights_35 rfl rfl ?_
        refine g_if_lt F 61 dX5_storeHeights_36 (by decide) (fun h9 => absurd h9 (nI_pos (by omega))) (fun c_36 => ?_)
        refine g_iload_n F 3 dX5_storeHeights_39 rfl rfl ?_
        refine g_iload F 4 dX5_storeHeights_40 rfl ?_
        refine g_iadd F dX5_storeHeights_42 ?_
        refine g_fold (nI (16 * rr + k)) (nI_add _ _) ?_
        refine g_aload_n F 1 dX5_storeHeights_43 rfl rfl ?_
        refine g_alen F 4 0 rfl rfl 96 rfl dX5_storeHeights_44 ?_
        refine g_icmp_ge F 61 dX5_storeHeights_45 (by decide) (fun h9 => absurd h9 (nI_ge (b := 96) (by omega) (by decide))) (fun c_45 => ?_)
        refine g_aload_n F 1 dX5_storeHeights_48 rfl rfl ?_
        refine g_iload_n F 3 dX5_storeHeights_49 rfl rfl ?_
        refine g_iload F 4 dX5_storeHeights_50 rfl ?_
        refine g_iadd F dX5_storeHeights_52 ?_
        refine g_fold (nI (16 * rr + k)) (nI_add _ _) ?_
        refine g_aload_n F 0 dX5_storeHeights_53 rfl rfl ?_
        refine g_get (C := RX5) (T := TX5) (N := 20) (v := .ref la_h) F i_X5 0 rfl rfl 8 (by decide) w_3 rfl rfl dX5_storeHeights_54 ?_
        refine g_iload F 4 dX5_storeHeights_57 rfl ?_
        refine g_iald F 3 0 rfl rfl (vp_in_nI (by omega) (by decide)) dX5_storeHeights_59 ?_
        refine g_fold (fh k) (by rw [nI_clamp (by omega)]) ?_
        refine g_iast F 4 0 rfl rfl (vp_in_nI (by omega) (by decide)) [(xl, .inr (4, [.ref xs, .int l_ring, .int l_speed, .int l_feed, .int l_turns, .ref la_t, .int l_teethSet, .int l_teethMany, .ref la_h, .ref la_u, .ref la_o, .ref la_x, .int l_wear, .int l_x, .int l_v, .int l_wave, .int l_time, .int l_out, .int l_farthest, .int l_begun])), (xs, .inr (6, [.ref n, .ref fo, .ref wa, .ref we])), (n, .inl (cI, 36, .inl g_nums)), (la_h, .inl (cI, 16, .inl fh)), (in_, .inl (cI, 96, .inl (upd gi (16 * rr + k) (fh k))))] (by rw [nI_clamp (by omega)]; rfl) dX5_storeHeights_60 ?_
        refine g_iinc F (j := 4) (nI (k + 1)) [(4, .int (nI (k + 1))), (0, .ref xl), (1, .ref in_), (2, .int 8), (3, .int (nI (16 * rr)))] dX5_storeHeights_61 rfl (nI_1 k) (by decide) rfl ?_
        refine g_goto F 22 dX5_storeHeights_64 (by decide) ?_
        refine g_locals [(0, .ref xl), (1, .ref in_), (2, .int 8), (3, .int (nI (16 * rr))), (4, .int (nI (k + 1)))] [1, 2, 3, 4, 0] rfl ?_
        exact ih_22 (k + 1) (upd gi (16 * rr + k) (fh k)) (by omega) (hk) (fun j hj => by
          by_cases e9 : j = k
          · subst e9; rw [pk_us]
          · rw [pk_un (by omega)]; exact hg1 j (by omega)) (fun j hj => by
          rw [pk_un (hj k hk)]
          exact hg2 j hj)
  exact loop_22 (_ + 1) 0 fi (Nat.lt_succ_self _) (Nat.zero_le _) (fun j hj => absurd hj (Nat.not_lt_zero j)) (fun _ _ => rfl)

theorem dX6_takePass_0 : decode cX6_takePass 0 = .ok (.aload_n 1, 1) := by decide +kernel
theorem dX6_takePass_1 : decode cX6_takePass 1 = .ok (.aload_n 0, 1) := by decide +kernel
theorem dX6_takePass_2 : decode cX6_takePass 2 = .ok (.getfield 9, 3) := by decide +kernel
theorem dX6_takePass_5 : decode cX6_takePass 5 = .ok (.invokevirtual 51, 3) := by decide +kernel
theorem dX6_takePass_8 : decode cX6_takePass 8 = .ok (.aload_n 0, 1) := by decide +kernel
theorem dX6_takePass_9 : decode cX6_takePass 9 = .ok (.aload_n 1, 1) := by decide +kernel
theorem dX6_takePass_10 : decode cX6_takePass 10 = .ok (.getfield 57, 3) := by decide +kernel
theorem dX6_takePass_13 : decode cX6_takePass 13 = .ok (.putfield 34, 3) := by decide +kernel
theorem dX6_takePass_16 : decode cX6_takePass 16 = .ok (.iconst 0, 1) := by decide +kernel
theorem dX6_takePass_17 : decode cX6_takePass 17 = .ok (.istore_n 2, 1) := by decide +kernel
theorem dX6_takePass_18 : decode cX6_takePass 18 = .ok (.iload_n 2, 1) := by decide +kernel
theorem dX6_takePass_19 : decode cX6_takePass 19 = .ok (.aload_n 0, 1) := by decide +kernel
theorem dX6_takePass_20 : decode cX6_takePass 20 = .ok (.getfield 20, 3) := by decide +kernel
theorem dX6_takePass_23 : decode cX6_takePass 23 = .ok (.getfield 47, 3) := by decide +kernel
theorem dX6_takePass_26 : decode cX6_takePass 26 = .ok (.iconst 0, 1) := by decide +kernel
theorem dX6_takePass_27 : decode cX6_takePass 27 = .ok (.iaload, 1) := by decide +kernel
theorem dX6_takePass_28 : decode cX6_takePass 28 = .ok (.if_icmp .ge 102, 3) := by decide +kernel
theorem dX6_takePass_31 : decode cX6_takePass 31 = .ok (.iload_n 2, 1) := by decide +kernel
theorem dX6_takePass_32 : decode cX6_takePass 32 = .ok (.bipush 16, 2) := by decide +kernel
theorem dX6_takePass_34 : decode cX6_takePass 34 = .ok (.if_icmp .ge 96, 3) := by decide +kernel
theorem dX6_takePass_37 : decode cX6_takePass 37 = .ok (.aload_n 1, 1) := by decide +kernel
theorem dX6_takePass_38 : decode cX6_takePass 38 = .ok (.getfield 58, 3) := by decide +kernel
theorem dX6_takePass_41 : decode cX6_takePass 41 = .ok (.iload_n 2, 1) := by decide +kernel
theorem dX6_takePass_42 : decode cX6_takePass 42 = .ok (.invokestatic 61, 3) := by decide +kernel
theorem dX6_takePass_45 : decode cX6_takePass 45 = .ok (.istore_n 3, 1) := by decide +kernel
theorem dX6_takePass_46 : decode cX6_takePass 46 = .ok (.aload_n 1, 1) := by decide +kernel
theorem dX6_takePass_47 : decode cX6_takePass 47 = .ok (.getfield 65, 3) := by decide +kernel
theorem dX6_takePass_50 : decode cX6_takePass 50 = .ok (.iload_n 2, 1) := by decide +kernel
theorem dX6_takePass_51 : decode cX6_takePass 51 = .ok (.iaload, 1) := by decide +kernel
theorem dX6_takePass_52 : decode cX6_takePass 52 = .ok (.iconst (-1), 1) := by decide +kernel
theorem dX6_takePass_53 : decode cX6_takePass 53 = .ok (.if_icmp .eq 71, 3) := by decide +kernel
theorem dX6_takePass_56 : decode cX6_takePass 56 = .ok (.iload_n 3, 1) := by decide +kernel
theorem dX6_takePass_57 : decode cX6_takePass 57 = .ok (.ifCond .lt 67, 3) := by decide +kernel
theorem dX6_takePass_60 : decode cX6_takePass 60 = .ok (.iload_n 3, 1) := by decide +kernel
theorem dX6_takePass_61 : decode cX6_takePass 61 = .ok (.bipush 96, 2) := by decide +kernel
theorem dX6_takePass_63 : decode cX6_takePass 63 = .ok (.if_icmp .ge 61, 3) := by decide +kernel
theorem dX6_takePass_66 : decode cX6_takePass 66 = .ok (.aload_n 0, 1) := by decide +kernel
theorem dX6_takePass_67 : decode cX6_takePass 67 = .ok (.getfield 17, 3) := by decide +kernel
theorem dX6_takePass_70 : decode cX6_takePass 70 = .ok (.iconst 0, 1) := by decide +kernel
theorem dX6_takePass_71 : decode cX6_takePass 71 = .ok (.aaload, 1) := by decide +kernel
theorem dX6_takePass_72 : decode cX6_takePass 72 = .ok (.iload_n 3, 1) := by decide +kernel
theorem dX6_takePass_73 : decode cX6_takePass 73 = .ok (.aload_n 0, 1) := by decide +kernel
theorem dX6_takePass_74 : decode cX6_takePass 74 = .ok (.getfield 38, 3) := by decide +kernel
theorem dX6_takePass_77 : decode cX6_takePass 77 = .ok (.iastore, 1) := by decide +kernel
theorem dX6_takePass_78 : decode cX6_takePass 78 = .ok (.aload_n 0, 1) := by decide +kernel
theorem dX6_takePass_79 : decode cX6_takePass 79 = .ok (.getfield 17, 3) := by decide +kernel
theorem dX6_takePass_82 : decode cX6_takePass 82 = .ok (.iconst 1, 1) := by decide +kernel
theorem dX6_takePass_83 : decode cX6_takePass 83 = .ok (.aaload, 1) := by decide +kernel
theorem dX6_takePass_84 : decode cX6_takePass 84 = .ok (.iload_n 3, 1) := by decide +kernel
theorem dX6_takePass_85 : decode cX6_takePass 85 = .ok (.aload_n 1, 1) := by decide +kernel
theorem dX6_takePass_86 : decode cX6_takePass 86 = .ok (.getfield 65, 3) := by decide +kernel
theorem dX6_takePass_89 : decode cX6_takePass 89 = .ok (.iload_n 2, 1) := by decide +kernel
theorem dX6_takePass_90 : decode cX6_takePass 90 = .ok (.iaload, 1) := by decide +kernel
theorem dX6_takePass_91 : decode cX6_takePass 91 = .ok (.iastore, 1) := by decide +kernel
theorem dX6_takePass_92 : decode cX6_takePass 92 = .ok (.aload_n 0, 1) := by decide +kernel
theorem dX6_takePass_93 : decode cX6_takePass 93 = .ok (.getfield 17, 3) := by decide +kernel
theorem dX6_takePass_96 : decode cX6_takePass 96 = .ok (.iconst 2, 1) := by decide +kernel
theorem dX6_takePass_97 : decode cX6_takePass 97 = .ok (.aaload, 1) := by decide +kernel
theorem dX6_takePass_98 : decode cX6_takePass 98 = .ok (.iload_n 3, 1) := by decide +kernel
theorem dX6_takePass_99 : decode cX6_takePass 99 = .ok (.aload_n 1, 1) := by decide +kernel
theorem dX6_takePass_100 : decode cX6_takePass 100 = .ok (.getfield 68, 3) := by decide +kernel
theorem dX6_takePass_103 : decode cX6_takePass 103 = .ok (.iload_n 2, 1) := by decide +kernel
theorem dX6_takePass_104 : decode cX6_takePass 104 = .ok (.iaload, 1) := by decide +kernel
theorem dX6_takePass_105 : decode cX6_takePass 105 = .ok (.iastore, 1) := by decide +kernel
theorem dX6_takePass_106 : decode cX6_takePass 106 = .ok (.aload_n 0, 1) := by decide +kernel
theorem dX6_takePass_107 : decode cX6_takePass 107 = .ok (.getfield 17, 3) := by decide +kernel
theorem dX6_takePass_110 : decode cX6_takePass 110 = .ok (.iconst 3, 1) := by decide +kernel
theorem dX6_takePass_111 : decode cX6_takePass 111 = .ok (.aaload, 1) := by decide +kernel
theorem dX6_takePass_112 : decode cX6_takePass 112 = .ok (.iload_n 3, 1) := by decide +kernel
theorem dX6_takePass_113 : decode cX6_takePass 113 = .ok (.aload_n 1, 1) := by decide +kernel
theorem dX6_takePass_114 : decode cX6_takePass 114 = .ok (.getfield 71, 3) := by decide +kernel
theorem dX6_takePass_117 : decode cX6_takePass 117 = .ok (.iload_n 2, 1) := by decide +kernel
theorem dX6_takePass_118 : decode cX6_takePass 118 = .ok (.iaload, 1) := by decide +kernel
theorem dX6_takePass_119 : decode cX6_takePass 119 = .ok (.sipush 20000, 3) := by decide +kernel
theorem dX6_takePass_122 : decode cX6_takePass 122 = .ok (.iadd, 1) := by decide +kernel
theorem dX6_takePass_123 : decode cX6_takePass 123 = .ok (.iastore, 1) := by decide +kernel
theorem dX6_takePass_124 : decode cX6_takePass 124 = .ok (.iinc 2 1, 3) := by decide +kernel
theorem dX6_takePass_127 : decode cX6_takePass 127 = .ok (.goto (-109), 3) := by decide +kernel
theorem dX6_takePass_130 : decode cX6_takePass 130 = .ok (.aload_n 0, 1) := by decide +kernel
theorem dX6_takePass_131 : decode cX6_takePass 131 = .ok (.dup, 1) := by decide +kernel
theorem dX6_takePass_132 : decode cX6_takePass 132 = .ok (.getfield 38, 3) := by decide +kernel
theorem dX6_takePass_135 : decode cX6_takePass 135 = .ok (.iconst 1, 1) := by decide +kernel
theorem dX6_takePass_136 : decode cX6_takePass 136 = .ok (.iadd, 1) := by decide +kernel
theorem dX6_takePass_137 : decode cX6_takePass 137 = .ok (.putfield 38, 3) := by decide +kernel
theorem dX6_takePass_140 : decode cX6_takePass 140 = .ok (.return_, 1) := by decide +kernel
set_option maxRecDepth 20000 in
theorem ggX6_takePass_X5_storeHeights : GoodIn wsX6_takePass wsX5_storeHeights := goodIn_r _ [16, 17, 18, 19, 20, 21, 22, 23, 24, 31, 32, 33, 34, 35, 36, 37, 38, 39, 40, 41, 42, 43, 44, 45, 46, 47, 48, 49, 50, 51, 52, 53, 54] rfl (by decide +kernel)
set_option maxRecDepth 20000 in
theorem gX6_takePass_X5_storeHeights : GoodIn wsX6_takePass (wsV RX6 51 RX5 yX5_storeHeights wsX5_storeHeights) := goodIn_app (goodIn_of _ (by decide +kernel)) ggX6_takePass_X5_storeHeights
set_option maxRecDepth 20000 in
theorem ggX6_takePass_X6_placeOf : GoodIn wsX6_takePass wsX6_placeOf := goodIn_r _ [24] rfl (by decide +kernel)
set_option maxRecDepth 20000 in
theorem gX6_takePass_X6_placeOf : GoodIn wsX6_takePass (va_wsS RX6 61 yX6_placeOf wsX6_placeOf) := goodIn_app (goodIn_of _ (by decide +kernel)) ggX6_takePass_X6_placeOf
set_option maxHeartbeats 4000000 in
set_option maxRecDepth 100000 in
theorem K_X6_takePass (l : Launch) (D : va_G) (xp : Nat) (xs : Nat) (ph : Nat) (pl : Nat) (xl : Nat) (n : Nat) (fo : Nat) (wa : Nat) (we : Nat) (la_t : Nat) (la_h : Nat) (la_u : Nat) (la_o : Nat) (la_x : Nat) (cI : ClassId) (cII : ClassId) (pr : Nat → Nat) (l_ring : Int32) (l_speed : Int32) (l_feed : Int32) (l_turns : Int32) (l_teethSet : Int32) (l_teethMany : Int32) (l_wear : Int32) (l_x : Int32) (l_v : Int32) (l_wave : Int32) (l_time : Int32) (l_out : Int32) (l_farthest : Int32) (l_begun : Int32) (fh : Nat → Int32) (fu : Nat → Int32) (fq : Nat → Int32) (fx : Nat → Int32) (fi : Nat → Int32) (p0 : Nat → Int32) (p1 : Nat → Int32) (p2 : Nat → Int32) (p3 : Nat → Int32) (rr : Nat) (hrr : l_ring = nI rr) (hr3 : rr < 3) (sz : Nat) : Kv l yX6_takePass wsX6_takePass 3 75 0 0 D [.ref xp, .ref xl] [(xp, .inr (5, [.ref xs, .ref ph, .int 0, .int 0, .ref pl])), (pl, .inl (cII, 4, .inr (.inr (.inr (.inr (fun i => if i < 4 then some (pr i) else none)))))), (ph, .inl (cI, 96, .inl fi)), ((pr 0), .inl (cI, 96, .inl p0)), ((pr 1), .inl (cI, 96, .inl p1)), ((pr 2), .inl (cI, 96, .inl p2)), ((pr 3), .inl (cI, 96, .inl p3)), (xl, .inr (4, [.ref xs, .int l_ring, .int l_speed, .int l_feed, .int l_turns, .ref la_t, .int l_teethSet, .int l_teethMany, .ref la_h, .ref la_u, .ref la_o, .ref la_x, .int l_wear, .int l_x, .int l_v, .int l_wave, .int l_time, .int l_out, .int l_farthest, .int l_begun])), (xs, .inr (6, [.ref n, .ref fo, .ref wa, .ref we])), (n, .inl (cI, 36, .inl g_nums)), (la_h, .inl (cI, 16, .inl fh)), (la_u, .inl (cI, 16, .inl fu)), (la_o, .inl (cI, 16, .inl fq)), (la_x, .inl (cI, 16, .inl fx))] [(cI, .int), (cII, .array .int)] sz (fun (u : Int32 × Int32 × (Nat → Int32) × (Nat → Int32) × (Nat → Int32) × (Nat → Int32) × (Nat → Int32)) => True) (fun (u : Int32 × Int32 × (Nat → Int32) × (Nat → Int32) × (Nat → Int32) × (Nat → Int32) × (Nat → Int32)) => [(xp, .inr (5, [.ref xs, .ref ph, .int u.1, .int u.2.1, .ref pl])), (pl, .inl (cII, 4, .inr (.inr (.inr (.inr (fun i => if i < 4 then some (pr i) else none)))))), (ph, .inl (cI, 96, .inl u.2.2.1)), ((pr 0), .inl (cI, 96, .inl u.2.2.2.1)), ((pr 1), .inl (cI, 96, .inl u.2.2.2.2.1)), ((pr 2), .inl (cI, 96, .inl u.2.2.2.2.2.1)), ((pr 3), .inl (cI, 96, .inl u.2.2.2.2.2.2)), (xl, .inr (4, [.ref xs, .int l_ring, .int l_speed, .int l_feed, .int l_turns, .ref la_t, .int l_teethSet, .int l_teethMany, .ref la_h, .ref la_u, .ref la_o, .ref la_x, .int l_wear, .int l_x, .int l_v, .int l_wave, .int l_time, .int l_out, .int l_farthest, .int l_begun])), (xs, .inr (6, [.ref n, .ref fo, .ref wa, .ref we])), (n, .inl (cI, 36, .inl g_nums)), (la_h, .inl (cI, 16, .inl fh)), (la_u, .inl (cI, 16, .inl fu)), (la_o, .inl (cI, 16, .inl fq)), (la_x, .inl (cI, 16, .inl fx))]) (fun (_ : Int32 × Int32 × (Nat → Int32) × (Nat → Int32) × (Nat → Int32) × (Nat → Int32) × (Nat → Int32)) => [(cI, .int), (cII, .array .int)]) := by
  unfold Kv
  refine g_ofW (cc := cX6_takePass) (lv := [(0, .ref xp), (1, .ref xl)]) (by decide) rfl (Nat.le_of_ble_eq_true rfl) rfl ?_
  intro p e s m args below meth c A Q hA hQ F hr hnm
  have hts := F.2.2.2.2.1
  have w_0 : (Cond.fieldLink RX6 9 "QuietCut$Piece" "heights" "[I").before args s = true := hts _ (List.mem_of_getElem? (i := 1) rfl)
  have i_X6 : ∀ w ∈ u_ws RX6 TX6 5, w ∈ wsX6_takePass := fun _ h => List.mem_cons_of_mem _ (List.mem_append_left _ (List.mem_append_left _ (List.mem_append_right _ h)))
  have w_1 : (Cond.fieldLink RX6 57 "QuietCut$Lathe" "wear" "I").before args s = true := hts _ (List.mem_of_getElem? (i := 2) rfl)
  have i_X5 : ∀ w ∈ u_ws RX5 TX5 20, w ∈ wsX6_takePass := fun _ h => List.mem_cons_of_mem _ (List.mem_append_left _ (List.mem_append_right _ h))
  have w_2 : (Cond.fieldLink RX6 34 "QuietCut$Piece" "wear" "I").before args s = true := hts _ (List.mem_of_getElem? (i := 3) rfl)
  have w_3 : (Cond.fieldLink RX6 20 "QuietCut$Piece" "shop" "LQuietCut$Shop;").before args s = true := hts _ (List.mem_of_getElem? (i := 4) rfl)
  have w_4 : (Cond.fieldLink RX6 47 "QuietCut$Shop" "numbers" "[I").before args s = true := hts _ (List.mem_of_getElem? (i := 5) rfl)
  have i_X7 : ∀ w ∈ u_ws RX7 TX7 4, w ∈ wsX6_takePass := fun _ h => List.mem_cons_of_mem _ (List.mem_append_right _ h)
  have w_5 : (Cond.fieldLink RX6 38 "QuietCut$Piece" "passes" "I").before args s = true := hts _ (List.mem_of_getElem? (i := 9) rfl)
  have w_6 : (Cond.fieldLink RX6 58 "QuietCut$Lathe" "ring" "I").before args s = true := hts _ (List.mem_of_getElem? (i := 6) rfl)
  have w_7 : (Cond.fieldLink RX6 65 "QuietCut$Lathe" "leftTurn" "[I").before args s = true := hts _ (List.mem_of_getElem? (i := 7) rfl)
  have w_8 : (Cond.fieldLink RX6 17 "QuietCut$Piece" "left" "[[I").before args s = true := hts _ (List.mem_of_getElem? (i := 8) rfl)
  have w_9 : (Cond.fieldLink RX6 68 "QuietCut$Lathe" "leftTooth" "[I").before args s = true := hts _ (List.mem_of_getElem? (i := 10) rfl)
  have w_10 : (Cond.fieldLink RX6 71 "QuietCut$Lathe" "leftX" "[I").before args s = true := hts _ (List.mem_of_getElem? (i := 11) rfl)
  refine g_aload_n F 1 dX6_takePass_0 rfl rfl ?_
  refine g_aload_n F 0 dX6_takePass_1 rfl rfl ?_
  refine g_get (C := RX6) (T := TX6) (N := 5) (v := .ref ph) F i_X6 0 rfl rfl 1 (by decide) w_0 rfl rfl dX6_takePass_2 ?_
  refine g_callVv (k := 0) (n := 0) (b := xl) (As := [.ref ph]) (st := []) (wc := [(xl, .inr (4, [.ref xs, .int l_ring, .int l_speed, .int l_feed, .int l_turns, .ref la_t, .int l_teethSet, .int l_teethMany, .ref la_h, .ref la_u, .ref la_o, .ref la_x, .int l_wear, .int l_x, .int l_v, .int l_wave, .int l_time, .int l_out, .int l_farthest, .int l_begun])), (xs, .inr (6, [.ref n, .ref fo, .ref wa, .ref we])), (n, .inl (cI, 36, .inl g_nums)), (la_h, .inl (cI, 16, .inl fh)), (ph, .inl (cI, 96, .inl fi))]) (wr := [(xp, .inr (5, [.ref xs, .ref ph, .int 0, .int 0, .ref pl])), (pl, .inl (cII, 4, .inr (.inr (.inr (.inr (fun i => if i < 4 then some (pr i) else none)))))), ((pr 0), .inl (cI, 96, .inl p0)), ((pr 1), .inl (cI, 96, .inl p1)), ((pr 2), .inl (cI, 96, .inl p2)), ((pr 3), .inl (cI, 96, .inl p3)), (la_u, .inl (cI, 16, .inl fu)), (la_o, .inl (cI, 16, .inl fq)), (la_x, .inl (cI, 16, .inl fx))]) F [7, 8, 9, 10, 2] [0, 1, 3, 4, 5, 6, 11, 12, 13] [0] rfl rfl (by decide) rfl (by decide) (by decide) rfl (fun sz => K_X5_storeHeights l D xl xs la_t la_h la_u la_o la_x n fo wa we ph cI l_ring l_speed l_feed l_turns l_teethSet l_teethMany l_wear l_x l_v l_wave l_time l_out l_farthest l_begun fh fi rr (by first | assumption | decide | omega) (by first | assumption | decide | omega) sz) (cwV 1 hts gX6_takePass_X5_storeHeights rfl rfl rfl (by decide +kernel) ⟨Nat.le_of_ble_eq_true rfl, Nat.le_of_ble_eq_true rfl⟩) rfl 0 rfl rfl (Nat.le_of_ble_eq_true rfl) ⟨Nat.le_of_ble_eq_true rfl, Nat.le_of_ble_eq_true rfl⟩ dX6_takePass_5 (fun u_0 hw_2 => ?_)
  obtain ⟨gi_3, rfl⟩ : ∃ z, z = u_0 := ⟨_, rfl⟩
  have hw_2 : (∀ j, j < 8 → gi_3 (16 * rr + j) = fh j) ∧ (∀ j, (∀ q, q < 8 → j ≠ 16 * rr + q) → gi_3 j = fi j) := hw_2
  obtain ⟨hp0_4, hp1_4⟩ := hw_2
  show gG p l e (gR 3 0 0 75) s m args below meth c D A 4 Q 0 0 [(xp, .inr (5, [.ref xs, .ref ph, .int 0, .int 0, .ref pl])), (pl, .inl (cII, 4, .inr (.inr (.inr (.inr (fun i => if i < 4 then some (pr i) else none)))))), ((pr 0), .inl (cI, 96, .inl p0)), ((pr 1), .inl (cI, 96, .inl p1)), ((pr 2), .inl (cI, 96, .inl p2)), ((pr 3), .inl (cI, 96, .inl p3)), (la_u, .inl (cI, 16, .inl fu)), (la_o, .inl (cI, 16, .inl fq)), (la_x, .inl (cI, 16, .inl fx)), (xl, .inr (4, [.ref xs, .int l_ring, .int l_speed, .int l_feed, .int l_turns, .ref la_t, .int l_teethSet, .int l_teethMany, .ref la_h, .ref la_u, .ref la_o, .ref la_x, .int l_wear, .int l_x, .int l_v, .int l_wave, .int l_time, .int l_out, .int l_farthest, .int l_begun])), (xs, .inr (6, [.ref n, .ref fo, .ref wa, .ref we])), (n, .inl (cI, 36, .inl g_nums)), (la_h, .inl (cI, 16, .inl fh)), (ph, .inl (cI, 96, .inl gi_3))] [(cI, .int), (cII, .array .int)] [(0, .ref xp), (1, .ref xl)] 8 []
  refine g_aload_n F 0 dX6_takePass_8 rfl rfl ?_
  refine g_aload_n F 1 dX6_takePass_9 rfl rfl ?_
  refine g_get (C := RX5) (T := TX5) (N := 20) (v := .int l_wear) F i_X5 9 rfl rfl 12 (by decide) w_1 rfl rfl dX6_takePass_10 ?_
  refine g_put (C := RX6) (T := TX6) (N := 5) (ty := .int) (v := .int l_wear) F i_X6 0 rfl rfl 2 (by decide) w_2 rfl tyX6 tyX6_ok nmX6 rfl (by decide +kernel) rfl rfl (Nat.le_of_ble_eq_true rfl) [(xp, .inr (5, [.ref xs, .ref ph, .int l_wear, .int 0, .ref pl])), (pl, .inl (cII, 4, .inr (.inr (.inr (.inr (fun i => if i < 4 then some (pr i) else none)))))), ((pr 0), .inl (cI, 96, .inl p0)), ((pr 1), .inl (cI, 96, .inl p1)), ((pr 2), .inl (cI, 96, .inl p2)), ((pr 3), .inl (cI, 96, .inl p3)), (la_u, .inl (cI, 16, .inl fu)), (la_o, .inl (cI, 16, .inl fq)), (la_x, .inl (cI, 16, .inl fx)), (xl, .inr (4, [.ref xs, .int l_ring, .int l_speed, .int l_feed, .int l_turns, .ref la_t, .int l_teethSet, .int l_teethMany, .ref la_h, .ref la_u, .ref la_o, .ref la_x, .int l_wear, .int l_x, .int l_v, .int l_wave, .int l_time, .int l_out, .int l_farthest, .int l_begun])), (xs, .inr (6, [.ref n, .ref fo, .ref wa, .ref we])), (n, .inl (cI, 36, .inl g_nums)), (la_h, .inl (cI, 16, .inl fh)), (ph, .inl (cI, 96, .inl gi_3))] rfl dX6_takePass_13 ?_
  refine g_iconst F 0 dX6_takePass_16 (by decide) ?_
  refine g_istore_n F [(2, .int 0), (0, .ref xp), (1, .ref xl)] dX6_takePass_17 rfl (by decide) rfl ?_
  refine g_locals [(0, .ref xp), (1, .ref xl), (2, .int 0)] [1, 2, 0] rfl ?_
  have loop_18 : ∀ (fuel : Nat) (k : Nat) (q0 : Nat → Int32) (q1 : Nat → Int32) (q2 : Nat → Int32) (q3 : Nat → Int32), 8 - k < fuel → (k ≤ 8) → gG p l e (gR 3 0 0 75) s m args below meth c D A 4 Q 0 0 [(xp, .inr (5, [.ref xs, .ref ph, .int l_wear, .int 0, .ref pl])), (pl, .inl (cII, 4, .inr (.inr (.inr (.inr (fun i => if i < 4 then some (pr i) else none)))))), ((pr 0), .inl (cI, 96, .inl q0)), ((pr 1), .inl (cI, 96, .inl q1)), ((pr 2), .inl (cI, 96, .inl q2)), ((pr 3), .inl (cI, 96, .inl q3)), (la_u, .inl (cI, 16, .inl fu)), (la_o, .inl (cI, 16, .inl fq)), (la_x, .inl (cI, 16, .inl fx)), (xl, .inr (4, [.ref xs, .int l_ring, .int l_speed, .int l_feed, .int l_turns, .ref la_t, .int l_teethSet, .int l_teethMany, .ref la_h, .ref la_u, .ref la_o, .ref la_x, .int l_wear, .int l_x, .int l_v, .int l_wave, .int l_time, .int l_out, .int l_farthest, .int l_begun])), (xs, .inr (6, [.ref n, .ref fo, .ref wa, .ref we])), (n, .inl (cI, 36, .inl g_nums)), (la_h, .inl (cI, 16, .inl fh)), (ph, .inl (cI, 96, .inl gi_3))] [(cI, .int), (cII, .array .int)] [(0, .ref xp), (1, .ref xl), (2, .int (nI k))] 18 [] := by
    intro fuel_18
    induction fuel_18 with
    | zero => intro k q0 q1 q2 q3 hm; exact absurd hm (Nat.not_lt_zero _)
    | succ fuel_18 ih_18 =>
      intro k q0 q1 q2 q3 hm18 hk0
      refine g_iload_n F 2 dX6_takePass_18 rfl rfl ?_
      refine g_aload_n F 0 dX6_takePass_19 rfl rfl ?_
      refine g_get (C := RX6) (T := TX6) (N := 5) (v := .ref xs) F i_X6 0 rfl rfl 0 (by decide) w_3 rfl rfl dX6_takePass_20 ?_
      refine g_get (C := RX7) (T := TX7) (N := 4) (v := .ref n) F i_X7 10 rfl rfl 0 (by decide) w_4 rfl rfl dX6_takePass_23 ?_
      refine g_iconst F 0 dX6_takePass_26 (by decide) ?_
      refine g_iald F 11 0 rfl rfl (by unfold vp_in; decide) dX6_takePass_27 ?_
      refine g_fold 8 (by rfl) ?_
      refine g_icmp_ge F 130 dX6_takePass_28 (by decide) (fun c_28 => ?_) (fun c_28 => ?_)
      · refine g_aload_n F 0 dX6_takePass_130 rfl rfl ?_
        refine g_dup F dX6_takePass_131 rfl ?_
        refine g_get (C := RX6) (T := TX6) (N := 5) (v := .int 0) F i_X6 0 rfl rfl 3 (by decide) w_5 rfl rfl dX6_takePass_132 ?_
        refine g_iconst F 1 dX6_takePass_135 (by decide) ?_
        refine g_iadd F dX6_takePass_136 ?_
        refine g_fold 1 (by decide) ?_
        refine g_put (C := RX6) (T := TX6) (N := 5) (ty := .int) (v := .int 1) F i_X6 0 rfl rfl 3 (by decide) w_5 rfl tyX6 tyX6_ok nmX6 rfl (by decide +kernel) rfl rfl (Nat.le_of_ble_eq_true rfl) [(xp, .inr (5, [.ref xs, .ref ph, .int l_wear, .int 1, .ref pl])), (pl, .inl (cII, 4, .inr (.inr (.inr (.inr (fun i => if i < 4 then some (pr i) else none)))))), ((pr 0), .inl (cI, 96, .inl q0)), ((pr 1), .inl (cI, 96, .inl q1)), ((pr 2), .inl (cI, 96, .inl q2)), ((pr 3), .inl (cI, 96, .inl q3)), (la_u, .inl (cI, 16, .inl fu)), (la_o, .inl (cI, 16, .inl fq)), (la_x, .inl (cI, 16, .inl fx)), (xl, .inr (4, [.ref xs, .int l_ring, .int l_speed, .int l_feed, .int l_turns, .ref la_t, .int l_teethSet, .int l_teethMany, .ref la_h, .ref la_u, .ref la_o, .ref la_x, .int l_wear, .int l_x, .int l_v, .int l_wave, .int l_time, .int l_out, .int l_farthest, .int l_begun])), (xs, .inr (6, [.ref n, .ref fo, .ref wa, .ref we])), (n, .inl (cI, 36, .inl g_nums)), (la_h, .inl (cI, 16, .inl fh)), (ph, .inl (cI, 96, .inl gi_3))] rfl dX6_takePass_137 ?_
        exact g_vret F hA hQ hr (l_wear, 1, gi_3, q0, q1, q2, q3) (trivial) [0, 1, 13, 2, 3, 4, 5, 9, 10, 11, 12, 6, 7, 8] [0, 1] rfl (by decide) rfl rfl dX6_takePass_140
      · have hk : k < 8 := Nat.lt_of_not_le (fun h => c_28 (nI_le (a := 8) h (by omega)))
        refine g_iload_n F 2 dX6_takePass_31 rfl rfl ?_
        refine g_bipush F 16 dX6_takePass_32 (by decide) ?_
        refine g_icmp_ge F 130 dX6_takePass_34 (by decide) (fun h9 => absurd h9 (nI_ge (b := 16) (by omega) (by decide))) (fun c_34 => ?_)
        refine g_aload_n F 1 dX6_takePass_37 rfl rfl ?_
        refine g_get (C := RX5) (T := TX5) (N := 20) (v := .int l_ring) F i_X5 9 rfl rfl 1 (by decide) w_6 rfl rfl dX6_takePass_38 ?_
        refine g_iload_n F 2 dX6_takePass_41 rfl rfl ?_
        refine g_callSi (k := 0) (n := 0) (As := [.int l_ring, .int (nI k)]) (st := []) (wc := []) (wr := [(xp, .inr (5, [.ref xs, .ref ph, .int l_wear, .int 0, .ref pl])), (pl, .inl (cII, 4, .inr (.inr (.inr (.inr (fun i => if i < 4 then some (pr i) else none)))))), ((pr 0), .inl (cI, 96, .inl q0)), ((pr 1), .inl (cI, 96, .inl q1)), ((pr 2), .inl (cI, 96, .inl q2)), ((pr 3), .inl (cI, 96, .inl q3)), (la_u, .inl (cI, 16, .inl fu)), (la_o, .inl (cI, 16, .inl fq)), (la_x, .inl (cI, 16, .inl fx)), (xl, .inr (4, [.ref xs, .int l_ring, .int l_speed, .int l_feed, .int l_turns, .ref la_t, .int l_teethSet, .int l_teethMany, .ref la_h, .ref la_u, .ref la_o, .ref la_x, .int l_wear, .int l_x, .int l_v, .int l_wave, .int l_time, .int l_out, .int l_farthest, .int l_begun])), (xs, .inr (6, [.ref n, .ref fo, .ref wa, .ref we])), (n, .inl (cI, 36, .inl g_nums)), (la_h, .inl (cI, 16, .inl fh)), (ph, .inl (cI, 96, .inl gi_3))]) F [] [0, 1, 2, 3, 4, 5, 6, 7, 8, 9, 10, 11, 12, 13] [] rfl rfl (by decide) rfl (by decide) (by decide) rfl (fun sz => K_X6_placeOf l D l_ring (nI k)  sz) (va_cwS 2 hts gX6_takePass_X6_placeOf rfl rfl rfl (by decide +kernel) ⟨Nat.le_of_ble_eq_true rfl, Nat.le_of_ble_eq_true rfl⟩) rfl (Nat.le_of_ble_eq_true rfl) ⟨Nat.le_of_ble_eq_true rfl, Nat.le_of_ble_eq_true rfl⟩ dX6_takePass_42 (fun r_6 _ hw_7 => ?_)
        have hw_7 : r_6 = ((l_ring * 16) + (nI k)) := hw_7
        have e_r_6 := hw_7
        show gG p l e (gR 3 0 0 75) s m args below meth c D A 4 Q 0 0 [(xp, .inr (5, [.ref xs, .ref ph, .int l_wear, .int 0, .ref pl])), (pl, .inl (cII, 4, .inr (.inr (.inr (.inr (fun i => if i < 4 then some (pr i) else none)))))), ((pr 0), .inl (cI, 96, .inl q0)), ((pr 1), .inl (cI, 96, .inl q1)), ((pr 2), .inl (cI, 96, .inl q2)), ((pr 3), .inl (cI, 96, .inl q3)), (la_u, .inl (cI, 16, .inl fu)), (la_o, .inl (cI, 16, .inl fq)), (la_x, .inl (cI, 16, .inl fx)), (xl, .inr (4, [.ref xs, .int l_ring, .int l_speed, .int l_feed, .int l_turns, .ref la_t, .int l_teethSet, .int l_teethMany, .ref la_h, .ref la_u, .ref la_o, .ref la_x, .int l_wear, .int l_x, .int l_v, .int l_wave, .int l_time, .int l_out, .int l_farthest, .int l_begun])), (xs, .inr (6, [.ref n, .ref fo, .ref wa, .ref we])), (n, .inl (cI, 36, .inl g_nums)), (la_h, .inl (cI, 16, .inl fh)), (ph, .inl (cI, 96, .inl gi_3))] [(cI, .int), (cII, .array .int)] [(0, .ref xp), (1, .ref xl), (2, .int (nI k))] 45 [.int r_6]
        refine g_fold ((l_ring * 16) + (nI k)) e_r_6 ?_
        refine g_fold (nI (16 * rr + k)) (by rw [hrr, show (16 : Int32) = nI 16 from rfl, pk_mul, nI_add, Nat.mul_comm]) ?_
        refine g_istore_n F [(3, .int (nI (16 * rr + k))), (0, .ref xp), (1, .ref xl), (2, .int (nI k))] dX6_takePass_45 rfl (by decide) rfl ?_
        refine g_aload_n F 2 dX6_takePass_46 rfl rfl ?_
        refine g_get (C := RX5) (T := TX5) (N := 20) (v := .ref la_u) F i_X5 9 rfl rfl 9 (by decide) w_7 rfl rfl dX6_takePass_47 ?_
        refine g_iload_n F 3 dX6_takePass_50 rfl rfl ?_
        refine g_iald F 6 0 rfl rfl (vp_in_nI (by omega) (by decide)) dX6_takePass_51 ?_
        refine g_fold (fu k) (by rw [nI_clamp (by omega)]) ?_
        refine g_iconst F (-1) dX6_takePass_52 (by decide) ?_
        refine g_icmp_eq F 124 dX6_takePass_53 (by decide) (fun c_53 => ?_) (fun c_53 => ?_)
        · refine g_iinc F (j := 3) (nI (k + 1)) [(2, .int (nI (k + 1))), (3, .int (nI (16 * rr + k))), (0, .ref xp), (1, .ref xl)] dX6_takePass_124 rfl (nI_1 k) (by decide) rfl ?_
          refine g_goto F 18 dX6_takePass_127 (by decide) ?_
          refine g_locals [(0, .ref xp), (1, .ref xl), (2, .int (nI (k + 1)))] [2, 3, 0] rfl ?_
          exact ih_18 (k + 1) q0 q1 q2 q3 (by omega) (hk)
        · refine g_iload_n F 0 dX6_takePass_56 rfl rfl ?_
          refine g_if_lt F 124 dX6_takePass_57 (by decide) (fun h9 => absurd h9 (nI_pos (by omega))) (fun c_57 => ?_)
          refine g_iload_n F 0 dX6_takePass_60 rfl rfl ?_
          refine g_bipush F 96 dX6_takePass_61 (by decide) ?_
          refine g_icmp_ge F 124 dX6_takePass_63 (by decide) (fun h9 => absurd h9 (nI_ge (b := 96) (by omega) (by decide))) (fun c_63 => ?_)
          refine g_aload_n F 1 dX6_takePass_66 rfl rfl ?_
          refine g_get (C := RX6) (T := TX6) (N := 5) (v := .ref pl) F i_X6 0 rfl rfl 4 (by decide) w_8 rfl rfl dX6_takePass_67 ?_
          refine g_iconst F 0 dX6_takePass_70 (by decide) ?_
          refine g_aald (b := (pr 0)) F 1 1 rfl rfl (by unfold vp_in; decide) (by rfl) dX6_takePass_71 ?_
          refine g_iload_n F 0 dX6_takePass_72 rfl rfl ?_
          refine g_aload_n F 1 dX6_takePass_73 rfl rfl ?_
          refine g_get (C := RX6) (T := TX6) (N := 5) (v := .int 0) F i_X6 0 rfl rfl 3 (by decide) w_5 rfl rfl dX6_takePass_74 ?_
          refine g_iast F 2 0 rfl rfl (vp_in_nI (by omega) (by decide)) [(xp, .inr (5, [.ref xs, .ref ph, .int l_wear, .int 0, .ref pl])), (pl, .inl (cII, 4, .inr (.inr (.inr (.inr (fun i => if i < 4 then some (pr i) else none)))))), ((pr 0), .inl (cI, 96, .inl (upd q0 (16 * rr + k) 0))), ((pr 1), .inl (cI, 96, .inl q1)), ((pr 2), .inl (cI, 96, .inl q2)), ((pr 3), .inl (cI, 96, .inl q3)), (la_u, .inl (cI, 16, .inl fu)), (la_o, .inl (cI, 16, .inl fq)), (la_x, .inl (cI, 16, .inl fx)), (xl, .inr (4, [.ref xs, .int l_ring, .int l_speed, .int l_feed, .int l_turns, .ref la_t, .int l_teethSet, .int l_teethMany, .ref la_h, .ref la_u, .ref la_o, .ref la_x, .int l_wear, .int l_x, .int l_v, .int l_wave, .int l_time, .int l_out, .int l_farthest, .int l_begun])), (xs, .inr (6, [.ref n, .ref fo, .ref wa, .ref we])), (n, .inl (cI, 36, .inl g_nums)), (la_h, .inl (cI, 16, .inl fh)), (ph, .inl (cI, 96, .inl gi_3))] (by rw [nI_clamp (by omega)]; rfl) dX6_takePass_77 ?_
          refine g_aload_n F 1 dX6_takePass_78 rfl rfl ?_
          refine g_get (C := RX6) (T := TX6) (N := 5) (v := .ref pl) F i_X6 0 rfl rfl 4 (by decide) w_8 rfl rfl dX6_takePass_79 ?_
          refine g_iconst F 1 dX6_takePass_82 (by decide) ?_
          refine g_aald (b := (pr 1)) F 1 1 rfl rfl (by unfold vp_in; decide) (by rfl) dX6_takePass_83 ?_
          refine g_iload_n F 0 dX6_takePass_84 rfl rfl ?_
          refine g_aload_n F 2 dX6_takePass_85 rfl rfl ?_
          refine g_get (C := RX5) (T := TX5) (N := 20) (v := .ref la_u) F i_X5 9 rfl rfl 9 (by decide) w_7 rfl rfl dX6_takePass_86 ?_
          refine g_iload_n F 3 dX6_takePass_89 rfl rfl ?_
          refine g_iald F 6 0 rfl rfl (vp_in_nI (by omega) (by decide)) dX6_takePass_90 ?_
          refine g_fold (fu k) (by rw [nI_clamp (by omega)]) ?_
          refine g_iast F 3 0 rfl rfl (vp_in_nI (by omega) (by decide)) [(xp, .inr (5, [.ref xs, .ref ph, .int l_wear, .int 0, .ref pl])), (pl, .inl (cII, 4, .inr (.inr (.inr (.inr (fun i => if i < 4 then some (pr i) else none)))))), ((pr 0), .inl (cI, 96, .inl (upd q0 (16 * rr + k) 0))), ((pr 1), .inl (cI, 96, .inl (upd q1 (16 * rr + k) (fu k)))), ((pr 2), .inl (cI, 96, .inl q2)), ((pr 3), .inl (cI, 96, .inl q3)), (la_u, .inl (cI, 16, .inl fu)), (la_o, .inl (cI, 16, .inl fq)), (la_x, .inl (cI, 16, .inl fx)), (xl, .inr (4, [.ref xs, .int l_ring, .int l_speed, .int l_feed, .int l_turns, .ref la_t, .int l_teethSet, .int l_teethMany, .ref la_h, .ref la_u, .ref la_o, .ref la_x, .int l_wear, .int l_x, .int l_v, .int l_wave, .int l_time, .int l_out, .int l_farthest, .int l_begun])), (xs, .inr (6, [.ref n, .ref fo, .ref wa, .ref we])), (n, .inl (cI, 36, .inl g_nums)), (la_h, .inl (cI, 16, .inl fh)), (ph, .inl (cI, 96, .inl gi_3))] (by rw [nI_clamp (by omega)]; rfl) dX6_takePass_91 ?_
          refine g_aload_n F 1 dX6_takePass_92 rfl rfl ?_
          refine g_get (C := RX6) (T := TX6) (N := 5) (v := .ref pl) F i_X6 0 rfl rfl 4 (by decide) w_8 rfl rfl dX6_takePass_93 ?_
          refine g_iconst F 2 dX6_takePass_96 (by decide) ?_
          refine g_aald (b := (pr 2)) F 1 1 rfl rfl (by unfold vp_in; decide) (by rfl) dX6_takePass_97 ?_
          refine g_iload_n F 0 dX6_takePass_98 rfl rfl ?_
          refine g_aload_n F 2 dX6_takePass_99 rfl rfl ?_
          refine g_get (C := RX5) (T := TX5) (N := 20) (v := .ref la_o) F i_X5 9 rfl rfl 10 (by decide) w_9 rfl rfl dX6_takePass_100 ?_
          refine g_iload_n F 3 dX6_takePass_103 rfl rfl ?_
          refine g_iald F 7 0 rfl rfl (vp_in_nI (by omega) (by decide)) dX6_takePass_104 ?_
          refine g_fold (fq k) (by rw [nI_clamp (by omega)]) ?_
          refine g_iast F 4 0 rfl rfl (vp_in_nI (by omega) (by decide)) [(xp, .inr (5, [.ref xs, .ref ph, .int l_wear, .int 0, .ref pl])), (pl, .inl (cII, 4, .inr (.inr (.inr (.inr (fun i => if i < 4 then some (pr i) else none)))))), ((pr 0), .inl (cI, 96, .inl (upd q0 (16 * rr + k) 0))), ((pr 1), .inl (cI, 96, .inl (upd q1 (16 * rr + k) (fu k)))), ((pr 2), .inl (cI, 96, .inl (upd q2 (16 * rr + k) (fq k)))), ((pr 3), .inl (cI, 96, .inl q3)), (la_u, .inl (cI, 16, .inl fu)), (la_o, .inl (cI, 16, .inl fq)), (la_x, .inl (cI, 16, .inl fx)), (xl, .inr (4, [.ref xs, .int l_ring, .int l_speed, .int l_feed, .int l_turns, .ref la_t, .int l_teethSet, .int l_teethMany, .ref la_h, .ref la_u, .ref la_o, .ref la_x, .int l_wear, .int l_x, .int l_v, .int l_wave, .int l_time, .int l_out, .int l_farthest, .int l_begun])), (xs, .inr (6, [.ref n, .ref fo, .ref wa, .ref we])), (n, .inl (cI, 36, .inl g_nums)), (la_h, .inl (cI, 16, .inl fh)), (ph, .inl (cI, 96, .inl gi_3))] (by rw [nI_clamp (by omega)]; rfl) dX6_takePass_105 ?_
          refine g_aload_n F 1 dX6_takePass_106 rfl rfl ?_
          refine g_get (C := RX6) (T := TX6) (N := 5) (v := .ref pl) F i_X6 0 rfl rfl 4 (by decide) w_8 rfl rfl dX6_takePass_107 ?_
          refine g_iconst F 3 dX6_takePass_110 (by decide) ?_
          refine g_aald (b := (pr 3)) F 1 1 rfl rfl (by unfold vp_in; decide) (by rfl) dX6_takePass_111 ?_
          refine g_iload_n F 0 dX6_takePass_112 rfl rfl ?_
          refine g_aload_n F 2 dX6_takePass_113 rfl rfl ?_
          refine g_get (C := RX5) (T := TX5) (N := 20) (v := .ref la_x) F i_X5 9 rfl rfl 11 (by decide) w_10 rfl rfl dX6_takePass_114 ?_
          refine g_iload_n F 3 dX6_takePass_117 rfl rfl ?_
          refine g_iald F 8 0 rfl rfl (vp_in_nI (by omega) (by decide)) dX6_takePass_118 ?_
          refine g_fold (fx k) (by rw [nI_clamp (by omega)]) ?_
          refine g_sipush F 20000 dX6_takePass_119 (by decide) ?_
          refine g_iadd F dX6_takePass_122 ?_
          refine g_iast F 5 0 rfl rfl (vp_in_nI (by omega) (by decide)) [(xp, .inr (5, [.ref xs, .ref ph, .int l_wear, .int 0, .ref pl])), (pl, .inl (cII, 4, .inr (.inr (.inr (.inr (fun i => if i < 4 then some (pr i) else none)))))), ((pr 0), .inl (cI, 96, .inl (upd q0 (16 * rr + k) 0))), ((pr 1), .inl (cI, 96, .inl (upd q1 (16 * rr + k) (fu k)))), ((pr 2), .inl (cI, 96, .inl (upd q2 (16 * rr + k) (fq k)))), ((pr 3), .inl (cI, 96, .inl (upd q3 (16 * rr + k) ((fx k) + 20000)))), (la_u, .inl (cI, 16, .inl fu)), (la_o, .inl (cI, 16, .inl fq)), (la_x, .inl (cI, 16, .inl fx)), (xl, .inr (4, [.ref xs, .int l_ring, .int l_speed, .int l_feed, .int l_turns, .ref la_t, .int l_teethSet, .int l_teethMany, .ref la_h, .ref la_u, .ref la_o, .ref la_x, .int l_wear, .int l_x, .int l_v, .int l_wave, .int l_time, .int l_out, .int l_farthest, .int l_begun])), (xs, .inr (6, [.ref n, .ref fo, .ref wa, .ref we])), (n, .inl (cI, 36, .inl g_nums)), (la_h, .inl (cI, 16, .inl fh)), (ph, .inl (cI, 96, .inl gi_3))] (by rw [nI_clamp (by omega)]; rfl) dX6_takePass_123 ?_
          refine g_iinc F (j := 3) (nI (k + 1)) [(2, .int (nI (k + 1))), (3, .int (nI (16 * rr + k))), (0, .ref xp), (1, .ref xl)] dX6_takePass_124 rfl (nI_1 k) (by decide) rfl ?_
          refine g_goto F 18 dX6_takePass_127 (by decide) ?_
          refine g_locals [(0, .ref xp), (1, .ref xl), (2, .int (nI (k + 1)))] [2, 3, 0] rfl ?_
          exact ih_18 (k + 1) (upd q0 (16 * rr + k) 0) (upd q1 (16 * rr + k) (fu k)) (upd q2 (16 * rr + k) (fq k)) (upd q3 (16 * rr + k) ((fx k) + 20000)) (by omega) (hk)
  exact loop_18 (_ + 1) 0 p0 p1 p2 p3 (Nat.lt_succ_self _) (Nat.zero_le _)

theorem dX11_cut_0 : decode cX11_cut 0 = .ok (.aload_n 0, 1) := by decide +kernel
theorem dX11_cut_1 : decode cX11_cut 1 = .ok (.getfield 47, 3) := by decide +kernel
theorem dX11_cut_4 : decode cX11_cut 4 = .ok (.iload_n 1, 1) := by decide +kernel
theorem dX11_cut_5 : decode cX11_cut 5 = .ok (.iload_n 2, 1) := by decide +kernel
theorem dX11_cut_6 : decode cX11_cut 6 = .ok (.iload_n 3, 1) := by decide +kernel
theorem dX11_cut_7 : decode cX11_cut 7 = .ok (.iload 4, 2) := by decide +kernel
theorem dX11_cut_9 : decode cX11_cut 9 = .ok (.invokevirtual 164, 3) := by decide +kernel
theorem dX11_cut_12 : decode cX11_cut 12 = .ok (.ifCond .eq 13, 3) := by decide +kernel
theorem dX11_cut_15 : decode cX11_cut 15 = .ok (.iload 5, 2) := by decide +kernel
theorem dX11_cut_17 : decode cX11_cut 17 = .ok (.iload 6, 2) := by decide +kernel
theorem dX11_cut_19 : decode cX11_cut 19 = .ok (.invokestatic 168, 3) := by decide +kernel
theorem dX11_cut_22 : decode cX11_cut 22 = .ok (.ifCond .ne 6, 3) := by decide +kernel
theorem dX11_cut_25 : decode cX11_cut 25 = .ok (.bipush (-2), 2) := by decide +kernel
theorem dX11_cut_27 : decode cX11_cut 27 = .ok (.ireturn, 1) := by decide +kernel
theorem dX11_cut_28 : decode cX11_cut 28 = .ok (.aload_n 0, 1) := by decide +kernel
theorem dX11_cut_29 : decode cX11_cut 29 = .ok (.getfield 47, 3) := by decide +kernel
theorem dX11_cut_32 : decode cX11_cut 32 = .ok (.aload_n 0, 1) := by decide +kernel
theorem dX11_cut_33 : decode cX11_cut 33 = .ok (.getfield 40, 3) := by decide +kernel
theorem dX11_cut_36 : decode cX11_cut 36 = .ok (.getfield 151, 3) := by decide +kernel
theorem dX11_cut_39 : decode cX11_cut 39 = .ok (.aload_n 0, 1) := by decide +kernel
theorem dX11_cut_40 : decode cX11_cut 40 = .ok (.getfield 40, 3) := by decide +kernel
theorem dX11_cut_43 : decode cX11_cut 43 = .ok (.getfield 161, 3) := by decide +kernel
theorem dX11_cut_46 : decode cX11_cut 46 = .ok (.iload 5, 2) := by decide +kernel
theorem dX11_cut_48 : decode cX11_cut 48 = .ok (.iload 6, 2) := by decide +kernel
theorem dX11_cut_50 : decode cX11_cut 50 = .ok (.invokevirtual 171, 3) := by decide +kernel
theorem dX11_cut_53 : decode cX11_cut 53 = .ok (.istore 7, 2) := by decide +kernel
theorem dX11_cut_55 : decode cX11_cut 55 = .ok (.iload 7, 2) := by decide +kernel
theorem dX11_cut_57 : decode cX11_cut 57 = .ok (.ifCond .ge 6, 3) := by decide +kernel
theorem dX11_cut_60 : decode cX11_cut 60 = .ok (.iload 7, 2) := by decide +kernel
theorem dX11_cut_62 : decode cX11_cut 62 = .ok (.ireturn, 1) := by decide +kernel
theorem dX11_cut_63 : decode cX11_cut 63 = .ok (.aload_n 0, 1) := by decide +kernel
theorem dX11_cut_64 : decode cX11_cut 64 = .ok (.getfield 40, 3) := by decide +kernel
theorem dX11_cut_67 : decode cX11_cut 67 = .ok (.getfield 178, 3) := by decide +kernel
theorem dX11_cut_70 : decode cX11_cut 70 = .ok (.sipush 200, 3) := by decide +kernel
theorem dX11_cut_73 : decode cX11_cut 73 = .ok (.if_icmp .lt 6, 3) := by decide +kernel
theorem dX11_cut_76 : decode cX11_cut 76 = .ok (.bipush (-3), 2) := by decide +kernel
theorem dX11_cut_78 : decode cX11_cut 78 = .ok (.ireturn, 1) := by decide +kernel
theorem dX11_cut_79 : decode cX11_cut 79 = .ok (.aload_n 0, 1) := by decide +kernel
theorem dX11_cut_80 : decode cX11_cut 80 = .ok (.getfield 40, 3) := by decide +kernel
theorem dX11_cut_83 : decode cX11_cut 83 = .ok (.aload_n 0, 1) := by decide +kernel
theorem dX11_cut_84 : decode cX11_cut 84 = .ok (.getfield 47, 3) := by decide +kernel
theorem dX11_cut_87 : decode cX11_cut 87 = .ok (.invokevirtual 181, 3) := by decide +kernel
theorem dX11_cut_90 : decode cX11_cut 90 = .ok (.aload_n 0, 1) := by decide +kernel
theorem dX11_cut_91 : decode cX11_cut 91 = .ok (.invokevirtual 175, 3) := by decide +kernel
theorem dX11_cut_94 : decode cX11_cut 94 = .ok (.iload 7, 2) := by decide +kernel
theorem dX11_cut_96 : decode cX11_cut 96 = .ok (.ireturn, 1) := by decide +kernel
set_option maxRecDepth 20000 in
theorem ggX11_cut_X11_notePassed : GoodIn wsX11_cut wsX11_notePassed := goodIn_r _ [145, 146, 1, 147, 148, 149, 150, 151, 152, 153, 154, 155, 156, 157, 158, 159, 160, 161, 162, 163, 164, 165, 166, 167, 168, 174, 175, 176, 177, 178, 179, 180, 181, 182, 183, 184, 185, 186, 187, 188, 189, 190, 191, 192, 193] rfl (by decide +kernel)
set_option maxRecDepth 20000 in
theorem gX11_cut_X11_notePassed : GoodIn wsX11_cut (wsV RX11 175 RX11 yX11_notePassed wsX11_notePassed) := goodIn_app (goodIn_of _ (by decide +kernel)) ggX11_cut_X11_notePassed
set_option maxRecDepth 20000 in
theorem ggX11_cut_X5_mayHold : GoodIn wsX11_cut wsX5_mayHold := goodIn_r _ [24] rfl (by decide +kernel)
set_option maxRecDepth 20000 in
theorem gX11_cut_X5_mayHold : GoodIn wsX11_cut (va_wsS RX11 168 yX5_mayHold wsX5_mayHold) := goodIn_app (goodIn_of _ (by decide +kernel)) ggX11_cut_X5_mayHold
set_option maxRecDepth 20000 in
theorem ggX11_cut_X5_run : GoodIn wsX11_cut wsX5_run := goodIn_r _ [28, 15, 29, 11, 30, 31, 32, 33, 34, 13, 14, 35, 36, 12, 37, 16, 17, 18, 19, 20, 21, 38, 39, 40, 41, 42, 43, 9, 44, 45, 46, 47, 48, 49, 50, 51, 52, 53, 54, 55, 56, 57, 58, 59, 60, 61, 62, 63, 64, 65, 66, 67, 68, 69, 70, 71, 72, 73, 74, 75, 76, 77, 78, 79, 80, 81, 82, 83, 84, 85, 86, 87, 88, 89, 90, 91, 92, 93, 94, 95, 96, 97, 98, 99, 100, 101, 102, 103, 104, 105, 106, 107, 108, 109, 110, 111, 112, 113, 114, 115, 116, 117, 118, 119, 120, 174, 175, 176, 177, 178, 179, 180, 181, 182, 183, 184, 185, 186, 187, 188, 189, 190, 191, 192, 193, 194, 195, 196, 197, 198, 199, 200, 201, 202, 203, 204, 205, 206] rfl (by decide +kernel)
set_option maxRecDepth 20000 in
theorem gX11_cut_X5_run : GoodIn wsX11_cut (wsV RX11 171 RX5 yX5_run wsX5_run) := goodIn_app (goodIn_of _ (by decide +kernel)) ggX11_cut_X5_run
set_option maxRecDepth 20000 in
theorem ggX11_cut_X5_takes : GoodIn wsX11_cut wsX5_takes := goodIn_r _ [10, 11, 12, 13, 14, 15, 16, 17, 18, 19, 20, 21, 174, 175, 176, 177, 178, 179, 180, 181, 182, 183, 184, 185, 186, 187, 188, 189, 190, 191, 192, 193, 194, 195, 196, 197] rfl (by decide +kernel)
set_option maxRecDepth 20000 in
theorem gX11_cut_X5_takes : GoodIn wsX11_cut (wsV RX11 164 RX5 yX5_takes wsX5_takes) := goodIn_app (goodIn_of _ (by decide +kernel)) ggX11_cut_X5_takes
set_option maxRecDepth 20000 in
theorem ggX11_cut_X6_takePass : GoodIn wsX11_cut wsX6_takePass := goodIn_r _ [124, 125, 126, 127, 128, 129, 130, 131, 132, 133, 134, 135, 136, 137, 138, 9, 139, 15, 29, 11, 30, 38, 39, 40, 41, 140, 169, 170, 171, 172, 173, 174, 175, 176, 177, 178, 179, 180, 181, 182, 183, 184, 185, 186, 187, 188, 189, 190, 191, 192, 193, 194, 195, 196, 197] rfl (by decide +kernel)
set_option maxRecDepth 20000 in
theorem gX11_cut_X6_takePass : GoodIn wsX11_cut (wsV RX11 181 RX6 yX6_takePass wsX6_takePass) := goodIn_app (goodIn_of _ (by decide +kernel)) ggX11_cut_X6_takePass
set_option maxHeartbeats 4000000 in
set_option maxRecDepth 100000 in
theorem K_X11_cut (l : Launch) (D : va_G) (x0 : Nat) (xt : Nat) (xs : Nat) (xq : Nat) (xr : Nat) (xp : Nat) (xl : Nat) (xc : Nat) (xj : Nat) (xe : Nat) (xo : Nat) (pa : Nat) (la_t : Nat) (la_h : Nat) (la_u : Nat) (la_o : Nat) (la_x : Nat) (cI : ClassId) (n : Nat) (fo : Nat) (wa : Nat) (we : Nat) (cf : Nat) (sf : Nat) (wf : Nat) (cg : Nat) (sg : Nat) (wg : Nat) (ch : Nat) (sh : Nat) (wh : Nat) (ph : Nat) (pl : Nat) (cII : ClassId) (pr : Nat → Nat) (a : Int32) (b : Int32) (d : Int32) (h : Int32) (se : Int32) (sd : Int32) (sz : Nat) : Ki l yX11_cut wsX11_cut 4 126 0 0 D [.ref x0, .int a, .int b, .int d, .int h, .int se, .int sd] [(x0, .inr (10, [.ref xt, .ref xs, .ref xq, .ref xr, .ref xp, .ref xl, .ref xc, .ref xj, .ref xe, .ref xo, .ref pa, .int 0, .int 0, .int (-1)])), (xl, .inr (4, [.ref xs, .int 0, .int 0, .int 0, .int 0, .ref la_t, .int 0, .int 0, .ref la_h, .ref la_u, .ref la_o, .ref la_x, .int 0, .int 0, .int 0, .int 0, .int 0, .int 0, .int 0, .int 0])), (la_t, .inl (cI, 4, .inl (fun _ => 0))), (la_h, .inl (cI, 16, .inl (fun _ => 0))), (la_u, .inl (cI, 16, .inl (fun _ => 0))), (la_o, .inl (cI, 16, .inl (fun _ => 0))), (la_x, .inl (cI, 16, .inl (fun _ => 0))), (xs, .inr (6, [.ref n, .ref fo, .ref wa, .ref we])), (n, .inl (cI, 36, .inl g_nums)), (fo, .inr (2, [.ref cf, .int 1, .ref sf, .ref wf, .int 0, .int 0, .int 0, .int 0, .int 0])), (cf, .inl (cI, 80, .inl (upd (fun _ => 0) 0 (-1)))), (sf, .inl (cI, 12, .inl (fun _ => 0))), (wa, .inr (2, [.ref cg, .int 1, .ref sg, .ref wg, .int 0, .int 0, .int 0, .int 0, .int 0])), (cg, .inl (cI, 80, .inl (upd (fun _ => 0) 0 0))), (sg, .inl (cI, 12, .inl (fun _ => 0))), (we, .inr (2, [.ref ch, .int 1, .ref sh, .ref wh, .int 0, .int 0, .int 0, .int 0, .int 0])), (ch, .inl (cI, 80, .inl (upd (fun _ => 0) 0 0))), (sh, .inl (cI, 12, .inl (fun _ => 0))), (xp, .inr (5, [.ref xs, .ref ph, .int 0, .int 0, .ref pl])), (ph, .inl (cI, 96, .inl (fun _ => 1000))), (pl, .inl (cII, 4, .inr (.inr (.inr (.inr (fun i => if i < 4 then some (pr i) else none)))))), ((pr 0), .inl (cI, 96, .inl (fun _ => (-1)))), ((pr 1), .inl (cI, 96, .inl (fun _ => 0))), ((pr 2), .inl (cI, 96, .inl (fun _ => 0))), ((pr 3), .inl (cI, 96, .inl (fun _ => 0))), (pa, .inl (cI, 7, .inl (fun _ => 0)))] [(cI, .int), (cII, .array .int)] sz (fun (r : Int32) (_ : Unit) => r = (if (0 ≤ a ∧ a < 3 ∧ 1 ≤ b ∧ b ≤ 9 ∧ 1 ≤ d ∧ d ≤ 20 ∧ 1 ≤ h ∧ h ≤ 12) ∧ (0 ≤ se ∧ se ≤ 300 ∧ 0 ≤ sd ∧ sd ≤ 300) then (sp_fresh b.toNatClampNeg d h.toNatClampNeg se sd) else (-2))) (fun (_ : Unit) => []) (fun (_ : Unit) => [(cI, .int), (cII, .array .int)]) := by
  unfold Ki
  refine g_ofW (cc := cX11_cut) (lv := [(0, .ref x0), (1, .int a), (2, .int b), (3, .int d), (4, .int h), (5, .int se), (6, .int sd)]) (by decide) rfl (Nat.le_of_ble_eq_true rfl) rfl ?_
  intro p e s m args below meth c A Q hA hQ F hr hnm
  have hts := F.2.2.2.2.1
  have w_0 : (Cond.fieldLink RX11 47 "QuietCut" "lathe" "LQuietCut$Lathe;").before args s = true := hts _ (List.mem_of_getElem? (i := 1) rfl)
  have i_X11 : ∀ w ∈ u_ws RX11 TX11 14, w ∈ wsX11_cut := fun _ h => List.mem_cons_of_mem _ (List.mem_append_left _ (List.mem_append_left _ (List.mem_append_left _ (List.mem_append_left _ (List.mem_append_right _ h)))))
  have w_1 : (Cond.fieldLink RX11 40 "QuietCut" "piece" "LQuietCut$Piece;").before args s = true := hts _ (List.mem_of_getElem? (i := 2) rfl)
  have w_2 : (Cond.fieldLink RX11 151 "QuietCut$Piece" "heights" "[I").before args s = true := hts _ (List.mem_of_getElem? (i := 3) rfl)
  have i_X6 : ∀ w ∈ u_ws RX6 TX6 5, w ∈ wsX11_cut := fun _ h => List.mem_cons_of_mem _ (List.mem_append_left _ (List.mem_append_left _ (List.mem_append_left _ (List.mem_append_right _ h))))
  have w_3 : (Cond.fieldLink RX11 161 "QuietCut$Piece" "wear" "I").before args s = true := hts _ (List.mem_of_getElem? (i := 4) rfl)
  have w_4 : (Cond.fieldLink RX11 178 "QuietCut$Piece" "passes" "I").before args s = true := hts _ (List.mem_of_getElem? (i := 5) rfl)
  refine g_aload_n F 0 dX11_cut_0 rfl rfl ?_
  refine g_get (C := RX11) (T := TX11) (N := 14) (v := .ref xl) F i_X11 0 rfl rfl 5 (by decide) w_0 rfl rfl dX11_cut_1 ?_
  refine g_iload_n F 1 dX11_cut_4 rfl rfl ?_
  refine g_iload_n F 2 dX11_cut_5 rfl rfl ?_
  refine g_iload_n F 3 dX11_cut_6 rfl rfl ?_
  refine g_iload F 4 dX11_cut_7 rfl ?_
  refine g_callVi (k := 0) (n := 0) (b := xl) (As := [.int a, .int b, .int d, .int h]) (st := []) (wc := [(xl, .inr (4, [.ref xs, .int 0, .int 0, .int 0, .int 0, .ref la_t, .int 0, .int 0, .ref la_h, .ref la_u, .ref la_o, .ref la_x, .int 0, .int 0, .int 0, .int 0, .int 0, .int 0, .int 0, .int 0])), (xs, .inr (6, [.ref n, .ref fo, .ref wa, .ref we])), (n, .inl (cI, 36, .inl g_nums))]) (wr := [(x0, .inr (10, [.ref xt, .ref xs, .ref xq, .ref xr, .ref xp, .ref xl, .ref xc, .ref xj, .ref xe, .ref xo, .ref pa, .int 0, .int 0, .int (-1)])), (la_t, .inl (cI, 4, .inl (fun _ => 0))), (la_h, .inl (cI, 16, .inl (fun _ => 0))), (la_u, .inl (cI, 16, .inl (fun _ => 0))), (la_o, .inl (cI, 16, .inl (fun _ => 0))), (la_x, .inl (cI, 16, .inl (fun _ => 0))), (fo, .inr (2, [.ref cf, .int 1, .ref sf, .ref wf, .int 0, .int 0, .int 0, .int 0, .int 0])), (cf, .inl (cI, 80, .inl (upd (fun _ => 0) 0 (-1)))), (sf, .inl (cI, 12, .inl (fun _ => 0))), (wa, .inr (2, [.ref cg, .int 1, .ref sg, .ref wg, .int 0, .int 0, .int 0, .int 0, .int 0])), (cg, .inl (cI, 80, .inl (upd (fun _ => 0) 0 0))), (sg, .inl (cI, 12, .inl (fun _ => 0))), (we, .inr (2, [.ref ch, .int 1, .ref sh, .ref wh, .int 0, .int 0, .int 0, .int 0, .int 0])), (ch, .inl (cI, 80, .inl (upd (fun _ => 0) 0 0))), (sh, .inl (cI, 12, .inl (fun _ => 0))), (xp, .inr (5, [.ref xs, .ref ph, .int 0, .int 0, .ref pl])), (ph, .inl (cI, 96, .inl (fun _ => 1000))), (pl, .inl (cII, 4, .inr (.inr (.inr (.inr (fun i => if i < 4 then some (pr i) else none)))))), ((pr 0), .inl (cI, 96, .inl (fun _ => (-1)))), ((pr 1), .inl (cI, 96, .inl (fun _ => 0))), ((pr 2), .inl (cI, 96, .inl (fun _ => 0))), ((pr 3), .inl (cI, 96, .inl (fun _ => 0))), (pa, .inl (cI, 7, .inl (fun _ => 0)))]) F [1, 7, 8] [0, 2, 3, 4, 5, 6, 9, 10, 11, 12, 13, 14, 15, 16, 17, 18, 19, 20, 21, 22, 23, 24, 25] [0] rfl rfl (by decide) rfl (by decide) (by decide) rfl (fun sz => K_X5_takes l D xl xs la_t la_h la_u la_o la_x n fo wa we cI 0 0 0 0 0 0 0 0 0 0 0 0 0 0 a b d h  sz) (cwV 4 hts gX11_cut_X5_takes rfl rfl rfl (by decide +kernel) ⟨Nat.le_of_ble_eq_true rfl, Nat.le_of_ble_eq_true rfl⟩) rfl 0 rfl rfl (Nat.le_of_ble_eq_true rfl) ⟨Nat.le_of_ble_eq_true rfl, Nat.le_of_ble_eq_true rfl⟩ dX11_cut_9 (fun r_1 _ hw_2 => ?_)
  have hw_2 : r_1 = (if 0 ≤ a ∧ a < 3 ∧ 1 ≤ b ∧ b ≤ 9 ∧ 1 ≤ d ∧ d ≤ 20 ∧ 1 ≤ h ∧ h ≤ 12 then 1 else 0) := hw_2
  have e_r_1 := hw_2
  show gG p l e (gR 4 0 0 126) s m args below meth c D A 8 Q 0 0 [(x0, .inr (10, [.ref xt, .ref xs, .ref xq, .ref xr, .ref xp, .ref xl, .ref xc, .ref xj, .ref xe, .ref xo, .ref pa, .int 0, .int 0, .int (-1)])), (la_t, .inl (cI, 4, .inl (fun _ => 0))), (la_h, .inl (cI, 16, .inl (fun _ => 0))), (la_u, .inl (cI, 16, .inl (fun _ => 0))), (la_o, .inl (cI, 16, .inl (fun _ => 0))), (la_x, .inl (cI, 16, .inl (fun _ => 0))), (fo, .inr (2, [.ref cf, .int 1, .ref sf, .ref wf, .int 0, .int 0, .int 0, .int 0, .int 0])), (cf, .inl (cI, 80, .inl (upd (fun _ => 0) 0 (-1)))), (sf, .inl (cI, 12, .inl (fun _ => 0))), (wa, .inr (2, [.ref cg, .int 1, .ref sg, .ref wg, .int 0, .int 0, .int 0, .int 0, .int 0])), (cg, .inl (cI, 80, .inl (upd (fun _ => 0) 0 0))), (sg, .inl (cI, 12, .inl (fun _ => 0))), (we, .inr (2, [.ref ch, .int 1, .ref sh, .ref wh, .int 0, .int 0, .int 0, .int 0, .int 0])), (ch, .inl (cI, 80, .inl (upd (fun _ => 0) 0 0))), (sh, .inl (cI, 12, .inl (fun _ => 0))), (xp, .inr (5, [.ref xs, .ref ph, .int 0, .int 0, .ref pl])), (ph, .inl (cI, 96, .inl (fun _ => 1000))), (pl, .inl (cII, 4, .inr (.inr (.inr (.inr (fun i => if i < 4 then some (pr i) else none)))))), ((pr 0), .inl (cI, 96, .inl (fun _ => (-1)))), ((pr 1), .inl (cI, 96, .inl (fun _ => 0))), ((pr 2), .inl (cI, 96, .inl (fun _ => 0))), ((pr 3), .inl (cI, 96, .inl (fun _ => 0))), (pa, .inl (cI, 7, .inl (fun _ => 0))), (xl, .inr (4, [.ref xs, .int a, .int b, .int d, .int h, .ref la_t, .int 0, .int 0, .ref la_h, .ref la_u, .ref la_o, .ref la_x, .int 0, .int 0, .int 0, .int 0, .int 0, .int 0, .int 0, .int 0])), (xs, .inr (6, [.ref n, .ref fo, .ref wa, .ref we])), (n, .inl (cI, 36, .inl g_nums))] [(cI, .int), (cII, .array .int)] [(0, .ref x0), (1, .int a), (2, .int b), (3, .int d), (4, .int h), (5, .int se), (6, .int sd)] 12 [.int r_1]
  refine g_fold (if 0 ≤ a ∧ a < 3 ∧ 1 ≤ b ∧ b ≤ 9 ∧ 1 ≤ d ∧ d ≤ 20 ∧ 1 ≤ h ∧ h ≤ 12 then 1 else 0) e_r_1 ?_
  refine g_if_eq F 25 dX11_cut_12 (by decide) (fun c_12 => ?_) (fun c_12 => ?_)
  · have c_12 := gb_0 c_12
    refine g_bipush F (-2) dX11_cut_25 (by decide) ?_
    exact g_iret F hA hQ hr () (by first | exact (gi_e (by (simp only [Int32.lt_iff_toInt_lt, Int32.le_iff_toInt_le, ← Int32.toInt_inj, Int32.reduceToInt] at c_12 ⊢; omega)) rfl)) [] [0, 1] rfl (by decide) rfl rfl dX11_cut_27
  · have c_12 := gb_n0 c_12
    refine g_iload F 5 dX11_cut_15 rfl ?_
    refine g_iload F 6 dX11_cut_17 rfl ?_
    refine g_callSi (k := 0) (n := 0) (As := [.int se, .int sd]) (st := []) (wc := []) (wr := [(x0, .inr (10, [.ref xt, .ref xs, .ref xq, .ref xr, .ref xp, .ref xl, .ref xc, .ref xj, .ref xe, .ref xo, .ref pa, .int 0, .int 0, .int (-1)])), (la_t, .inl (cI, 4, .inl (fun _ => 0))), (la_h, .inl (cI, 16, .inl (fun _ => 0))), (la_u, .inl (cI, 16, .inl (fun _ => 0))), (la_o, .inl (cI, 16, .inl (fun _ => 0))), (la_x, .inl (cI, 16, .inl (fun _ => 0))), (fo, .inr (2, [.ref cf, .int 1, .ref sf, .ref wf, .int 0, .int 0, .int 0, .int 0, .int 0])), (cf, .inl (cI, 80, .inl (upd (fun _ => 0) 0 (-1)))), (sf, .inl (cI, 12, .inl (fun _ => 0))), (wa, .inr (2, [.ref cg, .int 1, .ref sg, .ref wg, .int 0, .int 0, .int 0, .int 0, .int 0])), (cg, .inl (cI, 80, .inl (upd (fun _ => 0) 0 0))), (sg, .inl (cI, 12, .inl (fun _ => 0))), (we, .inr (2, [.ref ch, .int 1, .ref sh, .ref wh, .int 0, .int 0, .int 0, .int 0, .int 0])), (ch, .inl (cI, 80, .inl (upd (fun _ => 0) 0 0))), (sh, .inl (cI, 12, .inl (fun _ => 0))), (xp, .inr (5, [.ref xs, .ref ph, .int 0, .int 0, .ref pl])), (ph, .inl (cI, 96, .inl (fun _ => 1000))), (pl, .inl (cII, 4, .inr (.inr (.inr (.inr (fun i => if i < 4 then some (pr i) else none)))))), ((pr 0), .inl (cI, 96, .inl (fun _ => (-1)))), ((pr 1), .inl (cI, 96, .inl (fun _ => 0))), ((pr 2), .inl (cI, 96, .inl (fun _ => 0))), ((pr 3), .inl (cI, 96, .inl (fun _ => 0))), (pa, .inl (cI, 7, .inl (fun _ => 0))), (xl, .inr (4, [.ref xs, .int a, .int b, .int d, .int h, .ref la_t, .int 0, .int 0, .ref la_h, .ref la_u, .ref la_o, .ref la_x, .int 0, .int 0, .int 0, .int 0, .int 0, .int 0, .int 0, .int 0])), (xs, .inr (6, [.ref n, .ref fo, .ref wa, .ref we])), (n, .inl (cI, 36, .inl g_nums))]) F [] [0, 1, 2, 3, 4, 5, 6, 7, 8, 9, 10, 11, 12, 13, 14, 15, 16, 17, 18, 19, 20, 21, 22, 23, 24, 25] [] rfl rfl (by decide) rfl (by decide) (by decide) rfl (fun sz => K_X5_mayHold l D se sd  sz) (va_cwS 2 hts gX11_cut_X5_mayHold rfl rfl rfl (by decide +kernel) ⟨Nat.le_of_ble_eq_true rfl, Nat.le_of_ble_eq_true rfl⟩) rfl (Nat.le_of_ble_eq_true rfl) ⟨Nat.le_of_ble_eq_true rfl, Nat.le_of_ble_eq_true rfl⟩ dX11_cut_19 (fun r_6 _ hw_7 => ?_)
    have hw_7 : r_6 = (if 0 ≤ se ∧ se ≤ 300 ∧ 0 ≤ sd ∧ sd ≤ 300 then 1 else 0) := hw_7
    have e_r_6 := hw_7
    show gG p l e (gR 4 0 0 126) s m args below meth c D A 8 Q 0 0 [(x0, .inr (10, [.ref xt, .ref xs, .ref xq, .ref xr, .ref xp, .ref xl, .ref xc, .ref xj, .ref xe, .ref xo, .ref pa, .int 0, .int 0, .int (-1)])), (la_t, .inl (cI, 4, .inl (fun _ => 0))), (la_h, .inl (cI, 16, .inl (fun _ => 0))), (la_u, .inl (cI, 16, .inl (fun _ => 0))), (la_o, .inl (cI, 16, .inl (fun _ => 0))), (la_x, .inl (cI, 16, .inl (fun _ => 0))), (fo, .inr (2, [.ref cf, .int 1, .ref sf, .ref wf, .int 0, .int 0, .int 0, .int 0, .int 0])), (cf, .inl (cI, 80, .inl (upd (fun _ => 0) 0 (-1)))), (sf, .inl (cI, 12, .inl (fun _ => 0))), (wa, .inr (2, [.ref cg, .int 1, .ref sg, .ref wg, .int 0, .int 0, .int 0, .int 0, .int 0])), (cg, .inl (cI, 80, .inl (upd (fun _ => 0) 0 0))), (sg, .inl (cI, 12, .inl (fun _ => 0))), (we, .inr (2, [.ref ch, .int 1, .ref sh, .ref wh, .int 0, .int 0, .int 0, .int 0, .int 0])), (ch, .inl (cI, 80, .inl (upd (fun _ => 0) 0 0))), (sh, .inl (cI, 12, .inl (fun _ => 0))), (xp, .inr (5, [.ref xs, .ref ph, .int 0, .int 0, .ref pl])), (ph, .inl (cI, 96, .inl (fun _ => 1000))), (pl, .inl (cII, 4, .inr (.inr (.inr (.inr (fun i => if i < 4 then some (pr i) else none)))))), ((pr 0), .inl (cI, 96, .inl (fun _ => (-1)))), ((pr 1), .inl (cI, 96, .inl (fun _ => 0))), ((pr 2), .inl (cI, 96, .inl (fun _ => 0))), ((pr 3), .inl (cI, 96, .inl (fun _ => 0))), (pa, .inl (cI, 7, .inl (fun _ => 0))), (xl, .inr (4, [.ref xs, .int a, .int b, .int d, .int h, .ref la_t, .int 0, .int 0, .ref la_h, .ref la_u, .ref la_o, .ref la_x, .int 0, .int 0, .int 0, .int 0, .int 0, .int 0, .int 0, .int 0])), (xs, .inr (6, [.ref n, .ref fo, .ref wa, .ref we])), (n, .inl (cI, 36, .inl g_nums))] [(cI, .int), (cII, .array .int)] [(0, .ref x0), (1, .int a), (2, .int b), (3, .int d), (4, .int h), (5, .int se), (6, .int sd)] 22 [.int r_6]
    refine g_fold (if 0 ≤ se ∧ se ≤ 300 ∧ 0 ≤ sd ∧ sd ≤ 300 then 1 else 0) e_r_6 ?_
    refine g_if_ne F 28 dX11_cut_22 (by decide) (fun c_22 => ?_) (fun c_22 => ?_)
    · have c_22 := gb_n0 c_22
      refine g_aload_n F 0 dX11_cut_28 rfl rfl ?_
      refine g_get (C := RX11) (T := TX11) (N := 14) (v := .ref xl) F i_X11 0 rfl rfl 5 (by decide) w_0 rfl rfl dX11_cut_29 ?_
      refine g_aload_n F 0 dX11_cut_32 rfl rfl ?_
      refine g_get (C := RX11) (T := TX11) (N := 14) (v := .ref xp) F i_X11 0 rfl rfl 4 (by decide) w_1 rfl rfl dX11_cut_33 ?_
      refine g_get (C := RX6) (T := TX6) (N := 5) (v := .ref ph) F i_X6 15 rfl rfl 1 (by decide) w_2 rfl rfl dX11_cut_36 ?_
      refine g_aload_n F 0 dX11_cut_39 rfl rfl ?_
      refine g_get (C := RX11) (T := TX11) (N := 14) (v := .ref xp) F i_X11 0 rfl rfl 4 (by decide) w_1 rfl rfl dX11_cut_40 ?_
      refine g_get (C := RX6) (T := TX6) (N := 5) (v := .int 0) F i_X6 15 rfl rfl 2 (by decide) w_3 rfl rfl dX11_cut_43 ?_
      refine g_iload F 5 dX11_cut_46 rfl ?_
      refine g_iload F 6 dX11_cut_48 rfl ?_
      refine g_callVi (k := 0) (n := 0) (b := xl) (As := [.ref ph, .int 0, .int se, .int sd]) (st := []) (wc := [(xl, .inr (4, [.ref xs, .int a, .int b, .int d, .int h, .ref la_t, .int 0, .int 0, .ref la_h, .ref la_u, .ref la_o, .ref la_x, .int 0, .int 0, .int 0, .int 0, .int 0, .int 0, .int 0, .int 0])), (la_t, .inl (cI, 4, .inl (fun _ => 0))), (la_h, .inl (cI, 16, .inl (fun _ => 0))), (la_u, .inl (cI, 16, .inl (fun _ => 0))), (la_o, .inl (cI, 16, .inl (fun _ => 0))), (la_x, .inl (cI, 16, .inl (fun _ => 0))), (xs, .inr (6, [.ref n, .ref fo, .ref wa, .ref we])), (n, .inl (cI, 36, .inl g_nums)), (fo, .inr (2, [.ref cf, .int 1, .ref sf, .ref wf, .int 0, .int 0, .int 0, .int 0, .int 0])), (cf, .inl (cI, 80, .inl (upd (fun _ => 0) 0 (-1)))), (sf, .inl (cI, 12, .inl (fun _ => 0))), (wa, .inr (2, [.ref cg, .int 1, .ref sg, .ref wg, .int 0, .int 0, .int 0, .int 0, .int 0])), (cg, .inl (cI, 80, .inl (upd (fun _ => 0) 0 0))), (sg, .inl (cI, 12, .inl (fun _ => 0))), (we, .inr (2, [.ref ch, .int 1, .ref sh, .ref wh, .int 0, .int 0, .int 0, .int 0, .int 0])), (ch, .inl (cI, 80, .inl (upd (fun _ => 0) 0 0))), (sh, .inl (cI, 12, .inl (fun _ => 0))), (ph, .inl (cI, 96, .inl (fun _ => 1000)))]) (wr := [(x0, .inr (10, [.ref xt, .ref xs, .ref xq, .ref xr, .ref xp, .ref xl, .ref xc, .ref xj, .ref xe, .ref xo, .ref pa, .int 0, .int 0, .int (-1)])), (xp, .inr (5, [.ref xs, .ref ph, .int 0, .int 0, .ref pl])), (pl, .inl (cII, 4, .inr (.inr (.inr (.inr (fun i => if i < 4 then some (pr i) else none)))))), ((pr 0), .inl (cI, 96, .inl (fun _ => (-1)))), ((pr 1), .inl (cI, 96, .inl (fun _ => 0))), ((pr 2), .inl (cI, 96, .inl (fun _ => 0))), ((pr 3), .inl (cI, 96, .inl (fun _ => 0))), (pa, .inl (cI, 7, .inl (fun _ => 0)))]) F [23, 1, 2, 3, 4, 5, 24, 25, 6, 7, 8, 9, 10, 11, 12, 13, 14, 16] [0, 15, 17, 18, 19, 20, 21, 22] [0] rfl rfl (by decide) rfl (by decide) (by decide) rfl (fun sz => K_X5_run0 l D xl xs la_t la_h la_u la_o la_x n fo wa we cf sf wf ch sh wh cg sg wg ph cI a b d h 0 0 0 0 0 0 0 0 0 (fun _ => 0) (fun _ => 0) (fun _ => 0) (fun _ => 0) (fun _ => 0) (fun _ => 0) (fun _ => 0) (fun _ => 0) (fun _ => 1000) se sd a.toNatClampNeg b.toNatClampNeg h.toNatClampNeg ((tk_all c_12).1) ((tk_all c_12).2.1) ((tk_all c_12).2.2.1) ((tk_all c_12).2.2.2.1) ((tk_all c_12).2.2.2.2.1) ((tk_all c_12).2.2.2.2.2.1) ((tk_all c_12).2.2.2.2.2.2.1) ((tk_all c_12).2.2.2.2.2.2.2) (fun _ _ => ⟨by decide, by decide⟩) ((mh_all c_22).1) ((mh_all c_22).2.1) ((mh_all c_22).2.2.1) ((mh_all c_22).2.2.2) sz) (cwV 4 hts gX11_cut_X5_run rfl rfl rfl (by decide +kernel) ⟨Nat.le_of_ble_eq_true rfl, Nat.le_of_ble_eq_true rfl⟩) rfl 0 rfl rfl (Nat.le_of_ble_eq_true rfl) ⟨Nat.le_of_ble_eq_true rfl, Nat.le_of_ble_eq_true rfl⟩ dX11_cut_50 (fun r_11 u_10 hw_12 => ?_)
      obtain ⟨z_teethMany_13, z_wear_13, z_x_13, z_v_13, z_wave_13, z_time_13, z_out_13, z_farthest_13, z_begun_13, gt_13, gh_13, gu_13, gq_13, gx_13, g1_13, g2_13, g3_13⟩ := u_10
      have hw_12 : (r_11 = (if ((sp_most (fun s => (fun _ => 1000) (16 * a.toNatClampNeg + s)) 7) - (d * h)) < 1 then (-4) else (sp_ver (sp_pass (sp_most (fun s => (fun _ => 1000) (16 * a.toNatClampNeg + s)) 7) d b.toNatClampNeg se sd (fun _ => 0) 1 (fun s => (fun _ => 1000) (16 * a.toNatClampNeg + s)) (8 * h.toNatClampNeg))))) ∧ (¬ (((sp_most (fun s => (fun _ => 1000) (16 * a.toNatClampNeg + s)) 7) - (d * h)) < 1) → ∀ j, j < 8 → gh_13 j = ((sp_pass (sp_most (fun s => (fun _ => 1000) (16 * a.toNatClampNeg + s)) 7) d b.toNatClampNeg se sd (fun _ => 0) 1 (fun s => (fun _ => 1000) (16 * a.toNatClampNeg + s)) (8 * h.toNatClampNeg))).1 j) ∧ (¬ (((sp_most (fun s => (fun _ => 1000) (16 * a.toNatClampNeg + s)) 7) - (d * h)) < 1) → z_wear_13 = 0) := hw_12
      obtain ⟨e_r_11, hp0_14, hp1_14⟩ := hw_12
      show gG p l e (gR 4 0 0 126) s m args below meth c D A 8 Q 0 0 [(x0, .inr (10, [.ref xt, .ref xs, .ref xq, .ref xr, .ref xp, .ref xl, .ref xc, .ref xj, .ref xe, .ref xo, .ref pa, .int 0, .int 0, .int (-1)])), (xp, .inr (5, [.ref xs, .ref ph, .int 0, .int 0, .ref pl])), (pl, .inl (cII, 4, .inr (.inr (.inr (.inr (fun i => if i < 4 then some (pr i) else none)))))), ((pr 0), .inl (cI, 96, .inl (fun _ => (-1)))), ((pr 1), .inl (cI, 96, .inl (fun _ => 0))), ((pr 2), .inl (cI, 96, .inl (fun _ => 0))), ((pr 3), .inl (cI, 96, .inl (fun _ => 0))), (pa, .inl (cI, 7, .inl (fun _ => 0))), (xl, .inr (4, [.ref xs, .int a, .int b, .int d, .int h, .ref la_t, .int 0, .int z_teethMany_13, .ref la_h, .ref la_u, .ref la_o, .ref la_x, .int z_wear_13, .int z_x_13, .int z_v_13, .int z_wave_13, .int z_time_13, .int z_out_13, .int z_farthest_13, .int z_begun_13])), (la_t, .inl (cI, 4, .inl gt_13)), (la_h, .inl (cI, 16, .inl gh_13)), (la_u, .inl (cI, 16, .inl gu_13)), (la_o, .inl (cI, 16, .inl gq_13)), (la_x, .inl (cI, 16, .inl gx_13)), (xs, .inr (6, [.ref n, .ref fo, .ref wa, .ref we])), (n, .inl (cI, 36, .inl g_nums)), (fo, .inr (2, [.ref cf, .int 1, .ref sf, .ref wf, .int 0, .int 0, .int 0, .int 0, .int 0])), (cf, .inl (cI, 80, .inl (upd (fun _ => 0) 0 (-1)))), (sf, .inl (cI, 12, .inl g1_13)), (wa, .inr (2, [.ref cg, .int 1, .ref sg, .ref wg, .int 0, .int 0, .int 0, .int 0, .int 0])), (cg, .inl (cI, 80, .inl (upd (fun _ => 0) 0 0))), (sg, .inl (cI, 12, .inl g2_13)), (we, .inr (2, [.ref ch, .int 1, .ref sh, .ref wh, .int 0, .int 0, .int 0, .int 0, .int 0])), (ch, .inl (cI, 80, .inl (upd (fun _ => 0) 0 0))), (sh, .inl (cI, 12, .inl g3_13)), (ph, .inl (cI, 96, .inl (fun _ => 1000)))] [(cI, .int), (cII, .array .int)] [(0, .ref x0), (1, .int a), (2, .int b), (3, .int d), (4, .int h), (5, .int se), (6, .int sd)] 53 [.int r_11]
      refine g_fold (if ((sp_most (fun s => (fun _ => 1000) (16 * a.toNatClampNeg + s)) 7) - (d * h)) < 1 then (-4) else (sp_ver (sp_pass (sp_most (fun s => (fun _ => 1000) (16 * a.toNatClampNeg + s)) 7) d b.toNatClampNeg se sd (fun _ => 0) 1 (fun s => (fun _ => 1000) (16 * a.toNatClampNeg + s)) (8 * h.toNatClampNeg)))) e_r_11 ?_
      refine g_fold (sp_fresh b.toNatClampNeg d h.toNatClampNeg se sd) (run_fresh (rr := 0) (tk_all c_12).2.2.2.2.1 (tk_all c_12).2.2.2.2.2.1 (tk_all c_12).2.2.2.2.2.2.1 (tk_all c_12).2.2.2.2.2.2.2) ?_
      refine g_istore F [(7, .int (sp_fresh b.toNatClampNeg d h.toNatClampNeg se sd)), (0, .ref x0), (1, .int a), (2, .int b), (3, .int d), (4, .int h), (5, .int se), (6, .int sd)] dX11_cut_53 (by decide) rfl ?_
      refine g_iload F 0 dX11_cut_55 rfl ?_
      refine g_if_ge F 63 dX11_cut_57 (by decide) (fun c_57 => ?_) (fun h9 => absurd (sp_fresh_nn _ _ _ _ _) h9) 
      refine g_aload_n F 1 dX11_cut_63 rfl rfl ?_
      refine g_get (C := RX11) (T := TX11) (N := 14) (v := .ref xp) F i_X11 0 rfl rfl 4 (by decide) w_1 rfl rfl dX11_cut_64 ?_
      refine g_get (C := RX6) (T := TX6) (N := 5) (v := .int 0) F i_X6 1 rfl rfl 3 (by decide) w_4 rfl rfl dX11_cut_67 ?_
      refine g_sipush F 200 dX11_cut_70 (by decide) ?_
      refine g_icmp_lt F 79 dX11_cut_73 (by decide) (fun c_73 => ?_) (fun h9 => absurd (by decide) h9) 
      refine g_aload_n F 1 dX11_cut_79 rfl rfl ?_
      refine g_get (C := RX11) (T := TX11) (N := 14) (v := .ref xp) F i_X11 0 rfl rfl 4 (by decide) w_1 rfl rfl dX11_cut_80 ?_
      refine g_aload_n F 1 dX11_cut_83 rfl rfl ?_
      refine g_get (C := RX11) (T := TX11) (N := 14) (v := .ref xl) F i_X11 0 rfl rfl 5 (by decide) w_0 rfl rfl dX11_cut_84 ?_
      refine g_callVv (k := 0) (n := 0) (b := xp) (As := [.ref xl]) (st := []) (wc := [(xp, .inr (5, [.ref xs, .ref ph, .int 0, .int 0, .ref pl])), (pl, .inl (cII, 4, .inr (.inr (.inr (.inr (fun i => if i < 4 then some (pr i) else none)))))), (ph, .inl (cI, 96, .inl (fun _ => 1000))), ((pr 0), .inl (cI, 96, .inl (fun _ => (-1)))), ((pr 1), .inl (cI, 96, .inl (fun _ => 0))), ((pr 2), .inl (cI, 96, .inl (fun _ => 0))), ((pr 3), .inl (cI, 96, .inl (fun _ => 0))), (xl, .inr (4, [.ref xs, .int a, .int b, .int d, .int h, .ref la_t, .int 0, .int z_teethMany_13, .ref la_h, .ref la_u, .ref la_o, .ref la_x, .int z_wear_13, .int z_x_13, .int z_v_13, .int z_wave_13, .int z_time_13, .int z_out_13, .int z_farthest_13, .int z_begun_13])), (xs, .inr (6, [.ref n, .ref fo, .ref wa, .ref we])), (n, .inl (cI, 36, .inl g_nums)), (la_h, .inl (cI, 16, .inl gh_13)), (la_u, .inl (cI, 16, .inl gu_13)), (la_o, .inl (cI, 16, .inl gq_13)), (la_x, .inl (cI, 16, .inl gx_13))]) (wr := [(x0, .inr (10, [.ref xt, .ref xs, .ref xq, .ref xr, .ref xp, .ref xl, .ref xc, .ref xj, .ref xe, .ref xo, .ref pa, .int 0, .int 0, .int (-1)])), (pa, .inl (cI, 7, .inl (fun _ => 0))), (la_t, .inl (cI, 4, .inl gt_13)), (fo, .inr (2, [.ref cf, .int 1, .ref sf, .ref wf, .int 0, .int 0, .int 0, .int 0, .int 0])), (cf, .inl (cI, 80, .inl (upd (fun _ => 0) 0 (-1)))), (sf, .inl (cI, 12, .inl g1_13)), (wa, .inr (2, [.ref cg, .int 1, .ref sg, .ref wg, .int 0, .int 0, .int 0, .int 0, .int 0])), (cg, .inl (cI, 80, .inl (upd (fun _ => 0) 0 0))), (sg, .inl (cI, 12, .inl g2_13)), (we, .inr (2, [.ref ch, .int 1, .ref sh, .ref wh, .int 0, .int 0, .int 0, .int 0, .int 0])), (ch, .inl (cI, 80, .inl (upd (fun _ => 0) 0 0))), (sh, .inl (cI, 12, .inl g3_13))]) F [1, 2, 25, 3, 4, 5, 6, 8, 14, 15, 10, 11, 12, 13] [0, 7, 9, 16, 17, 18, 19, 20, 21, 22, 23, 24] [0, 1] rfl rfl (by decide) rfl (by decide) (by decide) rfl (fun sz => K_X6_takePass l D xp xs ph pl xl n fo wa we la_t la_h la_u la_o la_x cI cII pr a b d h 0 z_teethMany_13 z_wear_13 z_x_13 z_v_13 z_wave_13 z_time_13 z_out_13 z_farthest_13 z_begun_13 gh_13 gu_13 gq_13 gx_13 (fun _ => 1000) (fun _ => (-1)) (fun _ => 0) (fun _ => 0) (fun _ => 0) a.toNatClampNeg ((tk_all c_12).1) ((tk_all c_12).2.1) sz) (cwV 1 hts gX11_cut_X6_takePass rfl rfl rfl (by decide +kernel) ⟨Nat.le_of_ble_eq_true rfl, Nat.le_of_ble_eq_true rfl⟩) rfl 0 rfl rfl (Nat.le_of_ble_eq_true rfl) ⟨Nat.le_of_ble_eq_true rfl, Nat.le_of_ble_eq_true rfl⟩ dX11_cut_87 (fun u_15 hw_17 => ?_)
      obtain ⟨zw_18, zp_18, gi_18, q0_18, q1_18, q2_18, q3_18⟩ := u_15
      show gG p l e (gR 4 0 0 126) s m args below meth c D A 8 Q 0 0 [(x0, .inr (10, [.ref xt, .ref xs, .ref xq, .ref xr, .ref xp, .ref xl, .ref xc, .ref xj, .ref xe, .ref xo, .ref pa, .int 0, .int 0, .int (-1)])), (pa, .inl (cI, 7, .inl (fun _ => 0))), (la_t, .inl (cI, 4, .inl gt_13)), (fo, .inr (2, [.ref cf, .int 1, .ref sf, .ref wf, .int 0, .int 0, .int 0, .int 0, .int 0])), (cf, .inl (cI, 80, .inl (upd (fun _ => 0) 0 (-1)))), (sf, .inl (cI, 12, .inl g1_13)), (wa, .inr (2, [.ref cg, .int 1, .ref sg, .ref wg, .int 0, .int 0, .int 0, .int 0, .int 0])), (cg, .inl (cI, 80, .inl (upd (fun _ => 0) 0 0))), (sg, .inl (cI, 12, .inl g2_13)), (we, .inr (2, [.ref ch, .int 1, .ref sh, .ref wh, .int 0, .int 0, .int 0, .int 0, .int 0])), (ch, .inl (cI, 80, .inl (upd (fun _ => 0) 0 0))), (sh, .inl (cI, 12, .inl g3_13)), (xp, .inr (5, [.ref xs, .ref ph, .int zw_18, .int zp_18, .ref pl])), (pl, .inl (cII, 4, .inr (.inr (.inr (.inr (fun i => if i < 4 then some (pr i) else none)))))), (ph, .inl (cI, 96, .inl gi_18)), ((pr 0), .inl (cI, 96, .inl q0_18)), ((pr 1), .inl (cI, 96, .inl q1_18)), ((pr 2), .inl (cI, 96, .inl q2_18)), ((pr 3), .inl (cI, 96, .inl q3_18)), (xl, .inr (4, [.ref xs, .int a, .int b, .int d, .int h, .ref la_t, .int 0, .int z_teethMany_13, .ref la_h, .ref la_u, .ref la_o, .ref la_x, .int z_wear_13, .int z_x_13, .int z_v_13, .int z_wave_13, .int z_time_13, .int z_out_13, .int z_farthest_13, .int z_begun_13])), (xs, .inr (6, [.ref n, .ref fo, .ref wa, .ref we])), (n, .inl (cI, 36, .inl g_nums)), (la_h, .inl (cI, 16, .inl gh_13)), (la_u, .inl (cI, 16, .inl gu_13)), (la_o, .inl (cI, 16, .inl gq_13)), (la_x, .inl (cI, 16, .inl gx_13))] [(cI, .int), (cII, .array .int)] [(7, .int (sp_fresh b.toNatClampNeg d h.toNatClampNeg se sd)), (0, .ref x0), (1, .int a), (2, .int b), (3, .int d), (4, .int h), (5, .int se), (6, .int sd)] 90 []
      refine g_aload_n F 1 dX11_cut_90 rfl rfl ?_
      refine g_callVv (k := 0) (n := 0) (b := x0) (As := []) (st := []) (wc := [(x0, .inr (10, [.ref xt, .ref xs, .ref xq, .ref xr, .ref xp, .ref xl, .ref xc, .ref xj, .ref xe, .ref xo, .ref pa, .int 0, .int 0, .int (-1)])), (xl, .inr (4, [.ref xs, .int a, .int b, .int d, .int h, .ref la_t, .int 0, .int z_teethMany_13, .ref la_h, .ref la_u, .ref la_o, .ref la_x, .int z_wear_13, .int z_x_13, .int z_v_13, .int z_wave_13, .int z_time_13, .int z_out_13, .int z_farthest_13, .int z_begun_13])), (pa, .inl (cI, 7, .inl (fun _ => 0)))]) (wr := [(la_t, .inl (cI, 4, .inl gt_13)), (fo, .inr (2, [.ref cf, .int 1, .ref sf, .ref wf, .int 0, .int 0, .int 0, .int 0, .int 0])), (cf, .inl (cI, 80, .inl (upd (fun _ => 0) 0 (-1)))), (sf, .inl (cI, 12, .inl g1_13)), (wa, .inr (2, [.ref cg, .int 1, .ref sg, .ref wg, .int 0, .int 0, .int 0, .int 0, .int 0])), (cg, .inl (cI, 80, .inl (upd (fun _ => 0) 0 0))), (sg, .inl (cI, 12, .inl g2_13)), (we, .inr (2, [.ref ch, .int 1, .ref sh, .ref wh, .int 0, .int 0, .int 0, .int 0, .int 0])), (ch, .inl (cI, 80, .inl (upd (fun _ => 0) 0 0))), (sh, .inl (cI, 12, .inl g3_13)), (xp, .inr (5, [.ref xs, .ref ph, .int zw_18, .int zp_18, .ref pl])), (pl, .inl (cII, 4, .inr (.inr (.inr (.inr (fun i => if i < 4 then some (pr i) else none)))))), (ph, .inl (cI, 96, .inl gi_18)), ((pr 0), .inl (cI, 96, .inl q0_18)), ((pr 1), .inl (cI, 96, .inl q1_18)), ((pr 2), .inl (cI, 96, .inl q2_18)), ((pr 3), .inl (cI, 96, .inl q3_18)), (xs, .inr (6, [.ref n, .ref fo, .ref wa, .ref we])), (n, .inl (cI, 36, .inl g_nums)), (la_h, .inl (cI, 16, .inl gh_13)), (la_u, .inl (cI, 16, .inl gu_13)), (la_o, .inl (cI, 16, .inl gq_13)), (la_x, .inl (cI, 16, .inl gx_13))]) F [0, 19, 1] [2, 3, 4, 5, 6, 7, 8, 9, 10, 11, 12, 13, 14, 15, 16, 17, 18, 20, 21, 22, 23, 24, 25] [0] rfl rfl (by decide) rfl (by decide) (by decide) rfl (fun sz => K_X11_notePassed l D x0 xt xs xq xr xp xl xc xj xe xo pa la_t la_h la_u la_o la_x cI a b d h 0 z_teethMany_13 z_wear_13 z_x_13 z_v_13 z_wave_13 z_time_13 z_out_13 z_farthest_13 z_begun_13 (fun _ => 0)  sz) (cwV 0 hts gX11_cut_X11_notePassed rfl rfl rfl (by decide +kernel) ⟨Nat.le_of_ble_eq_true rfl, Nat.le_of_ble_eq_true rfl⟩) rfl 0 rfl rfl (Nat.le_of_ble_eq_true rfl) ⟨Nat.le_of_ble_eq_true rfl, Nat.le_of_ble_eq_true rfl⟩ dX11_cut_91 (fun u_20 hw_22 => ?_)
      obtain ⟨gp_23, rfl⟩ : ∃ z, z = u_20 := ⟨_, rfl⟩
      show gG p l e (gR 4 0 0 126) s m args below meth c D A 8 Q 0 0 [(la_t, .inl (cI, 4, .inl gt_13)), (fo, .inr (2, [.ref cf, .int 1, .ref sf, .ref wf, .int 0, .int 0, .int 0, .int 0, .int 0])), (cf, .inl (cI, 80, .inl (upd (fun _ => 0) 0 (-1)))), (sf, .inl (cI, 12, .inl g1_13)), (wa, .inr (2, [.ref cg, .int 1, .ref sg, .ref wg, .int 0, .int 0, .int 0, .int 0, .int 0])), (cg, .inl (cI, 80, .inl (upd (fun _ => 0) 0 0))), (sg, .inl (cI, 12, .inl g2_13)), (we, .inr (2, [.ref ch, .int 1, .ref sh, .ref wh, .int 0, .int 0, .int 0, .int 0, .int 0])), (ch, .inl (cI, 80, .inl (upd (fun _ => 0) 0 0))), (sh, .inl (cI, 12, .inl g3_13)), (xp, .inr (5, [.ref xs, .ref ph, .int zw_18, .int zp_18, .ref pl])), (pl, .inl (cII, 4, .inr (.inr (.inr (.inr (fun i => if i < 4 then some (pr i) else none)))))), (ph, .inl (cI, 96, .inl gi_18)), ((pr 0), .inl (cI, 96, .inl q0_18)), ((pr 1), .inl (cI, 96, .inl q1_18)), ((pr 2), .inl (cI, 96, .inl q2_18)), ((pr 3), .inl (cI, 96, .inl q3_18)), (xs, .inr (6, [.ref n, .ref fo, .ref wa, .ref we])), (n, .inl (cI, 36, .inl g_nums)), (la_h, .inl (cI, 16, .inl gh_13)), (la_u, .inl (cI, 16, .inl gu_13)), (la_o, .inl (cI, 16, .inl gq_13)), (la_x, .inl (cI, 16, .inl gx_13)), (x0, .inr (10, [.ref xt, .ref xs, .ref xq, .ref xr, .ref xp, .ref xl, .ref xc, .ref xj, .ref xe, .ref xo, .ref pa, .int 1, .int 0, .int (-1)])), (xl, .inr (4, [.ref xs, .int a, .int b, .int d, .int h, .ref la_t, .int 0, .int z_teethMany_13, .ref la_h, .ref la_u, .ref la_o, .ref la_x, .int z_wear_13, .int z_x_13, .int z_v_13, .int z_wave_13, .int z_time_13, .int z_out_13, .int z_farthest_13, .int z_begun_13])), (pa, .inl (cI, 7, .inl gp_23))] [(cI, .int), (cII, .array .int)] [(7, .int (sp_fresh b.toNatClampNeg d h.toNatClampNeg se sd)), (0, .ref x0), (1, .int a), (2, .int b), (3, .int d), (4, .int h), (5, .int se), (6, .int sd)] 94 []
      refine g_iload F 0 dX11_cut_94 rfl ?_
      exact g_iret F hA hQ hr () (gi_p ⟨c_12, c_22⟩ rfl) [] [0, 1] rfl (by decide) rfl rfl dX11_cut_96
    · have c_22 := gb_0 c_22
      refine g_bipush F (-2) dX11_cut_25 (by decide) ?_
      exact g_iret F hA hQ hr () (by first | exact (gi_e (by (simp only [Int32.lt_iff_toInt_lt, Int32.le_iff_toInt_le, ← Int32.toInt_inj, Int32.reduceToInt] at c_12 c_22 ⊢; omega)) rfl)) [] [0, 1] rfl (by decide) rfl rfl dX11_cut_27
