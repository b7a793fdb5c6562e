theorem sp_bt_pos {s : Int32 × Int32} (hs : sp_bok s) : ¬ (if s.1 = -1 then (1 : Int32) else 32 * s.1) ≤ 0 := by
  rcases hs with ⟨e1, e2⟩ | ⟨b, f, b1, b9, f20, e1, e2⟩
  · rw [if_pos e1]; decide
  · rw [if_neg (by rw [e1]; exact nI_n1 (by omega)), e1, show (32 : Int32) = nI 32 from rfl, pk_mul]
    exact nI_nle (by omega) (by omega)

theorem dX0_bestSpeed_0 : decode cX0_bestSpeed 0 = .ok (.iconst (-1), 1) := by decide +kernel
theorem dX0_bestSpeed_1 : decode cX0_bestSpeed 1 = .ok (.istore_n 2, 1) := by decide +kernel
theorem dX0_bestSpeed_2 : decode cX0_bestSpeed 2 = .ok (.iconst 0, 1) := by decide +kernel
theorem dX0_bestSpeed_3 : decode cX0_bestSpeed 3 = .ok (.istore_n 3, 1) := by decide +kernel
theorem dX0_bestSpeed_4 : decode cX0_bestSpeed 4 = .ok (.iconst 1, 1) := by decide +kernel
theorem dX0_bestSpeed_5 : decode cX0_bestSpeed 5 = .ok (.istore 4, 2) := by decide +kernel
theorem dX0_bestSpeed_7 : decode cX0_bestSpeed 7 = .ok (.iconst 1, 1) := by decide +kernel
theorem dX0_bestSpeed_8 : decode cX0_bestSpeed 8 = .ok (.istore 5, 2) := by decide +kernel
theorem dX0_bestSpeed_10 : decode cX0_bestSpeed 10 = .ok (.iload 5, 2) := by decide +kernel
theorem dX0_bestSpeed_12 : decode cX0_bestSpeed 12 = .ok (.bipush 9, 2) := by decide +kernel
theorem dX0_bestSpeed_14 : decode cX0_bestSpeed 14 = .ok (.if_icmp .gt 65, 3) := by decide +kernel
theorem dX0_bestSpeed_17 : decode cX0_bestSpeed 17 = .ok (.aload_n 0, 1) := by decide +kernel
theorem dX0_bestSpeed_18 : decode cX0_bestSpeed 18 = .ok (.getfield 24, 3) := by decide +kernel
theorem dX0_bestSpeed_21 : decode cX0_bestSpeed 21 = .ok (.iload 5, 2) := by decide +kernel
theorem dX0_bestSpeed_23 : decode cX0_bestSpeed 23 = .ok (.invokevirtual 64, 3) := by decide +kernel
theorem dX0_bestSpeed_26 : decode cX0_bestSpeed 26 = .ok (.istore 6, 2) := by decide +kernel
theorem dX0_bestSpeed_28 : decode cX0_bestSpeed 28 = .ok (.iload 4, 2) := by decide +kernel
theorem dX0_bestSpeed_30 : decode cX0_bestSpeed 30 = .ok (.ifCond .le 13, 3) := by decide +kernel
theorem dX0_bestSpeed_33 : decode cX0_bestSpeed 33 = .ok (.iload_n 3, 1) := by decide +kernel
theorem dX0_bestSpeed_34 : decode cX0_bestSpeed 34 = .ok (.iload 6, 2) := by decide +kernel
theorem dX0_bestSpeed_36 : decode cX0_bestSpeed 36 = .ok (.imul, 1) := by decide +kernel
theorem dX0_bestSpeed_37 : decode cX0_bestSpeed 37 = .ok (.iload 4, 2) := by decide +kernel
theorem dX0_bestSpeed_39 : decode cX0_bestSpeed 39 = .ok (.idiv, 1) := by decide +kernel
theorem dX0_bestSpeed_40 : decode cX0_bestSpeed 40 = .ok (.goto 4, 3) := by decide +kernel
theorem dX0_bestSpeed_43 : decode cX0_bestSpeed 43 = .ok (.iconst 0, 1) := by decide +kernel
theorem dX0_bestSpeed_44 : decode cX0_bestSpeed 44 = .ok (.istore 7, 2) := by decide +kernel
theorem dX0_bestSpeed_46 : decode cX0_bestSpeed 46 = .ok (.aload_n 0, 1) := by decide +kernel
theorem dX0_bestSpeed_47 : decode cX0_bestSpeed 47 = .ok (.iload_n 1, 1) := by decide +kernel
theorem dX0_bestSpeed_48 : decode cX0_bestSpeed 48 = .ok (.iload 5, 2) := by decide +kernel
theorem dX0_bestSpeed_50 : decode cX0_bestSpeed 50 = .ok (.iload 7, 2) := by decide +kernel
theorem dX0_bestSpeed_52 : decode cX0_bestSpeed 52 = .ok (.invokevirtual 68, 3) := by decide +kernel
theorem dX0_bestSpeed_55 : decode cX0_bestSpeed 55 = .ok (.istore 8, 2) := by decide +kernel
theorem dX0_bestSpeed_57 : decode cX0_bestSpeed 57 = .ok (.iload 8, 2) := by decide +kernel
theorem dX0_bestSpeed_59 : decode cX0_bestSpeed 59 = .ok (.iconst (-1), 1) := by decide +kernel
theorem dX0_bestSpeed_60 : decode cX0_bestSpeed 60 = .ok (.if_icmp .eq 13, 3) := by decide +kernel
theorem dX0_bestSpeed_63 : decode cX0_bestSpeed 63 = .ok (.iload 5, 2) := by decide +kernel
theorem dX0_bestSpeed_65 : decode cX0_bestSpeed 65 = .ok (.istore_n 2, 1) := by decide +kernel
theorem dX0_bestSpeed_66 : decode cX0_bestSpeed 66 = .ok (.iload 8, 2) := by decide +kernel
theorem dX0_bestSpeed_68 : decode cX0_bestSpeed 68 = .ok (.istore_n 3, 1) := by decide +kernel
theorem dX0_bestSpeed_69 : decode cX0_bestSpeed 69 = .ok (.iload 6, 2) := by decide +kernel
theorem dX0_bestSpeed_71 : decode cX0_bestSpeed 71 = .ok (.istore 4, 2) := by decide +kernel
theorem dX0_bestSpeed_73 : decode cX0_bestSpeed 73 = .ok (.iinc 5 1, 3) := by decide +kernel
theorem dX0_bestSpeed_76 : decode cX0_bestSpeed 76 = .ok (.goto (-66), 3) := by decide +kernel
theorem dX0_bestSpeed_79 : decode cX0_bestSpeed 79 = .ok (.iload_n 2, 1) := by decide +kernel
theorem dX0_bestSpeed_80 : decode cX0_bestSpeed 80 = .ok (.ireturn, 1) := by decide +kernel
set_option maxRecDepth 20000 in
theorem ggX0_bestSpeed_X0_deepestFeed : GoodIn wsX0_bestSpeed wsX0_deepestFeed := goodIn_r _ [20, 21, 22, 23, 19, 24, 25, 1, 26, 27, 28, 29, 30, 31, 32, 33, 34, 35, 36, 37, 38, 39, 40, 41, 42, 5, 43, 7, 44, 45, 46, 47, 48, 49, 50, 51, 52, 53, 54, 55, 56, 57, 58, 59, 60, 61, 62, 63, 64, 65, 66, 67, 68, 69, 70, 71, 72, 73, 74, 75, 76, 77, 78, 79, 80, 81, 82, 83, 84, 85, 86, 87, 88, 89, 90, 91, 92, 93, 94, 95, 96, 97, 98, 99, 100, 101, 102, 103, 104, 105, 106, 107, 108, 109, 110, 111, 112, 113, 114, 115, 116, 117, 118, 119, 120, 121, 122, 123, 124, 125, 126, 127, 128, 9, 10, 11, 129, 130, 131, 132, 133, 13, 14, 15, 134, 135, 136, 137, 138, 139, 140, 141, 142, 143, 144, 145, 146, 147, 148, 149, 150, 151, 152, 153, 154, 155, 156, 157, 158, 159, 160, 161, 162, 163, 164, 165, 166, 167, 168, 169, 170, 171, 172, 173, 174, 175, 176, 177, 178, 179] rfl (by decide +kernel)
set_option maxRecDepth 20000 in
theorem gX0_bestSpeed_X0_deepestFeed : GoodIn wsX0_bestSpeed (wsV RX0 68 RX0 yX0_deepestFeed wsX0_deepestFeed) := goodIn_app (goodIn_of _ (by decide +kernel)) ggX0_bestSpeed_X0_deepestFeed
set_option maxRecDepth 20000 in
theorem ggX0_bestSpeed_X7_passTime : GoodIn wsX0_bestSpeed wsX7_passTime := goodIn_r _ [6, 7, 8, 9, 10, 5, 11, 12, 13, 14, 15, 142, 143, 144, 145] rfl (by decide +kernel)
set_option maxRecDepth 20000 in
theorem gX0_bestSpeed_X7_passTime : GoodIn wsX0_bestSpeed (wsV RX0 64 RX7 yX7_passTime wsX7_passTime) := goodIn_app (goodIn_of _ (by decide +kernel)) ggX0_bestSpeed_X7_passTime
set_option maxHeartbeats 4000000 in
set_option maxRecDepth 100000 in
theorem K_X0_bestSpeed (l : Launch) (D : va_G) (xc : Nat) (xs : Nat) (xp : Nat) (xl : Nat) (ch_s : Nat) (ch_t : Nat) (ch_f : Nat) (ch_p : Nat) (ph : Nat) (pl : Nat) (cI : ClassId) (l_ring : Int32) (l_speed : Int32) (l_feed : Int32) (l_turns : Int32) (l_teethMany : Int32) (l_wear : Int32) (l_x : Int32) (l_v : Int32) (l_wave : Int32) (l_time : Int32) (l_out : Int32) (l_farthest : Int32) (l_begun : Int32) (k_t : Nat → Int32) (k_h : Nat → Int32) (k_u : Nat → Int32) (k_o : Nat → Int32) (k_x : Nat → Int32) (k_1 : Nat → Int32) (k_2 : Nat → Int32) (k_3 : Nat → Int32) (a : Int32) (la_t : Nat) (la_h : Nat) (la_u : Nat) (la_o : Nat) (la_x : Nat) (n : Nat) (fo : Nat) (wa : Nat) (we : Nat) (cf : Nat) (sf : Nat) (wf : Nat) (ch : Nat) (sh : Nat) (wh : Nat) (cg : Nat) (sg : Nat) (wg : Nat) (ha : 0 ≤ a ∧ a < 3) (sz : Nat) : Ki l yX0_bestSpeed wsX0_bestSpeed 6 175 0 0 D [.ref xc, .int a] [(xc, .inr (0, [.ref xs, .ref xp, .ref xl, .ref ch_s, .ref ch_t, .ref ch_f, .ref ch_p, .int 0])), (xp, .inr (5, [.ref xs, .ref ph, .int 0, .int 0, .ref pl])), (ph, .inl (cI, 96, .inl (fun _ => 1000))), (xl, .inr (4, [.ref xs, .int l_ring, .int l_speed, .int l_feed, .int l_turns, .ref la_t, .int 0, .int l_teethMany, .ref la_h, .ref la_u, .ref la_o, .ref la_x, .int l_wear, .int l_x, .int l_v, .int l_wave, .int l_time, .int l_out, .int l_farthest, .int l_begun])), (la_t, .inl (cI, 4, .inl k_t)), (la_h, .inl (cI, 16, .inl k_h)), (la_u, .inl (cI, 16, .inl k_u)), (la_o, .inl (cI, 16, .inl k_o)), (la_x, .inl (cI, 16, .inl k_x)), (xs, .inr (6, [.ref n, .ref fo, .ref wa, .ref we])), (n, .inl (cI, 36, .inl g_nums)), (fo, .inr (2, [.ref cf, .int 1, .ref sf, .ref wf, .int 0, .int 0, .int 0, .int 0, .int 0])), (cf, .inl (cI, 80, .inl (upd (fun _ => 0) 0 (-1)))), (sf, .inl (cI, 12, .inl k_1)), (wa, .inr (2, [.ref cg, .int 1, .ref sg, .ref wg, .int 0, .int 0, .int 0, .int 0, .int 0])), (cg, .inl (cI, 80, .inl (upd (fun _ => 0) 0 0))), (sg, .inl (cI, 12, .inl k_2)), (we, .inr (2, [.ref ch, .int 1, .ref sh, .ref wh, .int 0, .int 0, .int 0, .int 0, .int 0])), (ch, .inl (cI, 80, .inl (upd (fun _ => 0) 0 0))), (sh, .inl (cI, 12, .inl k_3))] [(cI, .int)] sz (fun (r : Int32) (_ : Unit) => r = ((sp_bs sp_dq 9).1)) (fun (_ : Unit) => []) (fun (_ : Unit) => [(cI, .int)]) := by
  unfold Ki
  refine g_ofW (cc := cX0_bestSpeed) (lv := [(0, .ref xc), (1, .int a)]) (by decide) rfl (Nat.le_of_ble_eq_true rfl) rfl ?_
  intro p e s m args below meth c A Q hA hQ F hr hnm
  have hts := F.2.2.2.2.1
  have w_0 : (Cond.fieldLink RX0 24 "QuietCut$Chooser" "shop" "LQuietCut$Shop;").before args s = true := hts _ (List.mem_of_getElem? (i := 1) rfl)
  have i_X0 : ∀ w ∈ u_ws RX0 TX0 8, w ∈ wsX0_bestSpeed := fun _ h => List.mem_cons_of_mem _ (List.mem_append_left _ (List.mem_append_left _ (List.mem_append_left _ (List.mem_append_left _ (List.mem_append_right _ h)))))
  refine g_iconst F (-1) dX0_bestSpeed_0 (by decide) ?_
  refine g_istore_n F [(2, .int (-1)), (0, .ref xc), (1, .int a)] dX0_bestSpeed_1 rfl (by decide) rfl ?_
  refine g_iconst F 0 dX0_bestSpeed_2 (by decide) ?_
  refine g_istore_n F [(3, .int 0), (2, .int (-1)), (0, .ref xc), (1, .int a)] dX0_bestSpeed_3 rfl (by decide) rfl ?_
  refine g_iconst F 1 dX0_bestSpeed_4 (by decide) ?_
  refine g_istore F [(4, .int 1), (3, .int 0), (2, .int (-1)), (0, .ref xc), (1, .int a)] dX0_bestSpeed_5 (by decide) rfl ?_
  refine g_iconst F 1 dX0_bestSpeed_7 (by decide) ?_
  refine g_istore F [(5, .int 1), (4, .int 1), (3, .int 0), (2, .int (-1)), (0, .ref xc), (1, .int a)] dX0_bestSpeed_8 (by decide) rfl ?_
  refine g_locals [(0, .ref xc), (1, .int a), (2, .int (-1)), (3, .int 0), (4, .int 1), (5, .int 1)] [4, 5, 3, 2, 1, 0] rfl ?_
  have loop_10 : ∀ (fuel : Nat) (k : Nat) (y_ring : Int32) (y_speed : Int32) (y_feed : Int32) (y_turns : Int32) (y_teethMany : Int32) (y_wear : Int32) (y_x : Int32) (y_v : Int32) (y_wave : Int32) (y_time : Int32) (y_out : Int32) (y_farthest : Int32) (y_begun : Int32) (y_t : Nat → Int32) (y_h : Nat → Int32) (y_u : Nat → Int32) (y_o : Nat → Int32) (y_x2 : Nat → Int32) (y_1 : Nat → Int32) (y_2 : Nat → Int32) (y_3 : Nat → Int32), 9 - k < fuel → (k ≤ 9) → gG p l e (gR 6 0 0 175) s m args below meth c D A 9 Q 0 0 [(xc, .inr (0, [.ref xs, .ref xp, .ref xl, .ref ch_s, .ref ch_t, .ref ch_f, .ref ch_p, .int 0])), (xp, .inr (5, [.ref xs, .ref ph, .int 0, .int 0, .ref pl])), (ph, .inl (cI, 96, .inl (fun _ => 1000))), (xl, .inr (4, [.ref xs, .int y_ring, .int y_speed, .int y_feed, .int y_turns, .ref la_t, .int 0, .int y_teethMany, .ref la_h, .ref la_u, .ref la_o, .ref la_x, .int y_wear, .int y_x, .int y_v, .int y_wave, .int y_time, .int y_out, .int y_farthest, .int y_begun])), (la_t, .inl (cI, 4, .inl y_t)), (la_h, .inl (cI, 16, .inl y_h)), (la_u, .inl (cI, 16, .inl y_u)), (la_o, .inl (cI, 16, .inl y_o)), (la_x, .inl (cI, 16, .inl y_x2)), (xs, .inr (6, [.ref n, .ref fo, .ref wa, .ref we])), (n, .inl (cI, 36, .inl g_nums)), (fo, .inr (2, [.ref cf, .int 1, .ref sf, .ref wf, .int 0, .int 0, .int 0, .int 0, .int 0])), (cf, .inl (cI, 80, .inl (upd (fun _ => 0) 0 (-1)))), (sf, .inl (cI, 12, .inl y_1)), (wa, .inr (2, [.ref cg, .int 1, .ref sg, .ref wg, .int 0, .int 0, .int 0, .int 0, .int 0])), (cg, .inl (cI, 80, .inl (upd (fun _ => 0) 0 0))), (sg, .inl (cI, 12, .inl y_2)), (we, .inr (2, [.ref ch, .int 1, .ref sh, .ref wh, .int 0, .int 0, .int 0, .int 0, .int 0])), (ch, .inl (cI, 80, .inl (upd (fun _ => 0) 0 0))), (sh, .inl (cI, 12, .inl y_3))] [(cI, .int)] [(0, .ref xc), (1, .int a), (2, .int ((sp_bs sp_dq k).1)), (3, .int ((sp_bs sp_dq k).2)), (4, .int (if ((sp_bs sp_dq k).1) = (-1) then 1 else (32 * ((sp_bs sp_dq k).1)))), (5, .int (nI (k + 1)))] 10 [] := by
    intro fuel_10
    induction fuel_10 with
    | zero => intro k y_ring y_speed y_feed y_turns y_teethMany y_wear y_x y_v y_wave y_time y_out y_farthest y_begun y_t y_h y_u y_o y_x2 y_1 y_2 y_3 hm; exact absurd hm (Nat.not_lt_zero _)
    | succ fuel_10 ih_10 =>
      intro k y_ring y_speed y_feed y_turns y_teethMany y_wear y_x y_v y_wave y_time y_out y_farthest y_begun y_t y_h y_u y_o y_x2 y_1 y_2 y_3 hm10 hk0
      refine g_iload F 5 dX0_bestSpeed_10 rfl ?_
      refine g_bipush F 9 dX0_bestSpeed_12 (by decide) ?_
      refine g_icmp_gt F 79 dX0_bestSpeed_14 (by decide) (fun c_14 => ?_) (fun c_14 => ?_)
      · refine g_iload_n F 2 dX0_bestSpeed_79 rfl rfl ?_
        exact g_iret F hA hQ hr () (by have hk9 : k = 9 := by { rcases Nat.lt_or_ge k 9 with h | h; exact absurd c_14 (nI_nlt (a := 9) (b := k + 1) (by omega) (by omega)); omega }; rw [hk9]) [] [0] rfl (by decide) rfl rfl dX0_bestSpeed_80
      · have hk : k + 1 ≤ 9 := by rcases Nat.lt_or_ge k 9 with h | h; omega; exact absurd (nI_lt (a := 9) (b := k + 1) (by omega) (by omega)) c_14
        have hok := sp_bs_ok sp_dq sp_dq_or k (by omega)
        obtain ⟨fl, hfl, efl, hiff⟩ := sp_bs_class (k := k) hok hk
        refine g_aload_n F 0 dX0_bestSpeed_17 rfl rfl ?_
        refine g_get (C := RX0) (T := TX0) (N := 8) (v := .ref xs) F i_X0 0 rfl rfl 0 (by decide) w_0 rfl rfl dX0_bestSpeed_18 ?_
        refine g_iload F 5 dX0_bestSpeed_21 rfl ?_
        refine g_callVi (k := 0) (n := 0) (b := xs) (As := [.int (nI (k + 1))]) (st := []) (wc := [(xs, .inr (6, [.ref n, .ref fo, .ref wa, .ref we])), (n, .inl (cI, 36, .inl g_nums))]) (wr := [(xc, .inr (0, [.ref xs, .ref xp, .ref xl, .ref ch_s, .ref ch_t, .ref ch_f, .ref ch_p, .int 0])), (xp, .inr (5, [.ref xs, .ref ph, .int 0, .int 0, .ref pl])), (ph, .inl (cI, 96, .inl (fun _ => 1000))), (xl, .inr (4, [.ref xs, .int y_ring, .int y_speed, .int y_feed, .int y_turns, .ref la_t, .int 0, .int y_teethMany, .ref la_h, .ref la_u, .ref la_o, .ref la_x, .int y_wear, .int y_x, .int y_v, .int y_wave, .int y_time, .int y_out, .int y_farthest, .int y_begun])), (la_t, .inl (cI, 4, .inl y_t)), (la_h, .inl (cI, 16, .inl y_h)), (la_u, .inl (cI, 16, .inl y_u)), (la_o, .inl (cI, 16, .inl y_o)), (la_x, .inl (cI, 16, .inl y_x2)), (fo, .inr (2, [.ref cf, .int 1, .ref sf, .ref wf, .int 0, .int 0, .int 0, .int 0, .int 0])), (cf, .inl (cI, 80, .inl (upd (fun _ => 0) 0 (-1)))), (sf, .inl (cI, 12, .inl y_1)), (wa, .inr (2, [.ref cg, .int 1, .ref sg, .ref wg, .int 0, .int 0, .int 0, .int 0, .int 0])), (cg, .inl (cI, 80, .inl (upd (fun _ => 0) 0 0))), (sg, .inl (cI, 12, .inl y_2)), (we, .inr (2, [.ref ch, .int 1, .ref sh, .ref wh, .int 0, .int 0, .int 0, .int 0, .int 0])), (ch, .inl (cI, 80, .inl (upd (fun _ => 0) 0 0))), (sh, .inl (cI, 12, .inl y_3))]) F [9, 10] [0, 1, 2, 3, 4, 5, 6, 7, 8, 11, 12, 13, 14, 15, 16, 17, 18, 19] [0] rfl rfl (by decide) rfl (by decide) (by decide) rfl (fun sz => K_X7_passTime l D xs n fo wa we cI (nI (k + 1))  sz) (cwV 1 hts gX0_bestSpeed_X7_passTime rfl rfl rfl (by decide +kernel) ⟨Nat.le_of_ble_eq_true rfl, Nat.le_of_ble_eq_true rfl⟩) rfl 0 rfl rfl (Nat.le_of_ble_eq_true rfl) ⟨Nat.le_of_ble_eq_true rfl, Nat.le_of_ble_eq_true rfl⟩ dX0_bestSpeed_23 (fun r_1 _ hw_2 => ?_)
        have hw_2 : r_1 = (32 * (nI (k + 1))) := hw_2
        have e_r_1 := hw_2
        show gG p l e (gR 6 0 0 175) s m args below meth c D A 9 Q 0 0 [(xc, .inr (0, [.ref xs, .ref xp, .ref xl, .ref ch_s, .ref ch_t, .ref ch_f, .ref ch_p, .int 0])), (xp, .inr (5, [.ref xs, .ref ph, .int 0, .int 0, .ref pl])), (ph, .inl (cI, 96, .inl (fun _ => 1000))), (xl, .inr (4, [.ref xs, .int y_ring, .int y_speed, .int y_feed, .int y_turns, .ref la_t, .int 0, .int y_teethMany, .ref la_h, .ref la_u, .ref la_o, .ref la_x, .int y_wear, .int y_x, .int y_v, .int y_wave, .int y_time, .int y_out, .int y_farthest, .int y_begun])), (la_t, .inl (cI, 4, .inl y_t)), (la_h, .inl (cI, 16, .inl y_h)), (la_u, .inl (cI, 16, .inl y_u)), (la_o, .inl (cI, 16, .inl y_o)), (la_x, .inl (cI, 16, .inl y_x2)), (fo, .inr (2, [.ref cf, .int 1, .ref sf, .ref wf, .int 0, .int 0, .int 0, .int 0, .int 0])), (cf, .inl (cI, 80, .inl (upd (fun _ => 0) 0 (-1)))), (sf, .inl (cI, 12, .inl y_1)), (wa, .inr (2, [.ref cg, .int 1, .ref sg, .ref wg, .int 0, .int 0, .int 0, .int 0, .int 0])), (cg, .inl (cI, 80, .inl (upd (fun _ => 0) 0 0))), (sg, .inl (cI, 12, .inl y_2)), (we, .inr (2, [.ref ch, .int 1, .ref sh, .ref wh, .int 0, .int 0, .int 0, .int 0, .int 0])), (ch, .inl (cI, 80, .inl (upd (fun _ => 0) 0 0))), (sh, .inl (cI, 12, .inl y_3)), (xs, .inr (6, [.ref n, .ref fo, .ref wa, .ref we])), (n, .inl (cI, 36, .inl g_nums))] [(cI, .int)] [(0, .ref xc), (1, .int a), (2, .int ((sp_bs sp_dq k).1)), (3, .int ((sp_bs sp_dq k).2)), (4, .int (if ((sp_bs sp_dq k).1) = (-1) then 1 else (32 * ((sp_bs sp_dq k).1)))), (5, .int (nI (k + 1)))] 26 [.int r_1]
        refine g_fold (32 * (nI (k + 1))) e_r_1 ?_
        refine g_istore F [(6, .int (32 * (nI (k + 1)))), (0, .ref xc), (1, .int a), (2, .int ((sp_bs sp_dq k).1)), (3, .int ((sp_bs sp_dq k).2)), (4, .int (if ((sp_bs sp_dq k).1) = (-1) then 1 else (32 * ((sp_bs sp_dq k).1)))), (5, .int (nI (k + 1)))] dX0_bestSpeed_26 (by decide) rfl ?_
        refine g_iload F 5 dX0_bestSpeed_28 rfl ?_
        refine g_if_le F 43 dX0_bestSpeed_30 (by decide) (fun h9 => absurd h9 (sp_bt_pos hok)) (fun c_30 => ?_)
        refine g_iload_n F 4 dX0_bestSpeed_33 rfl rfl ?_
        refine g_iload F 0 dX0_bestSpeed_34 rfl ?_
        refine g_imul F dX0_bestSpeed_36 ?_
        refine g_iload F 5 dX0_bestSpeed_37 rfl ?_
        refine g_idiv F dX0_bestSpeed_39 (fun q => sp_bt_pos hok (by rw [q]; decide)) ?_
        refine g_fold (nI fl) (efl) ?_
        refine g_goto F 44 dX0_bestSpeed_40 (by decide) ?_
        refine g_istore F [(7, .int (nI fl)), (6, .int (32 * (nI (k + 1)))), (0, .ref xc), (1, .int a), (2, .int ((sp_bs sp_dq k).1)), (3, .int ((sp_bs sp_dq k).2)), (4, .int (if ((sp_bs sp_dq k).1) = (-1) then 1 else (32 * ((sp_bs sp_dq k).1)))), (5, .int (nI (k + 1)))] dX0_bestSpeed_44 (by decide) rfl ?_
        refine g_aload_n F 2 dX0_bestSpeed_46 rfl rfl ?_
        refine g_iload_n F 3 dX0_bestSpeed_47 rfl rfl ?_
        refine g_iload F 7 dX0_bestSpeed_48 rfl ?_
        refine g_iload F 0 dX0_bestSpeed_50 rfl ?_
        refine g_callVi (k := 0) (n := 0) (b := xc) (As := [.int a, .int (nI (k + 1)), .int (nI fl)]) (st := []) (wc := [(xc, .inr (0, [.ref xs, .ref xp, .ref xl, .ref ch_s, .ref ch_t, .ref ch_f, .ref ch_p, .int 0])), (xp, .inr (5, [.ref xs, .ref ph, .int 0, .int 0, .ref pl])), (ph, .inl (cI, 96, .inl (fun _ => 1000))), (xl, .inr (4, [.ref xs, .int y_ring, .int y_speed, .int y_feed, .int y_turns, .ref la_t, .int 0, .int y_teethMany, .ref la_h, .ref la_u, .ref la_o, .ref la_x, .int y_wear, .int y_x, .int y_v, .int y_wave, .int y_time, .int y_out, .int y_farthest, .int y_begun])), (la_t, .inl (cI, 4, .inl y_t)), (la_h, .inl (cI, 16, .inl y_h)), (la_u, .inl (cI, 16, .inl y_u)), (la_o, .inl (cI, 16, .inl y_o)), (la_x, .inl (cI, 16, .inl y_x2)), (xs, .inr (6, [.ref n, .ref fo, .ref wa, .ref we])), (n, .inl (cI, 36, .inl g_nums)), (fo, .inr (2, [.ref cf, .int 1, .ref sf, .ref wf, .int 0, .int 0, .int 0, .int 0, .int 0])), (cf, .inl (cI, 80, .inl (upd (fun _ => 0) 0 (-1)))), (sf, .inl (cI, 12, .inl y_1)), (wa, .inr (2, [.ref cg, .int 1, .ref sg, .ref wg, .int 0, .int 0, .int 0, .int 0, .int 0])), (cg, .inl (cI, 80, .inl (upd (fun _ => 0) 0 0))), (sg, .inl (cI, 12, .inl y_2)), (we, .inr (2, [.ref ch, .int 1, .ref sh, .ref wh, .int 0, .int 0, .int 0, .int 0, .int 0])), (ch, .inl (cI, 80, .inl (upd (fun _ => 0) 0 0))), (sh, .inl (cI, 12, .inl y_3))]) (wr := []) F [0, 1, 2, 3, 4, 5, 6, 7, 8, 18, 19, 9, 10, 11, 12, 13, 14, 15, 16, 17] [] [0] rfl rfl (by decide) rfl (by decide) (by decide) rfl (fun sz => K_X0_deepestFeed l D xc xs xp xl ch_s ch_t ch_f ch_p la_t la_h la_u la_o la_x n fo wa we cf sf wf ch sh wh cg sg wg ph pl cI y_ring y_speed y_feed y_turns y_teethMany y_wear y_x y_v y_wave y_time y_out y_farthest y_begun y_t y_h y_u y_o y_x2 y_1 y_2 y_3 a (nI (k + 1)) (nI fl) (⟨ha.1, ha.2, (gi_sp hk).1, (gi_sp hk).2⟩) sz) (cwV 3 hts gX0_bestSpeed_X0_deepestFeed rfl rfl rfl (by decide +kernel) ⟨Nat.le_of_ble_eq_true rfl, Nat.le_of_ble_eq_true rfl⟩) rfl 0 rfl rfl (Nat.le_of_ble_eq_true rfl) ⟨Nat.le_of_ble_eq_true rfl, Nat.le_of_ble_eq_true rfl⟩ dX0_bestSpeed_52 (fun r_6 u_5 hw_7 => ?_)
        obtain ⟨z_ring_8, z_speed_8, z_feed_8, z_turns_8, z_teethMany_8, z_wear_8, z_x_8, z_v_8, z_wave_8, z_time_8, z_out_8, z_farthest_8, z_begun_8, g_t_8, g_h_8, g_u_8, g_o_8, g_x_8, g_1_8, g_2_8, g_3_8⟩ := u_5
        have hw_7 : r_6 = (sp_dp (sp_q (nI (k + 1))) (nI fl) 20) := hw_7
        have e_r_6 := hw_7
        show gG p l e (gR 6 0 0 175) s m args below meth c D A 9 Q 0 0 [(xc, .inr (0, [.ref xs, .ref xp, .ref xl, .ref ch_s, .ref ch_t, .ref ch_f, .ref ch_p, .int 0])), (xp, .inr (5, [.ref xs, .ref ph, .int 0, .int 0, .ref pl])), (ph, .inl (cI, 96, .inl (fun _ => 1000))), (xl, .inr (4, [.ref xs, .int z_ring_8, .int z_speed_8, .int z_feed_8, .int z_turns_8, .ref la_t, .int 0, .int z_teethMany_8, .ref la_h, .ref la_u, .ref la_o, .ref la_x, .int z_wear_8, .int z_x_8, .int z_v_8, .int z_wave_8, .int z_time_8, .int z_out_8, .int z_farthest_8, .int z_begun_8])), (la_t, .inl (cI, 4, .inl g_t_8)), (la_h, .inl (cI, 16, .inl g_h_8)), (la_u, .inl (cI, 16, .inl g_u_8)), (la_o, .inl (cI, 16, .inl g_o_8)), (la_x, .inl (cI, 16, .inl g_x_8)), (xs, .inr (6, [.ref n, .ref fo, .ref wa, .ref we])), (n, .inl (cI, 36, .inl g_nums)), (fo, .inr (2, [.ref cf, .int 1, .ref sf, .ref wf, .int 0, .int 0, .int 0, .int 0, .int 0])), (cf, .inl (cI, 80, .inl (upd (fun _ => 0) 0 (-1)))), (sf, .inl (cI, 12, .inl g_1_8)), (wa, .inr (2, [.ref cg, .int 1, .ref sg, .ref wg, .int 0, .int 0, .int 0, .int 0, .int 0])), (cg, .inl (cI, 80, .inl (upd (fun _ => 0) 0 0))), (sg, .inl (cI, 12, .inl g_2_8)), (we, .inr (2, [.ref ch, .int 1, .ref sh, .ref wh, .int 0, .int 0, .int 0, .int 0, .int 0])), (ch, .inl (cI, 80, .inl (upd (fun _ => 0) 0 0))), (sh, .inl (cI, 12, .inl g_3_8))] [(cI, .int)] [(7, .int (nI fl)), (6, .int (32 * (nI (k + 1)))), (0, .ref xc), (1, .int a), (2, .int ((sp_bs sp_dq k).1)), (3, .int ((sp_bs sp_dq k).2)), (4, .int (if ((sp_bs sp_dq k).1) = (-1) then 1 else (32 * ((sp_bs sp_dq k).1)))), (5, .int (nI (k + 1)))] 55 [.int r_6]
        refine g_fold (sp_dp (sp_q (nI (k + 1))) (nI fl) 20) e_r_6 ?_
        refine g_fold (if sp_dq (k + 1) ≤ nI fl then (-1) else sp_dq (k + 1)) (sp_dp_fl _ hfl 20 (by decide)) ?_
        refine g_istore F [(8, .int (if sp_dq (k + 1) ≤ nI fl then (-1) else sp_dq (k + 1))), (7, .int (nI fl)), (6, .int (32 * (nI (k + 1)))), (0, .ref xc), (1, .int a), (2, .int ((sp_bs sp_dq k).1)), (3, .int ((sp_bs sp_dq k).2)), (4, .int (if ((sp_bs sp_dq k).1) = (-1) then 1 else (32 * ((sp_bs sp_dq k).1)))), (5, .int (nI (k + 1)))] dX0_bestSpeed_55 (by decide) rfl ?_
        refine g_iload F 0 dX0_bestSpeed_57 rfl ?_
        refine g_iconst F (-1) dX0_bestSpeed_59 (by decide) ?_
        refine g_icmp_eq F 73 dX0_bestSpeed_60 (by decide) (fun c_60 => ?_) (fun c_60 => ?_)
        · have hb9 := sp_bs_t (hiff.mp c_60)
          rw [← hb9]
          refine g_iinc F (j := 8) (nI (k + 1 + 1)) [(5, .int (nI (k + 1 + 1))), (8, .int (if sp_dq (k + 1) ≤ nI fl then (-1) else sp_dq (k + 1))), (7, .int (nI fl)), (6, .int (32 * (nI (k + 1)))), (0, .ref xc), (1, .int a), (2, .int ((sp_bs sp_dq (k + 1)).1)), (3, .int ((sp_bs sp_dq (k + 1)).2)), (4, .int (if ((sp_bs sp_dq (k + 1)).1) = (-1) then 1 else (32 * ((sp_bs sp_dq (k + 1)).1))))] dX0_bestSpeed_73 rfl (nI_1 (k + 1)) (by decide) rfl ?_
          refine g_goto F 10 dX0_bestSpeed_76 (by decide) ?_
          refine g_locals [(0, .ref xc), (1, .int a), (2, .int ((sp_bs sp_dq (k + 1)).1)), (3, .int ((sp_bs sp_dq (k + 1)).2)), (4, .int (if ((sp_bs sp_dq (k + 1)).1) = (-1) then 1 else (32 * ((sp_bs sp_dq (k + 1)).1)))), (5, .int (nI (k + 1 + 1)))] [4, 5, 6, 7, 8, 0] rfl ?_
          exact ih_10 (k + 1) z_ring_8 z_speed_8 z_feed_8 z_turns_8 z_teethMany_8 z_wear_8 z_x_8 z_v_8 z_wave_8 z_time_8 z_out_8 z_farthest_8 z_begun_8 g_t_8 g_h_8 g_u_8 g_o_8 g_x_8 g_1_8 g_2_8 g_3_8 (by omega) (hk)
        · have hb9 := sp_bs_f (fun q => c_60 (hiff.mpr q))
          have hb91 : nI (k + 1) = (sp_bs sp_dq (k + 1)).1 := by rw [hb9]
          have hb92 : (if sp_dq (k + 1) ≤ nI fl then (-1) else sp_dq (k + 1)) = (sp_bs sp_dq (k + 1)).2 := by rw [hb9]; exact if_neg (fun q => c_60 (if_pos q))
          have hb93 : 32 * nI (k + 1) = (if ((sp_bs sp_dq (k + 1)).1) = (-1) then 1 else (32 * ((sp_bs sp_dq (k + 1)).1))) := by rw [hb9, if_neg (nI_n1 (by omega))]
          refine g_iload F 8 dX0_bestSpeed_63 rfl ?_
          refine g_fold ((sp_bs sp_dq (k + 1)).1) (hb91) ?_
          refine g_istore_n F [(2, .int ((sp_bs sp_dq (k + 1)).1)), (8, .int (if sp_dq (k + 1) ≤ nI fl then (-1) else sp_dq (k + 1))), (7, .int (nI fl)), (6, .int (32 * (nI (k + 1)))), (0, .ref xc), (1, .int a), (3, .int ((sp_bs sp_dq k).2)), (4, .int (if ((sp_bs sp_dq k).1) = (-1) then 1 else (32 * ((sp_bs sp_dq k).1)))), (5, .int (nI (k + 1)))] dX0_bestSpeed_65 rfl (by decide) rfl ?_
          refine g_iload F 1 dX0_bestSpeed_66 rfl ?_
          refine g_fold ((sp_bs sp_dq (k + 1)).2) (hb92) ?_
          refine g_istore_n F [(3, .int ((sp_bs sp_dq (k + 1)).2)), (2, .int ((sp_bs sp_dq (k + 1)).1)), (8, .int (if sp_dq (k + 1) ≤ nI fl then (-1) else sp_dq (k + 1))), (7, .int (nI fl)), (6, .int (32 * (nI (k + 1)))), (0, .ref xc), (1, .int a), (4, .int (if ((sp_bs sp_dq k).1) = (-1) then 1 else (32 * ((sp_bs sp_dq k).1)))), (5, .int (nI (k + 1)))] dX0_bestSpeed_68 rfl (by decide) rfl ?_
          refine g_iload F 4 dX0_bestSpeed_69 rfl ?_
          refine g_fold (if ((sp_bs sp_dq (k + 1)).1) = (-1) then 1 else (32 * ((sp_bs sp_dq (k + 1)).1))) (hb93) ?_
          refine g_istore F [(4, .int (if ((sp_bs sp_dq (k + 1)).1) = (-1) then 1 else (32 * ((sp_bs sp_dq (k + 1)).1)))), (3, .int ((sp_bs sp_dq (k + 1)).2)), (2, .int ((sp_bs sp_dq (k + 1)).1)), (8, .int (if sp_dq (k + 1) ≤ nI fl then (-1) else sp_dq (k + 1))), (7, .int (nI fl)), (6, .int (32 * (nI (k + 1)))), (0, .ref xc), (1, .int a), (5, .int (nI (k + 1)))] dX0_bestSpeed_71 (by decide) rfl ?_
          refine g_iinc F (j := 8) (nI (k + 1 + 1)) [(5, .int (nI (k + 1 + 1))), (4, .int (if ((sp_bs sp_dq (k + 1)).1) = (-1) then 1 else (32 * ((sp_bs sp_dq (k + 1)).1)))), (3, .int ((sp_bs sp_dq (k + 1)).2)), (2, .int ((sp_bs sp_dq (k + 1)).1)), (8, .int (if sp_dq (k + 1) ≤ nI fl then (-1) else sp_dq (k + 1))), (7, .int (nI fl)), (6, .int (32 * (nI (k + 1)))), (0, .ref xc), (1, .int a)] dX0_bestSpeed_73 rfl (nI_1 (k + 1)) (by decide) rfl ?_
          refine g_goto F 10 dX0_bestSpeed_76 (by decide) ?_
          refine g_locals [(0, .ref xc), (1, .int a), (2, .int ((sp_bs sp_dq (k + 1)).1)), (3, .int ((sp_bs sp_dq (k + 1)).2)), (4, .int (if ((sp_bs sp_dq (k + 1)).1) = (-1) then 1 else (32 * ((sp_bs sp_dq (k + 1)).1)))), (5, .int (nI (k + 1 + 1)))] [7, 8, 3, 2, 1, 0] rfl ?_
          exact ih_10 (k + 1) z_ring_8 z_speed_8 z_feed_8 z_turns_8 z_teethMany_8 z_wear_8 z_x_8 z_v_8 z_wave_8 z_time_8 z_out_8 z_farthest_8 z_begun_8 g_t_8 g_h_8 g_u_8 g_o_8 g_x_8 g_1_8 g_2_8 g_3_8 (by omega) (hk)
  exact loop_10 (_ + 1) 0 l_ring l_speed l_feed l_turns l_teethMany l_wear l_x l_v l_wave l_time l_out l_farthest l_begun k_t k_h k_u k_o k_x k_1 k_2 k_3 (Nat.lt_succ_self _) (Nat.zero_le _)

theorem dX11_best_0 : decode cX11_best 0 = .ok (.aload_n 0, 1) := by decide +kernel
theorem dX11_best_1 : decode cX11_best 1 = .ok (.getfield 19, 3) := by decide +kernel
theorem dX11_best_4 : decode cX11_best 4 = .ok (.iload_n 1, 1) := by decide +kernel
theorem dX11_best_5 : decode cX11_best 5 = .ok (.invokevirtual 219, 3) := by decide +kernel
theorem dX11_best_8 : decode cX11_best 8 = .ok (.ifCond .eq 14, 3) := by decide +kernel
theorem dX11_best_11 : decode cX11_best 11 = .ok (.aload_n 0, 1) := by decide +kernel
theorem dX11_best_12 : decode cX11_best 12 = .ok (.getfield 56, 3) := by decide +kernel
theorem dX11_best_15 : decode cX11_best 15 = .ok (.iload_n 1, 1) := by decide +kernel
theorem dX11_best_16 : decode cX11_best 16 = .ok (.invokevirtual 222, 3) := by decide +kernel
theorem dX11_best_19 : decode cX11_best 19 = .ok (.goto 5, 3) := by decide +kernel
theorem dX11_best_22 : decode cX11_best 22 = .ok (.bipush (-2), 2) := by decide +kernel
theorem dX11_best_24 : decode cX11_best 24 = .ok (.ireturn, 1) := by decide +kernel
set_option maxRecDepth 20000 in
theorem ggX11_best_X0_bestSpeed : GoodIn wsX11_best wsX0_bestSpeed := goodIn_r _ [13, 14, 15, 16, 17, 6, 18, 8, 19, 20, 21, 22, 23, 24, 25, 26, 27, 28, 29, 12, 30, 31, 32, 33, 34, 35, 36, 37, 38, 39, 40, 41, 42, 43, 44, 45, 46, 47, 48, 49, 50, 4, 5, 7, 51, 52, 53, 54, 55, 56, 57, 58, 59, 60, 61, 62, 63, 64, 65, 66, 67, 68, 69, 70, 71, 72, 73, 74, 75, 76, 77, 78, 79, 80, 81, 82, 83, 84, 85, 86, 87, 88, 89, 90, 91, 92, 93, 94, 95, 96, 97, 98, 99, 100, 101, 102, 103, 104, 105, 106, 107, 108, 109, 110, 111, 112, 113, 114, 115, 116, 117, 118, 119, 120, 121, 122, 123, 124, 125, 126, 127, 128, 129, 130, 131, 132, 133, 134, 135, 136, 137, 138, 139, 140, 159, 160, 161, 162, 163, 164, 165, 166, 155, 156, 157, 158, 167, 168, 169, 170, 171, 172, 173, 174, 175, 176, 177, 178, 179, 180, 181, 182, 183, 184, 185, 186, 187, 188, 189, 190, 191, 192, 193, 194, 195, 196, 197, 198, 199, 200] rfl (by decide +kernel)
set_option maxRecDepth 20000 in
theorem gX11_best_X0_bestSpeed : GoodIn wsX11_best (wsV RX11 222 RX0 yX0_bestSpeed wsX0_bestSpeed) := goodIn_app (goodIn_of _ (by decide +kernel)) ggX11_best_X0_bestSpeed
set_option maxRecDepth 20000 in
theorem ggX11_best_X7_hasRing : GoodIn wsX11_best wsX7_hasRing := goodIn_r _ [7, 8, 155, 156, 157, 158] rfl (by decide +kernel)
set_option maxRecDepth 20000 in
theorem gX11_best_X7_hasRing : GoodIn wsX11_best (wsV RX11 219 RX7 yX7_hasRing wsX7_hasRing) := goodIn_app (goodIn_of _ (by decide +kernel)) ggX11_best_X7_hasRing
set_option maxHeartbeats 4000000 in
set_option maxRecDepth 100000 in
theorem K_X11_best (l : Launch) (D : va_G) (x0 : Nat) (xt : Nat) (xs : Nat) (xq : Nat) (xr : Nat) (xp : Nat) (xl : Nat) (xc : Nat) (xj : Nat) (xe : Nat) (xo : Nat) (pa : Nat) (la_t : Nat) (la_h : Nat) (la_u : Nat) (la_o : Nat) (la_x : Nat) (ch_s : Nat) (ch_t : Nat) (ch_f : Nat) (ch_p : Nat) (cI : ClassId) (n : Nat) (fo : Nat) (wa : Nat) (we : Nat) (cf : Nat) (sf : Nat) (wf : Nat) (cg : Nat) (sg : Nat) (wg : Nat) (ch : Nat) (sh : Nat) (wh : Nat) (ph : Nat) (pl : Nat) (a : Int32) (sz : Nat) : Ki l yX11_best wsX11_best 7 203 0 0 D [.ref x0, .int a] [(x0, .inr (10, [.ref xt, .ref xs, .ref xq, .ref xr, .ref xp, .ref xl, .ref xc, .ref xj, .ref xe, .ref xo, .ref pa, .int 0, .int 0, .int (-1)])), (xl, .inr (4, [.ref xs, .int 0, .int 0, .int 0, .int 0, .ref la_t, .int 0, .int 0, .ref la_h, .ref la_u, .ref la_o, .ref la_x, .int 0, .int 0, .int 0, .int 0, .int 0, .int 0, .int 0, .int 0])), (xc, .inr (0, [.ref xs, .ref xp, .ref xl, .ref ch_s, .ref ch_t, .ref ch_f, .ref ch_p, .int 0])), (la_t, .inl (cI, 4, .inl (fun _ => 0))), (la_h, .inl (cI, 16, .inl (fun _ => 0))), (la_u, .inl (cI, 16, .inl (fun _ => 0))), (la_o, .inl (cI, 16, .inl (fun _ => 0))), (la_x, .inl (cI, 16, .inl (fun _ => 0))), (xs, .inr (6, [.ref n, .ref fo, .ref wa, .ref we])), (n, .inl (cI, 36, .inl g_nums)), (fo, .inr (2, [.ref cf, .int 1, .ref sf, .ref wf, .int 0, .int 0, .int 0, .int 0, .int 0])), (cf, .inl (cI, 80, .inl (upd (fun _ => 0) 0 (-1)))), (sf, .inl (cI, 12, .inl (fun _ => 0))), (wa, .inr (2, [.ref cg, .int 1, .ref sg, .ref wg, .int 0, .int 0, .int 0, .int 0, .int 0])), (cg, .inl (cI, 80, .inl (upd (fun _ => 0) 0 0))), (sg, .inl (cI, 12, .inl (fun _ => 0))), (we, .inr (2, [.ref ch, .int 1, .ref sh, .ref wh, .int 0, .int 0, .int 0, .int 0, .int 0])), (ch, .inl (cI, 80, .inl (upd (fun _ => 0) 0 0))), (sh, .inl (cI, 12, .inl (fun _ => 0))), (xp, .inr (5, [.ref xs, .ref ph, .int 0, .int 0, .ref pl])), (ph, .inl (cI, 96, .inl (fun _ => 1000)))] [(cI, .int)] sz (fun (r : Int32) (_ : Unit) => r = (if 0 ≤ a ∧ a ≤ 2 then ((sp_bs sp_dq 9).1) else (-2))) (fun (_ : Unit) => []) (fun (_ : Unit) => [(cI, .int)]) := by
  unfold Ki
  refine g_ofW (cc := cX11_best) (lv := [(0, .ref x0), (1, .int a)]) (by decide) rfl (Nat.le_of_ble_eq_true rfl) rfl ?_
  intro p e s m args below meth c A Q hA hQ F hr hnm
  have hts := F.2.2.2.2.1
  have w_0 : (Cond.fieldLink RX11 19 "QuietCut" "shop" "LQuietCut$Shop;").before args s = true := hts _ (List.mem_of_getElem? (i := 1) rfl)
  have i_X11 : ∀ w ∈ u_ws RX11 TX11 14, w ∈ wsX11_best := fun _ h => List.mem_cons_of_mem _ (List.mem_append_left _ (List.mem_append_left _ (List.mem_append_left _ (List.mem_append_left _ (List.mem_append_left _ (List.mem_append_right _ h))))))
  have w_1 : (Cond.fieldLink RX11 56 "QuietCut" "chooser" "LQuietCut$Chooser;").before args s = true := hts _ (List.mem_of_getElem? (i := 2) rfl)
  refine g_aload_n F 0 dX11_best_0 rfl rfl ?_
  refine g_get (C := RX11) (T := TX11) (N := 14) (v := .ref xs) F i_X11 0 rfl rfl 1 (by decide) w_0 rfl rfl dX11_best_1 ?_
  refine g_iload_n F 1 dX11_best_4 rfl rfl ?_
  refine g_callVi (k := 0) (n := 0) (b := xs) (As := [.int a]) (st := []) (wc := [(xs, .inr (6, [.ref n, .ref fo, .ref wa, .ref we])), (n, .inl (cI, 36, .inl g_nums))]) (wr := [(x0, .inr (10, [.ref xt, .ref xs, .ref xq, .ref xr, .ref xp, .ref xl, .ref xc, .ref xj, .ref xe, .ref xo, .ref pa, .int 0, .int 0, .int (-1)])), (xl, .inr (4, [.ref xs, .int 0, .int 0, .int 0, .int 0, .ref la_t, .int 0, .int 0, .ref la_h, .ref la_u, .ref la_o, .ref la_x, .int 0, .int 0, .int 0, .int 0, .int 0, .int 0, .int 0, .int 0])), (xc, .inr (0, [.ref xs, .ref xp, .ref xl, .ref ch_s, .ref ch_t, .ref ch_f, .ref ch_p, .int 0])), (la_t, .inl (cI, 4, .inl (fun _ => 0))), (la_h, .inl (cI, 16, .inl (fun _ => 0))), (la_u, .inl (cI, 16, .inl (fun _ => 0))), (la_o, .inl (cI, 16, .inl (fun _ => 0))), (la_x, .inl (cI, 16, .inl (fun _ => 0))), (fo, .inr (2, [.ref cf, .int 1, .ref sf, .ref wf, .int 0, .int 0, .int 0, .int 0, .int 0])), (cf, .inl (cI, 80, .inl (upd (fun _ => 0) 0 (-1)))), (sf, .inl (cI, 12, .inl (fun _ => 0))), (wa, .inr (2, [.ref cg, .int 1, .ref sg, .ref wg, .int 0, .int 0, .int 0, .int 0, .int 0])), (cg, .inl (cI, 80, .inl (upd (fun _ => 0) 0 0))), (sg, .inl (cI, 12, .inl (fun _ => 0))), (we, .inr (2, [.ref ch, .int 1, .ref sh, .ref wh, .int 0, .int 0, .int 0, .int 0, .int 0])), (ch, .inl (cI, 80, .inl (upd (fun _ => 0) 0 0))), (sh, .inl (cI, 12, .inl (fun _ => 0))), (xp, .inr (5, [.ref xs, .ref ph, .int 0, .int 0, .ref pl])), (ph, .inl (cI, 96, .inl (fun _ => 1000)))]) F [8, 9] [0, 1, 2, 3, 4, 5, 6, 7, 10, 11, 12, 13, 14, 15, 16, 17, 18, 19, 20] [0] rfl rfl (by decide) rfl (by decide) (by decide) rfl (fun sz => K_X7_hasRing l D xs n fo wa we cI a  sz) (cwV 1 hts gX11_best_X7_hasRing rfl rfl rfl (by decide +kernel) ⟨Nat.le_of_ble_eq_true rfl, Nat.le_of_ble_eq_true rfl⟩) rfl 0 rfl rfl (Nat.le_of_ble_eq_true rfl) ⟨Nat.le_of_ble_eq_true rfl, Nat.le_of_ble_eq_true rfl⟩ dX11_best_5 (fun r_1 _ hw_2 => ?_)
  have hw_2 : r_1 = (if 0 ≤ a ∧ a < 3 then 1 else 0) := hw_2
  have e_r_1 := hw_2
  show gG p l e (gR 7 0 0 203) s m args below meth c D A 2 Q 0 0 [(x0, .inr (10, [.ref xt, .ref xs, .ref xq, .ref xr, .ref xp, .ref xl, .ref xc, .ref xj, .ref xe, .ref xo, .ref pa, .int 0, .int 0, .int (-1)])), (xl, .inr (4, [.ref xs, .int 0, .int 0, .int 0, .int 0, .ref la_t, .int 0, .int 0, .ref la_h, .ref la_u, .ref la_o, .ref la_x, .int 0, .int 0, .int 0, .int 0, .int 0, .int 0, .int 0, .int 0])), (xc, .inr (0, [.ref xs, .ref xp, .ref xl, .ref ch_s, .ref ch_t, .ref ch_f, .ref ch_p, .int 0])), (la_t, .inl (cI, 4, .inl (fun _ => 0))), (la_h, .inl (cI, 16, .inl (fun _ => 0))), (la_u, .inl (cI, 16, .inl (fun _ => 0))), (la_o, .inl (cI, 16, .inl (fun _ => 0))), (la_x, .inl (cI, 16, .inl (fun _ => 0))), (fo, .inr (2, [.ref cf, .int 1, .ref sf, .ref wf, .int 0, .int 0, .int 0, .int 0, .int 0])), (cf, .inl (cI, 80, .inl (upd (fun _ => 0) 0 (-1)))), (sf, .inl (cI, 12, .inl (fun _ => 0))), (wa, .inr (2, [.ref cg, .int 1, .ref sg, .ref wg, .int 0, .int 0, .int 0, .int 0, .int 0])), (cg, .inl (cI, 80, .inl (upd (fun _ => 0) 0 0))), (sg, .inl (cI, 12, .inl (fun _ => 0))), (we, .inr (2, [.ref ch, .int 1, .ref sh, .ref wh, .int 0, .int 0, .int 0, .int 0, .int 0])), (ch, .inl (cI, 80, .inl (upd (fun _ => 0) 0 0))), (sh, .inl (cI, 12, .inl (fun _ => 0))), (xp, .inr (5, [.ref xs, .ref ph, .int 0, .int 0, .ref pl])), (ph, .inl (cI, 96, .inl (fun _ => 1000))), (xs, .inr (6, [.ref n, .ref fo, .ref wa, .ref we])), (n, .inl (cI, 36, .inl g_nums))] [(cI, .int)] [(0, .ref x0), (1, .int a)] 8 [.int r_1]
  refine g_fold (if 0 ≤ a ∧ a < 3 then 1 else 0) e_r_1 ?_
  refine g_if_eq F 22 dX11_best_8 (by decide) (fun c_8 => ?_) (fun c_8 => ?_)
  · have c_8 := gb_0 c_8
    refine g_bipush F (-2) dX11_best_22 (by decide) ?_
    exact g_iret F hA hQ hr () (by first | exact (gi_e (by (simp only [Int32.lt_iff_toInt_lt, Int32.le_iff_toInt_le, ← Int32.toInt_inj, Int32.reduceToInt] at c_8 ⊢; omega)) rfl)) [] [0] rfl (by decide) rfl rfl dX11_best_24
  · have c_8 := gb_n0 c_8
    refine g_aload_n F 0 dX11_best_11 rfl rfl ?_
    refine g_get (C := RX11) (T := TX11) (N := 14) (v := .ref xc) F i_X11 0 rfl rfl 6 (by decide) w_1 rfl rfl dX11_best_12 ?_
    refine g_iload_n F 1 dX11_best_15 rfl rfl ?_
    refine g_callVi (k := 0) (n := 0) (b := xc) (As := [.int a]) (st := []) (wc := [(xc, .inr (0, [.ref xs, .ref xp, .ref xl, .ref ch_s, .ref ch_t, .ref ch_f, .ref ch_p, .int 0])), (xp, .inr (5, [.ref xs, .ref ph, .int 0, .int 0, .ref pl])), (ph, .inl (cI, 96, .inl (fun _ => 1000))), (xl, .inr (4, [.ref xs, .int 0, .int 0, .int 0, .int 0, .ref la_t, .int 0, .int 0, .ref la_h, .ref la_u, .ref la_o, .ref la_x, .int 0, .int 0, .int 0, .int 0, .int 0, .int 0, .int 0, .int 0])), (la_t, .inl (cI, 4, .inl (fun _ => 0))), (la_h, .inl (cI, 16, .inl (fun _ => 0))), (la_u, .inl (cI, 16, .inl (fun _ => 0))), (la_o, .inl (cI, 16, .inl (fun _ => 0))), (la_x, .inl (cI, 16, .inl (fun _ => 0))), (xs, .inr (6, [.ref n, .ref fo, .ref wa, .ref we])), (n, .inl (cI, 36, .inl g_nums)), (fo, .inr (2, [.ref cf, .int 1, .ref sf, .ref wf, .int 0, .int 0, .int 0, .int 0, .int 0])), (cf, .inl (cI, 80, .inl (upd (fun _ => 0) 0 (-1)))), (sf, .inl (cI, 12, .inl (fun _ => 0))), (wa, .inr (2, [.ref cg, .int 1, .ref sg, .ref wg, .int 0, .int 0, .int 0, .int 0, .int 0])), (cg, .inl (cI, 80, .inl (upd (fun _ => 0) 0 0))), (sg, .inl (cI, 12, .inl (fun _ => 0))), (we, .inr (2, [.ref ch, .int 1, .ref sh, .ref wh, .int 0, .int 0, .int 0, .int 0, .int 0])), (ch, .inl (cI, 80, .inl (upd (fun _ => 0) 0 0))), (sh, .inl (cI, 12, .inl (fun _ => 0)))]) (wr := [(x0, .inr (10, [.ref xt, .ref xs, .ref xq, .ref xr, .ref xp, .ref xl, .ref xc, .ref xj, .ref xe, .ref xo, .ref pa, .int 0, .int 0, .int (-1)]))]) F [2, 17, 18, 1, 3, 4, 5, 6, 7, 19, 20, 8, 9, 10, 11, 12, 13, 14, 15, 16] [0] [0] rfl rfl (by decide) rfl (by decide) (by decide) rfl (fun sz => K_X0_bestSpeed l D xc xs xp xl ch_s ch_t ch_f ch_p ph pl cI 0 0 0 0 0 0 0 0 0 0 0 0 0 (fun _ => 0) (fun _ => 0) (fun _ => 0) (fun _ => 0) (fun _ => 0) (fun _ => 0) (fun _ => 0) (fun _ => 0) a la_t la_h la_u la_o la_x n fo wa we cf sf wf ch sh wh cg sg wg (c_8) sz) (cwV 1 hts gX11_best_X0_bestSpeed rfl rfl rfl (by decide +kernel) ⟨Nat.le_of_ble_eq_true rfl, Nat.le_of_ble_eq_true rfl⟩) rfl 0 rfl rfl (Nat.le_of_ble_eq_true rfl) ⟨Nat.le_of_ble_eq_true rfl, Nat.le_of_ble_eq_true rfl⟩ dX11_best_16 (fun r_6 _ hw_7 => ?_)
    have hw_7 : r_6 = ((sp_bs sp_dq 9).1) := hw_7
    have e_r_6 := hw_7
    show gG p l e (gR 7 0 0 203) s m args below meth c D A 2 Q 0 0 [(x0, .inr (10, [.ref xt, .ref xs, .ref xq, .ref xr, .ref xp, .ref xl, .ref xc, .ref xj, .ref xe, .ref xo, .ref pa, .int 0, .int 0, .int (-1)]))] [(cI, .int)] [(0, .ref x0), (1, .int a)] 19 [.int r_6]
    refine g_fold ((sp_bs sp_dq 9).1) e_r_6 ?_
    refine g_goto F 24 dX11_best_19 (by decide) ?_
    exact g_iret F hA hQ hr () (by first | exact (gi_p (by (simp only [Int32.lt_iff_toInt_lt, Int32.le_iff_toInt_le, ← Int32.toInt_inj, Int32.reduceToInt] at c_8 ⊢; omega)) rfl)) [] [0] rfl (by decide) rfl rfl dX11_best_24
