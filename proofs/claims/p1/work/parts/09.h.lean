/-- quiet at this speed and feed, with the shop's own turns -/
def sp_q (b f : Int32) : Bool := decide (sp_fresh b.toNatClampNeg f 4 8 2 = 0)
/-- the deepest quiet feed above a floor -/
def sp_dp (q : Int32 → Bool) (fl : Int32) : Nat → Int32
  | 0 => -1
  | j + 1 => if nI (j + 1) ≤ fl then -1 else if q (nI (j + 1)) = true then nI (j + 1) else sp_dp q fl j

theorem dX0_isQuietForAll_0 : decode cX0_isQuietForAll 0 = .ok (.aload_n 0, 1) := by decide +kernel
theorem dX0_isQuietForAll_1 : decode cX0_isQuietForAll 1 = .ok (.getfield 32, 3) := by decide +kernel
theorem dX0_isQuietForAll_4 : decode cX0_isQuietForAll 4 = .ok (.iload_n 1, 1) := by decide +kernel
theorem dX0_isQuietForAll_5 : decode cX0_isQuietForAll 5 = .ok (.iload_n 2, 1) := by decide +kernel
theorem dX0_isQuietForAll_6 : decode cX0_isQuietForAll 6 = .ok (.iload_n 3, 1) := by decide +kernel
theorem dX0_isQuietForAll_7 : decode cX0_isQuietForAll 7 = .ok (.aload_n 0, 1) := by decide +kernel
theorem dX0_isQuietForAll_8 : decode cX0_isQuietForAll 8 = .ok (.getfield 24, 3) := by decide +kernel
theorem dX0_isQuietForAll_11 : decode cX0_isQuietForAll 11 = .ok (.getfield 36, 3) := by decide +kernel
theorem dX0_isQuietForAll_14 : decode cX0_isQuietForAll 14 = .ok (.bipush 9, 2) := by decide +kernel
theorem dX0_isQuietForAll_16 : decode cX0_isQuietForAll 16 = .ok (.iaload, 1) := by decide +kernel
theorem dX0_isQuietForAll_17 : decode cX0_isQuietForAll 17 = .ok (.invokevirtual 56, 3) := by decide +kernel
theorem dX0_isQuietForAll_20 : decode cX0_isQuietForAll 20 = .ok (.ifCond .ne 5, 3) := by decide +kernel
theorem dX0_isQuietForAll_23 : decode cX0_isQuietForAll 23 = .ok (.iconst 0, 1) := by decide +kernel
theorem dX0_isQuietForAll_24 : decode cX0_isQuietForAll 24 = .ok (.ireturn, 1) := by decide +kernel
theorem dX0_isQuietForAll_25 : decode cX0_isQuietForAll 25 = .ok (.aload_n 0, 1) := by decide +kernel
theorem dX0_isQuietForAll_26 : decode cX0_isQuietForAll 26 = .ok (.getfield 24, 3) := by decide +kernel
theorem dX0_isQuietForAll_29 : decode cX0_isQuietForAll 29 = .ok (.getfield 36, 3) := by decide +kernel
theorem dX0_isQuietForAll_32 : decode cX0_isQuietForAll 32 = .ok (.iconst 3, 1) := by decide +kernel
theorem dX0_isQuietForAll_33 : decode cX0_isQuietForAll 33 = .ok (.iaload, 1) := by decide +kernel
theorem dX0_isQuietForAll_34 : decode cX0_isQuietForAll 34 = .ok (.istore 4, 2) := by decide +kernel
theorem dX0_isQuietForAll_36 : decode cX0_isQuietForAll 36 = .ok (.iload 4, 2) := by decide +kernel
theorem dX0_isQuietForAll_38 : decode cX0_isQuietForAll 38 = .ok (.aload_n 0, 1) := by decide +kernel
theorem dX0_isQuietForAll_39 : decode cX0_isQuietForAll 39 = .ok (.getfield 24, 3) := by decide +kernel
theorem dX0_isQuietForAll_42 : decode cX0_isQuietForAll 42 = .ok (.getfield 36, 3) := by decide +kernel
theorem dX0_isQuietForAll_45 : decode cX0_isQuietForAll 45 = .ok (.iconst 4, 1) := by decide +kernel
theorem dX0_isQuietForAll_46 : decode cX0_isQuietForAll 46 = .ok (.iaload, 1) := by decide +kernel
theorem dX0_isQuietForAll_47 : decode cX0_isQuietForAll 47 = .ok (.if_icmp .gt 71, 3) := by decide +kernel
theorem dX0_isQuietForAll_50 : decode cX0_isQuietForAll 50 = .ok (.aload_n 0, 1) := by decide +kernel
theorem dX0_isQuietForAll_51 : decode cX0_isQuietForAll 51 = .ok (.getfield 24, 3) := by decide +kernel
theorem dX0_isQuietForAll_54 : decode cX0_isQuietForAll 54 = .ok (.getfield 36, 3) := by decide +kernel
theorem dX0_isQuietForAll_57 : decode cX0_isQuietForAll 57 = .ok (.iconst 5, 1) := by decide +kernel
theorem dX0_isQuietForAll_58 : decode cX0_isQuietForAll 58 = .ok (.iaload, 1) := by decide +kernel
theorem dX0_isQuietForAll_59 : decode cX0_isQuietForAll 59 = .ok (.istore 5, 2) := by decide +kernel
theorem dX0_isQuietForAll_61 : decode cX0_isQuietForAll 61 = .ok (.iload 5, 2) := by decide +kernel
theorem dX0_isQuietForAll_63 : decode cX0_isQuietForAll 63 = .ok (.aload_n 0, 1) := by decide +kernel
theorem dX0_isQuietForAll_64 : decode cX0_isQuietForAll 64 = .ok (.getfield 24, 3) := by decide +kernel
theorem dX0_isQuietForAll_67 : decode cX0_isQuietForAll 67 = .ok (.getfield 36, 3) := by decide +kernel
theorem dX0_isQuietForAll_70 : decode cX0_isQuietForAll 70 = .ok (.bipush 6, 2) := by decide +kernel
theorem dX0_isQuietForAll_72 : decode cX0_isQuietForAll 72 = .ok (.iaload, 1) := by decide +kernel
theorem dX0_isQuietForAll_73 : decode cX0_isQuietForAll 73 = .ok (.if_icmp .gt 39, 3) := by decide +kernel
theorem dX0_isQuietForAll_76 : decode cX0_isQuietForAll 76 = .ok (.aload_n 0, 1) := by decide +kernel
theorem dX0_isQuietForAll_77 : decode cX0_isQuietForAll 77 = .ok (.getfield 32, 3) := by decide +kernel
theorem dX0_isQuietForAll_80 : decode cX0_isQuietForAll 80 = .ok (.aload_n 0, 1) := by decide +kernel
theorem dX0_isQuietForAll_81 : decode cX0_isQuietForAll 81 = .ok (.getfield 28, 3) := by decide +kernel
theorem dX0_isQuietForAll_84 : decode cX0_isQuietForAll 84 = .ok (.getfield 41, 3) := by decide +kernel
theorem dX0_isQuietForAll_87 : decode cX0_isQuietForAll 87 = .ok (.aload_n 0, 1) := by decide +kernel
theorem dX0_isQuietForAll_88 : decode cX0_isQuietForAll 88 = .ok (.getfield 28, 3) := by decide +kernel
theorem dX0_isQuietForAll_91 : decode cX0_isQuietForAll 91 = .ok (.getfield 46, 3) := by decide +kernel
theorem dX0_isQuietForAll_94 : decode cX0_isQuietForAll 94 = .ok (.iload 4, 2) := by decide +kernel
theorem dX0_isQuietForAll_96 : decode cX0_isQuietForAll 96 = .ok (.iload 5, 2) := by decide +kernel
theorem dX0_isQuietForAll_98 : decode cX0_isQuietForAll 98 = .ok (.invokevirtual 50, 3) := by decide +kernel
theorem dX0_isQuietForAll_101 : decode cX0_isQuietForAll 101 = .ok (.ifCond .eq 5, 3) := by decide +kernel
theorem dX0_isQuietForAll_104 : decode cX0_isQuietForAll 104 = .ok (.iconst 0, 1) := by decide +kernel
theorem dX0_isQuietForAll_105 : decode cX0_isQuietForAll 105 = .ok (.ireturn, 1) := by decide +kernel
theorem dX0_isQuietForAll_106 : decode cX0_isQuietForAll 106 = .ok (.iinc 5 1, 3) := by decide +kernel
theorem dX0_isQuietForAll_109 : decode cX0_isQuietForAll 109 = .ok (.goto (-48), 3) := by decide +kernel
theorem dX0_isQuietForAll_112 : decode cX0_isQuietForAll 112 = .ok (.iinc 4 1, 3) := by decide +kernel
theorem dX0_isQuietForAll_115 : decode cX0_isQuietForAll 115 = .ok (.goto (-79), 3) := by decide +kernel
theorem dX0_isQuietForAll_118 : decode cX0_isQuietForAll 118 = .ok (.iconst 1, 1) := by decide +kernel
theorem dX0_isQuietForAll_119 : decode cX0_isQuietForAll 119 = .ok (.ireturn, 1) := by decide +kernel
set_option maxRecDepth 20000 in
theorem ggX0_isQuietForAll_X5_run : GoodIn wsX0_isQuietForAll wsX5_run := goodIn_r _ [26, 16, 27, 12, 28, 29, 30, 31, 32, 14, 15, 33, 34, 13, 35, 17, 18, 19, 20, 21, 22, 36, 37, 38, 39, 40, 41, 10, 42, 43, 44, 45, 46, 47, 48, 49, 50, 51, 52, 53, 54, 55, 56, 57, 58, 59, 60, 61, 62, 63, 64, 65, 66, 67, 68, 69, 70, 71, 72, 73, 74, 75, 76, 77, 78, 79, 80, 81, 82, 83, 84, 85, 86, 87, 88, 89, 90, 91, 92, 93, 94, 95, 96, 97, 98, 99, 100, 101, 102, 103, 104, 105, 106, 107, 108, 109, 110, 111, 112, 113, 114, 115, 116, 117, 118, 136, 137, 138, 139, 140, 141, 142, 143, 144, 145, 146, 147, 148, 149, 150, 151, 152, 153, 154, 155, 127, 128, 129, 130, 156, 157, 158, 159, 160, 161, 162, 163, 164] rfl (by decide +kernel)
set_option maxRecDepth 20000 in
theorem gX0_isQuietForAll_X5_run : GoodIn wsX0_isQuietForAll (wsV RX0 50 RX5 yX5_run wsX5_run) := goodIn_app (goodIn_of _ (by decide +kernel)) ggX0_isQuietForAll_X5_run
set_option maxRecDepth 20000 in
theorem ggX0_isQuietForAll_X5_takes : GoodIn wsX0_isQuietForAll wsX5_takes := goodIn_r _ [11, 12, 13, 14, 15, 16, 17, 18, 19, 20, 21, 22, 136, 137, 138, 139, 140, 141, 142, 143, 144, 145, 146, 147, 148, 149, 150, 151, 152, 153, 154, 155, 127, 128, 129, 130] rfl (by decide +kernel)
set_option maxRecDepth 20000 in
theorem gX0_isQuietForAll_X5_takes : GoodIn wsX0_isQuietForAll (wsV RX0 56 RX5 yX5_takes wsX5_takes) := goodIn_app (goodIn_of _ (by decide +kernel)) ggX0_isQuietForAll_X5_takes
set_option maxHeartbeats 4000000 in
set_option maxRecDepth 100000 in
theorem K_X0_isQuietForAll (l : Launch) (D : va_G) (xc : Nat) (xs : Nat) (xp : Nat) (xl : Nat) (ch_s : Nat) (ch_t : Nat) (ch_f : Nat) (ch_p : Nat) (la_t : Nat) (la_h : Nat) (la_u : Nat) (la_o : Nat) (la_x : Nat) (n : Nat) (fo : Nat) (wa : Nat) (we : Nat) (cf : Nat) (sf : Nat) (wf : Nat) (ch : Nat) (sh : Nat) (wh : Nat) (cg : Nat) (sg : Nat) (wg : Nat) (ph : Nat) (pl : Nat) (cI : ClassId) (l_ring : Int32) (l_speed : Int32) (l_feed : Int32) (l_turns : Int32) (l_teethMany : Int32) (l_wear : Int32) (l_x : Int32) (l_v : Int32) (l_wave : Int32) (l_time : Int32) (l_out : Int32) (l_farthest : Int32) (l_begun : Int32) (k_t : Nat → Int32) (k_h : Nat → Int32) (k_u : Nat → Int32) (k_o : Nat → Int32) (k_x : Nat → Int32) (k_1 : Nat → Int32) (k_2 : Nat → Int32) (k_3 : Nat → Int32) (a : Int32) (b : Int32) (d : Int32) (sz : Nat) : Ki l yX0_isQuietForAll wsX0_isQuietForAll 4 126 0 0 D [.ref xc, .int a, .int b, .int d] [(xc, .inr (0, [.ref xs, .ref xp, .ref xl, .ref ch_s, .ref ch_t, .ref ch_f, .ref ch_p, .int 0])), (xp, .inr (5, [.ref xs, .ref ph, .int 0, .int 0, .ref pl])), (ph, .inl (cI, 96, .inl (fun _ => 1000))), (xl, .inr (4, [.ref xs, .int l_ring, .int l_speed, .int l_feed, .int l_turns, .ref la_t, .int 0, .int l_teethMany, .ref la_h, .ref la_u, .ref la_o, .ref la_x, .int l_wear, .int l_x, .int l_v, .int l_wave, .int l_time, .int l_out, .int l_farthest, .int l_begun])), (la_t, .inl (cI, 4, .inl k_t)), (la_h, .inl (cI, 16, .inl k_h)), (la_u, .inl (cI, 16, .inl k_u)), (la_o, .inl (cI, 16, .inl k_o)), (la_x, .inl (cI, 16, .inl k_x)), (xs, .inr (6, [.ref n, .ref fo, .ref wa, .ref we])), (n, .inl (cI, 36, .inl g_nums)), (fo, .inr (2, [.ref cf, .int 1, .ref sf, .ref wf, .int 0, .int 0, .int 0, .int 0, .int 0])), (cf, .inl (cI, 80, .inl (upd (fun _ => 0) 0 (-1)))), (sf, .inl (cI, 12, .inl k_1)), (wa, .inr (2, [.ref cg, .int 1, .ref sg, .ref wg, .int 0, .int 0, .int 0, .int 0, .int 0])), (cg, .inl (cI, 80, .inl (upd (fun _ => 0) 0 0))), (sg, .inl (cI, 12, .inl k_2)), (we, .inr (2, [.ref ch, .int 1, .ref sh, .ref wh, .int 0, .int 0, .int 0, .int 0, .int 0])), (ch, .inl (cI, 80, .inl (upd (fun _ => 0) 0 0))), (sh, .inl (cI, 12, .inl k_3))] [(cI, .int)] sz (fun (r : Int32) (u : Int32 × Int32 × Int32 × Int32 × Int32 × Int32 × Int32 × Int32 × Int32 × Int32 × Int32 × Int32 × Int32 × (Nat → Int32) × (Nat → Int32) × (Nat → Int32) × (Nat → Int32) × (Nat → Int32) × (Nat → Int32) × (Nat → Int32) × (Nat → Int32)) => r = (if (0 ≤ a ∧ a < 3 ∧ 1 ≤ b ∧ b ≤ 9 ∧ 1 ≤ d ∧ d ≤ 20) ∧ sp_q b d = true then 1 else 0)) (fun (u : Int32 × Int32 × Int32 × Int32 × Int32 × Int32 × Int32 × Int32 × Int32 × Int32 × Int32 × Int32 × Int32 × (Nat → Int32) × (Nat → Int32) × (Nat → Int32) × (Nat → Int32) × (Nat → Int32) × (Nat → Int32) × (Nat → Int32) × (Nat → Int32)) => [(xc, .inr (0, [.ref xs, .ref xp, .ref xl, .ref ch_s, .ref ch_t, .ref ch_f, .ref ch_p, .int 0])), (xp, .inr (5, [.ref xs, .ref ph, .int 0, .int 0, .ref pl])), (ph, .inl (cI, 96, .inl (fun _ => 1000))), (xl, .inr (4, [.ref xs, .int u.1, .int u.2.1, .int u.2.2.1, .int u.2.2.2.1, .ref la_t, .int 0, .int u.2.2.2.2.1, .ref la_h, .ref la_u, .ref la_o, .ref la_x, .int u.2.2.2.2.2.1, .int u.2.2.2.2.2.2.1, .int u.2.2.2.2.2.2.2.1, .int u.2.2.2.2.2.2.2.2.1, .int u.2.2.2.2.2.2.2.2.2.1, .int u.2.2.2.2.2.2.2.2.2.2.1, .int u.2.2.2.2.2.2.2.2.2.2.2.1, .int u.2.2.2.2.2.2.2.2.2.2.2.2.1])), (la_t, .inl (cI, 4, .inl u.2.2.2.2.2.2.2.2.2.2.2.2.2.1)), (la_h, .inl (cI, 16, .inl u.2.2.2.2.2.2.2.2.2.2.2.2.2.2.1)), (la_u, .inl (cI, 16, .inl u.2.2.2.2.2.2.2.2.2.2.2.2.2.2.2.1)), (la_o, .inl (cI, 16, .inl u.2.2.2.2.2.2.2.2.2.2.2.2.2.2.2.2.1)), (la_x, .inl (cI, 16, .inl u.2.2.2.2.2.2.2.2.2.2.2.2.2.2.2.2.2.1)), (xs, .inr (6, [.ref n, .ref fo, .ref wa, .ref we])), (n, .inl (cI, 36, .inl g_nums)), (fo, .inr (2, [.ref cf, .int 1, .ref sf, .ref wf, .int 0, .int 0, .int 0, .int 0, .int 0])), (cf, .inl (cI, 80, .inl (upd (fun _ => 0) 0 (-1)))), (sf, .inl (cI, 12, .inl u.2.2.2.2.2.2.2.2.2.2.2.2.2.2.2.2.2.2.1)), (wa, .inr (2, [.ref cg, .int 1, .ref sg, .ref wg, .int 0, .int 0, .int 0, .int 0, .int 0])), (cg, .inl (cI, 80, .inl (upd (fun _ => 0) 0 0))), (sg, .inl (cI, 12, .inl u.2.2.2.2.2.2.2.2.2.2.2.2.2.2.2.2.2.2.2.1)), (we, .inr (2, [.ref ch, .int 1, .ref sh, .ref wh, .int 0, .int 0, .int 0, .int 0, .int 0])), (ch, .inl (cI, 80, .inl (upd (fun _ => 0) 0 0))), (sh, .inl (cI, 12, .inl u.2.2.2.2.2.2.2.2.2.2.2.2.2.2.2.2.2.2.2.2))]) (fun (_ : Int32 × Int32 × Int32 × Int32 × Int32 × Int32 × Int32 × Int32 × Int32 × Int32 × Int32 × Int32 × Int32 × (Nat → Int32) × (Nat → Int32) × (Nat → Int32) × (Nat → Int32) × (Nat → Int32) × (Nat → Int32) × (Nat → Int32) × (Nat → Int32)) => [(cI, .int)]) := by
  unfold Ki
  refine g_ofW (cc := cX0_isQuietForAll) (lv := [(0, .ref xc), (1, .int a), (2, .int b), (3, .int d)]) (by decide) rfl (Nat.le_of_ble_eq_true rfl) rfl ?_
  intro p e s m args below meth c A Q hA hQ F hr hnm
  have hts := F.2.2.2.2.1
  have w_0 : (Cond.fieldLink RX0 32 "QuietCut$Chooser" "lathe" "LQuietCut$Lathe;").before args s = true := hts _ (List.mem_of_getElem? (i := 1) rfl)
  have i_X0 : ∀ w ∈ u_ws RX0 TX0 8, w ∈ wsX0_isQuietForAll := fun _ h => List.mem_cons_of_mem _ (List.mem_append_left _ (List.mem_append_left _ (List.mem_append_left _ (List.mem_append_left _ (List.mem_append_right _ h)))))
  have w_1 : (Cond.fieldLink RX0 24 "QuietCut$Chooser" "shop" "LQuietCut$Shop;").before args s = true := hts _ (List.mem_of_getElem? (i := 2) rfl)
  have w_2 : (Cond.fieldLink RX0 36 "QuietCut$Shop" "numbers" "[I").before args s = true := hts _ (List.mem_of_getElem? (i := 3) rfl)
  have i_X7 : ∀ w ∈ u_ws RX7 TX7 4, w ∈ wsX0_isQuietForAll := fun _ h => List.mem_cons_of_mem _ (List.mem_append_left _ (List.mem_append_left _ (List.mem_append_left _ (List.mem_append_right _ h))))
  have w_3 : (Cond.fieldLink RX0 28 "QuietCut$Chooser" "piece" "LQuietCut$Piece;").before args s = true := hts _ (List.mem_of_getElem? (i := 4) rfl)
  have w_4 : (Cond.fieldLink RX0 41 "QuietCut$Piece" "heights" "[I").before args s = true := hts _ (List.mem_of_getElem? (i := 5) rfl)
  have i_X6 : ∀ w ∈ u_ws RX6 TX6 5, w ∈ wsX0_isQuietForAll := fun _ h => List.mem_cons_of_mem _ (List.mem_append_left _ (List.mem_append_left _ (List.mem_append_right _ h)))
  have w_5 : (Cond.fieldLink RX0 46 "QuietCut$Piece" "wear" "I").before args s = true := hts _ (List.mem_of_getElem? (i := 6) rfl)
  refine g_aload_n F 0 dX0_isQuietForAll_0 rfl rfl ?_
  refine g_get (C := RX0) (T := TX0) (N := 8) (v := .ref xl) F i_X0 0 rfl rfl 2 (by decide) w_0 rfl rfl dX0_isQuietForAll_1 ?_
  refine g_iload_n F 1 dX0_isQuietForAll_4 rfl rfl ?_
  refine g_iload_n F 2 dX0_isQuietForAll_5 rfl rfl ?_
  refine g_iload_n F 3 dX0_isQuietForAll_6 rfl rfl ?_
  refine g_aload_n F 0 dX0_isQuietForAll_7 rfl rfl ?_
  refine g_get (C := RX0) (T := TX0) (N := 8) (v := .ref xs) F i_X0 0 rfl rfl 0 (by decide) w_1 rfl rfl dX0_isQuietForAll_8 ?_
  refine g_get (C := RX7) (T := TX7) (N := 4) (v := .ref n) F i_X7 9 rfl rfl 0 (by decide) w_2 rfl rfl dX0_isQuietForAll_11 ?_
  refine g_bipush F 9 dX0_isQuietForAll_14 (by decide) ?_
  refine g_iald F 10 0 rfl rfl (by unfold vp_in; decide) dX0_isQuietForAll_16 ?_
  refine g_fold 4 (by rfl) ?_
  refine g_callVi (k := 0) (n := 0) (b := xl) (As := [.int a, .int b, .int d, .int 4]) (st := []) (wc := [(xl, .inr (4, [.ref xs, .int l_ring, .int l_speed, .int l_feed, .int l_turns, .ref la_t, .int 0, .int l_teethMany, .ref la_h, .ref la_u, .ref la_o, .ref la_x, .int l_wear, .int l_x, .int l_v, .int l_wave, .int l_time, .int l_out, .int l_farthest, .int l_begun])), (xs, .inr (6, [.ref n, .ref fo, .ref wa, .ref we])), (n, .inl (cI, 36, .inl g_nums))]) (wr := [(xc, .inr (0, [.ref xs, .ref xp, .ref xl, .ref ch_s, .ref ch_t, .ref ch_f, .ref ch_p, .int 0])), (xp, .inr (5, [.ref xs, .ref ph, .int 0, .int 0, .ref pl])), (ph, .inl (cI, 96, .inl (fun _ => 1000))), (la_t, .inl (cI, 4, .inl k_t)), (la_h, .inl (cI, 16, .inl k_h)), (la_u, .inl (cI, 16, .inl k_u)), (la_o, .inl (cI, 16, .inl k_o)), (la_x, .inl (cI, 16, .inl k_x)), (fo, .inr (2, [.ref cf, .int 1, .ref sf, .ref wf, .int 0, .int 0, .int 0, .int 0, .int 0])), (cf, .inl (cI, 80, .inl (upd (fun _ => 0) 0 (-1)))), (sf, .inl (cI, 12, .inl k_1)), (wa, .inr (2, [.ref cg, .int 1, .ref sg, .ref wg, .int 0, .int 0, .int 0, .int 0, .int 0])), (cg, .inl (cI, 80, .inl (upd (fun _ => 0) 0 0))), (sg, .inl (cI, 12, .inl k_2)), (we, .inr (2, [.ref ch, .int 1, .ref sh, .ref wh, .int 0, .int 0, .int 0, .int 0, .int 0])), (ch, .inl (cI, 80, .inl (upd (fun _ => 0) 0 0))), (sh, .inl (cI, 12, .inl k_3))]) F [3, 9, 10] [0, 1, 2, 4, 5, 6, 7, 8, 11, 12, 13, 14, 15, 16, 17, 18, 19] [0] rfl rfl (by decide) rfl (by decide) (by decide) rfl (fun sz => K_X5_takes l D xl xs la_t la_h la_u la_o la_x n fo wa we cI l_ring l_speed l_feed l_turns 0 l_teethMany l_wear l_x l_v l_wave l_time l_out l_farthest l_begun a b d 4  sz) (cwV 4 hts gX0_isQuietForAll_X5_takes rfl rfl rfl (by decide +kernel) ⟨Nat.le_of_ble_eq_true rfl, Nat.le_of_ble_eq_true rfl⟩) rfl 0 rfl rfl (Nat.le_of_ble_eq_true rfl) ⟨Nat.le_of_ble_eq_true rfl, Nat.le_of_ble_eq_true rfl⟩ dX0_isQuietForAll_17 (fun r_1 _ hw_2 => ?_)
  have hw_2 : r_1 = (if 0 ≤ a ∧ a < 3 ∧ 1 ≤ b ∧ b ≤ 9 ∧ 1 ≤ d ∧ d ≤ 20 ∧ 1 ≤ (4 : Int32) ∧ (4 : Int32) ≤ 12 then 1 else 0) := hw_2
  have e_r_1 := hw_2
  show gG p l e (gR 4 0 0 126) s m args below meth c D A 6 Q 0 0 [(xc, .inr (0, [.ref xs, .ref xp, .ref xl, .ref ch_s, .ref ch_t, .ref ch_f, .ref ch_p, .int 0])), (xp, .inr (5, [.ref xs, .ref ph, .int 0, .int 0, .ref pl])), (ph, .inl (cI, 96, .inl (fun _ => 1000))), (la_t, .inl (cI, 4, .inl k_t)), (la_h, .inl (cI, 16, .inl k_h)), (la_u, .inl (cI, 16, .inl k_u)), (la_o, .inl (cI, 16, .inl k_o)), (la_x, .inl (cI, 16, .inl k_x)), (fo, .inr (2, [.ref cf, .int 1, .ref sf, .ref wf, .int 0, .int 0, .int 0, .int 0, .int 0])), (cf, .inl (cI, 80, .inl (upd (fun _ => 0) 0 (-1)))), (sf, .inl (cI, 12, .inl k_1)), (wa, .inr (2, [.ref cg, .int 1, .ref sg, .ref wg, .int 0, .int 0, .int 0, .int 0, .int 0])), (cg, .inl (cI, 80, .inl (upd (fun _ => 0) 0 0))), (sg, .inl (cI, 12, .inl k_2)), (we, .inr (2, [.ref ch, .int 1, .ref sh, .ref wh, .int 0, .int 0, .int 0, .int 0, .int 0])), (ch, .inl (cI, 80, .inl (upd (fun _ => 0) 0 0))), (sh, .inl (cI, 12, .inl k_3)), (xl, .inr (4, [.ref xs, .int a, .int b, .int d, .int 4, .ref la_t, .int 0, .int l_teethMany, .ref la_h, .ref la_u, .ref la_o, .ref la_x, .int l_wear, .int l_x, .int l_v, .int l_wave, .int l_time, .int l_out, .int l_farthest, .int l_begun])), (xs, .inr (6, [.ref n, .ref fo, .ref wa, .ref we])), (n, .inl (cI, 36, .inl g_nums))] [(cI, .int)] [(0, .ref xc), (1, .int a), (2, .int b), (3, .int d)] 20 [.int r_1]
  refine g_fold (if 0 ≤ a ∧ a < 3 ∧ 1 ≤ b ∧ b ≤ 9 ∧ 1 ≤ d ∧ d ≤ 20 ∧ 1 ≤ (4 : Int32) ∧ (4 : Int32) ≤ 12 then 1 else 0) e_r_1 ?_
  refine g_if_ne F 25 dX0_isQuietForAll_20 (by decide) (fun c_20 => ?_) (fun c_20 => ?_)
  · have c_20 := gb_n0 c_20
    refine g_aload_n F 0 dX0_isQuietForAll_25 rfl rfl ?_
    refine g_get (C := RX0) (T := TX0) (N := 8) (v := .ref xs) F i_X0 0 rfl rfl 0 (by decide) w_1 rfl rfl dX0_isQuietForAll_26 ?_
    refine g_get (C := RX7) (T := TX7) (N := 4) (v := .ref n) F i_X7 18 rfl rfl 0 (by decide) w_2 rfl rfl dX0_isQuietForAll_29 ?_
    refine g_iconst F 3 dX0_isQuietForAll_32 (by decide) ?_
    refine g_iald F 19 0 rfl rfl (by unfold vp_in; decide) dX0_isQuietForAll_33 ?_
    refine g_fold 8 (by rfl) ?_
    refine g_istore F [(4, .int 8), (0, .ref xc), (1, .int a), (2, .int b), (3, .int d)] dX0_isQuietForAll_34 (by decide) rfl ?_
    refine g_iload F 0 dX0_isQuietForAll_36 rfl ?_
    refine g_aload_n F 1 dX0_isQuietForAll_38 rfl rfl ?_
    refine g_get (C := RX0) (T := TX0) (N := 8) (v := .ref xs) F i_X0 0 rfl rfl 0 (by decide) w_1 rfl rfl dX0_isQuietForAll_39 ?_
    refine g_get (C := RX7) (T := TX7) (N := 4) (v := .ref n) F i_X7 18 rfl rfl 0 (by decide) w_2 rfl rfl dX0_isQuietForAll_42 ?_
    refine g_iconst F 4 dX0_isQuietForAll_45 (by decide) ?_
    refine g_iald F 19 0 rfl rfl (by unfold vp_in; decide) dX0_isQuietForAll_46 ?_
    refine g_fold 8 (by rfl) ?_
    refine g_icmp_gt F 118 dX0_isQuietForAll_47 (by decide) (fun h9 => absurd h9 (by decide)) (fun c_47 => ?_)
    refine g_aload_n F 1 dX0_isQuietForAll_50 rfl rfl ?_
    refine g_get (C := RX0) (T := TX0) (N := 8) (v := .ref xs) F i_X0 0 rfl rfl 0 (by decide) w_1 rfl rfl dX0_isQuietForAll_51 ?_
    refine g_get (C := RX7) (T := TX7) (N := 4) (v := .ref n) F i_X7 18 rfl rfl 0 (by decide) w_2 rfl rfl dX0_isQuietForAll_54 ?_
    refine g_iconst F 5 dX0_isQuietForAll_57 (by decide) ?_
    refine g_iald F 19 0 rfl rfl (by unfold vp_in; decide) dX0_isQuietForAll_58 ?_
    refine g_fold 2 (by rfl) ?_
    refine g_istore F [(5, .int 2), (4, .int 8), (0, .ref xc), (1, .int a), (2, .int b), (3, .int d)] dX0_isQuietForAll_59 (by decide) rfl ?_
    refine g_iload F 0 dX0_isQuietForAll_61 rfl ?_
    refine g_aload_n F 2 dX0_isQuietForAll_63 rfl rfl ?_
    refine g_get (C := RX0) (T := TX0) (N := 8) (v := .ref xs) F i_X0 0 rfl rfl 0 (by decide) w_1 rfl rfl dX0_isQuietForAll_64 ?_
    refine g_get (C := RX7) (T := TX7) (N := 4) (v := .ref n) F i_X7 18 rfl rfl 0 (by decide) w_2 rfl rfl dX0_isQuietForAll_67 ?_
    refine g_bipush F 6 dX0_isQuietForAll_70 (by decide) ?_
    refine g_iald F 19 0 rfl rfl (by unfold vp_in; decide) dX0_isQuietForAll_72 ?_
    refine g_fold 2 (by rfl) ?_
    refine g_icmp_gt F 112 dX0_isQuietForAll_73 (by decide) (fun h9 => absurd h9 (by decide)) (fun c_73 => ?_)
    refine g_aload_n F 2 dX0_isQuietForAll_76 rfl rfl ?_
    refine g_get (C := RX0) (T := TX0) (N := 8) (v := .ref xl) F i_X0 0 rfl rfl 2 (by decide) w_0 rfl rfl dX0_isQuietForAll_77 ?_
    refine g_aload_n F 2 dX0_isQuietForAll_80 rfl rfl ?_
    refine g_get (C := RX0) (T := TX0) (N := 8) (v := .ref xp) F i_X0 0 rfl rfl 1 (by decide) w_3 rfl rfl dX0_isQuietForAll_81 ?_
    refine g_get (C := RX6) (T := TX6) (N := 5) (v := .ref ph) F i_X6 1 rfl rfl 1 (by decide) w_4 rfl rfl dX0_isQuietForAll_84 ?_
    refine g_aload_n F 2 dX0_isQuietForAll_87 rfl rfl ?_
    refine g_get (C := RX0) (T := TX0) (N := 8) (v := .ref xp) F i_X0 0 rfl rfl 1 (by decide) w_3 rfl rfl dX0_isQuietForAll_88 ?_
    refine g_get (C := RX6) (T := TX6) (N := 5) (v := .int 0) F i_X6 1 rfl rfl 2 (by decide) w_5 rfl rfl dX0_isQuietForAll_91 ?_
    refine g_iload F 1 dX0_isQuietForAll_94 rfl ?_
    refine g_iload F 0 dX0_isQuietForAll_96 rfl ?_
    refine g_callVi (k := 0) (n := 0) (b := xl) (As := [.ref ph, .int 0, .int 8, .int 2]) (st := []) (wc := [(xl, .inr (4, [.ref xs, .int a, .int b, .int d, .int 4, .ref la_t, .int 0, .int l_teethMany, .ref la_h, .ref la_u, .ref la_o, .ref la_x, .int l_wear, .int l_x, .int l_v, .int l_wave, .int l_time, .int l_out, .int l_farthest, .int l_begun])), (la_t, .inl (cI, 4, .inl k_t)), (la_h, .inl (cI, 16, .inl k_h)), (la_u, .inl (cI, 16, .inl k_u)), (la_o, .inl (cI, 16, .inl k_o)), (la_x, .inl (cI, 16, .inl k_x)), (xs, .inr (6, [.ref n, .ref fo, .ref wa, .ref we])), (n, .inl (cI, 36, .inl g_nums)), (fo, .inr (2, [.ref cf, .int 1, .ref sf, .ref wf, .int 0, .int 0, .int 0, .int 0, .int 0])), (cf, .inl (cI, 80, .inl (upd (fun _ => 0) 0 (-1)))), (sf, .inl (cI, 12, .inl k_1)), (wa, .inr (2, [.ref cg, .int 1, .ref sg, .ref wg, .int 0, .int 0, .int 0, .int 0, .int 0])), (cg, .inl (cI, 80, .inl (upd (fun _ => 0) 0 0))), (sg, .inl (cI, 12, .inl k_2)), (we, .inr (2, [.ref ch, .int 1, .ref sh, .ref wh, .int 0, .int 0, .int 0, .int 0, .int 0])), (ch, .inl (cI, 80, .inl (upd (fun _ => 0) 0 0))), (sh, .inl (cI, 12, .inl k_3)), (ph, .inl (cI, 96, .inl (fun _ => 1000)))]) (wr := [(xc, .inr (0, [.ref xs, .ref xp, .ref xl, .ref ch_s, .ref ch_t, .ref ch_f, .ref ch_p, .int 0])), (xp, .inr (5, [.ref xs, .ref ph, .int 0, .int 0, .ref pl]))]) F [17, 3, 4, 5, 6, 7, 18, 19, 8, 9, 10, 11, 12, 13, 14, 15, 16, 2] [0, 1] [0] rfl rfl (by decide) rfl (by decide) (by decide) rfl (fun sz => K_X5_run0 l D xl xs la_t la_h la_u la_o la_x n fo wa we cf sf wf ch sh wh cg sg wg ph cI a b d 4 l_teethMany l_wear l_x l_v l_wave l_time l_out l_farthest l_begun k_t k_h k_u k_o k_x k_1 k_2 k_3 (fun _ => 1000) 8 2 a.toNatClampNeg b.toNatClampNeg 4 ((tk_all c_20).1) ((tk_all c_20).2.1) ((tk_all c_20).2.2.1) ((tk_all c_20).2.2.2.1) ((tk_all c_20).2.2.2.2.1) ((tk_all c_20).2.2.2.2.2.1) (rfl) (by decide) (fun _ _ => ⟨by decide, by decide⟩) (by decide) (by decide) (by decide) (by decide) sz) (cwV 4 hts gX0_isQuietForAll_X5_run rfl rfl rfl (by decide +kernel) ⟨Nat.le_of_ble_eq_true rfl, Nat.le_of_ble_eq_true rfl⟩) rfl 0 rfl rfl (Nat.le_of_ble_eq_true rfl) ⟨Nat.le_of_ble_eq_true rfl, Nat.le_of_ble_eq_true rfl⟩ dX0_isQuietForAll_98 (fun r_6 u_5 hw_7 => ?_)
    obtain ⟨z_teethMany_8, z_wear_8, z_x_8, z_v_8, z_wave_8, z_time_8, z_out_8, z_farthest_8, z_begun_8, gt_8, gh_8, gu_8, gq_8, gx_8, g1_8, g2_8, g3_8⟩ := u_5
    have hw_7 : (r_6 = (if ((sp_most (fun s => (fun _ => 1000) (16 * a.toNatClampNeg + s)) 7) - (d * (4 : Int32))) < 1 then (-4) else (sp_ver (sp_pass (sp_most (fun s => (fun _ => 1000) (16 * a.toNatClampNeg + s)) 7) d b.toNatClampNeg (8 : Int32) (2 : Int32) (fun _ => 0) 1 (fun s => (fun _ => 1000) (16 * a.toNatClampNeg + s)) (8 * 4))))) ∧ (¬ (((sp_most (fun s => (fun _ => 1000) (16 * a.toNatClampNeg + s)) 7) - (d * (4 : Int32))) < 1) → ∀ j, j < 8 → gh_8 j = ((sp_pass (sp_most (fun s => (fun _ => 1000) (16 * a.toNatClampNeg + s)) 7) d b.toNatClampNeg (8 : Int32) (2 : Int32) (fun _ => 0) 1 (fun s => (fun _ => 1000) (16 * a.toNatClampNeg + s)) (8 * 4))).1 j) ∧ (¬ (((sp_most (fun s => (fun _ => 1000) (16 * a.toNatClampNeg + s)) 7) - (d * (4 : Int32))) < 1) → z_wear_8 = 0) := hw_7
    obtain ⟨e_r_6, hp0_9, hp1_9⟩ := hw_7
    show gG p l e (gR 4 0 0 126) s m args below meth c D A 6 Q 0 0 [(xc, .inr (0, [.ref xs, .ref xp, .ref xl, .ref ch_s, .ref ch_t, .ref ch_f, .ref ch_p, .int 0])), (xp, .inr (5, [.ref xs, .ref ph, .int 0, .int 0, .ref pl])), (xl, .inr (4, [.ref xs, .int a, .int b, .int d, .int 4, .ref la_t, .int 0, .int z_teethMany_8, .ref la_h, .ref la_u, .ref la_o, .ref la_x, .int z_wear_8, .int z_x_8, .int z_v_8, .int z_wave_8, .int z_time_8, .int z_out_8, .int z_farthest_8, .int z_begun_8])), (la_t, .inl (cI, 4, .inl gt_8)), (la_h, .inl (cI, 16, .inl gh_8)), (la_u, .inl (cI, 16, .inl gu_8)), (la_o, .inl (cI, 16, .inl gq_8)), (la_x, .inl (cI, 16, .inl gx_8)), (xs, .inr (6, [.ref n, .ref fo, .ref wa, .ref we])), (n, .inl (cI, 36, .inl g_nums)), (fo, .inr (2, [.ref cf, .int 1, .ref sf, .ref wf, .int 0, .int 0, .int 0, .int 0, .int 0])), (cf, .inl (cI, 80, .inl (upd (fun _ => 0) 0 (-1)))), (sf, .inl (cI, 12, .inl g1_8)), (wa, .inr (2, [.ref cg, .int 1, .ref sg, .ref wg, .int 0, .int 0, .int 0, .int 0, .int 0])), (cg, .inl (cI, 80, .inl (upd (fun _ => 0) 0 0))), (sg, .inl (cI, 12, .inl g2_8)), (we, .inr (2, [.ref ch, .int 1, .ref sh, .ref wh, .int 0, .int 0, .int 0, .int 0, .int 0])), (ch, .inl (cI, 80, .inl (upd (fun _ => 0) 0 0))), (sh, .inl (cI, 12, .inl g3_8)), (ph, .inl (cI, 96, .inl (fun _ => 1000)))] [(cI, .int)] [(5, .int 2), (4, .int 8), (0, .ref xc), (1, .int a), (2, .int b), (3, .int d)] 101 [.int r_6]
    refine g_fold (if ((sp_most (fun s => (fun _ => 1000) (16 * a.toNatClampNeg + s)) 7) - (d * (4 : Int32))) < 1 then (-4) else (sp_ver (sp_pass (sp_most (fun s => (fun _ => 1000) (16 * a.toNatClampNeg + s)) 7) d b.toNatClampNeg (8 : Int32) (2 : Int32) (fun _ => 0) 1 (fun s => (fun _ => 1000) (16 * a.toNatClampNeg + s)) (8 * 4)))) e_r_6 ?_
    refine g_fold (sp_fresh b.toNatClampNeg d 4 8 2) (run_fresh (rr := 0) (tk_all c_20).2.2.2.2.1 (tk_all c_20).2.2.2.2.2.1 rfl (by decide)) ?_
    refine g_if_eq F 106 dX0_isQuietForAll_101 (by decide) (fun c_101 => ?_) (fun c_101 => ?_)
    · refine g_iinc F (j := 0) 3 [(5, .int 3), (4, .int 8), (0, .ref xc), (1, .int a), (2, .int b), (3, .int d)] dX0_isQuietForAll_106 rfl (by decide) (by decide) rfl ?_
      refine g_goto F 61 dX0_isQuietForAll_109 (by decide) ?_
      refine g_iload F 0 dX0_isQuietForAll_61 rfl ?_
      refine g_aload_n F 2 dX0_isQuietForAll_63 rfl rfl ?_
      refine g_get (C := RX0) (T := TX0) (N := 8) (v := .ref xs) F i_X0 0 rfl rfl 0 (by decide) w_1 rfl rfl dX0_isQuietForAll_64 ?_
      refine g_get (C := RX7) (T := TX7) (N := 4) (v := .ref n) F i_X7 8 rfl rfl 0 (by decide) w_2 rfl rfl dX0_isQuietForAll_67 ?_
      refine g_bipush F 6 dX0_isQuietForAll_70 (by decide) ?_
      refine g_iald F 9 0 rfl rfl (by unfold vp_in; decide) dX0_isQuietForAll_72 ?_
      refine g_fold 2 (by rfl) ?_
      refine g_icmp_gt F 112 dX0_isQuietForAll_73 (by decide) (fun c_73 => ?_) (fun h9 => absurd (by decide) h9) 
      refine g_iinc F (j := 1) 9 [(4, .int 9), (5, .int 3), (0, .ref xc), (1, .int a), (2, .int b), (3, .int d)] dX0_isQuietForAll_112 rfl (by decide) (by decide) rfl ?_
      refine g_goto F 36 dX0_isQuietForAll_115 (by decide) ?_
      refine g_iload F 0 dX0_isQuietForAll_36 rfl ?_
      refine g_aload_n F 2 dX0_isQuietForAll_38 rfl rfl ?_
      refine g_get (C := RX0) (T := TX0) (N := 8) (v := .ref xs) F i_X0 0 rfl rfl 0 (by decide) w_1 rfl rfl dX0_isQuietForAll_39 ?_
      refine g_get (C := RX7) (T := TX7) (N := 4) (v := .ref n) F i_X7 8 rfl rfl 0 (by decide) w_2 rfl rfl dX0_isQuietForAll_42 ?_
      refine g_iconst F 4 dX0_isQuietForAll_45 (by decide) ?_
      refine g_iald F 9 0 rfl rfl (by unfold vp_in; decide) dX0_isQuietForAll_46 ?_
      refine g_fold 8 (by rfl) ?_
      refine g_icmp_gt F 118 dX0_isQuietForAll_47 (by decide) (fun c_47 => ?_) (fun h9 => absurd (by decide) h9) 
      refine g_iconst F 1 dX0_isQuietForAll_118 (by decide) ?_
      exact g_zret F hA hQ hr rfl (a, b, d, 4, z_teethMany_8, z_wear_8, z_x_8, z_v_8, z_wave_8, z_time_8, z_out_8, z_farthest_8, z_begun_8, gt_8, gh_8, gu_8, gq_8, gx_8, g1_8, g2_8, g3_8) (gb_t ⟨⟨c_20.1, c_20.2.1, c_20.2.2.1, c_20.2.2.2.1, c_20.2.2.2.2.1, c_20.2.2.2.2.2.1⟩, decide_eq_true c_101⟩) [0, 1, 19, 2, 3, 4, 5, 6, 7, 8, 9, 10, 11, 12, 13, 14, 15, 16, 17, 18] [0] rfl (by decide) rfl rfl dX0_isQuietForAll_119
    · refine g_iconst F 0 dX0_isQuietForAll_104 (by decide) ?_
      exact g_zret F hA hQ hr rfl (a, b, d, 4, z_teethMany_8, z_wear_8, z_x_8, z_v_8, z_wave_8, z_time_8, z_out_8, z_farthest_8, z_begun_8, gt_8, gh_8, gu_8, gq_8, gx_8, g1_8, g2_8, g3_8) (gb_f (fun h9 => c_101 (of_decide_eq_true h9.2))) [0, 1, 19, 2, 3, 4, 5, 6, 7, 8, 9, 10, 11, 12, 13, 14, 15, 16, 17, 18] [0] rfl (by decide) rfl rfl dX0_isQuietForAll_105
  · have c_20 := gb_0 c_20
    refine g_iconst F 0 dX0_isQuietForAll_23 (by decide) ?_
    exact g_zret F hA hQ hr rfl (a, b, d, 4, l_teethMany, l_wear, l_x, l_v, l_wave, l_time, l_out, l_farthest, l_begun, k_t, k_h, k_u, k_o, k_x, k_1, k_2, k_3) (gb_f (fun h9 => c_20 ⟨h9.1.1, h9.1.2.1, h9.1.2.2.1, h9.1.2.2.2.1, h9.1.2.2.2.2.1, h9.1.2.2.2.2.2, by decide, by decide⟩)) [0, 1, 2, 17, 3, 4, 5, 6, 7, 18, 19, 8, 9, 10, 11, 12, 13, 14, 15, 16] [0] rfl (by decide) rfl rfl dX0_isQuietForAll_24

theorem sp_dp1 {q : Int32 → Bool} {fl : Int32} {j : Nat} (h1 : ¬ nI (j + 1) ≤ fl) (h2 : ¬ q (nI (j + 1)) = true) : sp_dp q fl (j + 1) = sp_dp q fl j := by
  show (if nI (j + 1) ≤ fl then -1 else if q (nI (j + 1)) = true then nI (j + 1) else sp_dp q fl j) = _
  rw [if_neg h1, if_neg h2]
theorem sp_dp2 {q : Int32 → Bool} {fl : Int32} {j : Nat} (h1 : ¬ nI (j + 1) ≤ fl) (h2 : q (nI (j + 1)) = true) : sp_dp q fl (j + 1) = nI (j + 1) := by
  show (if nI (j + 1) ≤ fl then -1 else if q (nI (j + 1)) = true then nI (j + 1) else sp_dp q fl j) = _
  rw [if_neg h1, if_pos h2]
theorem sp_dp3 {q : Int32 → Bool} {fl : Int32} {j : Nat} (h1 : nI (j + 1) ≤ fl) : sp_dp q fl (j + 1) = -1 := by
  show (if nI (j + 1) ≤ fl then -1 else if q (nI (j + 1)) = true then nI (j + 1) else sp_dp q fl j) = _
  rw [if_pos h1]
theorem gi_fd {j : Nat} (h : j + 1 ≤ 20) : 1 ≤ nI (j + 1) ∧ nI (j + 1) ≤ 20 := ⟨nI_le (a := 1) (by omega) (by omega), nI_le (b := 20) h (by decide)⟩

theorem dX0_deepestFeed_0 : decode cX0_deepestFeed 0 = .ok (.bipush 20, 2) := by decide +kernel
theorem dX0_deepestFeed_2 : decode cX0_deepestFeed 2 = .ok (.istore 4, 2) := by decide +kernel
theorem dX0_deepestFeed_4 : decode cX0_deepestFeed 4 = .ok (.iload 4, 2) := by decide +kernel
theorem dX0_deepestFeed_6 : decode cX0_deepestFeed 6 = .ok (.iload_n 3, 1) := by decide +kernel
theorem dX0_deepestFeed_7 : decode cX0_deepestFeed 7 = .ok (.if_icmp .le 28, 3) := by decide +kernel
theorem dX0_deepestFeed_10 : decode cX0_deepestFeed 10 = .ok (.iload 4, 2) := by decide +kernel
theorem dX0_deepestFeed_12 : decode cX0_deepestFeed 12 = .ok (.ifCond .le 23, 3) := by decide +kernel
theorem dX0_deepestFeed_15 : decode cX0_deepestFeed 15 = .ok (.aload_n 0, 1) := by decide +kernel
theorem dX0_deepestFeed_16 : decode cX0_deepestFeed 16 = .ok (.iload_n 1, 1) := by decide +kernel
theorem dX0_deepestFeed_17 : decode cX0_deepestFeed 17 = .ok (.iload_n 2, 1) := by decide +kernel
theorem dX0_deepestFeed_18 : decode cX0_deepestFeed 18 = .ok (.iload 4, 2) := by decide +kernel
theorem dX0_deepestFeed_20 : decode cX0_deepestFeed 20 = .ok (.invokevirtual 60, 3) := by decide +kernel
theorem dX0_deepestFeed_23 : decode cX0_deepestFeed 23 = .ok (.ifCond .eq 6, 3) := by decide +kernel
theorem dX0_deepestFeed_26 : decode cX0_deepestFeed 26 = .ok (.iload 4, 2) := by decide +kernel
theorem dX0_deepestFeed_28 : decode cX0_deepestFeed 28 = .ok (.ireturn, 1) := by decide +kernel
theorem dX0_deepestFeed_29 : decode cX0_deepestFeed 29 = .ok (.iinc 4 (-1), 3) := by decide +kernel
theorem dX0_deepestFeed_32 : decode cX0_deepestFeed 32 = .ok (.goto (-28), 3) := by decide +kernel
theorem dX0_deepestFeed_35 : decode cX0_deepestFeed 35 = .ok (.iconst (-1), 1) := by decide +kernel
theorem dX0_deepestFeed_36 : decode cX0_deepestFeed 36 = .ok (.ireturn, 1) := by decide +kernel
set_option maxRecDepth 20000 in
theorem ggX0_deepestFeed_X0_isQuietForAll : GoodIn wsX0_deepestFeed wsX0_isQuietForAll := goodIn_r _ [5, 6, 7, 8, 9, 10, 11, 12, 13, 14, 15, 16, 17, 18, 19, 20, 21, 22, 23, 24, 25, 26, 27, 28, 29, 30, 31, 32, 33, 34, 35, 36, 37, 38, 39, 40, 41, 42, 43, 44, 45, 46, 47, 48, 49, 50, 51, 52, 53, 54, 55, 56, 57, 58, 59, 60, 61, 62, 63, 64, 65, 66, 67, 68, 69, 70, 71, 72, 73, 74, 75, 76, 77, 78, 79, 80, 81, 82, 83, 84, 85, 86, 87, 88, 89, 90, 91, 92, 93, 94, 95, 96, 97, 98, 99, 100, 101, 102, 103, 104, 105, 106, 107, 108, 109, 110, 111, 112, 113, 114, 115, 116, 117, 118, 119, 120, 121, 122, 123, 124, 125, 126, 127, 128, 129, 130, 131, 132, 133, 134, 135, 136, 137, 138, 139, 140, 141, 142, 143, 144, 145, 146, 147, 148, 149, 150, 151, 152, 153, 154, 155, 156, 157, 158, 159, 160, 161, 162, 163, 164, 165, 166, 167, 168, 169] rfl (by decide +kernel)
set_option maxRecDepth 20000 in
theorem gX0_deepestFeed_X0_isQuietForAll : GoodIn wsX0_deepestFeed (wsV RX0 60 RX0 yX0_isQuietForAll wsX0_isQuietForAll) := goodIn_app (goodIn_of _ (by decide +kernel)) ggX0_deepestFeed_X0_isQuietForAll
set_option maxHeartbeats 4000000 in
set_option maxRecDepth 100000 in
theorem K_X0_deepestFeed (l : Launch) (D : va_G) (xc : Nat) (xs : Nat) (xp : Nat) (xl : Nat) (ch_s : Nat) (ch_t : Nat) (ch_f : Nat) (ch_p : Nat) (la_t : Nat) (la_h : Nat) (la_u : Nat) (la_o : Nat) (la_x : Nat) (n : Nat) (fo : Nat) (wa : Nat) (we : Nat) (cf : Nat) (sf : Nat) (wf : Nat) (ch : Nat) (sh : Nat) (wh : Nat) (cg : Nat) (sg : Nat) (wg : Nat) (ph : Nat) (pl : Nat) (cI : ClassId) (l_ring : Int32) (l_speed : Int32) (l_feed : Int32) (l_turns : Int32) (l_teethMany : Int32) (l_wear : Int32) (l_x : Int32) (l_v : Int32) (l_wave : Int32) (l_time : Int32) (l_out : Int32) (l_farthest : Int32) (l_begun : Int32) (k_t : Nat → Int32) (k_h : Nat → Int32) (k_u : Nat → Int32) (k_o : Nat → Int32) (k_x : Nat → Int32) (k_1 : Nat → Int32) (k_2 : Nat → Int32) (k_3 : Nat → Int32) (a : Int32) (b : Int32) (fl : Int32) (hab : 0 ≤ a ∧ a < 3 ∧ 1 ≤ b ∧ b ≤ 9) (sz : Nat) : Ki l yX0_deepestFeed wsX0_deepestFeed 5 151 0 0 D [.ref xc, .int a, .int b, .int fl] [(xc, .inr (0, [.ref xs, .ref xp, .ref xl, .ref ch_s, .ref ch_t, .ref ch_f, .ref ch_p, .int 0])), (xp, .inr (5, [.ref xs, .ref ph, .int 0, .int 0, .ref pl])), (ph, .inl (cI, 96, .inl (fun _ => 1000))), (xl, .inr (4, [.ref xs, .int l_ring, .int l_speed, .int l_feed, .int l_turns, .ref la_t, .int 0, .int l_teethMany, .ref la_h, .ref la_u, .ref la_o, .ref la_x, .int l_wear, .int l_x, .int l_v, .int l_wave, .int l_time, .int l_out, .int l_farthest, .int l_begun])), (la_t, .inl (cI, 4, .inl k_t)), (la_h, .inl (cI, 16, .inl k_h)), (la_u, .inl (cI, 16, .inl k_u)), (la_o, .inl (cI, 16, .inl k_o)), (la_x, .inl (cI, 16, .inl k_x)), (xs, .inr (6, [.ref n, .ref fo, .ref wa, .ref we])), (n, .inl (cI, 36, .inl g_nums)), (fo, .inr (2, [.ref cf, .int 1, .ref sf, .ref wf, .int 0, .int 0, .int 0, .int 0, .int 0])), (cf, .inl (cI, 80, .inl (upd (fun _ => 0) 0 (-1)))), (sf, .inl (cI, 12, .inl k_1)), (wa, .inr (2, [.ref cg, .int 1, .ref sg, .ref wg, .int 0, .int 0, .int 0, .int 0, .int 0])), (cg, .inl (cI, 80, .inl (upd (fun _ => 0) 0 0))), (sg, .inl (cI, 12, .inl k_2)), (we, .inr (2, [.ref ch, .int 1, .ref sh, .ref wh, .int 0, .int 0, .int 0, .int 0, .int 0])), (ch, .inl (cI, 80, .inl (upd (fun _ => 0) 0 0))), (sh, .inl (cI, 12, .inl k_3))] [(cI, .int)] sz (fun (r : Int32) (u : Int32 × Int32 × Int32 × Int32 × Int32 × Int32 × Int32 × Int32 × Int32 × Int32 × Int32 × Int32 × Int32 × (Nat → Int32) × (Nat → Int32) × (Nat → Int32) × (Nat → Int32) × (Nat → Int32) × (Nat → Int32) × (Nat → Int32) × (Nat → Int32)) => r = (sp_dp (sp_q b) fl 20)) (fun (u : Int32 × Int32 × Int32 × Int32 × Int32 × Int32 × Int32 × Int32 × Int32 × Int32 × Int32 × Int32 × Int32 × (Nat → Int32) × (Nat → Int32) × (Nat → Int32) × (Nat → Int32) × (Nat → Int32) × (Nat → Int32) × (Nat → Int32) × (Nat → Int32)) => [(xc, .inr (0, [.ref xs, .ref xp, .ref xl, .ref ch_s, .ref ch_t, .ref ch_f, .ref ch_p, .int 0])), (xp, .inr (5, [.ref xs, .ref ph, .int 0, .int 0, .ref pl])), (ph, .inl (cI, 96, .inl (fun _ => 1000))), (xl, .inr (4, [.ref xs, .int u.1, .int u.2.1, .int u.2.2.1, .int u.2.2.2.1, .ref la_t, .int 0, .int u.2.2.2.2.1, .ref la_h, .ref la_u, .ref la_o, .ref la_x, .int u.2.2.2.2.2.1, .int u.2.2.2.2.2.2.1, .int u.2.2.2.2.2.2.2.1, .int u.2.2.2.2.2.2.2.2.1, .int u.2.2.2.2.2.2.2.2.2.1, .int u.2.2.2.2.2.2.2.2.2.2.1, .int u.2.2.2.2.2.2.2.2.2.2.2.1, .int u.2.2.2.2.2.2.2.2.2.2.2.2.1])), (la_t, .inl (cI, 4, .inl u.2.2.2.2.2.2.2.2.2.2.2.2.2.1)), (la_h, .inl (cI, 16, .inl u.2.2.2.2.2.2.2.2.2.2.2.2.2.2.1)), (la_u, .inl (cI, 16, .inl u.2.2.2.2.2.2.2.2.2.2.2.2.2.2.2.1)), (la_o, .inl (cI, 16, .inl u.2.2.2.2.2.2.2.2.2.2.2.2.2.2.2.2.1)), (la_x, .inl (cI, 16, .inl u.2.2.2.2.2.2.2.2.2.2.2.2.2.2.2.2.2.1)), (xs, .inr (6, [.ref n, .ref fo, .ref wa, .ref we])), (n, .inl (cI, 36, .inl g_nums)), (fo, .inr (2, [.ref cf, .int 1, .ref sf, .ref wf, .int 0, .int 0, .int 0, .int 0, .int 0])), (cf, .inl (cI, 80, .inl (upd (fun _ => 0) 0 (-1)))), (sf, .inl (cI, 12, .inl u.2.2.2.2.2.2.2.2.2.2.2.2.2.2.2.2.2.2.1)), (wa, .inr (2, [.ref cg, .int 1, .ref sg, .ref wg, .int 0, .int 0, .int 0, .int 0, .int 0])), (cg, .inl (cI, 80, .inl (upd (fun _ => 0) 0 0))), (sg, .inl (cI, 12, .inl u.2.2.2.2.2.2.2.2.2.2.2.2.2.2.2.2.2.2.2.1)), (we, .inr (2, [.ref ch, .int 1, .ref sh, .ref wh, .int 0, .int 0, .int 0, .int 0, .int 0])), (ch, .inl (cI, 80, .inl (upd (fun _ => 0) 0 0))), (sh, .inl (cI, 12, .inl u.2.2.2.2.2.2.2.2.2.2.2.2.2.2.2.2.2.2.2.2))]) (fun (_ : Int32 × Int32 × Int32 × Int32 × Int32 × Int32 × Int32 × Int32 × Int32 × Int32 × Int32 × Int32 × Int32 × (Nat → Int32) × (Nat → Int32) × (Nat → Int32) × (Nat → Int32) × (Nat → Int32) × (Nat → Int32) × (Nat → Int32) × (Nat → Int32)) => [(cI, .int)]) := by
  unfold Ki
  refine g_ofW (cc := cX0_deepestFeed) (lv := [(0, .ref xc), (1, .int a), (2, .int b), (3, .int fl)]) (by decide) rfl (Nat.le_of_ble_eq_true rfl) rfl ?_
  intro p e s m args below meth c A Q hA hQ F hr hnm
  have hts := F.2.2.2.2.1
  refine g_bipush F 20 dX0_deepestFeed_0 (by decide) ?_
  refine g_istore F [(4, .int 20), (0, .ref xc), (1, .int a), (2, .int b), (3, .int fl)] dX0_deepestFeed_2 (by decide) rfl ?_
  refine g_locals [(0, .ref xc), (1, .int a), (2, .int b), (3, .int fl), (4, .int 20)] [1, 2, 3, 4, 0] rfl ?_
  have loop_4 : ∀ (fuel : Nat) (j : Nat) (y_ring : Int32) (y_speed : Int32) (y_feed : Int32) (y_turns : Int32) (y_teethMany : Int32) (y_wear : Int32) (y_x : Int32) (y_v : Int32) (y_wave : Int32) (y_time : Int32) (y_out : Int32) (y_farthest : Int32) (y_begun : Int32) (y_t : Nat → Int32) (y_h : Nat → Int32) (y_u : Nat → Int32) (y_o : Nat → Int32) (y_x2 : Nat → Int32) (y_1 : Nat → Int32) (y_2 : Nat → Int32) (y_3 : Nat → Int32), j < fuel → (j ≤ 20) → (sp_dp (sp_q b) fl 20 = sp_dp (sp_q b) fl j) → gG p l e (gR 5 0 0 151) s m args below meth c D A 5 Q 0 0 [(xc, .inr (0, [.ref xs, .ref xp, .ref xl, .ref ch_s, .ref ch_t, .ref ch_f, .ref ch_p, .int 0])), (xp, .inr (5, [.ref xs, .ref ph, .int 0, .int 0, .ref pl])), (ph, .inl (cI, 96, .inl (fun _ => 1000))), (xl, .inr (4, [.ref xs, .int y_ring, .int y_speed, .int y_feed, .int y_turns, .ref la_t, .int 0, .int y_teethMany, .ref la_h, .ref la_u, .ref la_o, .ref la_x, .int y_wear, .int y_x, .int y_v, .int y_wave, .int y_time, .int y_out, .int y_farthest, .int y_begun])), (la_t, .inl (cI, 4, .inl y_t)), (la_h, .inl (cI, 16, .inl y_h)), (la_u, .inl (cI, 16, .inl y_u)), (la_o, .inl (cI, 16, .inl y_o)), (la_x, .inl (cI, 16, .inl y_x2)), (xs, .inr (6, [.ref n, .ref fo, .ref wa, .ref we])), (n, .inl (cI, 36, .inl g_nums)), (fo, .inr (2, [.ref cf, .int 1, .ref sf, .ref wf, .int 0, .int 0, .int 0, .int 0, .int 0])), (cf, .inl (cI, 80, .inl (upd (fun _ => 0) 0 (-1)))), (sf, .inl (cI, 12, .inl y_1)), (wa, .inr (2, [.ref cg, .int 1, .ref sg, .ref wg, .int 0, .int 0, .int 0, .int 0, .int 0])), (cg, .inl (cI, 80, .inl (upd (fun _ => 0) 0 0))), (sg, .inl (cI, 12, .inl y_2)), (we, .inr (2, [.ref ch, .int 1, .ref sh, .ref wh, .int 0, .int 0, .int 0, .int 0, .int 0])), (ch, .inl (cI, 80, .inl (upd (fun _ => 0) 0 0))), (sh, .inl (cI, 12, .inl y_3))] [(cI, .int)] [(0, .ref xc), (1, .int a), (2, .int b), (3, .int fl), (4, .int (nI j))] 4 [] := by
    intro fuel_4
    induction fuel_4 with
    | zero => intro j y_ring y_speed y_feed y_turns y_teethMany y_wear y_x y_v y_wave y_time y_out y_farthest y_begun y_t y_h y_u y_o y_x2 y_1 y_2 y_3 hm; exact absurd hm (Nat.not_lt_zero _)
    | succ fuel_4 ih_4 =>
      intro j y_ring y_speed y_feed y_turns y_teethMany y_wear y_x y_v y_wave y_time y_out y_farthest y_begun y_t y_h y_u y_o y_x2 y_1 y_2 y_3 hm4 hj0 hd
      refine g_iload F 4 dX0_deepestFeed_4 rfl ?_
      refine g_iload_n F 3 dX0_deepestFeed_6 rfl rfl ?_
      refine g_icmp_le F 35 dX0_deepestFeed_7 (by decide) (fun c_7 => ?_) (fun c_7 => ?_)
      · refine g_iconst F (-1) dX0_deepestFeed_35 (by decide) ?_
        exact g_iret F hA hQ hr (y_ring, y_speed, y_feed, y_turns, y_teethMany, y_wear, y_x, y_v, y_wave, y_time, y_out, y_farthest, y_begun, y_t, y_h, y_u, y_o, y_x2, y_1, y_2, y_3) (by
      rcases Nat.eq_zero_or_pos j with h0 | hp
      · rw [hd, h0]; rfl
      · obtain ⟨j2, rfl⟩ : ∃ j2, j = j2 + 1 := ⟨j - 1, by omega⟩
        rw [hd]
        exact (sp_dp3 c_7).symm) [0, 1, 2, 3, 4, 5, 6, 7, 8, 9, 10, 11, 12, 13, 14, 15, 16, 17, 18, 19] [0] rfl (by decide) rfl rfl dX0_deepestFeed_36
      · refine g_iload F 4 dX0_deepestFeed_10 rfl ?_
        refine g_if_le F 35 dX0_deepestFeed_12 (by decide) (fun c_12 => ?_) (fun c_12 => ?_)
        · refine g_iconst F (-1) dX0_deepestFeed_35 (by decide) ?_
          exact g_iret F hA hQ hr (y_ring, y_speed, y_feed, y_turns, y_teethMany, y_wear, y_x, y_v, y_wave, y_time, y_out, y_farthest, y_begun, y_t, y_h, y_u, y_o, y_x2, y_1, y_2, y_3) (by
      rcases Nat.eq_zero_or_pos j with h0 | hp
      · rw [hd, h0]; rfl
      · exact absurd c_12 (nI_nle hp (by omega))) [0, 1, 2, 3, 4, 5, 6, 7, 8, 9, 10, 11, 12, 13, 14, 15, 16, 17, 18, 19] [0] rfl (by decide) rfl rfl dX0_deepestFeed_36
        · obtain ⟨j2, rfl⟩ : ∃ j2, j = j2 + 1 := ⟨j - 1, by have : j ≠ 0 := (fun h => c_12 (by rw [h]; decide)); omega⟩
          refine g_aload_n F 0 dX0_deepestFeed_15 rfl rfl ?_
          refine g_iload_n F 1 dX0_deepestFeed_16 rfl rfl ?_
          refine g_iload_n F 2 dX0_deepestFeed_17 rfl rfl ?_
          refine g_iload F 4 dX0_deepestFeed_18 rfl ?_
          refine g_callVi (k := 0) (n := 0) (b := xc) (As := [.int a, .int b, .int (nI (j2 + 1))]) (st := []) (wc := [(xc, .inr (0, [.ref xs, .ref xp, .ref xl, .ref ch_s, .ref ch_t, .ref ch_f, .ref ch_p, .int 0])), (xp, .inr (5, [.ref xs, .ref ph, .int 0, .int 0, .ref pl])), (ph, .inl (cI, 96, .inl (fun _ => 1000))), (xl, .inr (4, [.ref xs, .int y_ring, .int y_speed, .int y_feed, .int y_turns, .ref la_t, .int 0, .int y_teethMany, .ref la_h, .ref la_u, .ref la_o, .ref la_x, .int y_wear, .int y_x, .int y_v, .int y_wave, .int y_time, .int y_out, .int y_farthest, .int y_begun])), (la_t, .inl (cI, 4, .inl y_t)), (la_h, .inl (cI, 16, .inl y_h)), (la_u, .inl (cI, 16, .inl y_u)), (la_o, .inl (cI, 16, .inl y_o)), (la_x, .inl (cI, 16, .inl y_x2)), (xs, .inr (6, [.ref n, .ref fo, .ref wa, .ref we])), (n, .inl (cI, 36, .inl g_nums)), (fo, .inr (2, [.ref cf, .int 1, .ref sf, .ref wf, .int 0, .int 0, .int 0, .int 0, .int 0])), (cf, .inl (cI, 80, .inl (upd (fun _ => 0) 0 (-1)))), (sf, .inl (cI, 12, .inl y_1)), (wa, .inr (2, [.ref cg, .int 1, .ref sg, .ref wg, .int 0, .int 0, .int 0, .int 0, .int 0])), (cg, .inl (cI, 80, .inl (upd (fun _ => 0) 0 0))), (sg, .inl (cI, 12, .inl y_2)), (we, .inr (2, [.ref ch, .int 1, .ref sh, .ref wh, .int 0, .int 0, .int 0, .int 0, .int 0])), (ch, .inl (cI, 80, .inl (upd (fun _ => 0) 0 0))), (sh, .inl (cI, 12, .inl y_3))]) (wr := []) F [0, 1, 2, 3, 4, 5, 6, 7, 8, 9, 10, 11, 12, 13, 14, 15, 16, 17, 18, 19] [] [0] rfl rfl (by decide) rfl (by decide) (by decide) rfl (fun sz => K_X0_isQuietForAll l D xc xs xp xl ch_s ch_t ch_f ch_p la_t la_h la_u la_o la_x n fo wa we cf sf wf ch sh wh cg sg wg ph pl cI y_ring y_speed y_feed y_turns y_teethMany y_wear y_x y_v y_wave y_time y_out y_farthest y_begun y_t y_h y_u y_o y_x2 y_1 y_2 y_3 a b (nI (j2 + 1))  sz) (cwV 3 hts gX0_deepestFeed_X0_isQuietForAll rfl rfl rfl (by decide +kernel) ⟨Nat.le_of_ble_eq_true rfl, Nat.le_of_ble_eq_true rfl⟩) rfl 0 rfl rfl (Nat.le_of_ble_eq_true rfl) ⟨Nat.le_of_ble_eq_true rfl, Nat.le_of_ble_eq_true rfl⟩ dX0_deepestFeed_20 (fun r_1 u_0 hw_2 => ?_)
          obtain ⟨z_ring_3, z_speed_3, z_feed_3, z_turns_3, z_teethMany_3, z_wear_3, z_x_3, z_v_3, z_wave_3, z_time_3, z_out_3, z_farthest_3, z_begun_3, g_t_3, g_h_3, g_u_3, g_o_3, g_x_3, g_1_3, g_2_3, g_3_3⟩ := u_0
          have hw_2 : r_1 = (if (0 ≤ a ∧ a < 3 ∧ 1 ≤ b ∧ b ≤ 9 ∧ 1 ≤ (nI (j2 + 1)) ∧ (nI (j2 + 1)) ≤ 20) ∧ sp_q b (nI (j2 + 1)) = true then 1 else 0) := hw_2
          have e_r_1 := hw_2
          show gG p l e (gR 5 0 0 151) s m args below meth c D A 5 Q 0 0 [(xc, .inr (0, [.ref xs, .ref xp, .ref xl, .ref ch_s, .ref ch_t, .ref ch_f, .ref ch_p, .int 0])), (xp, .inr (5, [.ref xs, .ref ph, .int 0, .int 0, .ref pl])), (ph, .inl (cI, 96, .inl (fun _ => 1000))), (xl, .inr (4, [.ref xs, .int z_ring_3, .int z_speed_3, .int z_feed_3, .int z_turns_3, .ref la_t, .int 0, .int z_teethMany_3, .ref la_h, .ref la_u, .ref la_o, .ref la_x, .int z_wear_3, .int z_x_3, .int z_v_3, .int z_wave_3, .int z_time_3, .int z_out_3, .int z_farthest_3, .int z_begun_3])), (la_t, .inl (cI, 4, .inl g_t_3)), (la_h, .inl (cI, 16, .inl g_h_3)), (la_u, .inl (cI, 16, .inl g_u_3)), (la_o, .inl (cI, 16, .inl g_o_3)), (la_x, .inl (cI, 16, .inl g_x_3)), (xs, .inr (6, [.ref n, .ref fo, .ref wa, .ref we])), (n, .inl (cI, 36, .inl g_nums)), (fo, .inr (2, [.ref cf, .int 1, .ref sf, .ref wf, .int 0, .int 0, .int 0, .int 0, .int 0])), (cf, .inl (cI, 80, .inl (upd (fun _ => 0) 0 (-1)))), (sf, .inl (cI, 12, .inl g_1_3)), (wa, .inr (2, [.ref cg, .int 1, .ref sg, .ref wg, .int 0, .int 0, .int 0, .int 0, .int 0])), (cg, .inl (cI, 80, .inl (upd (fun _ => 0) 0 0))), (sg, .inl (cI, 12, .inl g_2_3)), (we, .inr (2, [.ref ch, .int 1, .ref sh, .ref wh, .int 0, .int 0, .int 0, .int 0, .int 0])), (ch, .inl (cI, 80, .inl (upd (fun _ => 0) 0 0))), (sh, .inl (cI, 12, .inl g_3_3))] [(cI, .int)] [(0, .ref xc), (1, .int a), (2, .int b), (3, .int fl), (4, .int (nI (j2 + 1)))] 23 [.int r_1]
          refine g_fold (if (0 ≤ a ∧ a < 3 ∧ 1 ≤ b ∧ b ≤ 9 ∧ 1 ≤ (nI (j2 + 1)) ∧ (nI (j2 + 1)) ≤ 20) ∧ sp_q b (nI (j2 + 1)) = true then 1 else 0) e_r_1 ?_
          refine g_if_eq F 29 dX0_deepestFeed_23 (by decide) (fun c_23 => ?_) (fun c_23 => ?_)
          · have c_23 := gb_0 c_23
            refine g_iinc F (j := 4) (nI j2) [(4, .int (nI j2)), (0, .ref xc), (1, .int a), (2, .int b), (3, .int fl)] dX0_deepestFeed_29 rfl (pk_m1 j2) (by decide) rfl ?_
            refine g_goto F 4 dX0_deepestFeed_32 (by decide) ?_
            refine g_locals [(0, .ref xc), (1, .int a), (2, .int b), (3, .int fl), (4, .int (nI j2))] [1, 2, 3, 4, 0] rfl ?_
            exact ih_4 j2 z_ring_3 z_speed_3 z_feed_3 z_turns_3 z_teethMany_3 z_wear_3 z_x_3 z_v_3 z_wave_3 z_time_3 z_out_3 z_farthest_3 z_begun_3 g_t_3 g_h_3 g_u_3 g_o_3 g_x_3 g_1_3 g_2_3 g_3_3 (by omega) (by omega) (hd.trans (sp_dp1 c_7 (fun h9 => c_23 ⟨⟨hab.1, hab.2.1, hab.2.2.1, hab.2.2.2, (gi_fd hj0).1, (gi_fd hj0).2⟩, h9⟩)))
          · have c_23 := gb_n0 c_23
            refine g_iload F 4 dX0_deepestFeed_26 rfl ?_
            exact g_iret F hA hQ hr (z_ring_3, z_speed_3, z_feed_3, z_turns_3, z_teethMany_3, z_wear_3, z_x_3, z_v_3, z_wave_3, z_time_3, z_out_3, z_farthest_3, z_begun_3, g_t_3, g_h_3, g_u_3, g_o_3, g_x_3, g_1_3, g_2_3, g_3_3) ((hd.trans (sp_dp2 c_7 c_23.2)).symm) [0, 1, 2, 3, 4, 5, 6, 7, 8, 9, 10, 11, 12, 13, 14, 15, 16, 17, 18, 19] [0] rfl (by decide) rfl rfl dX0_deepestFeed_28
  exact loop_4 (_ + 1) 20 l_ring l_speed l_feed l_turns l_teethMany l_wear l_x l_v l_wave l_time l_out l_farthest l_begun k_t k_h k_u k_o k_x k_1 k_2 k_3 (Nat.lt_succ_self _) (Nat.le_refl _) (rfl)

theorem dX11_deepest_0 : decode cX11_deepest 0 = .ok (.aload_n 0, 1) := by decide +kernel
theorem dX11_deepest_1 : decode cX11_deepest 1 = .ok (.getfield 47, 3) := by decide +kernel
theorem dX11_deepest_4 : decode cX11_deepest 4 = .ok (.iload_n 1, 1) := by decide +kernel
theorem dX11_deepest_5 : decode cX11_deepest 5 = .ok (.iload_n 2, 1) := by decide +kernel
theorem dX11_deepest_6 : decode cX11_deepest 6 = .ok (.iconst 1, 1) := by decide +kernel
theorem dX11_deepest_7 : decode cX11_deepest 7 = .ok (.iconst 1, 1) := by decide +kernel
theorem dX11_deepest_8 : decode cX11_deepest 8 = .ok (.invokevirtual 164, 3) := by decide +kernel
theorem dX11_deepest_11 : decode cX11_deepest 11 = .ok (.ifCond .eq 16, 3) := by decide +kernel
theorem dX11_deepest_14 : decode cX11_deepest 14 = .ok (.aload_n 0, 1) := by decide +kernel
theorem dX11_deepest_15 : decode cX11_deepest 15 = .ok (.getfield 56, 3) := by decide +kernel
theorem dX11_deepest_18 : decode cX11_deepest 18 = .ok (.iload_n 1, 1) := by decide +kernel
theorem dX11_deepest_19 : decode cX11_deepest 19 = .ok (.iload_n 2, 1) := by decide +kernel
theorem dX11_deepest_20 : decode cX11_deepest 20 = .ok (.iconst 0, 1) := by decide +kernel
theorem dX11_deepest_21 : decode cX11_deepest 21 = .ok (.invokevirtual 215, 3) := by decide +kernel
theorem dX11_deepest_24 : decode cX11_deepest 24 = .ok (.goto 5, 3) := by decide +kernel
theorem dX11_deepest_27 : decode cX11_deepest 27 = .ok (.bipush (-2), 2) := by decide +kernel
theorem dX11_deepest_29 : decode cX11_deepest 29 = .ok (.ireturn, 1) := by decide +kernel
set_option maxRecDepth 20000 in
theorem ggX11_deepest_X0_deepestFeed : GoodIn wsX11_deepest wsX0_deepestFeed := goodIn_r _ [23, 24, 25, 26, 22, 27, 28, 29, 30, 31, 32, 33, 34, 4, 5, 6, 7, 8, 9, 10, 11, 12, 13, 14, 15, 16, 17, 18, 35, 36, 37, 38, 39, 40, 41, 42, 43, 44, 45, 46, 47, 48, 49, 50, 51, 52, 53, 54, 55, 56, 57, 58, 59, 60, 61, 62, 63, 64, 65, 66, 67, 68, 69, 70, 71, 72, 73, 74, 75, 76, 77, 78, 79, 80, 81, 82, 83, 84, 85, 86, 87, 88, 89, 90, 91, 92, 93, 94, 95, 96, 97, 98, 99, 100, 101, 102, 103, 104, 105, 106, 107, 108, 109, 110, 111, 112, 113, 114, 115, 116, 117, 118, 119, 120, 121, 122, 123, 124, 125, 126, 127, 128, 129, 130, 169, 170, 171, 172, 173, 174, 175, 176, 165, 166, 167, 168, 177, 178, 179, 180, 181, 145, 146, 147, 148, 149, 150, 151, 152, 153, 154, 155, 156, 157, 158, 159, 160, 161, 162, 163, 164, 182, 183, 184, 185, 186, 187, 188, 189, 190] rfl (by decide +kernel)
set_option maxRecDepth 20000 in
theorem gX11_deepest_X0_deepestFeed : GoodIn wsX11_deepest (wsV RX11 215 RX0 yX0_deepestFeed wsX0_deepestFeed) := goodIn_app (goodIn_of _ (by decide +kernel)) ggX11_deepest_X0_deepestFeed
set_option maxRecDepth 20000 in
theorem ggX11_deepest_X5_takes : GoodIn wsX11_deepest wsX5_takes := goodIn_r _ [7, 8, 9, 10, 11, 12, 13, 14, 15, 16, 17, 18, 145, 146, 147, 148, 149, 150, 151, 152, 153, 154, 155, 156, 157, 158, 159, 160, 161, 162, 163, 164, 165, 166, 167, 168] rfl (by decide +kernel)
set_option maxRecDepth 20000 in
theorem gX11_deepest_X5_takes : GoodIn wsX11_deepest (wsV RX11 164 RX5 yX5_takes wsX5_takes) := goodIn_app (goodIn_of _ (by decide +kernel)) ggX11_deepest_X5_takes
set_option maxHeartbeats 4000000 in
set_option maxRecDepth 100000 in
theorem K_X11_deepest (l : Launch) (D : va_G) (x0 : Nat) (xt : Nat) (xs : Nat) (xq : Nat) (xr : Nat) (xp : Nat) (xl : Nat) (xc : Nat) (xj : Nat) (xe : Nat) (xo : Nat) (pa : Nat) (la_t : Nat) (la_h : Nat) (la_u : Nat) (la_o : Nat) (la_x : Nat) (ch_s : Nat) (ch_t : Nat) (ch_f : Nat) (ch_p : Nat) (cI : ClassId) (n : Nat) (fo : Nat) (wa : Nat) (we : Nat) (cf : Nat) (sf : Nat) (wf : Nat) (cg : Nat) (sg : Nat) (wg : Nat) (ch : Nat) (sh : Nat) (wh : Nat) (ph : Nat) (pl : Nat) (a : Int32) (b : Int32) (sz : Nat) : Ki l yX11_deepest wsX11_deepest 6 175 0 0 D [.ref x0, .int a, .int b] [(x0, .inr (10, [.ref xt, .ref xs, .ref xq, .ref xr, .ref xp, .ref xl, .ref xc, .ref xj, .ref xe, .ref xo, .ref pa, .int 0, .int 0, .int (-1)])), (xl, .inr (4, [.ref xs, .int 0, .int 0, .int 0, .int 0, .ref la_t, .int 0, .int 0, .ref la_h, .ref la_u, .ref la_o, .ref la_x, .int 0, .int 0, .int 0, .int 0, .int 0, .int 0, .int 0, .int 0])), (xc, .inr (0, [.ref xs, .ref xp, .ref xl, .ref ch_s, .ref ch_t, .ref ch_f, .ref ch_p, .int 0])), (la_t, .inl (cI, 4, .inl (fun _ => 0))), (la_h, .inl (cI, 16, .inl (fun _ => 0))), (la_u, .inl (cI, 16, .inl (fun _ => 0))), (la_o, .inl (cI, 16, .inl (fun _ => 0))), (la_x, .inl (cI, 16, .inl (fun _ => 0))), (xs, .inr (6, [.ref n, .ref fo, .ref wa, .ref we])), (n, .inl (cI, 36, .inl g_nums)), (fo, .inr (2, [.ref cf, .int 1, .ref sf, .ref wf, .int 0, .int 0, .int 0, .int 0, .int 0])), (cf, .inl (cI, 80, .inl (upd (fun _ => 0) 0 (-1)))), (sf, .inl (cI, 12, .inl (fun _ => 0))), (wa, .inr (2, [.ref cg, .int 1, .ref sg, .ref wg, .int 0, .int 0, .int 0, .int 0, .int 0])), (cg, .inl (cI, 80, .inl (upd (fun _ => 0) 0 0))), (sg, .inl (cI, 12, .inl (fun _ => 0))), (we, .inr (2, [.ref ch, .int 1, .ref sh, .ref wh, .int 0, .int 0, .int 0, .int 0, .int 0])), (ch, .inl (cI, 80, .inl (upd (fun _ => 0) 0 0))), (sh, .inl (cI, 12, .inl (fun _ => 0))), (xp, .inr (5, [.ref xs, .ref ph, .int 0, .int 0, .ref pl])), (ph, .inl (cI, 96, .inl (fun _ => 1000)))] [(cI, .int)] sz (fun (r : Int32) (_ : Unit) => r = (if 0 ≤ a ∧ a < 3 ∧ 1 ≤ b ∧ b ≤ 9 then (sp_dp (sp_q b) 0 20) else (-2))) (fun (_ : Unit) => []) (fun (_ : Unit) => [(cI, .int)]) := by
  unfold Ki
  refine g_ofW (cc := cX11_deepest) (lv := [(0, .ref x0), (1, .int a), (2, .int b)]) (by decide) rfl (Nat.le_of_ble_eq_true rfl) rfl ?_
  intro p e s m args below meth c A Q hA hQ F hr hnm
  have hts := F.2.2.2.2.1
  have w_0 : (Cond.fieldLink RX11 47 "QuietCut" "lathe" "LQuietCut$Lathe;").before args s = true := hts _ (List.mem_of_getElem? (i := 1) rfl)
  have i_X11 : ∀ w ∈ u_ws RX11 TX11 14, w ∈ wsX11_deepest := fun _ h => List.mem_cons_of_mem _ (List.mem_append_left _ (List.mem_append_left _ (List.mem_append_left _ (List.mem_append_left _ (List.mem_append_left _ (List.mem_append_right _ h))))))
  have w_1 : (Cond.fieldLink RX11 56 "QuietCut" "chooser" "LQuietCut$Chooser;").before args s = true := hts _ (List.mem_of_getElem? (i := 2) rfl)
  refine g_aload_n F 0 dX11_deepest_0 rfl rfl ?_
  refine g_get (C := RX11) (T := TX11) (N := 14) (v := .ref xl) F i_X11 0 rfl rfl 5 (by decide) w_0 rfl rfl dX11_deepest_1 ?_
  refine g_iload_n F 1 dX11_deepest_4 rfl rfl ?_
  refine g_iload_n F 2 dX11_deepest_5 rfl rfl ?_
  refine g_iconst F 1 dX11_deepest_6 (by decide) ?_
  refine g_iconst F 1 dX11_deepest_7 (by decide) ?_
  refine g_callVi (k := 0) (n := 0) (b := xl) (As := [.int a, .int b, .int 1, .int 1]) (st := []) (wc := [(xl, .inr (4, [.ref xs, .int 0, .int 0, .int 0, .int 0, .ref la_t, .int 0, .int 0, .ref la_h, .ref la_u, .ref la_o, .ref la_x, .int 0, .int 0, .int 0, .int 0, .int 0, .int 0, .int 0, .int 0])), (xs, .inr (6, [.ref n, .ref fo, .ref wa, .ref we])), (n, .inl (cI, 36, .inl g_nums))]) (wr := [(x0, .inr (10, [.ref xt, .ref xs, .ref xq, .ref xr, .ref xp, .ref xl, .ref xc, .ref xj, .ref xe, .ref xo, .ref pa, .int 0, .int 0, .int (-1)])), (xc, .inr (0, [.ref xs, .ref xp, .ref xl, .ref ch_s, .ref ch_t, .ref ch_f, .ref ch_p, .int 0])), (la_t, .inl (cI, 4, .inl (fun _ => 0))), (la_h, .inl (cI, 16, .inl (fun _ => 0))), (la_u, .inl (cI, 16, .inl (fun _ => 0))), (la_o, .inl (cI, 16, .inl (fun _ => 0))), (la_x, .inl (cI, 16, .inl (fun _ => 0))), (fo, .inr (2, [.ref cf, .int 1, .ref sf, .ref wf, .int 0, .int 0, .int 0, .int 0, .int 0])), (cf, .inl (cI, 80, .inl (upd (fun _ => 0) 0 (-1)))), (sf, .inl (cI, 12, .inl (fun _ => 0))), (wa, .inr (2, [.ref cg, .int 1, .ref sg, .ref wg, .int 0, .int 0, .int 0, .int 0, .int 0])), (cg, .inl (cI, 80, .inl (upd (fun _ => 0) 0 0))), (sg, .inl (cI, 12, .inl (fun _ => 0))), (we, .inr (2, [.ref ch, .int 1, .ref sh, .ref wh, .int 0, .int 0, .int 0, .int 0, .int 0])), (ch, .inl (cI, 80, .inl (upd (fun _ => 0) 0 0))), (sh, .inl (cI, 12, .inl (fun _ => 0))), (xp, .inr (5, [.ref xs, .ref ph, .int 0, .int 0, .ref pl])), (ph, .inl (cI, 96, .inl (fun _ => 1000)))]) F [1, 8, 9] [0, 2, 3, 4, 5, 6, 7, 10, 11, 12, 13, 14, 15, 16, 17, 18, 19, 20] [0] rfl rfl (by decide) rfl (by decide) (by decide) rfl (fun sz => K_X5_takes l D xl xs la_t la_h la_u la_o la_x n fo wa we cI 0 0 0 0 0 0 0 0 0 0 0 0 0 0 a b 1 1  sz) (cwV 4 hts gX11_deepest_X5_takes rfl rfl rfl (by decide +kernel) ⟨Nat.le_of_ble_eq_true rfl, Nat.le_of_ble_eq_true rfl⟩) rfl 0 rfl rfl (Nat.le_of_ble_eq_true rfl) ⟨Nat.le_of_ble_eq_true rfl, Nat.le_of_ble_eq_true rfl⟩ dX11_deepest_8 (fun r_1 _ hw_2 => ?_)
  have hw_2 : r_1 = (if 0 ≤ a ∧ a < 3 ∧ 1 ≤ b ∧ b ≤ 9 ∧ 1 ≤ (1 : Int32) ∧ (1 : Int32) ≤ 20 ∧ 1 ≤ (1 : Int32) ∧ (1 : Int32) ≤ 12 then 1 else 0) := hw_2
  have e_r_1 := hw_2
  show gG p l e (gR 6 0 0 175) s m args below meth c D A 3 Q 0 0 [(x0, .inr (10, [.ref xt, .ref xs, .ref xq, .ref xr, .ref xp, .ref xl, .ref xc, .ref xj, .ref xe, .ref xo, .ref pa, .int 0, .int 0, .int (-1)])), (xc, .inr (0, [.ref xs, .ref xp, .ref xl, .ref ch_s, .ref ch_t, .ref ch_f, .ref ch_p, .int 0])), (la_t, .inl (cI, 4, .inl (fun _ => 0))), (la_h, .inl (cI, 16, .inl (fun _ => 0))), (la_u, .inl (cI, 16, .inl (fun _ => 0))), (la_o, .inl (cI, 16, .inl (fun _ => 0))), (la_x, .inl (cI, 16, .inl (fun _ => 0))), (fo, .inr (2, [.ref cf, .int 1, .ref sf, .ref wf, .int 0, .int 0, .int 0, .int 0, .int 0])), (cf, .inl (cI, 80, .inl (upd (fun _ => 0) 0 (-1)))), (sf, .inl (cI, 12, .inl (fun _ => 0))), (wa, .inr (2, [.ref cg, .int 1, .ref sg, .ref wg, .int 0, .int 0, .int 0, .int 0, .int 0])), (cg, .inl (cI, 80, .inl (upd (fun _ => 0) 0 0))), (sg, .inl (cI, 12, .inl (fun _ => 0))), (we, .inr (2, [.ref ch, .int 1, .ref sh, .ref wh, .int 0, .int 0, .int 0, .int 0, .int 0])), (ch, .inl (cI, 80, .inl (upd (fun _ => 0) 0 0))), (sh, .inl (cI, 12, .inl (fun _ => 0))), (xp, .inr (5, [.ref xs, .ref ph, .int 0, .int 0, .ref pl])), (ph, .inl (cI, 96, .inl (fun _ => 1000))), (xl, .inr (4, [.ref xs, .int a, .int b, .int 1, .int 1, .ref la_t, .int 0, .int 0, .ref la_h, .ref la_u, .ref la_o, .ref la_x, .int 0, .int 0, .int 0, .int 0, .int 0, .int 0, .int 0, .int 0])), (xs, .inr (6, [.ref n, .ref fo, .ref wa, .ref we])), (n, .inl (cI, 36, .inl g_nums))] [(cI, .int)] [(0, .ref x0), (1, .int a), (2, .int b)] 11 [.int r_1]
  refine g_fold (if 0 ≤ a ∧ a < 3 ∧ 1 ≤ b ∧ b ≤ 9 ∧ 1 ≤ (1 : Int32) ∧ (1 : Int32) ≤ 20 ∧ 1 ≤ (1 : Int32) ∧ (1 : Int32) ≤ 12 then 1 else 0) e_r_1 ?_
  refine g_if_eq F 27 dX11_deepest_11 (by decide) (fun c_11 => ?_) (fun c_11 => ?_)
  · have c_11 := gb_0 c_11
    refine g_bipush F (-2) dX11_deepest_27 (by decide) ?_
    exact g_iret F hA hQ hr () (gi_e (fun h9 => c_11 ⟨h9.1, h9.2.1, h9.2.2.1, h9.2.2.2, by decide, by decide, by decide, by decide⟩) rfl) [] [0] rfl (by decide) rfl rfl dX11_deepest_29
  · have c_11 := gb_n0 c_11
    refine g_aload_n F 0 dX11_deepest_14 rfl rfl ?_
    refine g_get (C := RX11) (T := TX11) (N := 14) (v := .ref xc) F i_X11 0 rfl rfl 6 (by decide) w_1 rfl rfl dX11_deepest_15 ?_
    refine g_iload_n F 1 dX11_deepest_18 rfl rfl ?_
    refine g_iload_n F 2 dX11_deepest_19 rfl rfl ?_
    refine g_iconst F 0 dX11_deepest_20 (by decide) ?_
    refine g_callVi (k := 0) (n := 0) (b := xc) (As := [.int a, .int b, .int 0]) (st := []) (wc := [(xc, .inr (0, [.ref xs, .ref xp, .ref xl, .ref ch_s, .ref ch_t, .ref ch_f, .ref ch_p, .int 0])), (xp, .inr (5, [.ref xs, .ref ph, .int 0, .int 0, .ref pl])), (ph, .inl (cI, 96, .inl (fun _ => 1000))), (xl, .inr (4, [.ref xs, .int a, .int b, .int 1, .int 1, .ref la_t, .int 0, .int 0, .ref la_h, .ref la_u, .ref la_o, .ref la_x, .int 0, .int 0, .int 0, .int 0, .int 0, .int 0, .int 0, .int 0])), (la_t, .inl (cI, 4, .inl (fun _ => 0))), (la_h, .inl (cI, 16, .inl (fun _ => 0))), (la_u, .inl (cI, 16, .inl (fun _ => 0))), (la_o, .inl (cI, 16, .inl (fun _ => 0))), (la_x, .inl (cI, 16, .inl (fun _ => 0))), (xs, .inr (6, [.ref n, .ref fo, .ref wa, .ref we])), (n, .inl (cI, 36, .inl g_nums)), (fo, .inr (2, [.ref cf, .int 1, .ref sf, .ref wf, .int 0, .int 0, .int 0, .int 0, .int 0])), (cf, .inl (cI, 80, .inl (upd (fun _ => 0) 0 (-1)))), (sf, .inl (cI, 12, .inl (fun _ => 0))), (wa, .inr (2, [.ref cg, .int 1, .ref sg, .ref wg, .int 0, .int 0, .int 0, .int 0, .int 0])), (cg, .inl (cI, 80, .inl (upd (fun _ => 0) 0 0))), (sg, .inl (cI, 12, .inl (fun _ => 0))), (we, .inr (2, [.ref ch, .int 1, .ref sh, .ref wh, .int 0, .int 0, .int 0, .int 0, .int 0])), (ch, .inl (cI, 80, .inl (upd (fun _ => 0) 0 0))), (sh, .inl (cI, 12, .inl (fun _ => 0)))]) (wr := [(x0, .inr (10, [.ref xt, .ref xs, .ref xq, .ref xr, .ref xp, .ref xl, .ref xc, .ref xj, .ref xe, .ref xo, .ref pa, .int 0, .int 0, .int (-1)]))]) F [1, 16, 17, 18, 2, 3, 4, 5, 6, 19, 20, 7, 8, 9, 10, 11, 12, 13, 14, 15] [0] [0] rfl rfl (by decide) rfl (by decide) (by decide) rfl (fun sz => K_X0_deepestFeed l D xc xs xp xl ch_s ch_t ch_f ch_p la_t la_h la_u la_o la_x n fo wa we cf sf wf ch sh wh cg sg wg ph pl cI a b 1 1 0 0 0 0 0 0 0 0 0 (fun _ => 0) (fun _ => 0) (fun _ => 0) (fun _ => 0) (fun _ => 0) (fun _ => 0) (fun _ => 0) (fun _ => 0) a b 0 (⟨c_11.1, c_11.2.1, c_11.2.2.1, c_11.2.2.2.1⟩) sz) (cwV 3 hts gX11_deepest_X0_deepestFeed rfl rfl rfl (by decide +kernel) ⟨Nat.le_of_ble_eq_true rfl, Nat.le_of_ble_eq_true rfl⟩) rfl 0 rfl rfl (Nat.le_of_ble_eq_true rfl) ⟨Nat.le_of_ble_eq_true rfl, Nat.le_of_ble_eq_true rfl⟩ dX11_deepest_21 (fun r_6 u_5 hw_7 => ?_)
    obtain ⟨z_ring_8, z_speed_8, z_feed_8, z_turns_8, z_teethMany_8, z_wear_8, z_x_8, z_v_8, z_wave_8, z_time_8, z_out_8, z_farthest_8, z_begun_8, g_t_8, g_h_8, g_u_8, g_o_8, g_x_8, g_1_8, g_2_8, g_3_8⟩ := u_5
    have hw_7 : r_6 = (sp_dp (sp_q b) (0 : Int32) 20) := hw_7
    have e_r_6 := hw_7
    show gG p l e (gR 6 0 0 175) s m args below meth c D A 3 Q 0 0 [(x0, .inr (10, [.ref xt, .ref xs, .ref xq, .ref xr, .ref xp, .ref xl, .ref xc, .ref xj, .ref xe, .ref xo, .ref pa, .int 0, .int 0, .int (-1)])), (xc, .inr (0, [.ref xs, .ref xp, .ref xl, .ref ch_s, .ref ch_t, .ref ch_f, .ref ch_p, .int 0])), (xp, .inr (5, [.ref xs, .ref ph, .int 0, .int 0, .ref pl])), (ph, .inl (cI, 96, .inl (fun _ => 1000))), (xl, .inr (4, [.ref xs, .int z_ring_8, .int z_speed_8, .int z_feed_8, .int z_turns_8, .ref la_t, .int 0, .int z_teethMany_8, .ref la_h, .ref la_u, .ref la_o, .ref la_x, .int z_wear_8, .int z_x_8, .int z_v_8, .int z_wave_8, .int z_time_8, .int z_out_8, .int z_farthest_8, .int z_begun_8])), (la_t, .inl (cI, 4, .inl g_t_8)), (la_h, .inl (cI, 16, .inl g_h_8)), (la_u, .inl (cI, 16, .inl g_u_8)), (la_o, .inl (cI, 16, .inl g_o_8)), (la_x, .inl (cI, 16, .inl g_x_8)), (xs, .inr (6, [.ref n, .ref fo, .ref wa, .ref we])), (n, .inl (cI, 36, .inl g_nums)), (fo, .inr (2, [.ref cf, .int 1, .ref sf, .ref wf, .int 0, .int 0, .int 0, .int 0, .int 0])), (cf, .inl (cI, 80, .inl (upd (fun _ => 0) 0 (-1)))), (sf, .inl (cI, 12, .inl g_1_8)), (wa, .inr (2, [.ref cg, .int 1, .ref sg, .ref wg, .int 0, .int 0, .int 0, .int 0, .int 0])), (cg, .inl (cI, 80, .inl (upd (fun _ => 0) 0 0))), (sg, .inl (cI, 12, .inl g_2_8)), (we, .inr (2, [.ref ch, .int 1, .ref sh, .ref wh, .int 0, .int 0, .int 0, .int 0, .int 0])), (ch, .inl (cI, 80, .inl (upd (fun _ => 0) 0 0))), (sh, .inl (cI, 12, .inl g_3_8))] [(cI, .int)] [(0, .ref x0), (1, .int a), (2, .int b)] 24 [.int r_6]
    refine g_fold (sp_dp (sp_q b) (0 : Int32) 20) e_r_6 ?_
    refine g_goto F 29 dX11_deepest_24 (by decide) ?_
    exact g_iret F hA hQ hr () (gi_p ⟨c_11.1, c_11.2.1, c_11.2.2.1, c_11.2.2.2.1⟩ rfl) [] [0] rfl (by decide) rfl rfl dX11_deepest_29
