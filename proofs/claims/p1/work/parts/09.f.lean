def sp_fresh (sp : Nat) (fd : Int32) (tu : Nat) (st dm : Int32) : Int32 := sp_ver (sp_pass 1000 fd sp st dm (fun _ => 0) 1 (fun _ => 1000) (8 * tu))
theorem sp_ver_nn (s : (Nat → Int32) × Int32 × Int32 × Bool) : 0 ≤ sp_ver s := by
  unfold sp_ver
  split
  · decide
  · split <;> decide
theorem sp_fresh_nn (sp : Nat) (fd : Int32) (tu : Nat) (st dm : Int32) : 0 ≤ sp_fresh sp fd tu st dm := sp_ver_nn _
theorem sp_m1000 (rr : Nat) : sp_most (fun s => (fun _ => (1000 : Int32)) (16 * rr + s)) 7 = 1000 := (by decide +kernel : sp_most (fun _ => (1000 : Int32)) 7 = 1000)
theorem run_low {fd tv : Int32} {tu : Nat} (h1 : 1 ≤ fd.toInt) (h2 : fd.toInt ≤ 20) (ht : tv = nI tu) (hu : tu ≤ 12) : ¬ (1000 - fd * tv < 1) := by
  subst ht
  have e1 : (nI tu).toInt = (tu : Int) := nI_toInt (by omega)
  have m1 := gz_mb (a := fd.toInt) (b := (tu : Int)) (A := 20) (B := 12) (by omega) (by omega) (by omega) (by omega)
  have e2 := gz_mul (a := fd) (b := nI tu) (by rw [e1]; omega) (by rw [e1]; omega)
  rw [e1] at e2
  have e0 : (1000 : Int32).toInt = 1000 := rfl
  have e9 : (1 : Int32).toInt = 1 := rfl
  have e3 := gz_sub (a := 1000) (b := fd * nI tu) (by omega) (by omega)
  rw [Int32.lt_iff_toInt_lt, e3, e2]
  omega
theorem run_fresh {rr sp tu : Nat} {fd tv st dm : Int32} (h1 : 1 ≤ fd.toInt) (h2 : fd.toInt ≤ 20) (ht : tv = nI tu) (hu : tu ≤ 12) : (if (sp_most (fun s => (fun _ => (1000 : Int32)) (16 * rr + s)) 7) - (fd * tv) < 1 then (-4) else sp_ver (sp_pass (sp_most (fun s => (fun _ => (1000 : Int32)) (16 * rr + s)) 7) fd sp st dm (fun _ => 0) 1 (fun s => (fun _ => (1000 : Int32)) (16 * rr + s)) (8 * tu))) = sp_fresh sp fd tu st dm := by
  rw [sp_m1000 rr, if_neg (run_low h1 h2 ht hu)]
  rfl
theorem gi_nat {x : Int32} {K : Nat} (h0 : 0 ≤ x.toInt) (h : x.toInt ≤ K) (hK : K < 2 ^ 31) : x = nI x.toNatClampNeg ∧ x.toNatClampNeg ≤ K := by
  obtain ⟨j, hj, rfl⟩ := nI_of (x := x) (by rw [Int32.lt_iff_toInt_lt, show (0 : Int32).toInt = 0 from rfl]; omega)
  rw [nI_toInt hj] at h
  rw [nI_clamp hj]
  exact ⟨rfl, by omega⟩
theorem tk_all {a b d h : Int32} (c : 0 ≤ a ∧ a < 3 ∧ 1 ≤ b ∧ b ≤ 9 ∧ 1 ≤ d ∧ d ≤ 20 ∧ 1 ≤ h ∧ h ≤ 12) : a = nI a.toNatClampNeg ∧ a.toNatClampNeg < 3 ∧ b = nI b.toNatClampNeg ∧ b.toNatClampNeg < 1000 ∧ 1 ≤ d.toInt ∧ d.toInt ≤ 20 ∧ h = nI h.toNatClampNeg ∧ h.toNatClampNeg ≤ 12 := by
  simp only [Int32.lt_iff_toInt_lt, Int32.le_iff_toInt_le, ← Int32.toInt_inj, Int32.reduceToInt] at c
  obtain ⟨c1, c2, c3, c4, c5, c6, c7, c8⟩ := c
  have ha := gi_nat (x := a) (K := 2) (by omega) (by omega) (by decide)
  have hb := gi_nat (x := b) (K := 9) (by omega) (by omega) (by decide)
  have hh := gi_nat (x := h) (K := 12) (by omega) (by omega) (by decide)
  exact ⟨ha.1, by omega, hb.1, by omega, by omega, by omega, hh.1, hh.2⟩
theorem mh_all {a b : Int32} (c : 0 ≤ a ∧ a ≤ 300 ∧ 0 ≤ b ∧ b ≤ 300) : 0 ≤ a.toInt ∧ a.toInt ≤ 300 ∧ 0 ≤ b.toInt ∧ b.toInt ≤ 300 := by
  simp only [Int32.lt_iff_toInt_lt, Int32.le_iff_toInt_le, ← Int32.toInt_inj, Int32.reduceToInt] at c
  omega

theorem dX11_notePassed_0 : decode cX11_notePassed 0 = .ok (.aload_n 0, 1) := by decide +kernel
theorem dX11_notePassed_1 : decode cX11_notePassed 1 = .ok (.getfield 85, 3) := by decide +kernel
theorem dX11_notePassed_4 : decode cX11_notePassed 4 = .ok (.iconst 0, 1) := by decide +kernel
theorem dX11_notePassed_5 : decode cX11_notePassed 5 = .ok (.aload_n 0, 1) := by decide +kernel
theorem dX11_notePassed_6 : decode cX11_notePassed 6 = .ok (.getfield 47, 3) := by decide +kernel
theorem dX11_notePassed_9 : decode cX11_notePassed 9 = .ok (.getfield 185, 3) := by decide +kernel
theorem dX11_notePassed_12 : decode cX11_notePassed 12 = .ok (.iastore, 1) := by decide +kernel
theorem dX11_notePassed_13 : decode cX11_notePassed 13 = .ok (.aload_n 0, 1) := by decide +kernel
theorem dX11_notePassed_14 : decode cX11_notePassed 14 = .ok (.getfield 85, 3) := by decide +kernel
theorem dX11_notePassed_17 : decode cX11_notePassed 17 = .ok (.iconst 1, 1) := by decide +kernel
theorem dX11_notePassed_18 : decode cX11_notePassed 18 = .ok (.aload_n 0, 1) := by decide +kernel
theorem dX11_notePassed_19 : decode cX11_notePassed 19 = .ok (.getfield 47, 3) := by decide +kernel
theorem dX11_notePassed_22 : decode cX11_notePassed 22 = .ok (.getfield 188, 3) := by decide +kernel
theorem dX11_notePassed_25 : decode cX11_notePassed 25 = .ok (.iastore, 1) := by decide +kernel
theorem dX11_notePassed_26 : decode cX11_notePassed 26 = .ok (.aload_n 0, 1) := by decide +kernel
theorem dX11_notePassed_27 : decode cX11_notePassed 27 = .ok (.getfield 85, 3) := by decide +kernel
theorem dX11_notePassed_30 : decode cX11_notePassed 30 = .ok (.iconst 2, 1) := by decide +kernel
theorem dX11_notePassed_31 : decode cX11_notePassed 31 = .ok (.aload_n 0, 1) := by decide +kernel
theorem dX11_notePassed_32 : decode cX11_notePassed 32 = .ok (.getfield 47, 3) := by decide +kernel
theorem dX11_notePassed_35 : decode cX11_notePassed 35 = .ok (.getfield 191, 3) := by decide +kernel
theorem dX11_notePassed_38 : decode cX11_notePassed 38 = .ok (.iastore, 1) := by decide +kernel
theorem dX11_notePassed_39 : decode cX11_notePassed 39 = .ok (.aload_n 0, 1) := by decide +kernel
theorem dX11_notePassed_40 : decode cX11_notePassed 40 = .ok (.getfield 85, 3) := by decide +kernel
theorem dX11_notePassed_43 : decode cX11_notePassed 43 = .ok (.iconst 3, 1) := by decide +kernel
theorem dX11_notePassed_44 : decode cX11_notePassed 44 = .ok (.aload_n 0, 1) := by decide +kernel
theorem dX11_notePassed_45 : decode cX11_notePassed 45 = .ok (.getfield 47, 3) := by decide +kernel
theorem dX11_notePassed_48 : decode cX11_notePassed 48 = .ok (.getfield 194, 3) := by decide +kernel
theorem dX11_notePassed_51 : decode cX11_notePassed 51 = .ok (.iastore, 1) := by decide +kernel
theorem dX11_notePassed_52 : decode cX11_notePassed 52 = .ok (.aload_n 0, 1) := by decide +kernel
theorem dX11_notePassed_53 : decode cX11_notePassed 53 = .ok (.getfield 85, 3) := by decide +kernel
theorem dX11_notePassed_56 : decode cX11_notePassed 56 = .ok (.iconst 4, 1) := by decide +kernel
theorem dX11_notePassed_57 : decode cX11_notePassed 57 = .ok (.aload_n 0, 1) := by decide +kernel
theorem dX11_notePassed_58 : decode cX11_notePassed 58 = .ok (.getfield 47, 3) := by decide +kernel
theorem dX11_notePassed_61 : decode cX11_notePassed 61 = .ok (.getfield 197, 3) := by decide +kernel
theorem dX11_notePassed_64 : decode cX11_notePassed 64 = .ok (.iastore, 1) := by decide +kernel
theorem dX11_notePassed_65 : decode cX11_notePassed 65 = .ok (.aload_n 0, 1) := by decide +kernel
theorem dX11_notePassed_66 : decode cX11_notePassed 66 = .ok (.getfield 85, 3) := by decide +kernel
theorem dX11_notePassed_69 : decode cX11_notePassed 69 = .ok (.iconst 5, 1) := by decide +kernel
theorem dX11_notePassed_70 : decode cX11_notePassed 70 = .ok (.aload_n 0, 1) := by decide +kernel
theorem dX11_notePassed_71 : decode cX11_notePassed 71 = .ok (.getfield 47, 3) := by decide +kernel
theorem dX11_notePassed_74 : decode cX11_notePassed 74 = .ok (.getfield 200, 3) := by decide +kernel
theorem dX11_notePassed_77 : decode cX11_notePassed 77 = .ok (.iastore, 1) := by decide +kernel
theorem dX11_notePassed_78 : decode cX11_notePassed 78 = .ok (.aload_n 0, 1) := by decide +kernel
theorem dX11_notePassed_79 : decode cX11_notePassed 79 = .ok (.getfield 85, 3) := by decide +kernel
theorem dX11_notePassed_82 : decode cX11_notePassed 82 = .ok (.bipush 6, 2) := by decide +kernel
theorem dX11_notePassed_84 : decode cX11_notePassed 84 = .ok (.aload_n 0, 1) := by decide +kernel
theorem dX11_notePassed_85 : decode cX11_notePassed 85 = .ok (.getfield 47, 3) := by decide +kernel
theorem dX11_notePassed_88 : decode cX11_notePassed 88 = .ok (.getfield 201, 3) := by decide +kernel
theorem dX11_notePassed_91 : decode cX11_notePassed 91 = .ok (.iastore, 1) := by decide +kernel
theorem dX11_notePassed_92 : decode cX11_notePassed 92 = .ok (.aload_n 0, 1) := by decide +kernel
theorem dX11_notePassed_93 : decode cX11_notePassed 93 = .ok (.iconst 1, 1) := by decide +kernel
theorem dX11_notePassed_94 : decode cX11_notePassed 94 = .ok (.putfield 204, 3) := by decide +kernel
theorem dX11_notePassed_97 : decode cX11_notePassed 97 = .ok (.return_, 1) := by decide +kernel
set_option maxHeartbeats 4000000 in
set_option maxRecDepth 100000 in
theorem K_X11_notePassed (l : Launch) (D : va_G) (x0 : Nat) (xt : Nat) (xs : Nat) (xq : Nat) (xr : Nat) (xp : Nat) (xl : Nat) (xc : Nat) (xj : Nat) (xe : Nat) (xo : Nat) (pa : Nat) (la_t : Nat) (la_h : Nat) (la_u : Nat) (la_o : Nat) (la_x : Nat) (cI : ClassId) (l_ring : Int32) (l_speed : Int32) (l_feed : Int32) (l_turns : Int32) (l_teethSet : Int32) (l_teethMany : Int32) (l_wear : Int32) (l_x : Int32) (l_v : Int32) (l_wave : Int32) (l_time : Int32) (l_out : Int32) (l_farthest : Int32) (l_begun : Int32) (fp : Nat → Int32) (sz : Nat) : Kv l yX11_notePassed wsX11_notePassed 1 30 0 0 D [.ref x0] [(x0, .inr (10, [.ref xt, .ref xs, .ref xq, .ref xr, .ref xp, .ref xl, .ref xc, .ref xj, .ref xe, .ref xo, .ref pa, .int 0, .int 0, .int (-1)])), (xl, .inr (4, [.ref xs, .int l_ring, .int l_speed, .int l_feed, .int l_turns, .ref la_t, .int l_teethSet, .int l_teethMany, .ref la_h, .ref la_u, .ref la_o, .ref la_x, .int l_wear, .int l_x, .int l_v, .int l_wave, .int l_time, .int l_out, .int l_farthest, .int l_begun])), (pa, .inl (cI, 7, .inl fp))] [(cI, .int)] sz (fun (u : (Nat → Int32)) => True) (fun (u : (Nat → Int32)) => [(x0, .inr (10, [.ref xt, .ref xs, .ref xq, .ref xr, .ref xp, .ref xl, .ref xc, .ref xj, .ref xe, .ref xo, .ref pa, .int 1, .int 0, .int (-1)])), (xl, .inr (4, [.ref xs, .int l_ring, .int l_speed, .int l_feed, .int l_turns, .ref la_t, .int l_teethSet, .int l_teethMany, .ref la_h, .ref la_u, .ref la_o, .ref la_x, .int l_wear, .int l_x, .int l_v, .int l_wave, .int l_time, .int l_out, .int l_farthest, .int l_begun])), (pa, .inl (cI, 7, .inl u))]) (fun (_ : (Nat → Int32)) => [(cI, .int)]) := by
  unfold Kv
  refine g_ofW (cc := cX11_notePassed) (lv := [(0, .ref x0)]) (by decide) rfl (Nat.le_of_ble_eq_true rfl) rfl ?_
  intro p e s m args below meth c A Q hA hQ F hr hnm
  have hts := F.2.2.2.2.1
  have w_0 : (Cond.fieldLink RX11 85 "QuietCut" "passed" "[I").before args s = true := hts _ (List.mem_of_getElem? (i := 1) rfl)
  have i_X11 : ∀ w ∈ u_ws RX11 TX11 14, w ∈ wsX11_notePassed := fun _ h => List.mem_cons_of_mem _ (List.mem_append_left _ (List.mem_append_right _ h))
  have w_1 : (Cond.fieldLink RX11 47 "QuietCut" "lathe" "LQuietCut$Lathe;").before args s = true := hts _ (List.mem_of_getElem? (i := 2) rfl)
  have w_2 : (Cond.fieldLink RX11 185 "QuietCut$Lathe" "wave" "I").before args s = true := hts _ (List.mem_of_getElem? (i := 3) rfl)
  have i_X5 : ∀ w ∈ u_ws RX5 TX5 20, w ∈ wsX11_notePassed := fun _ h => List.mem_cons_of_mem _ (List.mem_append_right _ h)
  have w_3 : (Cond.fieldLink RX11 188 "QuietCut$Lathe" "time" "I").before args s = true := hts _ (List.mem_of_getElem? (i := 4) rfl)
  have w_4 : (Cond.fieldLink RX11 191 "QuietCut$Lathe" "out" "I").before args s = true := hts _ (List.mem_of_getElem? (i := 5) rfl)
  have w_5 : (Cond.fieldLink RX11 194 "QuietCut$Lathe" "farthest" "I").before args s = true := hts _ (List.mem_of_getElem? (i := 6) rfl)
  have w_6 : (Cond.fieldLink RX11 197 "QuietCut$Lathe" "x" "I").before args s = true := hts _ (List.mem_of_getElem? (i := 7) rfl)
  have w_7 : (Cond.fieldLink RX11 200 "QuietCut$Lathe" "wear" "I").before args s = true := hts _ (List.mem_of_getElem? (i := 8) rfl)
  have w_8 : (Cond.fieldLink RX11 201 "QuietCut$Lathe" "begun" "I").before args s = true := hts _ (List.mem_of_getElem? (i := 9) rfl)
  have w_9 : (Cond.fieldLink RX11 204 "QuietCut" "anyPassed" "Z").before args s = true := hts _ (List.mem_of_getElem? (i := 10) rfl)
  refine g_aload_n F 0 dX11_notePassed_0 rfl rfl ?_
  refine g_get (C := RX11) (T := TX11) (N := 14) (v := .ref pa) F i_X11 0 rfl rfl 10 (by decide) w_0 rfl rfl dX11_notePassed_1 ?_
  refine g_iconst F 0 dX11_notePassed_4 (by decide) ?_
  refine g_aload_n F 0 dX11_notePassed_5 rfl rfl ?_
  refine g_get (C := RX11) (T := TX11) (N := 14) (v := .ref xl) F i_X11 0 rfl rfl 5 (by decide) w_1 rfl rfl dX11_notePassed_6 ?_
  refine g_get (C := RX5) (T := TX5) (N := 20) (v := .int l_wave) F i_X5 1 rfl rfl 15 (by decide) w_2 rfl rfl dX11_notePassed_9 ?_
  refine g_iast F 2 0 rfl rfl (by unfold vp_in; decide) [(x0, .inr (10, [.ref xt, .ref xs, .ref xq, .ref xr, .ref xp, .ref xl, .ref xc, .ref xj, .ref xe, .ref xo, .ref pa, .int 0, .int 0, .int (-1)])), (xl, .inr (4, [.ref xs, .int l_ring, .int l_speed, .int l_feed, .int l_turns, .ref la_t, .int l_teethSet, .int l_teethMany, .ref la_h, .ref la_u, .ref la_o, .ref la_x, .int l_wear, .int l_x, .int l_v, .int l_wave, .int l_time, .int l_out, .int l_farthest, .int l_begun])), (pa, .inl (cI, 7, .inl (upd fp 0 l_wave)))] (rfl) dX11_notePassed_12 ?_
  refine g_aload_n F 0 dX11_notePassed_13 rfl rfl ?_
  refine g_get (C := RX11) (T := TX11) (N := 14) (v := .ref pa) F i_X11 0 rfl rfl 10 (by decide) w_0 rfl rfl dX11_notePassed_14 ?_
  refine g_iconst F 1 dX11_notePassed_17 (by decide) ?_
  refine g_aload_n F 0 dX11_notePassed_18 rfl rfl ?_
  refine g_get (C := RX11) (T := TX11) (N := 14) (v := .ref xl) F i_X11 0 rfl rfl 5 (by decide) w_1 rfl rfl dX11_notePassed_19 ?_
  refine g_get (C := RX5) (T := TX5) (N := 20) (v := .int l_time) F i_X5 1 rfl rfl 16 (by decide) w_3 rfl rfl dX11_notePassed_22 ?_
  refine g_iast F 2 0 rfl rfl (by unfold vp_in; decide) [(x0, .inr (10, [.ref xt, .ref xs, .ref xq, .ref xr, .ref xp, .ref xl, .ref xc, .ref xj, .ref xe, .ref xo, .ref pa, .int 0, .int 0, .int (-1)])), (xl, .inr (4, [.ref xs, .int l_ring, .int l_speed, .int l_feed, .int l_turns, .ref la_t, .int l_teethSet, .int l_teethMany, .ref la_h, .ref la_u, .ref la_o, .ref la_x, .int l_wear, .int l_x, .int l_v, .int l_wave, .int l_time, .int l_out, .int l_farthest, .int l_begun])), (pa, .inl (cI, 7, .inl (upd (upd fp 0 l_wave) 1 l_time)))] (rfl) dX11_notePassed_25 ?_
  refine g_aload_n F 0 dX11_notePassed_26 rfl rfl ?_
  refine g_get (C := RX11) (T := TX11) (N := 14) (v := .ref pa) F i_X11 0 rfl rfl 10 (by decide) w_0 rfl rfl dX11_notePassed_27 ?_
  refine g_iconst F 2 dX11_notePassed_30 (by decide) ?_
  refine g_aload_n F 0 dX11_notePassed_31 rfl rfl ?_
  refine g_get (C := RX11) (T := TX11) (N := 14) (v := .ref xl) F i_X11 0 rfl rfl 5 (by decide) w_1 rfl rfl dX11_notePassed_32 ?_
  refine g_get (C := RX5) (T := TX5) (N := 20) (v := .int l_out) F i_X5 1 rfl rfl 17 (by decide) w_4 rfl rfl dX11_notePassed_35 ?_
  refine g_iast F 2 0 rfl rfl (by unfold vp_in; decide) [(x0, .inr (10, [.ref xt, .ref xs, .ref xq, .ref xr, .ref xp, .ref xl, .ref xc, .ref xj, .ref xe, .ref xo, .ref pa, .int 0, .int 0, .int (-1)])), (xl, .inr (4, [.ref xs, .int l_ring, .int l_speed, .int l_feed, .int l_turns, .ref la_t, .int l_teethSet, .int l_teethMany, .ref la_h, .ref la_u, .ref la_o, .ref la_x, .int l_wear, .int l_x, .int l_v, .int l_wave, .int l_time, .int l_out, .int l_farthest, .int l_begun])), (pa, .inl (cI, 7, .inl (upd (upd (upd fp 0 l_wave) 1 l_time) 2 l_out)))] (rfl) dX11_notePassed_38 ?_
  refine g_aload_n F 0 dX11_notePassed_39 rfl rfl ?_
  refine g_get (C := RX11) (T := TX11) (N := 14) (v := .ref pa) F i_X11 0 rfl rfl 10 (by decide) w_0 rfl rfl dX11_notePassed_40 ?_
  refine g_iconst F 3 dX11_notePassed_43 (by decide) ?_
  refine g_aload_n F 0 dX11_notePassed_44 rfl rfl ?_
  refine g_get (C := RX11) (T := TX11) (N := 14) (v := .ref xl) F i_X11 0 rfl rfl 5 (by decide) w_1 rfl rfl dX11_notePassed_45 ?_
  refine g_get (C := RX5) (T := TX5) (N := 20) (v := .int l_farthest) F i_X5 1 rfl rfl 18 (by decide) w_5 rfl rfl dX11_notePassed_48 ?_
  refine g_iast F 2 0 rfl rfl (by unfold vp_in; decide) [(x0, .inr (10, [.ref xt, .ref xs, .ref xq, .ref xr, .ref xp, .ref xl, .ref xc, .ref xj, .ref xe, .ref xo, .ref pa, .int 0, .int 0, .int (-1)])), (xl, .inr (4, [.ref xs, .int l_ring, .int l_speed, .int l_feed, .int l_turns, .ref la_t, .int l_teethSet, .int l_teethMany, .ref la_h, .ref la_u, .ref la_o, .ref la_x, .int l_wear, .int l_x, .int l_v, .int l_wave, .int l_time, .int l_out, .int l_farthest, .int l_begun])), (pa, .inl (cI, 7, .inl (upd (upd (upd (upd fp 0 l_wave) 1 l_time) 2 l_out) 3 l_farthest)))] (rfl) dX11_notePassed_51 ?_
  refine g_aload_n F 0 dX11_notePassed_52 rfl rfl ?_
  refine g_get (C := RX11) (T := TX11) (N := 14) (v := .ref pa) F i_X11 0 rfl rfl 10 (by decide) w_0 rfl rfl dX11_notePassed_53 ?_
  refine g_iconst F 4 dX11_notePassed_56 (by decide) ?_
  refine g_aload_n F 0 dX11_notePassed_57 rfl rfl ?_
  refine g_get (C := RX11) (T := TX11) (N := 14) (v := .ref xl) F i_X11 0 rfl rfl 5 (by decide) w_1 rfl rfl dX11_notePassed_58 ?_
  refine g_get (C := RX5) (T := TX5) (N := 20) (v := .int l_x) F i_X5 1 rfl rfl 13 (by decide) w_6 rfl rfl dX11_notePassed_61 ?_
  refine g_iast F 2 0 rfl rfl (by unfold vp_in; decide) [(x0, .inr (10, [.ref xt, .ref xs, .ref xq, .ref xr, .ref xp, .ref xl, .ref xc, .ref xj, .ref xe, .ref xo, .ref pa, .int 0, .int 0, .int (-1)])), (xl, .inr (4, [.ref xs, .int l_ring, .int l_speed, .int l_feed, .int l_turns, .ref la_t, .int l_teethSet, .int l_teethMany, .ref la_h, .ref la_u, .ref la_o, .ref la_x, .int l_wear, .int l_x, .int l_v, .int l_wave, .int l_time, .int l_out, .int l_farthest, .int l_begun])), (pa, .inl (cI, 7, .inl (upd (upd (upd (upd (upd fp 0 l_wave) 1 l_time) 2 l_out) 3 l_farthest) 4 l_x)))] (rfl) dX11_notePassed_64 ?_
  refine g_aload_n F 0 dX11_notePassed_65 rfl rfl ?_
  refine g_get (C := RX11) (T := TX11) (N := 14) (v := .ref pa) F i_X11 0 rfl rfl 10 (by decide) w_0 rfl rfl dX11_notePassed_66 ?_
  refine g_iconst F 5 dX11_notePassed_69 (by decide) ?_
  refine g_aload_n F 0 dX11_notePassed_70 rfl rfl ?_
  refine g_get (C := RX11) (T := TX11) (N := 14) (v := .ref xl) F i_X11 0 rfl rfl 5 (by decide) w_1 rfl rfl dX11_notePassed_71 ?_
  refine g_get (C := RX5) (T := TX5) (N := 20) (v := .int l_wear) F i_X5 1 rfl rfl 12 (by decide) w_7 rfl rfl dX11_notePassed_74 ?_
  refine g_iast F 2 0 rfl rfl (by unfold vp_in; decide) [(x0, .inr (10, [.ref xt, .ref xs, .ref xq, .ref xr, .ref xp, .ref xl, .ref xc, .ref xj, .ref xe, .ref xo, .ref pa, .int 0, .int 0, .int (-1)])), (xl, .inr (4, [.ref xs, .int l_ring, .int l_speed, .int l_feed, .int l_turns, .ref la_t, .int l_teethSet, .int l_teethMany, .ref la_h, .ref la_u, .ref la_o, .ref la_x, .int l_wear, .int l_x, .int l_v, .int l_wave, .int l_time, .int l_out, .int l_farthest, .int l_begun])), (pa, .inl (cI, 7, .inl (upd (upd (upd (upd (upd (upd fp 0 l_wave) 1 l_time) 2 l_out) 3 l_farthest) 4 l_x) 5 l_wear)))] (rfl) dX11_notePassed_77 ?_
  refine g_aload_n F 0 dX11_notePassed_78 rfl rfl ?_
  refine g_get (C := RX11) (T := TX11) (N := 14) (v := .ref pa) F i_X11 0 rfl rfl 10 (by decide) w_0 rfl rfl dX11_notePassed_79 ?_
  refine g_bipush F 6 dX11_notePassed_82 (by decide) ?_
  refine g_aload_n F 0 dX11_notePassed_84 rfl rfl ?_
  refine g_get (C := RX11) (T := TX11) (N := 14) (v := .ref xl) F i_X11 0 rfl rfl 5 (by decide) w_1 rfl rfl dX11_notePassed_85 ?_
  refine g_get (C := RX5) (T := TX5) (N := 20) (v := .int l_begun) F i_X5 1 rfl rfl 19 (by decide) w_8 rfl rfl dX11_notePassed_88 ?_
  refine g_iast F 2 0 rfl rfl (by unfold vp_in; decide) [(x0, .inr (10, [.ref xt, .ref xs, .ref xq, .ref xr, .ref xp, .ref xl, .ref xc, .ref xj, .ref xe, .ref xo, .ref pa, .int 0, .int 0, .int (-1)])), (xl, .inr (4, [.ref xs, .int l_ring, .int l_speed, .int l_feed, .int l_turns, .ref la_t, .int l_teethSet, .int l_teethMany, .ref la_h, .ref la_u, .ref la_o, .ref la_x, .int l_wear, .int l_x, .int l_v, .int l_wave, .int l_time, .int l_out, .int l_farthest, .int l_begun])), (pa, .inl (cI, 7, .inl (upd (upd (upd (upd (upd (upd (upd fp 0 l_wave) 1 l_time) 2 l_out) 3 l_farthest) 4 l_x) 5 l_wear) 6 l_begun)))] (rfl) dX11_notePassed_91 ?_
  refine g_aload_n F 0 dX11_notePassed_92 rfl rfl ?_
  refine g_iconst F 1 dX11_notePassed_93 (by decide) ?_
  refine g_put (C := RX11) (T := TX11) (N := 14) (ty := .boolean) (v := .int 1) F i_X11 0 rfl rfl 11 (by decide) w_9 rfl tyX11 tyX11_ok nmX11 rfl (by decide +kernel) rfl rfl (Nat.le_of_ble_eq_true rfl) [(x0, .inr (10, [.ref xt, .ref xs, .ref xq, .ref xr, .ref xp, .ref xl, .ref xc, .ref xj, .ref xe, .ref xo, .ref pa, .int 1, .int 0, .int (-1)])), (xl, .inr (4, [.ref xs, .int l_ring, .int l_speed, .int l_feed, .int l_turns, .ref la_t, .int l_teethSet, .int l_teethMany, .ref la_h, .ref la_u, .ref la_o, .ref la_x, .int l_wear, .int l_x, .int l_v, .int l_wave, .int l_time, .int l_out, .int l_farthest, .int l_begun])), (pa, .inl (cI, 7, .inl (upd (upd (upd (upd (upd (upd (upd fp 0 l_wave) 1 l_time) 2 l_out) 3 l_farthest) 4 l_x) 5 l_wear) 6 l_begun)))] rfl dX11_notePassed_94 ?_
  exact g_vret F hA hQ hr (upd (upd (upd (upd (upd (upd (upd fp 0 l_wave) 1 l_time) 2 l_out) 3 l_farthest) 4 l_x) 5 l_wear) 6 l_begun) (trivial) [0, 1, 2] [0] rfl (by decide) rfl rfl dX11_notePassed_97

theorem dX11_attempt_0 : decode cX11_attempt 0 = .ok (.aload_n 0, 1) := by decide +kernel
theorem dX11_attempt_1 : decode cX11_attempt 1 = .ok (.getfield 47, 3) := by decide +kernel
theorem dX11_attempt_4 : decode cX11_attempt 4 = .ok (.iload_n 1, 1) := by decide +kernel
theorem dX11_attempt_5 : decode cX11_attempt 5 = .ok (.iload_n 2, 1) := by decide +kernel
theorem dX11_attempt_6 : decode cX11_attempt 6 = .ok (.iload_n 3, 1) := by decide +kernel
theorem dX11_attempt_7 : decode cX11_attempt 7 = .ok (.iload 4, 2) := by decide +kernel
theorem dX11_attempt_9 : decode cX11_attempt 9 = .ok (.invokevirtual 164, 3) := by decide +kernel
theorem dX11_attempt_12 : decode cX11_attempt 12 = .ok (.ifCond .eq 13, 3) := by decide +kernel
theorem dX11_attempt_15 : decode cX11_attempt 15 = .ok (.iload 5, 2) := by decide +kernel
theorem dX11_attempt_17 : decode cX11_attempt 17 = .ok (.iload 6, 2) := by decide +kernel
theorem dX11_attempt_19 : decode cX11_attempt 19 = .ok (.invokestatic 168, 3) := by decide +kernel
theorem dX11_attempt_22 : decode cX11_attempt 22 = .ok (.ifCond .ne 6, 3) := by decide +kernel
theorem dX11_attempt_25 : decode cX11_attempt 25 = .ok (.bipush (-2), 2) := by decide +kernel
theorem dX11_attempt_27 : decode cX11_attempt 27 = .ok (.ireturn, 1) := by decide +kernel
theorem dX11_attempt_28 : decode cX11_attempt 28 = .ok (.aload_n 0, 1) := by decide +kernel
theorem dX11_attempt_29 : decode cX11_attempt 29 = .ok (.getfield 47, 3) := by decide +kernel
theorem dX11_attempt_32 : decode cX11_attempt 32 = .ok (.aload_n 0, 1) := by decide +kernel
theorem dX11_attempt_33 : decode cX11_attempt 33 = .ok (.getfield 40, 3) := by decide +kernel
theorem dX11_attempt_36 : decode cX11_attempt 36 = .ok (.getfield 151, 3) := by decide +kernel
theorem dX11_attempt_39 : decode cX11_attempt 39 = .ok (.aload_n 0, 1) := by decide +kernel
theorem dX11_attempt_40 : decode cX11_attempt 40 = .ok (.getfield 40, 3) := by decide +kernel
theorem dX11_attempt_43 : decode cX11_attempt 43 = .ok (.getfield 161, 3) := by decide +kernel
theorem dX11_attempt_46 : decode cX11_attempt 46 = .ok (.iload 5, 2) := by decide +kernel
theorem dX11_attempt_48 : decode cX11_attempt 48 = .ok (.iload 6, 2) := by decide +kernel
theorem dX11_attempt_50 : decode cX11_attempt 50 = .ok (.invokevirtual 171, 3) := by decide +kernel
theorem dX11_attempt_53 : decode cX11_attempt 53 = .ok (.istore 7, 2) := by decide +kernel
theorem dX11_attempt_55 : decode cX11_attempt 55 = .ok (.iload 7, 2) := by decide +kernel
theorem dX11_attempt_57 : decode cX11_attempt 57 = .ok (.ifCond .lt 7, 3) := by decide +kernel
theorem dX11_attempt_60 : decode cX11_attempt 60 = .ok (.aload_n 0, 1) := by decide +kernel
theorem dX11_attempt_61 : decode cX11_attempt 61 = .ok (.invokevirtual 175, 3) := by decide +kernel
theorem dX11_attempt_64 : decode cX11_attempt 64 = .ok (.iload 7, 2) := by decide +kernel
theorem dX11_attempt_66 : decode cX11_attempt 66 = .ok (.ireturn, 1) := by decide +kernel
set_option maxRecDepth 20000 in
theorem ggX11_attempt_X11_notePassed : GoodIn wsX11_attempt wsX11_notePassed := goodIn_r _ [124, 125, 1, 126, 127, 128, 129, 130, 131, 132, 133, 134, 135, 136, 137, 138, 139, 140, 141, 142, 143, 144, 145, 146, 147, 153, 154, 155, 156, 157, 158, 159, 160, 161, 162, 163, 164, 165, 166, 167, 168, 169, 170, 171, 172] rfl (by decide +kernel)
set_option maxRecDepth 20000 in
theorem gX11_attempt_X11_notePassed : GoodIn wsX11_attempt (wsV RX11 175 RX11 yX11_notePassed wsX11_notePassed) := goodIn_app (goodIn_of _ (by decide +kernel)) ggX11_attempt_X11_notePassed
set_option maxRecDepth 20000 in
theorem ggX11_attempt_X5_mayHold : GoodIn wsX11_attempt wsX5_mayHold := goodIn_r _ [23] rfl (by decide +kernel)
set_option maxRecDepth 20000 in
theorem gX11_attempt_X5_mayHold : GoodIn wsX11_attempt (va_wsS RX11 168 yX5_mayHold wsX5_mayHold) := goodIn_app (goodIn_of _ (by decide +kernel)) ggX11_attempt_X5_mayHold
set_option maxRecDepth 20000 in
theorem ggX11_attempt_X5_run : GoodIn wsX11_attempt wsX5_run := goodIn_r _ [27, 14, 28, 10, 29, 30, 31, 32, 33, 12, 13, 34, 35, 11, 36, 15, 16, 17, 18, 19, 20, 37, 38, 39, 40, 41, 42, 8, 43, 44, 45, 46, 47, 48, 49, 50, 51, 52, 53, 54, 55, 56, 57, 58, 59, 60, 61, 62, 63, 64, 65, 66, 67, 68, 69, 70, 71, 72, 73, 74, 75, 76, 77, 78, 79, 80, 81, 82, 83, 84, 85, 86, 87, 88, 89, 90, 91, 92, 93, 94, 95, 96, 97, 98, 99, 100, 101, 102, 103, 104, 105, 106, 107, 108, 109, 110, 111, 112, 113, 114, 115, 116, 117, 118, 119, 153, 154, 155, 156, 157, 158, 159, 160, 161, 162, 163, 164, 165, 166, 167, 168, 169, 170, 171, 172, 173, 174, 175, 176, 177, 178, 179, 180, 181, 182, 183, 184, 185] rfl (by decide +kernel)
set_option maxRecDepth 20000 in
theorem gX11_attempt_X5_run : GoodIn wsX11_attempt (wsV RX11 171 RX5 yX5_run wsX5_run) := goodIn_app (goodIn_of _ (by decide +kernel)) ggX11_attempt_X5_run
set_option maxRecDepth 20000 in
theorem ggX11_attempt_X5_takes : GoodIn wsX11_attempt wsX5_takes := goodIn_r _ [9, 10, 11, 12, 13, 14, 15, 16, 17, 18, 19, 20, 153, 154, 155, 156, 157, 158, 159, 160, 161, 162, 163, 164, 165, 166, 167, 168, 169, 170, 171, 172, 173, 174, 175, 176] rfl (by decide +kernel)
set_option maxRecDepth 20000 in
theorem gX11_attempt_X5_takes : GoodIn wsX11_attempt (wsV RX11 164 RX5 yX5_takes wsX5_takes) := goodIn_app (goodIn_of _ (by decide +kernel)) ggX11_attempt_X5_takes
set_option maxHeartbeats 4000000 in
set_option maxRecDepth 100000 in
theorem K_X11_attempt (l : Launch) (D : va_G) (x0 : Nat) (xt : Nat) (xs : Nat) (xq : Nat) (xr : Nat) (xp : Nat) (xl : Nat) (xc : Nat) (xj : Nat) (xe : Nat) (xo : Nat) (pa : Nat) (la_t : Nat) (la_h : Nat) (la_u : Nat) (la_o : Nat) (la_x : Nat) (cI : ClassId) (n : Nat) (fo : Nat) (wa : Nat) (we : Nat) (cf : Nat) (sf : Nat) (wf : Nat) (cg : Nat) (sg : Nat) (wg : Nat) (ch : Nat) (sh : Nat) (wh : Nat) (ph : Nat) (pl : Nat) (a : Int32) (b : Int32) (d : Int32) (h : Int32) (se : Int32) (sd : Int32) (sz : Nat) : Ki l yX11_attempt wsX11_attempt 4 126 0 0 D [.ref x0, .int a, .int b, .int d, .int h, .int se, .int sd] [(x0, .inr (10, [.ref xt, .ref xs, .ref xq, .ref xr, .ref xp, .ref xl, .ref xc, .ref xj, .ref xe, .ref xo, .ref pa, .int 0, .int 0, .int (-1)])), (xl, .inr (4, [.ref xs, .int 0, .int 0, .int 0, .int 0, .ref la_t, .int 0, .int 0, .ref la_h, .ref la_u, .ref la_o, .ref la_x, .int 0, .int 0, .int 0, .int 0, .int 0, .int 0, .int 0, .int 0])), (la_t, .inl (cI, 4, .inl (fun _ => 0))), (la_h, .inl (cI, 16, .inl (fun _ => 0))), (la_u, .inl (cI, 16, .inl (fun _ => 0))), (la_o, .inl (cI, 16, .inl (fun _ => 0))), (la_x, .inl (cI, 16, .inl (fun _ => 0))), (xs, .inr (6, [.ref n, .ref fo, .ref wa, .ref we])), (n, .inl (cI, 36, .inl g_nums)), (fo, .inr (2, [.ref cf, .int 1, .ref sf, .ref wf, .int 0, .int 0, .int 0, .int 0, .int 0])), (cf, .inl (cI, 80, .inl (upd (fun _ => 0) 0 (-1)))), (sf, .inl (cI, 12, .inl (fun _ => 0))), (wa, .inr (2, [.ref cg, .int 1, .ref sg, .ref wg, .int 0, .int 0, .int 0, .int 0, .int 0])), (cg, .inl (cI, 80, .inl (upd (fun _ => 0) 0 0))), (sg, .inl (cI, 12, .inl (fun _ => 0))), (we, .inr (2, [.ref ch, .int 1, .ref sh, .ref wh, .int 0, .int 0, .int 0, .int 0, .int 0])), (ch, .inl (cI, 80, .inl (upd (fun _ => 0) 0 0))), (sh, .inl (cI, 12, .inl (fun _ => 0))), (xp, .inr (5, [.ref xs, .ref ph, .int 0, .int 0, .ref pl])), (ph, .inl (cI, 96, .inl (fun _ => 1000))), (pa, .inl (cI, 7, .inl (fun _ => 0)))] [(cI, .int)] sz (fun (r : Int32) (_ : Unit) => r = (if (0 ≤ a ∧ a < 3 ∧ 1 ≤ b ∧ b ≤ 9 ∧ 1 ≤ d ∧ d ≤ 20 ∧ 1 ≤ h ∧ h ≤ 12) ∧ (0 ≤ se ∧ se ≤ 300 ∧ 0 ≤ sd ∧ sd ≤ 300) then (sp_fresh b.toNatClampNeg d h.toNatClampNeg se sd) else (-2))) (fun (_ : Unit) => []) (fun (_ : Unit) => [(cI, .int)]) := by
  unfold Ki
  refine g_ofW (cc := cX11_attempt) (lv := [(0, .ref x0), (1, .int a), (2, .int b), (3, .int d), (4, .int h), (5, .int se), (6, .int sd)]) (by decide) rfl (Nat.le_of_ble_eq_true rfl) rfl ?_
  intro p e s m args below meth c A Q hA hQ F hr hnm
  have hts := F.2.2.2.2.1
  have w_0 : (Cond.fieldLink RX11 47 "QuietCut" "lathe" "LQuietCut$Lathe;").before args s = true := hts _ (List.mem_of_getElem? (i := 1) rfl)
  have i_X11 : ∀ w ∈ u_ws RX11 TX11 14, w ∈ wsX11_attempt := fun _ h => List.mem_cons_of_mem _ (List.mem_append_left _ (List.mem_append_left _ (List.mem_append_left _ (List.mem_append_left _ (List.mem_append_right _ h)))))
  have w_1 : (Cond.fieldLink RX11 40 "QuietCut" "piece" "LQuietCut$Piece;").before args s = true := hts _ (List.mem_of_getElem? (i := 2) rfl)
  have w_2 : (Cond.fieldLink RX11 151 "QuietCut$Piece" "heights" "[I").before args s = true := hts _ (List.mem_of_getElem? (i := 3) rfl)
  have i_X6 : ∀ w ∈ u_ws RX6 TX6 5, w ∈ wsX11_attempt := fun _ h => List.mem_cons_of_mem _ (List.mem_append_left _ (List.mem_append_left _ (List.mem_append_left _ (List.mem_append_right _ h))))
  have w_3 : (Cond.fieldLink RX11 161 "QuietCut$Piece" "wear" "I").before args s = true := hts _ (List.mem_of_getElem? (i := 4) rfl)
  refine g_aload_n F 0 dX11_attempt_0 rfl rfl ?_
  refine g_get (C := RX11) (T := TX11) (N := 14) (v := .ref xl) F i_X11 0 rfl rfl 5 (by decide) w_0 rfl rfl dX11_attempt_1 ?_
  refine g_iload_n F 1 dX11_attempt_4 rfl rfl ?_
  refine g_iload_n F 2 dX11_attempt_5 rfl rfl ?_
  refine g_iload_n F 3 dX11_attempt_6 rfl rfl ?_
  refine g_iload F 4 dX11_attempt_7 rfl ?_
  refine g_callVi (k := 0) (n := 0) (b := xl) (As := [.int a, .int b, .int d, .int h]) (st := []) (wc := [(xl, .inr (4, [.ref xs, .int 0, .int 0, .int 0, .int 0, .ref la_t, .int 0, .int 0, .ref la_h, .ref la_u, .ref la_o, .ref la_x, .int 0, .int 0, .int 0, .int 0, .int 0, .int 0, .int 0, .int 0])), (xs, .inr (6, [.ref n, .ref fo, .ref wa, .ref we])), (n, .inl (cI, 36, .inl g_nums))]) (wr := [(x0, .inr (10, [.ref xt, .ref xs, .ref xq, .ref xr, .ref xp, .ref xl, .ref xc, .ref xj, .ref xe, .ref xo, .ref pa, .int 0, .int 0, .int (-1)])), (la_t, .inl (cI, 4, .inl (fun _ => 0))), (la_h, .inl (cI, 16, .inl (fun _ => 0))), (la_u, .inl (cI, 16, .inl (fun _ => 0))), (la_o, .inl (cI, 16, .inl (fun _ => 0))), (la_x, .inl (cI, 16, .inl (fun _ => 0))), (fo, .inr (2, [.ref cf, .int 1, .ref sf, .ref wf, .int 0, .int 0, .int 0, .int 0, .int 0])), (cf, .inl (cI, 80, .inl (upd (fun _ => 0) 0 (-1)))), (sf, .inl (cI, 12, .inl (fun _ => 0))), (wa, .inr (2, [.ref cg, .int 1, .ref sg, .ref wg, .int 0, .int 0, .int 0, .int 0, .int 0])), (cg, .inl (cI, 80, .inl (upd (fun _ => 0) 0 0))), (sg, .inl (cI, 12, .inl (fun _ => 0))), (we, .inr (2, [.ref ch, .int 1, .ref sh, .ref wh, .int 0, .int 0, .int 0, .int 0, .int 0])), (ch, .inl (cI, 80, .inl (upd (fun _ => 0) 0 0))), (sh, .inl (cI, 12, .inl (fun _ => 0))), (xp, .inr (5, [.ref xs, .ref ph, .int 0, .int 0, .ref pl])), (ph, .inl (cI, 96, .inl (fun _ => 1000))), (pa, .inl (cI, 7, .inl (fun _ => 0)))]) F [1, 7, 8] [0, 2, 3, 4, 5, 6, 9, 10, 11, 12, 13, 14, 15, 16, 17, 18, 19, 20] [0] rfl rfl (by decide) rfl (by decide) (by decide) rfl (fun sz => K_X5_takes l D xl xs la_t la_h la_u la_o la_x n fo wa we cI 0 0 0 0 0 0 0 0 0 0 0 0 0 0 a b d h  sz) (cwV 4 hts gX11_attempt_X5_takes rfl rfl rfl (by decide +kernel) ⟨Nat.le_of_ble_eq_true rfl, Nat.le_of_ble_eq_true rfl⟩) rfl 0 rfl rfl (Nat.le_of_ble_eq_true rfl) ⟨Nat.le_of_ble_eq_true rfl, Nat.le_of_ble_eq_true rfl⟩ dX11_attempt_9 (fun r_1 _ hw_2 => ?_)
  have hw_2 : r_1 = (if 0 ≤ a ∧ a < 3 ∧ 1 ≤ b ∧ b ≤ 9 ∧ 1 ≤ d ∧ d ≤ 20 ∧ 1 ≤ h ∧ h ≤ 12 then 1 else 0) := hw_2
  have e_r_1 := hw_2
  show gG p l e (gR 4 0 0 126) s m args below meth c D A 8 Q 0 0 [(x0, .inr (10, [.ref xt, .ref xs, .ref xq, .ref xr, .ref xp, .ref xl, .ref xc, .ref xj, .ref xe, .ref xo, .ref pa, .int 0, .int 0, .int (-1)])), (la_t, .inl (cI, 4, .inl (fun _ => 0))), (la_h, .inl (cI, 16, .inl (fun _ => 0))), (la_u, .inl (cI, 16, .inl (fun _ => 0))), (la_o, .inl (cI, 16, .inl (fun _ => 0))), (la_x, .inl (cI, 16, .inl (fun _ => 0))), (fo, .inr (2, [.ref cf, .int 1, .ref sf, .ref wf, .int 0, .int 0, .int 0, .int 0, .int 0])), (cf, .inl (cI, 80, .inl (upd (fun _ => 0) 0 (-1)))), (sf, .inl (cI, 12, .inl (fun _ => 0))), (wa, .inr (2, [.ref cg, .int 1, .ref sg, .ref wg, .int 0, .int 0, .int 0, .int 0, .int 0])), (cg, .inl (cI, 80, .inl (upd (fun _ => 0) 0 0))), (sg, .inl (cI, 12, .inl (fun _ => 0))), (we, .inr (2, [.ref ch, .int 1, .ref sh, .ref wh, .int 0, .int 0, .int 0, .int 0, .int 0])), (ch, .inl (cI, 80, .inl (upd (fun _ => 0) 0 0))), (sh, .inl (cI, 12, .inl (fun _ => 0))), (xp, .inr (5, [.ref xs, .ref ph, .int 0, .int 0, .ref pl])), (ph, .inl (cI, 96, .inl (fun _ => 1000))), (pa, .inl (cI, 7, .inl (fun _ => 0))), (xl, .inr (4, [.ref xs, .int a, .int b, .int d, .int h, .ref la_t, .int 0, .int 0, .ref la_h, .ref la_u, .ref la_o, .ref la_x, .int 0, .int 0, .int 0, .int 0, .int 0, .int 0, .int 0, .int 0])), (xs, .inr (6, [.ref n, .ref fo, .ref wa, .ref we])), (n, .inl (cI, 36, .inl g_nums))] [(cI, .int)] [(0, .ref x0), (1, .int a), (2, .int b), (3, .int d), (4, .int h), (5, .int se), (6, .int sd)] 12 [.int r_1]
  refine g_fold (if 0 ≤ a ∧ a < 3 ∧ 1 ≤ b ∧ b ≤ 9 ∧ 1 ≤ d ∧ d ≤ 20 ∧ 1 ≤ h ∧ h ≤ 12 then 1 else 0) e_r_1 ?_
  refine g_if_eq F 25 dX11_attempt_12 (by decide) (fun c_12 => ?_) (fun c_12 => ?_)
  · have c_12 := gb_0 c_12
    refine g_bipush F (-2) dX11_attempt_25 (by decide) ?_
    exact g_iret F hA hQ hr () (by first | exact (gi_e (by (simp only [Int32.lt_iff_toInt_lt, Int32.le_iff_toInt_le, ← Int32.toInt_inj, Int32.reduceToInt] at c_12 ⊢; omega)) rfl)) [] [0] rfl (by decide) rfl rfl dX11_attempt_27
  · have c_12 := gb_n0 c_12
    refine g_iload F 5 dX11_attempt_15 rfl ?_
    refine g_iload F 6 dX11_attempt_17 rfl ?_
    refine g_callSi (k := 0) (n := 0) (As := [.int se, .int sd]) (st := []) (wc := []) (wr := [(x0, .inr (10, [.ref xt, .ref xs, .ref xq, .ref xr, .ref xp, .ref xl, .ref xc, .ref xj, .ref xe, .ref xo, .ref pa, .int 0, .int 0, .int (-1)])), (la_t, .inl (cI, 4, .inl (fun _ => 0))), (la_h, .inl (cI, 16, .inl (fun _ => 0))), (la_u, .inl (cI, 16, .inl (fun _ => 0))), (la_o, .inl (cI, 16, .inl (fun _ => 0))), (la_x, .inl (cI, 16, .inl (fun _ => 0))), (fo, .inr (2, [.ref cf, .int 1, .ref sf, .ref wf, .int 0, .int 0, .int 0, .int 0, .int 0])), (cf, .inl (cI, 80, .inl (upd (fun _ => 0) 0 (-1)))), (sf, .inl (cI, 12, .inl (fun _ => 0))), (wa, .inr (2, [.ref cg, .int 1, .ref sg, .ref wg, .int 0, .int 0, .int 0, .int 0, .int 0])), (cg, .inl (cI, 80, .inl (upd (fun _ => 0) 0 0))), (sg, .inl (cI, 12, .inl (fun _ => 0))), (we, .inr (2, [.ref ch, .int 1, .ref sh, .ref wh, .int 0, .int 0, .int 0, .int 0, .int 0])), (ch, .inl (cI, 80, .inl (upd (fun _ => 0) 0 0))), (sh, .inl (cI, 12, .inl (fun _ => 0))), (xp, .inr (5, [.ref xs, .ref ph, .int 0, .int 0, .ref pl])), (ph, .inl (cI, 96, .inl (fun _ => 1000))), (pa, .inl (cI, 7, .inl (fun _ => 0))), (xl, .inr (4, [.ref xs, .int a, .int b, .int d, .int h, .ref la_t, .int 0, .int 0, .ref la_h, .ref la_u, .ref la_o, .ref la_x, .int 0, .int 0, .int 0, .int 0, .int 0, .int 0, .int 0, .int 0])), (xs, .inr (6, [.ref n, .ref fo, .ref wa, .ref we])), (n, .inl (cI, 36, .inl g_nums))]) F [] [0, 1, 2, 3, 4, 5, 6, 7, 8, 9, 10, 11, 12, 13, 14, 15, 16, 17, 18, 19, 20] [] rfl rfl (by decide) rfl (by decide) (by decide) rfl (fun sz => K_X5_mayHold l D se sd  sz) (va_cwS 2 hts gX11_attempt_X5_mayHold rfl rfl rfl (by decide +kernel) ⟨Nat.le_of_ble_eq_true rfl, Nat.le_of_ble_eq_true rfl⟩) rfl (Nat.le_of_ble_eq_true rfl) ⟨Nat.le_of_ble_eq_true rfl, Nat.le_of_ble_eq_true rfl⟩ dX11_attempt_19 (fun r_6 _ hw_7 => ?_)
    have hw_7 : r_6 = (if 0 ≤ se ∧ se ≤ 300 ∧ 0 ≤ sd ∧ sd ≤ 300 then 1 else 0) := hw_7
    have e_r_6 := hw_7
    show gG p l e (gR 4 0 0 126) s m args below meth c D A 8 Q 0 0 [(x0, .inr (10, [.ref xt, .ref xs, .ref xq, .ref xr, .ref xp, .ref xl, .ref xc, .ref xj, .ref xe, .ref xo, .ref pa, .int 0, .int 0, .int (-1)])), (la_t, .inl (cI, 4, .inl (fun _ => 0))), (la_h, .inl (cI, 16, .inl (fun _ => 0))), (la_u, .inl (cI, 16, .inl (fun _ => 0))), (la_o, .inl (cI, 16, .inl (fun _ => 0))), (la_x, .inl (cI, 16, .inl (fun _ => 0))), (fo, .inr (2, [.ref cf, .int 1, .ref sf, .ref wf, .int 0, .int 0, .int 0, .int 0, .int 0])), (cf, .inl (cI, 80, .inl (upd (fun _ => 0) 0 (-1)))), (sf, .inl (cI, 12, .inl (fun _ => 0))), (wa, .inr (2, [.ref cg, .int 1, .ref sg, .ref wg, .int 0, .int 0, .int 0, .int 0, .int 0])), (cg, .inl (cI, 80, .inl (upd (fun _ => 0) 0 0))), (sg, .inl (cI, 12, .inl (fun _ => 0))), (we, .inr (2, [.ref ch, .int 1, .ref sh, .ref wh, .int 0, .int 0, .int 0, .int 0, .int 0])), (ch, .inl (cI, 80, .inl (upd (fun _ => 0) 0 0))), (sh, .inl (cI, 12, .inl (fun _ => 0))), (xp, .inr (5, [.ref xs, .ref ph, .int 0, .int 0, .ref pl])), (ph, .inl (cI, 96, .inl (fun _ => 1000))), (pa, .inl (cI, 7, .inl (fun _ => 0))), (xl, .inr (4, [.ref xs, .int a, .int b, .int d, .int h, .ref la_t, .int 0, .int 0, .ref la_h, .ref la_u, .ref la_o, .ref la_x, .int 0, .int 0, .int 0, .int 0, .int 0, .int 0, .int 0, .int 0])), (xs, .inr (6, [.ref n, .ref fo, .ref wa, .ref we])), (n, .inl (cI, 36, .inl g_nums))] [(cI, .int)] [(0, .ref x0), (1, .int a), (2, .int b), (3, .int d), (4, .int h), (5, .int se), (6, .int sd)] 22 [.int r_6]
    refine g_fold (if 0 ≤ se ∧ se ≤ 300 ∧ 0 ≤ sd ∧ sd ≤ 300 then 1 else 0) e_r_6 ?_
    refine g_if_ne F 28 dX11_attempt_22 (by decide) (fun c_22 => ?_) (fun c_22 => ?_)
    · have c_22 := gb_n0 c_22
      refine g_aload_n F 0 dX11_attempt_28 rfl rfl ?_
      refine g_get (C := RX11) (T := TX11) (N := 14) (v := .ref xl) F i_X11 0 rfl rfl 5 (by decide) w_0 rfl rfl dX11_attempt_29 ?_
      refine g_aload_n F 0 dX11_attempt_32 rfl rfl ?_
      refine g_get (C := RX11) (T := TX11) (N := 14) (v := .ref xp) F i_X11 0 rfl rfl 4 (by decide) w_1 rfl rfl dX11_attempt_33 ?_
      refine g_get (C := RX6) (T := TX6) (N := 5) (v := .ref ph) F i_X6 15 rfl rfl 1 (by decide) w_2 rfl rfl dX11_attempt_36 ?_
      refine g_aload_n F 0 dX11_attempt_39 rfl rfl ?_
      refine g_get (C := RX11) (T := TX11) (N := 14) (v := .ref xp) F i_X11 0 rfl rfl 4 (by decide) w_1 rfl rfl dX11_attempt_40 ?_
      refine g_get (C := RX6) (T := TX6) (N := 5) (v := .int 0) F i_X6 15 rfl rfl 2 (by decide) w_3 rfl rfl dX11_attempt_43 ?_
      refine g_iload F 5 dX11_attempt_46 rfl ?_
      refine g_iload F 6 dX11_attempt_48 rfl ?_
      refine g_callVi (k := 0) (n := 0) (b := xl) (As := [.ref ph, .int 0, .int se, .int sd]) (st := []) (wc := [(xl, .inr (4, [.ref xs, .int a, .int b, .int d, .int h, .ref la_t, .int 0, .int 0, .ref la_h, .ref la_u, .ref la_o, .ref la_x, .int 0, .int 0, .int 0, .int 0, .int 0, .int 0, .int 0, .int 0])), (la_t, .inl (cI, 4, .inl (fun _ => 0))), (la_h, .inl (cI, 16, .inl (fun _ => 0))), (la_u, .inl (cI, 16, .inl (fun _ => 0))), (la_o, .inl (cI, 16, .inl (fun _ => 0))), (la_x, .inl (cI, 16, .inl (fun _ => 0))), (xs, .inr (6, [.ref n, .ref fo, .ref wa, .ref we])), (n, .inl (cI, 36, .inl g_nums)), (fo, .inr (2, [.ref cf, .int 1, .ref sf, .ref wf, .int 0, .int 0, .int 0, .int 0, .int 0])), (cf, .inl (cI, 80, .inl (upd (fun _ => 0) 0 (-1)))), (sf, .inl (cI, 12, .inl (fun _ => 0))), (wa, .inr (2, [.ref cg, .int 1, .ref sg, .ref wg, .int 0, .int 0, .int 0, .int 0, .int 0])), (cg, .inl (cI, 80, .inl (upd (fun _ => 0) 0 0))), (sg, .inl (cI, 12, .inl (fun _ => 0))), (we, .inr (2, [.ref ch, .int 1, .ref sh, .ref wh, .int 0, .int 0, .int 0, .int 0, .int 0])), (ch, .inl (cI, 80, .inl (upd (fun _ => 0) 0 0))), (sh, .inl (cI, 12, .inl (fun _ => 0))), (ph, .inl (cI, 96, .inl (fun _ => 1000)))]) (wr := [(x0, .inr (10, [.ref xt, .ref xs, .ref xq, .ref xr, .ref xp, .ref xl, .ref xc, .ref xj, .ref xe, .ref xo, .ref pa, .int 0, .int 0, .int (-1)])), (xp, .inr (5, [.ref xs, .ref ph, .int 0, .int 0, .ref pl])), (pa, .inl (cI, 7, .inl (fun _ => 0)))]) F [18, 1, 2, 3, 4, 5, 19, 20, 6, 7, 8, 9, 10, 11, 12, 13, 14, 16] [0, 15, 17] [0] rfl rfl (by decide) rfl (by decide) (by decide) rfl (fun sz => K_X5_run0 l D xl xs la_t la_h la_u la_o la_x n fo wa we cf sf wf ch sh wh cg sg wg ph cI a b d h 0 0 0 0 0 0 0 0 0 (fun _ => 0) (fun _ => 0) (fun _ => 0) (fun _ => 0) (fun _ => 0) (fun _ => 0) (fun _ => 0) (fun _ => 0) (fun _ => 1000) se sd a.toNatClampNeg b.toNatClampNeg h.toNatClampNeg ((tk_all c_12).1) ((tk_all c_12).2.1) ((tk_all c_12).2.2.1) ((tk_all c_12).2.2.2.1) ((tk_all c_12).2.2.2.2.1) ((tk_all c_12).2.2.2.2.2.1) ((tk_all c_12).2.2.2.2.2.2.1) ((tk_all c_12).2.2.2.2.2.2.2) (fun _ _ => ⟨by decide, by decide⟩) ((mh_all c_22).1) ((mh_all c_22).2.1) ((mh_all c_22).2.2.1) ((mh_all c_22).2.2.2) sz) (cwV 4 hts gX11_attempt_X5_run rfl rfl rfl (by decide +kernel) ⟨Nat.le_of_ble_eq_true rfl, Nat.le_of_ble_eq_true rfl⟩) rfl 0 rfl rfl (Nat.le_of_ble_eq_true rfl) ⟨Nat.le_of_ble_eq_true rfl, Nat.le_of_ble_eq_true rfl⟩ dX11_attempt_50 (fun r_11 u_10 hw_12 => ?_)
      obtain ⟨z_teethMany_13, z_wear_13, z_x_13, z_v_13, z_wave_13, z_time_13, z_out_13, z_farthest_13, z_begun_13, gt_13, gh_13, gu_13, gq_13, gx_13, g1_13, g2_13, g3_13⟩ := u_10
      have hw_12 : (r_11 = (if ((sp_most (fun s => (fun _ => 1000) (16 * a.toNatClampNeg + s)) 7) - (d * h)) < 1 then (-4) else (sp_ver (sp_pass (sp_most (fun s => (fun _ => 1000) (16 * a.toNatClampNeg + s)) 7) d b.toNatClampNeg se sd (fun _ => 0) 1 (fun s => (fun _ => 1000) (16 * a.toNatClampNeg + s)) (8 * h.toNatClampNeg))))) ∧ (¬ (((sp_most (fun s => (fun _ => 1000) (16 * a.toNatClampNeg + s)) 7) - (d * h)) < 1) → ∀ j, j < 8 → gh_13 j = ((sp_pass (sp_most (fun s => (fun _ => 1000) (16 * a.toNatClampNeg + s)) 7) d b.toNatClampNeg se sd (fun _ => 0) 1 (fun s => (fun _ => 1000) (16 * a.toNatClampNeg + s)) (8 * h.toNatClampNeg))).1 j) ∧ (¬ (((sp_most (fun s => (fun _ => 1000) (16 * a.toNatClampNeg + s)) 7) - (d * h)) < 1) → z_wear_13 = 0) := hw_12
      obtain ⟨e_r_11, hp0_14, hp1_14⟩ := hw_12
      show gG p l e (gR 4 0 0 126) s m args below meth c D A 8 Q 0 0 [(x0, .inr (10, [.ref xt, .ref xs, .ref xq, .ref xr, .ref xp, .ref xl, .ref xc, .ref xj, .ref xe, .ref xo, .ref pa, .int 0, .int 0, .int (-1)])), (xp, .inr (5, [.ref xs, .ref ph, .int 0, .int 0, .ref pl])), (pa, .inl (cI, 7, .inl (fun _ => 0))), (xl, .inr (4, [.ref xs, .int a, .int b, .int d, .int h, .ref la_t, .int 0, .int z_teethMany_13, .ref la_h, .ref la_u, .ref la_o, .ref la_x, .int z_wear_13, .int z_x_13, .int z_v_13, .int z_wave_13, .int z_time_13, .int z_out_13, .int z_farthest_13, .int z_begun_13])), (la_t, .inl (cI, 4, .inl gt_13)), (la_h, .inl (cI, 16, .inl gh_13)), (la_u, .inl (cI, 16, .inl gu_13)), (la_o, .inl (cI, 16, .inl gq_13)), (la_x, .inl (cI, 16, .inl gx_13)), (xs, .inr (6, [.ref n, .ref fo, .ref wa, .ref we])), (n, .inl (cI, 36, .inl g_nums)), (fo, .inr (2, [.ref cf, .int 1, .ref sf, .ref wf, .int 0, .int 0, .int 0, .int 0, .int 0])), (cf, .inl (cI, 80, .inl (upd (fun _ => 0) 0 (-1)))), (sf, .inl (cI, 12, .inl g1_13)), (wa, .inr (2, [.ref cg, .int 1, .ref sg, .ref wg, .int 0, .int 0, .int 0, .int 0, .int 0])), (cg, .inl (cI, 80, .inl (upd (fun _ => 0) 0 0))), (sg, .inl (cI, 12, .inl g2_13)), (we, .inr (2, [.ref ch, .int 1, .ref sh, .ref wh, .int 0, .int 0, .int 0, .int 0, .int 0])), (ch, .inl (cI, 80, .inl (upd (fun _ => 0) 0 0))), (sh, .inl (cI, 12, .inl g3_13)), (ph, .inl (cI, 96, .inl (fun _ => 1000)))] [(cI, .int)] [(0, .ref x0), (1, .int a), (2, .int b), (3, .int d), (4, .int h), (5, .int se), (6, .int sd)] 53 [.int r_11]
      refine g_fold (if ((sp_most (fun s => (fun _ => 1000) (16 * a.toNatClampNeg + s)) 7) - (d * h)) < 1 then (-4) else (sp_ver (sp_pass (sp_most (fun s => (fun _ => 1000) (16 * a.toNatClampNeg + s)) 7) d b.toNatClampNeg se sd (fun _ => 0) 1 (fun s => (fun _ => 1000) (16 * a.toNatClampNeg + s)) (8 * h.toNatClampNeg)))) e_r_11 ?_
      refine g_fold (sp_fresh b.toNatClampNeg d h.toNatClampNeg se sd) (run_fresh (rr := 0) (tk_all c_12).2.2.2.2.1 (tk_all c_12).2.2.2.2.2.1 (tk_all c_12).2.2.2.2.2.2.1 (tk_all c_12).2.2.2.2.2.2.2) ?_
      refine g_istore F [(7, .int (sp_fresh b.toNatClampNeg d h.toNatClampNeg se sd)), (0, .ref x0), (1, .int a), (2, .int b), (3, .int d), (4, .int h), (5, .int se), (6, .int sd)] dX11_attempt_53 (by decide) rfl ?_
      refine g_iload F 0 dX11_attempt_55 rfl ?_
      refine g_if_lt F 64 dX11_attempt_57 (by decide) (fun h9 => absurd h9 (Int32.not_lt.mpr (sp_fresh_nn _ _ _ _ _))) (fun c_57 => ?_)
      refine g_aload_n F 1 dX11_attempt_60 rfl rfl ?_
      refine g_callVv (k := 0) (n := 0) (b := x0) (As := []) (st := []) (wc := [(x0, .inr (10, [.ref xt, .ref xs, .ref xq, .ref xr, .ref xp, .ref xl, .ref xc, .ref xj, .ref xe, .ref xo, .ref pa, .int 0, .int 0, .int (-1)])), (xl, .inr (4, [.ref xs, .int a, .int b, .int d, .int h, .ref la_t, .int 0, .int z_teethMany_13, .ref la_h, .ref la_u, .ref la_o, .ref la_x, .int z_wear_13, .int z_x_13, .int z_v_13, .int z_wave_13, .int z_time_13, .int z_out_13, .int z_farthest_13, .int z_begun_13])), (pa, .inl (cI, 7, .inl (fun _ => 0)))]) (wr := [(xp, .inr (5, [.ref xs, .ref ph, .int 0, .int 0, .ref pl])), (la_t, .inl (cI, 4, .inl gt_13)), (la_h, .inl (cI, 16, .inl gh_13)), (la_u, .inl (cI, 16, .inl gu_13)), (la_o, .inl (cI, 16, .inl gq_13)), (la_x, .inl (cI, 16, .inl gx_13)), (xs, .inr (6, [.ref n, .ref fo, .ref wa, .ref we])), (n, .inl (cI, 36, .inl g_nums)), (fo, .inr (2, [.ref cf, .int 1, .ref sf, .ref wf, .int 0, .int 0, .int 0, .int 0, .int 0])), (cf, .inl (cI, 80, .inl (upd (fun _ => 0) 0 (-1)))), (sf, .inl (cI, 12, .inl g1_13)), (wa, .inr (2, [.ref cg, .int 1, .ref sg, .ref wg, .int 0, .int 0, .int 0, .int 0, .int 0])), (cg, .inl (cI, 80, .inl (upd (fun _ => 0) 0 0))), (sg, .inl (cI, 12, .inl g2_13)), (we, .inr (2, [.ref ch, .int 1, .ref sh, .ref wh, .int 0, .int 0, .int 0, .int 0, .int 0])), (ch, .inl (cI, 80, .inl (upd (fun _ => 0) 0 0))), (sh, .inl (cI, 12, .inl g3_13)), (ph, .inl (cI, 96, .inl (fun _ => 1000)))]) F [0, 3, 2] [1, 4, 5, 6, 7, 8, 9, 10, 11, 12, 13, 14, 15, 16, 17, 18, 19, 20] [0] rfl rfl (by decide) rfl (by decide) (by decide) rfl (fun sz => K_X11_notePassed l D x0 xt xs xq xr xp xl xc xj xe xo pa la_t la_h la_u la_o la_x cI a b d h 0 z_teethMany_13 z_wear_13 z_x_13 z_v_13 z_wave_13 z_time_13 z_out_13 z_farthest_13 z_begun_13 (fun _ => 0)  sz) (cwV 0 hts gX11_attempt_X11_notePassed rfl rfl rfl (by decide +kernel) ⟨Nat.le_of_ble_eq_true rfl, Nat.le_of_ble_eq_true rfl⟩) rfl 0 rfl rfl (Nat.le_of_ble_eq_true rfl) ⟨Nat.le_of_ble_eq_true rfl, Nat.le_of_ble_eq_true rfl⟩ dX11_attempt_61 (fun u_15 hw_17 => ?_)
      obtain ⟨gp_18, rfl⟩ : ∃ z, z = u_15 := ⟨_, rfl⟩
      show gG p l e (gR 4 0 0 126) s m args below meth c D A 8 Q 0 0 [(xp, .inr (5, [.ref xs, .ref ph, .int 0, .int 0, .ref pl])), (la_t, .inl (cI, 4, .inl gt_13)), (la_h, .inl (cI, 16, .inl gh_13)), (la_u, .inl (cI, 16, .inl gu_13)), (la_o, .inl (cI, 16, .inl gq_13)), (la_x, .inl (cI, 16, .inl gx_13)), (xs, .inr (6, [.ref n, .ref fo, .ref wa, .ref we])), (n, .inl (cI, 36, .inl g_nums)), (fo, .inr (2, [.ref cf, .int 1, .ref sf, .ref wf, .int 0, .int 0, .int 0, .int 0, .int 0])), (cf, .inl (cI, 80, .inl (upd (fun _ => 0) 0 (-1)))), (sf, .inl (cI, 12, .inl g1_13)), (wa, .inr (2, [.ref cg, .int 1, .ref sg, .ref wg, .int 0, .int 0, .int 0, .int 0, .int 0])), (cg, .inl (cI, 80, .inl (upd (fun _ => 0) 0 0))), (sg, .inl (cI, 12, .inl g2_13)), (we, .inr (2, [.ref ch, .int 1, .ref sh, .ref wh, .int 0, .int 0, .int 0, .int 0, .int 0])), (ch, .inl (cI, 80, .inl (upd (fun _ => 0) 0 0))), (sh, .inl (cI, 12, .inl g3_13)), (ph, .inl (cI, 96, .inl (fun _ => 1000))), (x0, .inr (10, [.ref xt, .ref xs, .ref xq, .ref xr, .ref xp, .ref xl, .ref xc, .ref xj, .ref xe, .ref xo, .ref pa, .int 1, .int 0, .int (-1)])), (xl, .inr (4, [.ref xs, .int a, .int b, .int d, .int h, .ref la_t, .int 0, .int z_teethMany_13, .ref la_h, .ref la_u, .ref la_o, .ref la_x, .int z_wear_13, .int z_x_13, .int z_v_13, .int z_wave_13, .int z_time_13, .int z_out_13, .int z_farthest_13, .int z_begun_13])), (pa, .inl (cI, 7, .inl gp_18))] [(cI, .int)] [(7, .int (sp_fresh b.toNatClampNeg d h.toNatClampNeg se sd)), (0, .ref x0), (1, .int a), (2, .int b), (3, .int d), (4, .int h), (5, .int se), (6, .int sd)] 64 []
      refine g_iload F 0 dX11_attempt_64 rfl ?_
      exact g_iret F hA hQ hr () (gi_p ⟨c_12, c_22⟩ rfl) [] [0] rfl (by decide) rfl rfl dX11_attempt_66
    · have c_22 := gb_0 c_22
      refine g_bipush F (-2) dX11_attempt_25 (by decide) ?_
      exact g_iret F hA hQ hr () (by first | exact (gi_e (by (simp only [Int32.lt_iff_toInt_lt, Int32.le_iff_toInt_le, ← Int32.toInt_inj, Int32.reduceToInt] at c_12 c_22 ⊢; omega)) rfl)) [] [0] rfl (by decide) rfl rfl dX11_attempt_27

theorem dX0_sureness_0 : decode cX0_sureness 0 = .ok (.iconst 0, 1) := by decide +kernel
theorem dX0_sureness_1 : decode cX0_sureness 1 = .ok (.istore_n 1, 1) := by decide +kernel
theorem dX0_sureness_2 : decode cX0_sureness 2 = .ok (.iconst 0, 1) := by decide +kernel
theorem dX0_sureness_3 : decode cX0_sureness 3 = .ok (.istore_n 2, 1) := by decide +kernel
theorem dX0_sureness_4 : decode cX0_sureness 4 = .ok (.aload_n 0, 1) := by decide +kernel
theorem dX0_sureness_5 : decode cX0_sureness 5 = .ok (.getfield 24, 3) := by decide +kernel
theorem dX0_sureness_8 : decode cX0_sureness 8 = .ok (.getfield 36, 3) := by decide +kernel
theorem dX0_sureness_11 : decode cX0_sureness 11 = .ok (.iconst 3, 1) := by decide +kernel
theorem dX0_sureness_12 : decode cX0_sureness 12 = .ok (.iaload, 1) := by decide +kernel
theorem dX0_sureness_13 : decode cX0_sureness 13 = .ok (.istore_n 3, 1) := by decide +kernel
theorem dX0_sureness_14 : decode cX0_sureness 14 = .ok (.iload_n 3, 1) := by decide +kernel
theorem dX0_sureness_15 : decode cX0_sureness 15 = .ok (.aload_n 0, 1) := by decide +kernel
theorem dX0_sureness_16 : decode cX0_sureness 16 = .ok (.getfield 24, 3) := by decide +kernel
theorem dX0_sureness_19 : decode cX0_sureness 19 = .ok (.getfield 36, 3) := by decide +kernel
theorem dX0_sureness_22 : decode cX0_sureness 22 = .ok (.iconst 4, 1) := by decide +kernel
theorem dX0_sureness_23 : decode cX0_sureness 23 = .ok (.iaload, 1) := by decide +kernel
theorem dX0_sureness_24 : decode cX0_sureness 24 = .ok (.if_icmp .gt 113, 3) := by decide +kernel
theorem dX0_sureness_27 : decode cX0_sureness 27 = .ok (.aload_n 0, 1) := by decide +kernel
theorem dX0_sureness_28 : decode cX0_sureness 28 = .ok (.getfield 24, 3) := by decide +kernel
theorem dX0_sureness_31 : decode cX0_sureness 31 = .ok (.getfield 36, 3) := by decide +kernel
theorem dX0_sureness_34 : decode cX0_sureness 34 = .ok (.iconst 5, 1) := by decide +kernel
theorem dX0_sureness_35 : decode cX0_sureness 35 = .ok (.iaload, 1) := by decide +kernel
theorem dX0_sureness_36 : decode cX0_sureness 36 = .ok (.istore 4, 2) := by decide +kernel
theorem dX0_sureness_38 : decode cX0_sureness 38 = .ok (.iload 4, 2) := by decide +kernel
theorem dX0_sureness_40 : decode cX0_sureness 40 = .ok (.aload_n 0, 1) := by decide +kernel
theorem dX0_sureness_41 : decode cX0_sureness 41 = .ok (.getfield 24, 3) := by decide +kernel
theorem dX0_sureness_44 : decode cX0_sureness 44 = .ok (.getfield 36, 3) := by decide +kernel
theorem dX0_sureness_47 : decode cX0_sureness 47 = .ok (.bipush 6, 2) := by decide +kernel
theorem dX0_sureness_49 : decode cX0_sureness 49 = .ok (.iaload, 1) := by decide +kernel
theorem dX0_sureness_50 : decode cX0_sureness 50 = .ok (.if_icmp .gt 81, 3) := by decide +kernel
theorem dX0_sureness_53 : decode cX0_sureness 53 = .ok (.aload_n 0, 1) := by decide +kernel
theorem dX0_sureness_54 : decode cX0_sureness 54 = .ok (.getfield 32, 3) := by decide +kernel
theorem dX0_sureness_57 : decode cX0_sureness 57 = .ok (.aload_n 0, 1) := by decide +kernel
theorem dX0_sureness_58 : decode cX0_sureness 58 = .ok (.getfield 28, 3) := by decide +kernel
theorem dX0_sureness_61 : decode cX0_sureness 61 = .ok (.getfield 41, 3) := by decide +kernel
theorem dX0_sureness_64 : decode cX0_sureness 64 = .ok (.aload_n 0, 1) := by decide +kernel
theorem dX0_sureness_65 : decode cX0_sureness 65 = .ok (.getfield 28, 3) := by decide +kernel
theorem dX0_sureness_68 : decode cX0_sureness 68 = .ok (.getfield 46, 3) := by decide +kernel
theorem dX0_sureness_71 : decode cX0_sureness 71 = .ok (.iload_n 3, 1) := by decide +kernel
theorem dX0_sureness_72 : decode cX0_sureness 72 = .ok (.iload 4, 2) := by decide +kernel
theorem dX0_sureness_74 : decode cX0_sureness 74 = .ok (.invokevirtual 50, 3) := by decide +kernel
theorem dX0_sureness_77 : decode cX0_sureness 77 = .ok (.istore 5, 2) := by decide +kernel
theorem dX0_sureness_79 : decode cX0_sureness 79 = .ok (.iload 5, 2) := by decide +kernel
theorem dX0_sureness_81 : decode cX0_sureness 81 = .ok (.bipush (-4), 2) := by decide +kernel
theorem dX0_sureness_83 : decode cX0_sureness 83 = .ok (.if_icmp .ne 6, 3) := by decide +kernel
theorem dX0_sureness_86 : decode cX0_sureness 86 = .ok (.bipush (-4), 2) := by decide +kernel
theorem dX0_sureness_88 : decode cX0_sureness 88 = .ok (.ireturn, 1) := by decide +kernel
theorem dX0_sureness_89 : decode cX0_sureness 89 = .ok (.iload_n 1, 1) := by decide +kernel
theorem dX0_sureness_90 : decode cX0_sureness 90 = .ok (.iload 5, 2) := by decide +kernel
theorem dX0_sureness_92 : decode cX0_sureness 92 = .ok (.ifCond .ne 7, 3) := by decide +kernel
theorem dX0_sureness_95 : decode cX0_sureness 95 = .ok (.iconst 1, 1) := by decide +kernel
theorem dX0_sureness_96 : decode cX0_sureness 96 = .ok (.goto 4, 3) := by decide +kernel
theorem dX0_sureness_99 : decode cX0_sureness 99 = .ok (.iconst 0, 1) := by decide +kernel
theorem dX0_sureness_100 : decode cX0_sureness 100 = .ok (.ior, 1) := by decide +kernel
theorem dX0_sureness_101 : decode cX0_sureness 101 = .ok (.istore_n 1, 1) := by decide +kernel
theorem dX0_sureness_102 : decode cX0_sureness 102 = .ok (.iload_n 2, 1) := by decide +kernel
theorem dX0_sureness_103 : decode cX0_sureness 103 = .ok (.iload 5, 2) := by decide +kernel
theorem dX0_sureness_105 : decode cX0_sureness 105 = .ok (.ifCond .eq 7, 3) := by decide +kernel
theorem dX0_sureness_108 : decode cX0_sureness 108 = .ok (.iconst 1, 1) := by decide +kernel
theorem dX0_sureness_109 : decode cX0_sureness 109 = .ok (.goto 4, 3) := by decide +kernel
theorem dX0_sureness_112 : decode cX0_sureness 112 = .ok (.iconst 0, 1) := by decide +kernel
theorem dX0_sureness_113 : decode cX0_sureness 113 = .ok (.ior, 1) := by decide +kernel
theorem dX0_sureness_114 : decode cX0_sureness 114 = .ok (.istore_n 2, 1) := by decide +kernel
theorem dX0_sureness_115 : decode cX0_sureness 115 = .ok (.iload_n 1, 1) := by decide +kernel
theorem dX0_sureness_116 : decode cX0_sureness 116 = .ok (.ifCond .eq 9, 3) := by decide +kernel
theorem dX0_sureness_119 : decode cX0_sureness 119 = .ok (.iload_n 2, 1) := by decide +kernel
theorem dX0_sureness_120 : decode cX0_sureness 120 = .ok (.ifCond .eq 5, 3) := by decide +kernel
theorem dX0_sureness_123 : decode cX0_sureness 123 = .ok (.iconst 2, 1) := by decide +kernel
theorem dX0_sureness_124 : decode cX0_sureness 124 = .ok (.ireturn, 1) := by decide +kernel
theorem dX0_sureness_125 : decode cX0_sureness 125 = .ok (.iinc 4 1, 3) := by decide +kernel
theorem dX0_sureness_128 : decode cX0_sureness 128 = .ok (.goto (-90), 3) := by decide +kernel
theorem dX0_sureness_131 : decode cX0_sureness 131 = .ok (.iinc 3 1, 3) := by decide +kernel
theorem dX0_sureness_134 : decode cX0_sureness 134 = .ok (.goto (-120), 3) := by decide +kernel
theorem dX0_sureness_137 : decode cX0_sureness 137 = .ok (.iload_n 1, 1) := by decide +kernel
theorem dX0_sureness_138 : decode cX0_sureness 138 = .ok (.ifCond .eq 7, 3) := by decide +kernel
theorem dX0_sureness_141 : decode cX0_sureness 141 = .ok (.iconst 1, 1) := by decide +kernel
theorem dX0_sureness_142 : decode cX0_sureness 142 = .ok (.goto 4, 3) := by decide +kernel
theorem dX0_sureness_145 : decode cX0_sureness 145 = .ok (.iconst 0, 1) := by decide +kernel
theorem dX0_sureness_146 : decode cX0_sureness 146 = .ok (.ireturn, 1) := by decide +kernel
set_option maxRecDepth 20000 in
theorem ggX0_sureness_X5_run : GoodIn wsX0_sureness wsX5_run := goodIn_r _ [11, 12, 13, 14, 15, 16, 17, 18, 19, 20, 21, 22, 23, 24, 25, 26, 27, 28, 29, 30, 31, 32, 33, 34, 35, 36, 37, 10, 38, 39, 40, 41, 42, 43, 44, 45, 46, 47, 48, 49, 50, 51, 52, 53, 54, 55, 56, 57, 58, 59, 60, 61, 62, 63, 64, 65, 66, 67, 68, 69, 70, 71, 72, 73, 74, 75, 76, 77, 78, 79, 80, 81, 82, 83, 84, 85, 86, 87, 88, 89, 90, 91, 92, 93, 94, 95, 96, 97, 98, 99, 100, 101, 102, 103, 104, 105, 106, 107, 108, 109, 110, 111, 112, 113, 114, 132, 133, 134, 135, 136, 137, 138, 139, 140, 141, 142, 143, 144, 145, 146, 147, 148, 149, 150, 151, 123, 124, 125, 126, 152, 153, 154, 155, 156, 157, 158, 159, 160] rfl (by decide +kernel)
set_option maxRecDepth 20000 in
theorem gX0_sureness_X5_run : GoodIn wsX0_sureness (wsV RX0 50 RX5 yX5_run wsX5_run) := goodIn_app (goodIn_of _ (by decide +kernel)) ggX0_sureness_X5_run
set_option maxHeartbeats 4000000 in
set_option maxRecDepth 100000 in
theorem K_X0_sureness (l : Launch) (D : va_G) (xc : Nat) (xs : Nat) (xp : Nat) (xl : Nat) (ch_s : Nat) (ch_t : Nat) (ch_f : Nat) (ch_p : Nat) (la_t : Nat) (cI : ClassId) (la_h : Nat) (la_u : Nat) (la_o : Nat) (la_x : Nat) (n : Nat) (fo : Nat) (wa : Nat) (we : Nat) (cf : Nat) (sf : Nat) (wf : Nat) (cg : Nat) (sg : Nat) (wg : Nat) (ch : Nat) (sh : Nat) (wh : Nat) (ph : Nat) (pl : Nat) (l_teethMany : Int32) (l_wear : Int32) (l_x : Int32) (l_v : Int32) (l_wave : Int32) (l_time : Int32) (l_out : Int32) (l_farthest : Int32) (l_begun : Int32) (a : Int32) (b : Int32) (d : Int32) (h : Int32) (c_t : 0 ≤ a ∧ a < 3 ∧ 1 ≤ b ∧ b ≤ 9 ∧ 1 ≤ d ∧ d ≤ 20 ∧ 1 ≤ h ∧ h ≤ 12) (sz : Nat) : Ki l yX0_sureness wsX0_sureness 4 126 0 0 D [.ref xc] [(xc, .inr (0, [.ref xs, .ref xp, .ref xl, .ref ch_s, .ref ch_t, .ref ch_f, .ref ch_p, .int 0])), (la_t, .inl (cI, 4, .inl (fun _ => 0))), (la_h, .inl (cI, 16, .inl (fun _ => 0))), (la_u, .inl (cI, 16, .inl (fun _ => 0))), (la_o, .inl (cI, 16, .inl (fun _ => 0))), (la_x, .inl (cI, 16, .inl (fun _ => 0))), (xs, .inr (6, [.ref n, .ref fo, .ref wa, .ref we])), (n, .inl (cI, 36, .inl g_nums)), (fo, .inr (2, [.ref cf, .int 1, .ref sf, .ref wf, .int 0, .int 0, .int 0, .int 0, .int 0])), (cf, .inl (cI, 80, .inl (upd (fun _ => 0) 0 (-1)))), (sf, .inl (cI, 12, .inl (fun _ => 0))), (wa, .inr (2, [.ref cg, .int 1, .ref sg, .ref wg, .int 0, .int 0, .int 0, .int 0, .int 0])), (cg, .inl (cI, 80, .inl (upd (fun _ => 0) 0 0))), (sg, .inl (cI, 12, .inl (fun _ => 0))), (we, .inr (2, [.ref ch, .int 1, .ref sh, .ref wh, .int 0, .int 0, .int 0, .int 0, .int 0])), (ch, .inl (cI, 80, .inl (upd (fun _ => 0) 0 0))), (sh, .inl (cI, 12, .inl (fun _ => 0))), (xp, .inr (5, [.ref xs, .ref ph, .int 0, .int 0, .ref pl])), (ph, .inl (cI, 96, .inl (fun _ => 1000))), (xl, .inr (4, [.ref xs, .int a, .int b, .int d, .int h, .ref la_t, .int 0, .int l_teethMany, .ref la_h, .ref la_u, .ref la_o, .ref la_x, .int l_wear, .int l_x, .int l_v, .int l_wave, .int l_time, .int l_out, .int l_farthest, .int l_begun]))] [(cI, .int)] sz (fun (r : Int32) (_ : Unit) => r = (if (sp_fresh b.toNatClampNeg d h.toNatClampNeg 8 2) = 0 then 1 else 0)) (fun (_ : Unit) => []) (fun (_ : Unit) => [(cI, .int)]) := by
  unfold Ki
  refine g_ofW (cc := cX0_sureness) (lv := [(0, .ref xc)]) (by decide) rfl (Nat.le_of_ble_eq_true rfl) rfl ?_
  intro p e s m args below meth c A Q hA hQ F hr hnm
  have hts := F.2.2.2.2.1
  have w_0 : (Cond.fieldLink RX0 24 "QuietCut$Chooser" "shop" "LQuietCut$Shop;").before args s = true := hts _ (List.mem_of_getElem? (i := 1) rfl)
  have i_X0 : ∀ w ∈ u_ws RX0 TX0 8, w ∈ wsX0_sureness := fun _ h => List.mem_cons_of_mem _ (List.mem_append_left _ (List.mem_append_left _ (List.mem_append_left _ (List.mem_append_left _ (List.mem_append_right _ h)))))
  have w_1 : (Cond.fieldLink RX0 36 "QuietCut$Shop" "numbers" "[I").before args s = true := hts _ (List.mem_of_getElem? (i := 2) rfl)
  have i_X7 : ∀ w ∈ u_ws RX7 TX7 4, w ∈ wsX0_sureness := fun _ h => List.mem_cons_of_mem _ (List.mem_append_left _ (List.mem_append_left _ (List.mem_append_left _ (List.mem_append_right _ h))))
  have w_2 : (Cond.fieldLink RX0 32 "QuietCut$Chooser" "lathe" "LQuietCut$Lathe;").before args s = true := hts _ (List.mem_of_getElem? (i := 3) rfl)
  have w_3 : (Cond.fieldLink RX0 28 "QuietCut$Chooser" "piece" "LQuietCut$Piece;").before args s = true := hts _ (List.mem_of_getElem? (i := 4) rfl)
  have w_4 : (Cond.fieldLink RX0 41 "QuietCut$Piece" "heights" "[I").before args s = true := hts _ (List.mem_of_getElem? (i := 5) rfl)
  have i_X6 : ∀ w ∈ u_ws RX6 TX6 5, w ∈ wsX0_sureness := fun _ h => List.mem_cons_of_mem _ (List.mem_append_left _ (List.mem_append_left _ (List.mem_append_right _ h)))
  have w_5 : (Cond.fieldLink RX0 46 "QuietCut$Piece" "wear" "I").before args s = true := hts _ (List.mem_of_getElem? (i := 6) rfl)
  refine g_iconst F 0 dX0_sureness_0 (by decide) ?_
  refine g_istore_n F [(1, .int 0), (0, .ref xc)] dX0_sureness_1 rfl (by decide) rfl ?_
  refine g_iconst F 0 dX0_sureness_2 (by decide) ?_
  refine g_istore_n F [(2, .int 0), (1, .int 0), (0, .ref xc)] dX0_sureness_3 rfl (by decide) rfl ?_
  refine g_aload_n F 2 dX0_sureness_4 rfl rfl ?_
  refine g_get (C := RX0) (T := TX0) (N := 8) (v := .ref xs) F i_X0 0 rfl rfl 0 (by decide) w_0 rfl rfl dX0_sureness_5 ?_
  refine g_get (C := RX7) (T := TX7) (N := 4) (v := .ref n) F i_X7 6 rfl rfl 0 (by decide) w_1 rfl rfl dX0_sureness_8 ?_
  refine g_iconst F 3 dX0_sureness_11 (by decide) ?_
  refine g_iald F 7 0 rfl rfl (by unfold vp_in; decide) dX0_sureness_12 ?_
  refine g_fold 8 (by rfl) ?_
  refine g_istore_n F [(3, .int 8), (2, .int 0), (1, .int 0), (0, .ref xc)] dX0_sureness_13 rfl (by decide) rfl ?_
  refine g_iload_n F 0 dX0_sureness_14 rfl rfl ?_
  refine g_aload_n F 3 dX0_sureness_15 rfl rfl ?_
  refine g_get (C := RX0) (T := TX0) (N := 8) (v := .ref xs) F i_X0 0 rfl rfl 0 (by decide) w_0 rfl rfl dX0_sureness_16 ?_
  refine g_get (C := RX7) (T := TX7) (N := 4) (v := .ref n) F i_X7 6 rfl rfl 0 (by decide) w_1 rfl rfl dX0_sureness_19 ?_
  refine g_iconst F 4 dX0_sureness_22 (by decide) ?_
  refine g_iald F 7 0 rfl rfl (by unfold vp_in; decide) dX0_sureness_23 ?_
  refine g_fold 8 (by rfl) ?_
  refine g_icmp_gt F 137 dX0_sureness_24 (by decide) (fun h9 => absurd h9 (by decide)) (fun c_24 => ?_)
  refine g_aload_n F 3 dX0_sureness_27 rfl rfl ?_
  refine g_get (C := RX0) (T := TX0) (N := 8) (v := .ref xs) F i_X0 0 rfl rfl 0 (by decide) w_0 rfl rfl dX0_sureness_28 ?_
  refine g_get (C := RX7) (T := TX7) (N := 4) (v := .ref n) F i_X7 6 rfl rfl 0 (by decide) w_1 rfl rfl dX0_sureness_31 ?_
  refine g_iconst F 5 dX0_sureness_34 (by decide) ?_
  refine g_iald F 7 0 rfl rfl (by unfold vp_in; decide) dX0_sureness_35 ?_
  refine g_fold 2 (by rfl) ?_
  refine g_istore F [(4, .int 2), (3, .int 8), (2, .int 0), (1, .int 0), (0, .ref xc)] dX0_sureness_36 (by decide) rfl ?_
  refine g_iload F 0 dX0_sureness_38 rfl ?_
  refine g_aload_n F 4 dX0_sureness_40 rfl rfl ?_
  refine g_get (C := RX0) (T := TX0) (N := 8) (v := .ref xs) F i_X0 0 rfl rfl 0 (by decide) w_0 rfl rfl dX0_sureness_41 ?_
  refine g_get (C := RX7) (T := TX7) (N := 4) (v := .ref n) F i_X7 6 rfl rfl 0 (by decide) w_1 rfl rfl dX0_sureness_44 ?_
  refine g_bipush F 6 dX0_sureness_47 (by decide) ?_
  refine g_iald F 7 0 rfl rfl (by unfold vp_in; decide) dX0_sureness_49 ?_
  refine g_fold 2 (by rfl) ?_
  refine g_icmp_gt F 131 dX0_sureness_50 (by decide) (fun h9 => absurd h9 (by decide)) (fun c_50 => ?_)
  refine g_aload_n F 4 dX0_sureness_53 rfl rfl ?_
  refine g_get (C := RX0) (T := TX0) (N := 8) (v := .ref xl) F i_X0 0 rfl rfl 2 (by decide) w_2 rfl rfl dX0_sureness_54 ?_
  refine g_aload_n F 4 dX0_sureness_57 rfl rfl ?_
  refine g_get (C := RX0) (T := TX0) (N := 8) (v := .ref xp) F i_X0 0 rfl rfl 1 (by decide) w_3 rfl rfl dX0_sureness_58 ?_
  refine g_get (C := RX6) (T := TX6) (N := 5) (v := .ref ph) F i_X6 17 rfl rfl 1 (by decide) w_4 rfl rfl dX0_sureness_61 ?_
  refine g_aload_n F 4 dX0_sureness_64 rfl rfl ?_
  refine g_get (C := RX0) (T := TX0) (N := 8) (v := .ref xp) F i_X0 0 rfl rfl 1 (by decide) w_3 rfl rfl dX0_sureness_65 ?_
  refine g_get (C := RX6) (T := TX6) (N := 5) (v := .int 0) F i_X6 17 rfl rfl 2 (by decide) w_5 rfl rfl dX0_sureness_68 ?_
  refine g_iload_n F 1 dX0_sureness_71 rfl rfl ?_
  refine g_iload F 0 dX0_sureness_72 rfl ?_
  refine g_callVi (k := 0) (n := 0) (b := xl) (As := [.ref ph, .int 0, .int 8, .int 2]) (st := []) (wc := [(xl, .inr (4, [.ref xs, .int a, .int b, .int d, .int h, .ref la_t, .int 0, .int l_teethMany, .ref la_h, .ref la_u, .ref la_o, .ref la_x, .int l_wear, .int l_x, .int l_v, .int l_wave, .int l_time, .int l_out, .int l_farthest, .int l_begun])), (la_t, .inl (cI, 4, .inl (fun _ => 0))), (la_h, .inl (cI, 16, .inl (fun _ => 0))), (la_u, .inl (cI, 16, .inl (fun _ => 0))), (la_o, .inl (cI, 16, .inl (fun _ => 0))), (la_x, .inl (cI, 16, .inl (fun _ => 0))), (xs, .inr (6, [.ref n, .ref fo, .ref wa, .ref we])), (n, .inl (cI, 36, .inl g_nums)), (fo, .inr (2, [.ref cf, .int 1, .ref sf, .ref wf, .int 0, .int 0, .int 0, .int 0, .int 0])), (cf, .inl (cI, 80, .inl (upd (fun _ => 0) 0 (-1)))), (sf, .inl (cI, 12, .inl (fun _ => 0))), (wa, .inr (2, [.ref cg, .int 1, .ref sg, .ref wg, .int 0, .int 0, .int 0, .int 0, .int 0])), (cg, .inl (cI, 80, .inl (upd (fun _ => 0) 0 0))), (sg, .inl (cI, 12, .inl (fun _ => 0))), (we, .inr (2, [.ref ch, .int 1, .ref sh, .ref wh, .int 0, .int 0, .int 0, .int 0, .int 0])), (ch, .inl (cI, 80, .inl (upd (fun _ => 0) 0 0))), (sh, .inl (cI, 12, .inl (fun _ => 0))), (ph, .inl (cI, 96, .inl (fun _ => 1000)))]) (wr := [(xc, .inr (0, [.ref xs, .ref xp, .ref xl, .ref ch_s, .ref ch_t, .ref ch_f, .ref ch_p, .int 0])), (xp, .inr (5, [.ref xs, .ref ph, .int 0, .int 0, .ref pl]))]) F [19, 1, 2, 3, 4, 5, 6, 7, 8, 9, 10, 11, 12, 13, 14, 15, 16, 18] [0, 17] [0] rfl rfl (by decide) rfl (by decide) (by decide) rfl (fun sz => K_X5_run0 l D xl xs la_t la_h la_u la_o la_x n fo wa we cf sf wf ch sh wh cg sg wg ph cI a b d h l_teethMany l_wear l_x l_v l_wave l_time l_out l_farthest l_begun (fun _ => 0) (fun _ => 0) (fun _ => 0) (fun _ => 0) (fun _ => 0) (fun _ => 0) (fun _ => 0) (fun _ => 0) (fun _ => 1000) 8 2 a.toNatClampNeg b.toNatClampNeg h.toNatClampNeg ((tk_all c_t).1) ((tk_all c_t).2.1) ((tk_all c_t).2.2.1) ((tk_all c_t).2.2.2.1) ((tk_all c_t).2.2.2.2.1) ((tk_all c_t).2.2.2.2.2.1) ((tk_all c_t).2.2.2.2.2.2.1) ((tk_all c_t).2.2.2.2.2.2.2) (fun _ _ => ⟨by decide, by decide⟩) (by decide) (by decide) (by decide) (by decide) sz) (cwV 4 hts gX0_sureness_X5_run rfl rfl rfl (by decide +kernel) ⟨Nat.le_of_ble_eq_true rfl, Nat.le_of_ble_eq_true rfl⟩) rfl 0 rfl rfl (Nat.le_of_ble_eq_true rfl) ⟨Nat.le_of_ble_eq_true rfl, Nat.le_of_ble_eq_true rfl⟩ dX0_sureness_74 (fun r_1 u_0 hw_2 => ?_)
  obtain ⟨z_teethMany_3, z_wear_3, z_x_3, z_v_3, z_wave_3, z_time_3, z_out_3, z_farthest_3, z_begun_3, gt_3, gh_3, gu_3, gq_3, gx_3, g1_3, g2_3, g3_3⟩ := u_0
  have hw_2 : (r_1 = (if ((sp_most (fun s => (fun _ => 1000) (16 * a.toNatClampNeg + s)) 7) - (d * h)) < 1 then (-4) else (sp_ver (sp_pass (sp_most (fun s => (fun _ => 1000) (16 * a.toNatClampNeg + s)) 7) d b.toNatClampNeg (8 : Int32) (2 : Int32) (fun _ => 0) 1 (fun s => (fun _ => 1000) (16 * a.toNatClampNeg + s)) (8 * h.toNatClampNeg))))) ∧ (¬ (((sp_most (fun s => (fun _ => 1000) (16 * a.toNatClampNeg + s)) 7) - (d * h)) < 1) → ∀ j, j < 8 → gh_3 j = ((sp_pass (sp_most (fun s => (fun _ => 1000) (16 * a.toNatClampNeg + s)) 7) d b.toNatClampNeg (8 : Int32) (2 : Int32) (fun _ => 0) 1 (fun s => (fun _ => 1000) (16 * a.toNatClampNeg + s)) (8 * h.toNatClampNeg))).1 j) ∧ (¬ (((sp_most (fun s => (fun _ => 1000) (16 * a.toNatClampNeg + s)) 7) - (d * h)) < 1) → z_wear_3 = 0) := hw_2
  obtain ⟨e_r_1, hp0_4, hp1_4⟩ := hw_2
  show gG p l e (gR 4 0 0 126) s m args below meth c D A 6 Q 0 0 [(xc, .inr (0, [.ref xs, .ref xp, .ref xl, .ref ch_s, .ref ch_t, .ref ch_f, .ref ch_p, .int 0])), (xp, .inr (5, [.ref xs, .ref ph, .int 0, .int 0, .ref pl])), (xl, .inr (4, [.ref xs, .int a, .int b, .int d, .int h, .ref la_t, .int 0, .int z_teethMany_3, .ref la_h, .ref la_u, .ref la_o, .ref la_x, .int z_wear_3, .int z_x_3, .int z_v_3, .int z_wave_3, .int z_time_3, .int z_out_3, .int z_farthest_3, .int z_begun_3])), (la_t, .inl (cI, 4, .inl gt_3)), (la_h, .inl (cI, 16, .inl gh_3)), (la_u, .inl (cI, 16, .inl gu_3)), (la_o, .inl (cI, 16, .inl gq_3)), (la_x, .inl (cI, 16, .inl gx_3)), (xs, .inr (6, [.ref n, .ref fo, .ref wa, .ref we])), (n, .inl (cI, 36, .inl g_nums)), (fo, .inr (2, [.ref cf, .int 1, .ref sf, .ref wf, .int 0, .int 0, .int 0, .int 0, .int 0])), (cf, .inl (cI, 80, .inl (upd (fun _ => 0) 0 (-1)))), (sf, .inl (cI, 12, .inl g1_3)), (wa, .inr (2, [.ref cg, .int 1, .ref sg, .ref wg, .int 0, .int 0, .int 0, .int 0, .int 0])), (cg, .inl (cI, 80, .inl (upd (fun _ => 0) 0 0))), (sg, .inl (cI, 12, .inl g2_3)), (we, .inr (2, [.ref ch, .int 1, .ref sh, .ref wh, .int 0, .int 0, .int 0, .int 0, .int 0])), (ch, .inl (cI, 80, .inl (upd (fun _ => 0) 0 0))), (sh, .inl (cI, 12, .inl g3_3)), (ph, .inl (cI, 96, .inl (fun _ => 1000)))] [(cI, .int)] [(4, .int 2), (3, .int 8), (2, .int 0), (1, .int 0), (0, .ref xc)] 77 [.int r_1]
  refine g_fold (if ((sp_most (fun s => (fun _ => 1000) (16 * a.toNatClampNeg + s)) 7) - (d * h)) < 1 then (-4) else (sp_ver (sp_pass (sp_most (fun s => (fun _ => 1000) (16 * a.toNatClampNeg + s)) 7) d b.toNatClampNeg (8 : Int32) (2 : Int32) (fun _ => 0) 1 (fun s => (fun _ => 1000) (16 * a.toNatClampNeg + s)) (8 * h.toNatClampNeg)))) e_r_1 ?_
  refine g_fold (sp_fresh b.toNatClampNeg d h.toNatClampNeg 8 2) (run_fresh (rr := 0) (tk_all c_t).2.2.2.2.1 (tk_all c_t).2.2.2.2.2.1 (tk_all c_t).2.2.2.2.2.2.1 (tk_all c_t).2.2.2.2.2.2.2) ?_
  refine g_top (fun vd evd => ?_)
  refine g_istore F [(5, .int vd), (4, .int 2), (3, .int 8), (2, .int 0), (1, .int 0), (0, .ref xc)] dX0_sureness_77 (by decide) rfl ?_
  refine g_iload F 0 dX0_sureness_79 rfl ?_
  refine g_bipush F (-4) dX0_sureness_81 (by decide) ?_
  refine g_icmp_ne F 89 dX0_sureness_83 (by decide) (fun c_83 => ?_) (fun h9 => absurd h9 (fun q => absurd (evd ▸ sp_fresh_nn _ _ _ _ _ : 0 ≤ vd) (by rw [q]; decide))) 
  refine g_iload_n F 4 dX0_sureness_89 rfl rfl ?_
  refine g_iload F 0 dX0_sureness_90 rfl ?_
  refine g_if_ne F 99 dX0_sureness_92 (by decide) (fun c_92 => ?_) (fun c_92 => ?_)
  · refine g_iconst F 0 dX0_sureness_99 (by decide) ?_
    refine g_ior F dX0_sureness_100 ?_
    refine g_fold 0 (by decide) ?_
    refine g_istore_n F [(1, .int 0), (5, .int vd), (4, .int 2), (3, .int 8), (2, .int 0), (0, .ref xc)] dX0_sureness_101 rfl (by decide) rfl ?_
    refine g_iload_n F 4 dX0_sureness_102 rfl rfl ?_
    refine g_iload F 1 dX0_sureness_103 rfl ?_
    refine g_if_eq F 112 dX0_sureness_105 (by decide) (fun c_105 => ?_) (fun c_105 => ?_)
    · exfalso; simp only [Int32.lt_iff_toInt_lt, Int32.le_iff_toInt_le, ← Int32.toInt_inj, Int32.reduceToInt] at c_83 c_92 c_105; omega
    · refine g_iconst F 1 dX0_sureness_108 (by decide) ?_
      refine g_goto F 113 dX0_sureness_109 (by decide) ?_
      refine g_ior F dX0_sureness_113 ?_
      refine g_fold 1 (by decide) ?_
      refine g_istore_n F [(2, .int 1), (1, .int 0), (5, .int vd), (4, .int 2), (3, .int 8), (0, .ref xc)] dX0_sureness_114 rfl (by decide) rfl ?_
      refine g_iload_n F 1 dX0_sureness_115 rfl rfl ?_
      refine g_if_eq F 125 dX0_sureness_116 (by decide) (fun c_116 => ?_) (fun h9 => absurd (by decide) h9) 
      refine g_iinc F (j := 3) 3 [(4, .int 3), (2, .int 1), (1, .int 0), (5, .int vd), (3, .int 8), (0, .ref xc)] dX0_sureness_125 rfl (by decide) (by decide) rfl ?_
      refine g_goto F 38 dX0_sureness_128 (by decide) ?_
      refine g_iload F 0 dX0_sureness_38 rfl ?_
      refine g_aload_n F 5 dX0_sureness_40 rfl rfl ?_
      refine g_get (C := RX0) (T := TX0) (N := 8) (v := .ref xs) F i_X0 0 rfl rfl 0 (by decide) w_0 rfl rfl dX0_sureness_41 ?_
      refine g_get (C := RX7) (T := TX7) (N := 4) (v := .ref n) F i_X7 8 rfl rfl 0 (by decide) w_1 rfl rfl dX0_sureness_44 ?_
      refine g_bipush F 6 dX0_sureness_47 (by decide) ?_
      refine g_iald F 9 0 rfl rfl (by unfold vp_in; decide) dX0_sureness_49 ?_
      refine g_fold 2 (by rfl) ?_
      refine g_icmp_gt F 131 dX0_sureness_50 (by decide) (fun c_50 => ?_) (fun h9 => absurd (by decide) h9) 
      refine g_iinc F (j := 4) 9 [(3, .int 9), (4, .int 3), (2, .int 1), (1, .int 0), (5, .int vd), (0, .ref xc)] dX0_sureness_131 rfl (by decide) (by decide) rfl ?_
      refine g_goto F 14 dX0_sureness_134 (by decide) ?_
      refine g_iload_n F 0 dX0_sureness_14 rfl rfl ?_
      refine g_aload_n F 5 dX0_sureness_15 rfl rfl ?_
      refine g_get (C := RX0) (T := TX0) (N := 8) (v := .ref xs) F i_X0 0 rfl rfl 0 (by decide) w_0 rfl rfl dX0_sureness_16 ?_
      refine g_get (C := RX7) (T := TX7) (N := 4) (v := .ref n) F i_X7 8 rfl rfl 0 (by decide) w_1 rfl rfl dX0_sureness_19 ?_
      refine g_iconst F 4 dX0_sureness_22 (by decide) ?_
      refine g_iald F 9 0 rfl rfl (by unfold vp_in; decide) dX0_sureness_23 ?_
      refine g_fold 8 (by rfl) ?_
      refine g_icmp_gt F 137 dX0_sureness_24 (by decide) (fun c_24 => ?_) (fun h9 => absurd (by decide) h9) 
      refine g_iload_n F 3 dX0_sureness_137 rfl rfl ?_
      refine g_if_eq F 145 dX0_sureness_138 (by decide) (fun c_138 => ?_) (fun h9 => absurd (by decide) h9) 
      refine g_iconst F 0 dX0_sureness_145 (by decide) ?_
      exact g_iret F hA hQ hr () (by first | exact (gi_e (by (simp only [Int32.lt_iff_toInt_lt, Int32.le_iff_toInt_le, ← Int32.toInt_inj, Int32.reduceToInt] at c_83 c_92 c_105 evd ⊢; omega)) rfl)) [] [0] rfl (by decide) rfl rfl dX0_sureness_146
  · refine g_iconst F 1 dX0_sureness_95 (by decide) ?_
    refine g_goto F 100 dX0_sureness_96 (by decide) ?_
    refine g_ior F dX0_sureness_100 ?_
    refine g_fold 1 (by decide) ?_
    refine g_istore_n F [(1, .int 1), (5, .int vd), (4, .int 2), (3, .int 8), (2, .int 0), (0, .ref xc)] dX0_sureness_101 rfl (by decide) rfl ?_
    refine g_iload_n F 4 dX0_sureness_102 rfl rfl ?_
    refine g_iload F 1 dX0_sureness_103 rfl ?_
    refine g_if_eq F 112 dX0_sureness_105 (by decide) (fun c_105 => ?_) (fun c_105 => ?_)
    · refine g_iconst F 0 dX0_sureness_112 (by decide) ?_
      refine g_ior F dX0_sureness_113 ?_
      refine g_fold 0 (by decide) ?_
      refine g_istore_n F [(2, .int 0), (1, .int 1), (5, .int vd), (4, .int 2), (3, .int 8), (0, .ref xc)] dX0_sureness_114 rfl (by decide) rfl ?_
      refine g_iload_n F 1 dX0_sureness_115 rfl rfl ?_
      refine g_if_eq F 125 dX0_sureness_116 (by decide) (fun h9 => absurd h9 (by decide)) (fun c_116 => ?_)
      refine g_iload_n F 0 dX0_sureness_119 rfl rfl ?_
      refine g_if_eq F 125 dX0_sureness_120 (by decide) (fun c_120 => ?_) (fun h9 => absurd (by decide) h9) 
      refine g_iinc F (j := 3) 3 [(4, .int 3), (2, .int 0), (1, .int 1), (5, .int vd), (3, .int 8), (0, .ref xc)] dX0_sureness_125 rfl (by decide) (by decide) rfl ?_
      refine g_goto F 38 dX0_sureness_128 (by decide) ?_
      refine g_iload F 0 dX0_sureness_38 rfl ?_
      refine g_aload_n F 5 dX0_sureness_40 rfl rfl ?_
      refine g_get (C := RX0) (T := TX0) (N := 8) (v := .ref xs) F i_X0 0 rfl rfl 0 (by decide) w_0 rfl rfl dX0_sureness_41 ?_
      refine g_get (C := RX7) (T := TX7) (N := 4) (v := .ref n) F i_X7 8 rfl rfl 0 (by decide) w_1 rfl rfl dX0_sureness_44 ?_
      refine g_bipush F 6 dX0_sureness_47 (by decide) ?_
      refine g_iald F 9 0 rfl rfl (by unfold vp_in; decide) dX0_sureness_49 ?_
      refine g_fold 2 (by rfl) ?_
      refine g_icmp_gt F 131 dX0_sureness_50 (by decide) (fun c_50 => ?_) (fun h9 => absurd (by decide) h9) 
      refine g_iinc F (j := 4) 9 [(3, .int 9), (4, .int 3), (2, .int 0), (1, .int 1), (5, .int vd), (0, .ref xc)] dX0_sureness_131 rfl (by decide) (by decide) rfl ?_
      refine g_goto F 14 dX0_sureness_134 (by decide) ?_
      refine g_iload_n F 0 dX0_sureness_14 rfl rfl ?_
      refine g_aload_n F 5 dX0_sureness_15 rfl rfl ?_
      refine g_get (C := RX0) (T := TX0) (N := 8) (v := .ref xs) F i_X0 0 rfl rfl 0 (by decide) w_0 rfl rfl dX0_sureness_16 ?_
      refine g_get (C := RX7) (T := TX7) (N := 4) (v := .ref n) F i_X7 8 rfl rfl 0 (by decide) w_1 rfl rfl dX0_sureness_19 ?_
      refine g_iconst F 4 dX0_sureness_22 (by decide) ?_
      refine g_iald F 9 0 rfl rfl (by unfold vp_in; decide) dX0_sureness_23 ?_
      refine g_fold 8 (by rfl) ?_
      refine g_icmp_gt F 137 dX0_sureness_24 (by decide) (fun c_24 => ?_) (fun h9 => absurd (by decide) h9) 
      refine g_iload_n F 3 dX0_sureness_137 rfl rfl ?_
      refine g_if_eq F 145 dX0_sureness_138 (by decide) (fun h9 => absurd h9 (by decide)) (fun c_138 => ?_)
      refine g_iconst F 1 dX0_sureness_141 (by decide) ?_
      refine g_goto F 146 dX0_sureness_142 (by decide) ?_
      exact g_iret F hA hQ hr () (by first | exact (gi_p (by (simp only [Int32.lt_iff_toInt_lt, Int32.le_iff_toInt_le, ← Int32.toInt_inj, Int32.reduceToInt] at c_83 c_92 c_105 evd ⊢; omega)) rfl)) [] [0] rfl (by decide) rfl rfl dX0_sureness_146
    · exfalso; simp only [Int32.lt_iff_toInt_lt, Int32.le_iff_toInt_le, ← Int32.toInt_inj, Int32.reduceToInt] at c_83 c_92 c_105; omega

theorem dX11_sure_0 : decode cX11_sure 0 = .ok (.aload_n 0, 1) := by decide +kernel
theorem dX11_sure_1 : decode cX11_sure 1 = .ok (.getfield 47, 3) := by decide +kernel
theorem dX11_sure_4 : decode cX11_sure 4 = .ok (.iload_n 1, 1) := by decide +kernel
theorem dX11_sure_5 : decode cX11_sure 5 = .ok (.iload_n 2, 1) := by decide +kernel
theorem dX11_sure_6 : decode cX11_sure 6 = .ok (.iload_n 3, 1) := by decide +kernel
theorem dX11_sure_7 : decode cX11_sure 7 = .ok (.iload 4, 2) := by decide +kernel
theorem dX11_sure_9 : decode cX11_sure 9 = .ok (.invokevirtual 164, 3) := by decide +kernel
theorem dX11_sure_12 : decode cX11_sure 12 = .ok (.ifCond .eq 13, 3) := by decide +kernel
theorem dX11_sure_15 : decode cX11_sure 15 = .ok (.aload_n 0, 1) := by decide +kernel
theorem dX11_sure_16 : decode cX11_sure 16 = .ok (.getfield 56, 3) := by decide +kernel
theorem dX11_sure_19 : decode cX11_sure 19 = .ok (.invokevirtual 212, 3) := by decide +kernel
theorem dX11_sure_22 : decode cX11_sure 22 = .ok (.goto 5, 3) := by decide +kernel
theorem dX11_sure_25 : decode cX11_sure 25 = .ok (.bipush (-2), 2) := by decide +kernel
theorem dX11_sure_27 : decode cX11_sure 27 = .ok (.ireturn, 1) := by decide +kernel
set_option maxRecDepth 20000 in
theorem ggX11_sure_X0_sureness : GoodIn wsX11_sure wsX0_sureness := goodIn_r _ [23, 24, 25, 26, 27, 28, 29, 30, 31, 32, 6, 33, 12, 34, 8, 35, 36, 37, 38, 39, 10, 11, 40, 41, 9, 42, 13, 14, 15, 16, 17, 18, 43, 44, 45, 46, 47, 48, 49, 50, 51, 52, 53, 54, 55, 56, 57, 58, 59, 60, 61, 62, 63, 64, 65, 66, 67, 68, 69, 70, 71, 72, 73, 74, 75, 76, 77, 78, 79, 80, 81, 82, 83, 84, 85, 86, 87, 88, 89, 90, 91, 92, 93, 94, 95, 96, 97, 98, 99, 100, 101, 102, 103, 104, 105, 106, 107, 108, 109, 110, 111, 112, 113, 114, 115, 116, 117, 118, 119, 120, 121, 122, 123, 124, 125, 164, 165, 166, 167, 168, 169, 170, 171, 160, 161, 162, 163, 172, 173, 174, 175, 176, 140, 141, 142, 143, 144, 145, 146, 147, 148, 149, 150, 151, 152, 153, 154, 155, 156, 157, 158, 159, 177, 178, 179, 180, 181, 182, 183, 184, 185] rfl (by decide +kernel)
set_option maxRecDepth 20000 in
theorem gX11_sure_X0_sureness : GoodIn wsX11_sure (wsV RX11 212 RX0 yX0_sureness wsX0_sureness) := goodIn_app (goodIn_of _ (by decide +kernel)) ggX11_sure_X0_sureness
set_option maxRecDepth 20000 in
theorem ggX11_sure_X5_takes : GoodIn wsX11_sure wsX5_takes := goodIn_r _ [7, 8, 9, 10, 11, 12, 13, 14, 15, 16, 17, 18, 140, 141, 142, 143, 144, 145, 146, 147, 148, 149, 150, 151, 152, 153, 154, 155, 156, 157, 158, 159, 160, 161, 162, 163] rfl (by decide +kernel)
set_option maxRecDepth 20000 in
theorem gX11_sure_X5_takes : GoodIn wsX11_sure (wsV RX11 164 RX5 yX5_takes wsX5_takes) := goodIn_app (goodIn_of _ (by decide +kernel)) ggX11_sure_X5_takes
set_option maxHeartbeats 4000000 in
set_option maxRecDepth 100000 in
theorem K_X11_sure (l : Launch) (D : va_G) (x0 : Nat) (xt : Nat) (xs : Nat) (xq : Nat) (xr : Nat) (xp : Nat) (xl : Nat) (xc : Nat) (xj : Nat) (xe : Nat) (xo : Nat) (pa : Nat) (la_t : Nat) (la_h : Nat) (la_u : Nat) (la_o : Nat) (la_x : Nat) (ch_s : Nat) (ch_t : Nat) (ch_f : Nat) (ch_p : Nat) (cI : ClassId) (n : Nat) (fo : Nat) (wa : Nat) (we : Nat) (cf : Nat) (sf : Nat) (wf : Nat) (cg : Nat) (sg : Nat) (wg : Nat) (ch : Nat) (sh : Nat) (wh : Nat) (ph : Nat) (pl : Nat) (a : Int32) (b : Int32) (d : Int32) (h : Int32) (sz : Nat) : Ki l yX11_sure wsX11_sure 5 151 0 0 D [.ref x0, .int a, .int b, .int d, .int h] [(x0, .inr (10, [.ref xt, .ref xs, .ref xq, .ref xr, .ref xp, .ref xl, .ref xc, .ref xj, .ref xe, .ref xo, .ref pa, .int 0, .int 0, .int (-1)])), (xl, .inr (4, [.ref xs, .int 0, .int 0, .int 0, .int 0, .ref la_t, .int 0, .int 0, .ref la_h, .ref la_u, .ref la_o, .ref la_x, .int 0, .int 0, .int 0, .int 0, .int 0, .int 0, .int 0, .int 0])), (xc, .inr (0, [.ref xs, .ref xp, .ref xl, .ref ch_s, .ref ch_t, .ref ch_f, .ref ch_p, .int 0])), (la_t, .inl (cI, 4, .inl (fun _ => 0))), (la_h, .inl (cI, 16, .inl (fun _ => 0))), (la_u, .inl (cI, 16, .inl (fun _ => 0))), (la_o, .inl (cI, 16, .inl (fun _ => 0))), (la_x, .inl (cI, 16, .inl (fun _ => 0))), (xs, .inr (6, [.ref n, .ref fo, .ref wa, .ref we])), (n, .inl (cI, 36, .inl g_nums)), (fo, .inr (2, [.ref cf, .int 1, .ref sf, .ref wf, .int 0, .int 0, .int 0, .int 0, .int 0])), (cf, .inl (cI, 80, .inl (upd (fun _ => 0) 0 (-1)))), (sf, .inl (cI, 12, .inl (fun _ => 0))), (wa, .inr (2, [.ref cg, .int 1, .ref sg, .ref wg, .int 0, .int 0, .int 0, .int 0, .int 0])), (cg, .inl (cI, 80, .inl (upd (fun _ => 0) 0 0))), (sg, .inl (cI, 12, .inl (fun _ => 0))), (we, .inr (2, [.ref ch, .int 1, .ref sh, .ref wh, .int 0, .int 0, .int 0, .int 0, .int 0])), (ch, .inl (cI, 80, .inl (upd (fun _ => 0) 0 0))), (sh, .inl (cI, 12, .inl (fun _ => 0))), (xp, .inr (5, [.ref xs, .ref ph, .int 0, .int 0, .ref pl])), (ph, .inl (cI, 96, .inl (fun _ => 1000)))] [(cI, .int)] sz (fun (r : Int32) (_ : Unit) => r = (if 0 ≤ a ∧ a < 3 ∧ 1 ≤ b ∧ b ≤ 9 ∧ 1 ≤ d ∧ d ≤ 20 ∧ 1 ≤ h ∧ h ≤ 12 then (if (sp_fresh b.toNatClampNeg d h.toNatClampNeg 8 2) = 0 then 1 else 0) else (-2))) (fun (_ : Unit) => []) (fun (_ : Unit) => [(cI, .int)]) := by
  unfold Ki
  refine g_ofW (cc := cX11_sure) (lv := [(0, .ref x0), (1, .int a), (2, .int b), (3, .int d), (4, .int h)]) (by decide) rfl (Nat.le_of_ble_eq_true rfl) rfl ?_
  intro p e s m args below meth c A Q hA hQ F hr hnm
  have hts := F.2.2.2.2.1
  have w_0 : (Cond.fieldLink RX11 47 "QuietCut" "lathe" "LQuietCut$Lathe;").before args s = true := hts _ (List.mem_of_getElem? (i := 1) rfl)
  have i_X11 : ∀ w ∈ u_ws RX11 TX11 14, w ∈ wsX11_sure := fun _ h => List.mem_cons_of_mem _ (List.mem_append_left _ (List.mem_append_left _ (List.mem_append_left _ (List.mem_append_left _ (List.mem_append_left _ (List.mem_append_right _ h))))))
  have w_1 : (Cond.fieldLink RX11 56 "QuietCut" "chooser" "LQuietCut$Chooser;").before args s = true := hts _ (List.mem_of_getElem? (i := 2) rfl)
  refine g_aload_n F 0 dX11_sure_0 rfl rfl ?_
  refine g_get (C := RX11) (T := TX11) (N := 14) (v := .ref xl) F i_X11 0 rfl rfl 5 (by decide) w_0 rfl rfl dX11_sure_1 ?_
  refine g_iload_n F 1 dX11_sure_4 rfl rfl ?_
  refine g_iload_n F 2 dX11_sure_5 rfl rfl ?_
  refine g_iload_n F 3 dX11_sure_6 rfl rfl ?_
  refine g_iload F 4 dX11_sure_7 rfl ?_
  refine g_callVi (k := 0) (n := 0) (b := xl) (As := [.int a, .int b, .int d, .int h]) (st := []) (wc := [(xl, .inr (4, [.ref xs, .int 0, .int 0, .int 0, .int 0, .ref la_t, .int 0, .int 0, .ref la_h, .ref la_u, .ref la_o, .ref la_x, .int 0, .int 0, .int 0, .int 0, .int 0, .int 0, .int 0, .int 0])), (xs, .inr (6, [.ref n, .ref fo, .ref wa, .ref we])), (n, .inl (cI, 36, .inl g_nums))]) (wr := [(x0, .inr (10, [.ref xt, .ref xs, .ref xq, .ref xr, .ref xp, .ref xl, .ref xc, .ref xj, .ref xe, .ref xo, .ref pa, .int 0, .int 0, .int (-1)])), (xc, .inr (0, [.ref xs, .ref xp, .ref xl, .ref ch_s, .ref ch_t, .ref ch_f, .ref ch_p, .int 0])), (la_t, .inl (cI, 4, .inl (fun _ => 0))), (la_h, .inl (cI, 16, .inl (fun _ => 0))), (la_u, .inl (cI, 16, .inl (fun _ => 0))), (la_o, .inl (cI, 16, .inl (fun _ => 0))), (la_x, .inl (cI, 16, .inl (fun _ => 0))), (fo, .inr (2, [.ref cf, .int 1, .ref sf, .ref wf, .int 0, .int 0, .int 0, .int 0, .int 0])), (cf, .inl (cI, 80, .inl (upd (fun _ => 0) 0 (-1)))), (sf, .inl (cI, 12, .inl (fun _ => 0))), (wa, .inr (2, [.ref cg, .int 1, .ref sg, .ref wg, .int 0, .int 0, .int 0, .int 0, .int 0])), (cg, .inl (cI, 80, .inl (upd (fun _ => 0) 0 0))), (sg, .inl (cI, 12, .inl (fun _ => 0))), (we, .inr (2, [.ref ch, .int 1, .ref sh, .ref wh, .int 0, .int 0, .int 0, .int 0, .int 0])), (ch, .inl (cI, 80, .inl (upd (fun _ => 0) 0 0))), (sh, .inl (cI, 12, .inl (fun _ => 0))), (xp, .inr (5, [.ref xs, .ref ph, .int 0, .int 0, .ref pl])), (ph, .inl (cI, 96, .inl (fun _ => 1000)))]) F [1, 8, 9] [0, 2, 3, 4, 5, 6, 7, 10, 11, 12, 13, 14, 15, 16, 17, 18, 19, 20] [0] rfl rfl (by decide) rfl (by decide) (by decide) rfl (fun sz => K_X5_takes l D xl xs la_t la_h la_u la_o la_x n fo wa we cI 0 0 0 0 0 0 0 0 0 0 0 0 0 0 a b d h  sz) (cwV 4 hts gX11_sure_X5_takes rfl rfl rfl (by decide +kernel) ⟨Nat.le_of_ble_eq_true rfl, Nat.le_of_ble_eq_true rfl⟩) rfl 0 rfl rfl (Nat.le_of_ble_eq_true rfl) ⟨Nat.le_of_ble_eq_true rfl, Nat.le_of_ble_eq_true rfl⟩ dX11_sure_9 (fun r_1 _ hw_2 => ?_)
  have hw_2 : r_1 = (if 0 ≤ a ∧ a < 3 ∧ 1 ≤ b ∧ b ≤ 9 ∧ 1 ≤ d ∧ d ≤ 20 ∧ 1 ≤ h ∧ h ≤ 12 then 1 else 0) := hw_2
  have e_r_1 := hw_2
  show gG p l e (gR 5 0 0 151) s m args below meth c D A 5 Q 0 0 [(x0, .inr (10, [.ref xt, .ref xs, .ref xq, .ref xr, .ref xp, .ref xl, .ref xc, .ref xj, .ref xe, .ref xo, .ref pa, .int 0, .int 0, .int (-1)])), (xc, .inr (0, [.ref xs, .ref xp, .ref xl, .ref ch_s, .ref ch_t, .ref ch_f, .ref ch_p, .int 0])), (la_t, .inl (cI, 4, .inl (fun _ => 0))), (la_h, .inl (cI, 16, .inl (fun _ => 0))), (la_u, .inl (cI, 16, .inl (fun _ => 0))), (la_o, .inl (cI, 16, .inl (fun _ => 0))), (la_x, .inl (cI, 16, .inl (fun _ => 0))), (fo, .inr (2, [.ref cf, .int 1, .ref sf, .ref wf, .int 0, .int 0, .int 0, .int 0, .int 0])), (cf, .inl (cI, 80, .inl (upd (fun _ => 0) 0 (-1)))), (sf, .inl (cI, 12, .inl (fun _ => 0))), (wa, .inr (2, [.ref cg, .int 1, .ref sg, .ref wg, .int 0, .int 0, .int 0, .int 0, .int 0])), (cg, .inl (cI, 80, .inl (upd (fun _ => 0) 0 0))), (sg, .inl (cI, 12, .inl (fun _ => 0))), (we, .inr (2, [.ref ch, .int 1, .ref sh, .ref wh, .int 0, .int 0, .int 0, .int 0, .int 0])), (ch, .inl (cI, 80, .inl (upd (fun _ => 0) 0 0))), (sh, .inl (cI, 12, .inl (fun _ => 0))), (xp, .inr (5, [.ref xs, .ref ph, .int 0, .int 0, .ref pl])), (ph, .inl (cI, 96, .inl (fun _ => 1000))), (xl, .inr (4, [.ref xs, .int a, .int b, .int d, .int h, .ref la_t, .int 0, .int 0, .ref la_h, .ref la_u, .ref la_o, .ref la_x, .int 0, .int 0, .int 0, .int 0, .int 0, .int 0, .int 0, .int 0])), (xs, .inr (6, [.ref n, .ref fo, .ref wa, .ref we])), (n, .inl (cI, 36, .inl g_nums))] [(cI, .int)] [(0, .ref x0), (1, .int a), (2, .int b), (3, .int d), (4, .int h)] 12 [.int r_1]
  refine g_fold (if 0 ≤ a ∧ a < 3 ∧ 1 ≤ b ∧ b ≤ 9 ∧ 1 ≤ d ∧ d ≤ 20 ∧ 1 ≤ h ∧ h ≤ 12 then 1 else 0) e_r_1 ?_
  refine g_if_eq F 25 dX11_sure_12 (by decide) (fun c_12 => ?_) (fun c_12 => ?_)
  · have c_12 := gb_0 c_12
    refine g_bipush F (-2) dX11_sure_25 (by decide) ?_
    exact g_iret F hA hQ hr () (by first | exact (gi_e (by (simp only [Int32.lt_iff_toInt_lt, Int32.le_iff_toInt_le, ← Int32.toInt_inj, Int32.reduceToInt] at c_12 ⊢; omega)) rfl)) [] [0] rfl (by decide) rfl rfl dX11_sure_27
  · have c_12 := gb_n0 c_12
    refine g_aload_n F 0 dX11_sure_15 rfl rfl ?_
    refine g_get (C := RX11) (T := TX11) (N := 14) (v := .ref xc) F i_X11 0 rfl rfl 6 (by decide) w_1 rfl rfl dX11_sure_16 ?_
    refine g_callVi (k := 0) (n := 0) (b := xc) (As := []) (st := []) (wc := [(xc, .inr (0, [.ref xs, .ref xp, .ref xl, .ref ch_s, .ref ch_t, .ref ch_f, .ref ch_p, .int 0])), (la_t, .inl (cI, 4, .inl (fun _ => 0))), (la_h, .inl (cI, 16, .inl (fun _ => 0))), (la_u, .inl (cI, 16, .inl (fun _ => 0))), (la_o, .inl (cI, 16, .inl (fun _ => 0))), (la_x, .inl (cI, 16, .inl (fun _ => 0))), (xs, .inr (6, [.ref n, .ref fo, .ref wa, .ref we])), (n, .inl (cI, 36, .inl g_nums)), (fo, .inr (2, [.ref cf, .int 1, .ref sf, .ref wf, .int 0, .int 0, .int 0, .int 0, .int 0])), (cf, .inl (cI, 80, .inl (upd (fun _ => 0) 0 (-1)))), (sf, .inl (cI, 12, .inl (fun _ => 0))), (wa, .inr (2, [.ref cg, .int 1, .ref sg, .ref wg, .int 0, .int 0, .int 0, .int 0, .int 0])), (cg, .inl (cI, 80, .inl (upd (fun _ => 0) 0 0))), (sg, .inl (cI, 12, .inl (fun _ => 0))), (we, .inr (2, [.ref ch, .int 1, .ref sh, .ref wh, .int 0, .int 0, .int 0, .int 0, .int 0])), (ch, .inl (cI, 80, .inl (upd (fun _ => 0) 0 0))), (sh, .inl (cI, 12, .inl (fun _ => 0))), (xp, .inr (5, [.ref xs, .ref ph, .int 0, .int 0, .ref pl])), (ph, .inl (cI, 96, .inl (fun _ => 1000))), (xl, .inr (4, [.ref xs, .int a, .int b, .int d, .int h, .ref la_t, .int 0, .int 0, .ref la_h, .ref la_u, .ref la_o, .ref la_x, .int 0, .int 0, .int 0, .int 0, .int 0, .int 0, .int 0, .int 0]))]) (wr := [(x0, .inr (10, [.ref xt, .ref xs, .ref xq, .ref xr, .ref xp, .ref xl, .ref xc, .ref xj, .ref xe, .ref xo, .ref pa, .int 0, .int 0, .int (-1)]))]) F [1, 2, 3, 4, 5, 6, 19, 20, 7, 8, 9, 10, 11, 12, 13, 14, 15, 16, 17, 18] [0] [0] rfl rfl (by decide) rfl (by decide) (by decide) rfl (fun sz => K_X0_sureness l D xc xs xp xl ch_s ch_t ch_f ch_p la_t cI la_h la_u la_o la_x n fo wa we cf sf wf cg sg wg ch sh wh ph pl 0 0 0 0 0 0 0 0 0 a b d h (c_12) sz) (cwV 0 hts gX11_sure_X0_sureness rfl rfl rfl (by decide +kernel) ⟨Nat.le_of_ble_eq_true rfl, Nat.le_of_ble_eq_true rfl⟩) rfl 0 rfl rfl (Nat.le_of_ble_eq_true rfl) ⟨Nat.le_of_ble_eq_true rfl, Nat.le_of_ble_eq_true rfl⟩ dX11_sure_19 (fun r_6 _ hw_7 => ?_)
    have hw_7 : r_6 = (if (sp_fresh b.toNatClampNeg d h.toNatClampNeg 8 2) = 0 then 1 else 0) := hw_7
    have e_r_6 := hw_7
    show gG p l e (gR 5 0 0 151) s m args below meth c D A 5 Q 0 0 [(x0, .inr (10, [.ref xt, .ref xs, .ref xq, .ref xr, .ref xp, .ref xl, .ref xc, .ref xj, .ref xe, .ref xo, .ref pa, .int 0, .int 0, .int (-1)]))] [(cI, .int)] [(0, .ref x0), (1, .int a), (2, .int b), (3, .int d), (4, .int h)] 22 [.int r_6]
    refine g_fold (if (sp_fresh b.toNatClampNeg d h.toNatClampNeg 8 2) = 0 then 1 else 0) e_r_6 ?_
    refine g_goto F 27 dX11_sure_22 (by decide) ?_
    exact g_iret F hA hQ hr () (by first | exact (gi_p (by (simp only [Int32.lt_iff_toInt_lt, Int32.le_iff_toInt_le, ← Int32.toInt_inj, Int32.reduceToInt] at c_12 ⊢; omega)) rfl)) [] [0] rfl (by decide) rfl rfl dX11_sure_27
