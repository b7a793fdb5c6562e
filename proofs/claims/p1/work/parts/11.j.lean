def sp_freshz (z sp : Nat) (fd : Int32) (tu : Nat) (st dm : Int32) : Int32 := sp_ver (sp_pass 1000 fd sp st dm (bt_tf z 16) (bt_tm z 16) (fun _ => 1000) (8 * tu))
theorem run_freshz {rr sp tu z : Nat} {fd tv st dm : Int32} (h1 : 1 ≤ fd.toInt) (h2 : fd.toInt ≤ 20) (ht : tv = nI tu) (hu : tu ≤ 12) : (if (sp_most (fun s => (fun _ => (1000 : Int32)) (16 * rr + s)) 7) - (fd * tv) < 1 then (-4) else sp_ver (sp_pass (sp_most (fun s => (fun _ => (1000 : Int32)) (16 * rr + s)) 7) fd sp st dm (bt_tf z 16) (bt_tm z 16) (fun s => (fun _ => (1000 : Int32)) (16 * rr + s)) (8 * tu))) = sp_freshz z sp fd tu st dm := by
  rw [sp_m1000 rr, if_neg (run_low h1 h2 ht hu)]
  rfl
theorem run_freshz2 {rr sp tu z : Nat} {fd st dm : Int32} : sp_ver (sp_pass (sp_most (fun s => (fun _ => (1000 : Int32)) (16 * rr + s)) 7) fd sp st dm (bt_tf z 16) (bt_tm z 16) (fun s => (fun _ => (1000 : Int32)) (16 * rr + s)) (8 * tu)) = sp_freshz z sp fd tu st dm := by
  rw [sp_m1000 rr]
  rfl
def sp_qz (z : Nat) (b f : Int32) : Bool := decide (sp_freshz z b.toNatClampNeg f 4 8 2 = 0)
def sp_dz (b : Int32) (z : Nat) : Int32 := sp_dp (sp_qz z b) 0 20
/-- the best set up to v, and its depth -/
def sp_bst (dq : Nat → Int32) (mm L : Nat) : Nat → Int32 × Int32
  | 0 => (-1, 0)
  | v + 1 => if (v + 1) &&& (2 ^ 32 - 1 - L) = 0 ∧ bt_CT 32 (v + 1) = mm ∧ (sp_bst dq mm L v).2 < dq (v + 1) then (nI (v + 1), dq (v + 1)) else sp_bst dq mm L v
theorem sp_bst1 {dq : Nat → Int32} {mm L v : Nat} (h : (v + 1) &&& (2 ^ 32 - 1 - L) = 0 ∧ bt_CT 32 (v + 1) = mm ∧ (sp_bst dq mm L v).2 < dq (v + 1)) : sp_bst dq mm L (v + 1) = (nI (v + 1), dq (v + 1)) := if_pos h
theorem sp_bst0 {dq : Nat → Int32} {mm L v : Nat} (h : ¬ ((v + 1) &&& (2 ^ 32 - 1 - L) = 0 ∧ bt_CT 32 (v + 1) = mm ∧ (sp_bst dq mm L v).2 < dq (v + 1))) : sp_bst dq mm L (v + 1) = sp_bst dq mm L v := if_neg h
theorem sp_bst_gap {dq : Nat → Int32} {mm L z : Nat} (hL : L < 65536) : ∀ n, z + n < 65536 → (∀ v, z < v → v ≤ z + n → ¬ bt_SM 32 L v) → sp_bst dq mm L (z + n) = sp_bst dq mm L z
  | 0, _, _ => rfl
  | n + 1, hn, h => by
    have ih := sp_bst_gap (dq := dq) (mm := mm) hL n (by omega) (fun v h1 h2 => h v h1 (by omega))
    rw [← ih]
    exact sp_bst0 (fun q => h (z + n + 1) (by omega) (by omega) ((bt_smI 32 L (z + n + 1) (by omega) (by omega)).mp q.1))
theorem sp_bst_pre {dq : Nat → Int32} {mm L z : Nat} (hL : L < 65536) (hz : bt_SM 32 L z) (h : z < bt_NX 32 L z) (h6 : bt_NX 32 L z < 65536) : sp_bst dq mm L (bt_NX 32 L z - 1) = sp_bst dq mm L z := by
  have e := sp_bst_gap (dq := dq) (mm := mm) (z := z) hL (bt_NX 32 L z - 1 - z) (by omega) (fun v h1 h2 h3 => by have := bt_gap 32 L z v hz h3 h1; omega)
  rw [show z + (bt_NX 32 L z - 1 - z) = bt_NX 32 L z - 1 by omega] at e
  exact e
/-- what one step of the class does -/
theorem sp_bst_n {dq : Nat → Int32} {mm L z : Nat} (hL : L < 65536) (hz : bt_SM 32 L z) (h : z < bt_NX 32 L z) (h6 : bt_NX 32 L z < 65536) (hn : ¬ (bt_CT 32 (bt_NX 32 L z) = mm ∧ (sp_bst dq mm L z).2 < dq (bt_NX 32 L z))) : sp_bst dq mm L z = sp_bst dq mm L (bt_NX 32 L z) := by
  have e := sp_bst_pre (dq := dq) (mm := mm) hL hz h h6
  generalize bt_NX 32 L z = y at *
  obtain ⟨v, rfl⟩ : ∃ v, y = v + 1 := ⟨y - 1, by omega⟩
  rw [show v + 1 - 1 = v from rfl] at e
  rw [← e] at hn ⊢
  exact (sp_bst0 (fun q => hn q.2)).symm
theorem sp_bst_y {dq : Nat → Int32} {mm L z : Nat} (hL : L < 65536) (hz : bt_SM 32 L z) (h : z < bt_NX 32 L z) (h6 : bt_NX 32 L z < 65536) (hn : bt_CT 32 (bt_NX 32 L z) = mm ∧ (sp_bst dq mm L z).2 < dq (bt_NX 32 L z)) : sp_bst dq mm L (bt_NX 32 L z) = (nI (bt_NX 32 L z), dq (bt_NX 32 L z)) := by
  have e := sp_bst_pre (dq := dq) (mm := mm) hL hz h h6
  have hs := (bt_nx 32 L z hz (by omega)).1
  generalize bt_NX 32 L z = y at *
  obtain ⟨v, rfl⟩ : ∃ v, y = v + 1 := ⟨y - 1, by omega⟩
  rw [show v + 1 - 1 = v from rfl] at e
  rw [← e] at hn
  exact sp_bst1 ⟨(bt_smI 32 L (v + 1) (by omega) (by omega)).mpr hs, hn⟩
theorem sp_bst_fl {b : Int32} {mm L : Nat} : ∀ v, ∃ fl : Nat, fl ≤ 20 ∧ (sp_bst (sp_dz b) mm L v).2 = nI fl
  | 0 => ⟨0, by decide, rfl⟩
  | v + 1 => by
    have ih := sp_bst_fl (b := b) (mm := mm) (L := L) v
    by_cases h : (v + 1) &&& (2 ^ 32 - 1 - L) = 0 ∧ bt_CT 32 (v + 1) = mm ∧ (sp_bst (sp_dz b) mm L v).2 < sp_dz b (v + 1)
    · have e0 : (sp_bst (sp_dz b) mm L (v + 1)).2 = sp_dz b (v + 1) := by rw [sp_bst1 h]
      rw [e0]
      obtain ⟨fl, h1, e1⟩ := ih
      have h3 := h.2.2
      have h4 : sp_dz b (v + 1) = -1 ∨ ∃ j, 1 ≤ j ∧ j ≤ 20 ∧ sp_dz b (v + 1) = nI j := sp_dp_or (sp_qz (v + 1) b) 0 20
      generalize sp_dz b (v + 1) = y at h3 h4 ⊢
      rcases h4 with e | ⟨j, a, b2, e⟩
      · exfalso
        rw [e, e1] at h3
        exact nI_pos (n := fl) (by omega) (Int32.lt_trans h3 (by decide))
      · exact ⟨j, b2, e⟩
    · rw [sp_bst0 h]; exact ih


set_option maxHeartbeats 4000000 in
set_option maxRecDepth 100000 in
theorem K_X0_isQuietForAllG (l : Launch) (D : va_G) (xc : Nat) (xs : Nat) (xp : Nat) (xl : Nat) (ch_s : Nat) (ch_t : Nat) (ch_f : Nat) (ch_p : Nat) (la_t : Nat) (la_h : Nat) (la_u : Nat) (la_o : Nat) (la_x : Nat) (n : Nat) (fo : Nat) (wa : Nat) (we : Nat) (cf : Nat) (sf : Nat) (wf : Nat) (ch : Nat) (sh : Nat) (wh : Nat) (cg : Nat) (sg : Nat) (wg : Nat) (ph : Nat) (pl : Nat) (cI : ClassId) (l_ring : Int32) (l_speed : Int32) (l_feed : Int32) (l_turns : Int32) (l_teethMany : Int32) (l_wear : Int32) (l_x : Int32) (l_v : Int32) (l_wave : Int32) (l_time : Int32) (l_out : Int32) (l_farthest : Int32) (l_begun : Int32) (k_t : Nat → Int32) (k_h : Nat → Int32) (k_u : Nat → Int32) (k_o : Nat → Int32) (k_x : Nat → Int32) (k_1 : Nat → Int32) (k_2 : Nat → Int32) (k_3 : Nat → Int32) (a : Int32) (b : Int32) (d : Int32) (z : Nat) (hz0 : z ≠ 0) (hz6 : z < 65536) (hz4 : bt_CT 32 z ≤ 4) (sz : Nat) : Ki l yX0_isQuietForAll wsX0_isQuietForAll 4 126 0 0 D [.ref xc, .int a, .int b, .int d] [(xc, .inr (0, [.ref xs, .ref xp, .ref xl, .ref ch_s, .ref ch_t, .ref ch_f, .ref ch_p, .int 0])), (xp, .inr (5, [.ref xs, .ref ph, .int 0, .int 0, .ref pl])), (ph, .inl (cI, 96, .inl (fun _ => 1000))), (xl, .inr (4, [.ref xs, .int l_ring, .int l_speed, .int l_feed, .int l_turns, .ref la_t, .int (nI z), .int l_teethMany, .ref la_h, .ref la_u, .ref la_o, .ref la_x, .int l_wear, .int l_x, .int l_v, .int l_wave, .int l_time, .int l_out, .int l_farthest, .int l_begun])), (la_t, .inl (cI, 4, .inl k_t)), (la_h, .inl (cI, 16, .inl k_h)), (la_u, .inl (cI, 16, .inl k_u)), (la_o, .inl (cI, 16, .inl k_o)), (la_x, .inl (cI, 16, .inl k_x)), (xs, .inr (6, [.ref n, .ref fo, .ref wa, .ref we])), (n, .inl (cI, 36, .inl g_nums)), (fo, .inr (2, [.ref cf, .int 1, .ref sf, .ref wf, .int 0, .int 0, .int 0, .int 0, .int 0])), (cf, .inl (cI, 80, .inl (upd (fun _ => 0) 0 (-1)))), (sf, .inl (cI, 12, .inl k_1)), (wa, .inr (2, [.ref cg, .int 1, .ref sg, .ref wg, .int 0, .int 0, .int 0, .int 0, .int 0])), (cg, .inl (cI, 80, .inl (upd (fun _ => 0) 0 0))), (sg, .inl (cI, 12, .inl k_2)), (we, .inr (2, [.ref ch, .int 1, .ref sh, .ref wh, .int 0, .int 0, .int 0, .int 0, .int 0])), (ch, .inl (cI, 80, .inl (upd (fun _ => 0) 0 0))), (sh, .inl (cI, 12, .inl k_3))] [(cI, .int)] sz (fun (r : Int32) (u : Int32 × Int32 × Int32 × Int32 × Int32 × Int32 × Int32 × Int32 × Int32 × Int32 × Int32 × Int32 × Int32 × (Nat → Int32) × (Nat → Int32) × (Nat → Int32) × (Nat → Int32) × (Nat → Int32) × (Nat → Int32) × (Nat → Int32) × (Nat → Int32)) => r = (if (0 ≤ a ∧ a < 3 ∧ 1 ≤ b ∧ b ≤ 9 ∧ 1 ≤ d ∧ d ≤ 20) ∧ sp_qz z b d = true then 1 else 0)) (fun (u : Int32 × Int32 × Int32 × Int32 × Int32 × Int32 × Int32 × Int32 × Int32 × Int32 × Int32 × Int32 × Int32 × (Nat → Int32) × (Nat → Int32) × (Nat → Int32) × (Nat → Int32) × (Nat → Int32) × (Nat → Int32) × (Nat → Int32) × (Nat → Int32)) => [(xc, .inr (0, [.ref xs, .ref xp, .ref xl, .ref ch_s, .ref ch_t, .ref ch_f, .ref ch_p, .int 0])), (xp, .inr (5, [.ref xs, .ref ph, .int 0, .int 0, .ref pl])), (ph, .inl (cI, 96, .inl (fun _ => 1000))), (xl, .inr (4, [.ref xs, .int u.1, .int u.2.1, .int u.2.2.1, .int u.2.2.2.1, .ref la_t, .int (nI z), .int u.2.2.2.2.1, .ref la_h, .ref la_u, .ref la_o, .ref la_x, .int u.2.2.2.2.2.1, .int u.2.2.2.2.2.2.1, .int u.2.2.2.2.2.2.2.1, .int u.2.2.2.2.2.2.2.2.1, .int u.2.2.2.2.2.2.2.2.2.1, .int u.2.2.2.2.2.2.2.2.2.2.1, .int u.2.2.2.2.2.2.2.2.2.2.2.1, .int u.2.2.2.2.2.2.2.2.2.2.2.2.1])), (la_t, .inl (cI, 4, .inl u.2.2.2.2.2.2.2.2.2.2.2.2.2.1)), (la_h, .inl (cI, 16, .inl u.2.2.2.2.2.2.2.2.2.2.2.2.2.2.1)), (la_u, .inl (cI, 16, .inl u.2.2.2.2.2.2.2.2.2.2.2.2.2.2.2.1)), (la_o, .inl (cI, 16, .inl u.2.2.2.2.2.2.2.2.2.2.2.2.2.2.2.2.1)), (la_x, .inl (cI, 16, .inl u.2.2.2.2.2.2.2.2.2.2.2.2.2.2.2.2.2.1)), (xs, .inr (6, [.ref n, .ref fo, .ref wa, .ref we])), (n, .inl (cI, 36, .inl g_nums)), (fo, .inr (2, [.ref cf, .int 1, .ref sf, .ref wf, .int 0, .int 0, .int 0, .int 0, .int 0])), (cf, .inl (cI, 80, .inl (upd (fun _ => 0) 0 (-1)))), (sf, .inl (cI, 12, .inl u.2.2.2.2.2.2.2.2.2.2.2.2.2.2.2.2.2.2.1)), (wa, .inr (2, [.ref cg, .int 1, .ref sg, .ref wg, .int 0, .int 0, .int 0, .int 0, .int 0])), (cg, .inl (cI, 80, .inl (upd (fun _ => 0) 0 0))), (sg, .inl (cI, 12, .inl u.2.2.2.2.2.2.2.2.2.2.2.2.2.2.2.2.2.2.2.1)), (we, .inr (2, [.ref ch, .int 1, .ref sh, .ref wh, .int 0, .int 0, .int 0, .int 0, .int 0])), (ch, .inl (cI, 80, .inl (upd (fun _ => 0) 0 0))), (sh, .inl (cI, 12, .inl u.2.2.2.2.2.2.2.2.2.2.2.2.2.2.2.2.2.2.2.2))]) (fun (_ : Int32 × Int32 × Int32 × Int32 × Int32 × Int32 × Int32 × Int32 × Int32 × Int32 × Int32 × Int32 × Int32 × (Nat → Int32) × (Nat → Int32) × (Nat → Int32) × (Nat → Int32) × (Nat → Int32) × (Nat → Int32) × (Nat → Int32) × (Nat → Int32)) => [(cI, .int)]) := by
  unfold Ki
  refine g_ofW (cc := cX0_isQuietForAll) (lv := [(0, .ref xc), (1, .int a), (2, .int b), (3, .int d)]) (by decide) rfl (Nat.le_of_ble_eq_true rfl) rfl ?_
  intro p e s m args below meth c A Q hA hQ F hr hnm
  have hts := F.2.2.2.2.1
  have w_0 : (Cond.fieldLink RX0 32 "QuietCut$Chooser" "lathe" "LQuietCut$Lathe;").before args s = true := hts _ (List.mem_of_getElem? (i := 1) rfl)
  have i_X0 : ∀ w ∈ u_ws RX0 TX0 8, w ∈ wsX0_isQuietForAll := fun _ h => List.mem_cons_of_mem _ (List.mem_append_left _ (List.mem_append_left _ (List.mem_append_left _ (List.mem_append_left _ (List.mem_append_right _ h)))))
  have w_1 : (Cond.fieldLink RX0 24 "QuietCut$Chooser" "shop" "LQuietCut$Shop;").before args s = true := hts _ (List.mem_of_getElem? (i := 2) rfl)
  have w_2 : (Cond.fieldLink RX0 36 "QuietCut$Shop" "numbers" "[I").before args s = true := hts _ (List.mem_of_getElem? (i := 3) rfl)
  have i_X7 : ∀ w ∈ u_ws RX7 TX7 4, w ∈ wsX0_isQuietForAll := fun _ h => List.mem_cons_of_mem _ (List.mem_append_left _ (List.mem_append_left _ (List.mem_append_left _ (List.mem_append_right _ h))))
  have w_3 : (Cond.fieldLink RX0 28 "QuietCut$Chooser" "piece" "LQuietCut$Piece;").before args s = true := hts _ (List.mem_of_getElem? (i := 4) rfl)
  have w_4 : (Cond.fieldLink RX0 41 "QuietCut$Piece" "heights" "[I").before args s = true := hts _ (List.mem_of_getElem? (i := 5) rfl)
  have i_X6 : ∀ w ∈ u_ws RX6 TX6 5, w ∈ wsX0_isQuietForAll := fun _ h => List.mem_cons_of_mem _ (List.mem_append_left _ (List.mem_append_left _ (List.mem_append_right _ h)))
  have w_5 : (Cond.fieldLink RX0 46 "QuietCut$Piece" "wear" "I").before args s = true := hts _ (List.mem_of_getElem? (i := 6) rfl)
  refine g_aload_n F 0 dX0_isQuietForAll_0 rfl rfl ?_
  refine g_get (C := RX0) (T := TX0) (N := 8) (v := .ref xl) F i_X0 0 rfl rfl 2 (by decide) w_0 rfl rfl dX0_isQuietForAll_1 ?_
  refine g_iload_n F 1 dX0_isQuietForAll_4 rfl rfl ?_
  refine g_iload_n F 2 dX0_isQuietForAll_5 rfl rfl ?_
  refine g_iload_n F 3 dX0_isQuietForAll_6 rfl rfl ?_
  refine g_aload_n F 0 dX0_isQuietForAll_7 rfl rfl ?_
  refine g_get (C := RX0) (T := TX0) (N := 8) (v := .ref xs) F i_X0 0 rfl rfl 0 (by decide) w_1 rfl rfl dX0_isQuietForAll_8 ?_
  refine g_get (C := RX7) (T := TX7) (N := 4) (v := .ref n) F i_X7 9 rfl rfl 0 (by decide) w_2 rfl rfl dX0_isQuietForAll_11 ?_
  refine g_bipush F 9 dX0_isQuietForAll_14 (by decide) ?_
  refine g_iald F 10 0 rfl rfl (by unfold vp_in; decide) dX0_isQuietForAll_16 ?_
  refine g_fold 4 (by rfl) ?_
  refine g_callVi (k := 0) (n := 0) (b := xl) (As := [.int a, .int b, .int d, .int 4]) (st := []) (wc := [(xl, .inr (4, [.ref xs, .int l_ring, .int l_speed, .int l_feed, .int l_turns, .ref la_t, .int (nI z), .int l_teethMany, .ref la_h, .ref la_u, .ref la_o, .ref la_x, .int l_wear, .int l_x, .int l_v, .int l_wave, .int l_time, .int l_out, .int l_farthest, .int l_begun])), (xs, .inr (6, [.ref n, .ref fo, .ref wa, .ref we])), (n, .inl (cI, 36, .inl g_nums))]) (wr := [(xc, .inr (0, [.ref xs, .ref xp, .ref xl, .ref ch_s, .ref ch_t, .ref ch_f, .ref ch_p, .int 0])), (xp, .inr (5, [.ref xs, .ref ph, .int 0, .int 0, .ref pl])), (ph, .inl (cI, 96, .inl (fun _ => 1000))), (la_t, .inl (cI, 4, .inl k_t)), (la_h, .inl (cI, 16, .inl k_h)), (la_u, .inl (cI, 16, .inl k_u)), (la_o, .inl (cI, 16, .inl k_o)), (la_x, .inl (cI, 16, .inl k_x)), (fo, .inr (2, [.ref cf, .int 1, .ref sf, .ref wf, .int 0, .int 0, .int 0, .int 0, .int 0])), (cf, .inl (cI, 80, .inl (upd (fun _ => 0) 0 (-1)))), (sf, .inl (cI, 12, .inl k_1)), (wa, .inr (2, [.ref cg, .int 1, .ref sg, .ref wg, .int 0, .int 0, .int 0, .int 0, .int 0])), (cg, .inl (cI, 80, .inl (upd (fun _ => 0) 0 0))), (sg, .inl (cI, 12, .inl k_2)), (we, .inr (2, [.ref ch, .int 1, .ref sh, .ref wh, .int 0, .int 0, .int 0, .int 0, .int 0])), (ch, .inl (cI, 80, .inl (upd (fun _ => 0) 0 0))), (sh, .inl (cI, 12, .inl k_3))]) F [3, 9, 10] [0, 1, 2, 4, 5, 6, 7, 8, 11, 12, 13, 14, 15, 16, 17, 18, 19] [0] rfl rfl (by decide) rfl (by decide) (by decide) rfl (fun sz => K_X5_takes l D xl xs la_t la_h la_u la_o la_x n fo wa we cI l_ring l_speed l_feed l_turns (nI z) l_teethMany l_wear l_x l_v l_wave l_time l_out l_farthest l_begun a b d 4  sz) (cwV 4 hts gX0_isQuietForAll_X5_takes rfl rfl rfl (by decide +kernel) ⟨Nat.le_of_ble_eq_true rfl, Nat.le_of_ble_eq_true rfl⟩) rfl 0 rfl rfl (Nat.le_of_ble_eq_true rfl) ⟨Nat.le_of_ble_eq_true rfl, Nat.le_of_ble_eq_true rfl⟩ dX0_isQuietForAll_17 (fun r_1 _ hw_2 => ?_)
  have hw_2 : r_1 = (if 0 ≤ a ∧ a < 3 ∧ 1 ≤ b ∧ b ≤ 9 ∧ 1 ≤ d ∧ d ≤ 20 ∧ 1 ≤ (4 : Int32) ∧ (4 : Int32) ≤ 12 then 1 else 0) := hw_2
  have e_r_1 := hw_2
  show gG p l e (gR 4 0 0 126) s m args below meth c D A 6 Q 0 0 [(xc, .inr (0, [.ref xs, .ref xp, .ref xl, .ref ch_s, .ref ch_t, .ref ch_f, .ref ch_p, .int 0])), (xp, .inr (5, [.ref xs, .ref ph, .int 0, .int 0, .ref pl])), (ph, .inl (cI, 96, .inl (fun _ => 1000))), (la_t, .inl (cI, 4, .inl k_t)), (la_h, .inl (cI, 16, .inl k_h)), (la_u, .inl (cI, 16, .inl k_u)), (la_o, .inl (cI, 16, .inl k_o)), (la_x, .inl (cI, 16, .inl k_x)), (fo, .inr (2, [.ref cf, .int 1, .ref sf, .ref wf, .int 0, .int 0, .int 0, .int 0, .int 0])), (cf, .inl (cI, 80, .inl (upd (fun _ => 0) 0 (-1)))), (sf, .inl (cI, 12, .inl k_1)), (wa, .inr (2, [.ref cg, .int 1, .ref sg, .ref wg, .int 0, .int 0, .int 0, .int 0, .int 0])), (cg, .inl (cI, 80, .inl (upd (fun _ => 0) 0 0))), (sg, .inl (cI, 12, .inl k_2)), (we, .inr (2, [.ref ch, .int 1, .ref sh, .ref wh, .int 0, .int 0, .int 0, .int 0, .int 0])), (ch, .inl (cI, 80, .inl (upd (fun _ => 0) 0 0))), (sh, .inl (cI, 12, .inl k_3)), (xl, .inr (4, [.ref xs, .int a, .int b, .int d, .int 4, .ref la_t, .int (nI z), .int l_teethMany, .ref la_h, .ref la_u, .ref la_o, .ref la_x, .int l_wear, .int l_x, .int l_v, .int l_wave, .int l_time, .int l_out, .int l_farthest, .int l_begun])), (xs, .inr (6, [.ref n, .ref fo, .ref wa, .ref we])), (n, .inl (cI, 36, .inl g_nums))] [(cI, .int)] [(0, .ref xc), (1, .int a), (2, .int b), (3, .int d)] 20 [.int r_1]
  refine g_fold (if 0 ≤ a ∧ a < 3 ∧ 1 ≤ b ∧ b ≤ 9 ∧ 1 ≤ d ∧ d ≤ 20 ∧ 1 ≤ (4 : Int32) ∧ (4 : Int32) ≤ 12 then 1 else 0) e_r_1 ?_
  refine g_if_ne F 25 dX0_isQuietForAll_20 (by decide) (fun c_20 => ?_) (fun c_20 => ?_)
  · have c_20 := gb_n0 c_20
    refine g_aload_n F 0 dX0_isQuietForAll_25 rfl rfl ?_
    refine g_get (C := RX0) (T := TX0) (N := 8) (v := .ref xs) F i_X0 0 rfl rfl 0 (by decide) w_1 rfl rfl dX0_isQuietForAll_26 ?_
    refine g_get (C := RX7) (T := TX7) (N := 4) (v := .ref n) F i_X7 18 rfl rfl 0 (by decide) w_2 rfl rfl dX0_isQuietForAll_29 ?_
    refine g_iconst F 3 dX0_isQuietForAll_32 (by decide) ?_
    refine g_iald F 19 0 rfl rfl (by unfold vp_in; decide) dX0_isQuietForAll_33 ?_
    refine g_fold 8 (by rfl) ?_
    refine g_istore F [(4, .int 8), (0, .ref xc), (1, .int a), (2, .int b), (3, .int d)] dX0_isQuietForAll_34 (by decide) rfl ?_
    refine g_iload F 0 dX0_isQuietForAll_36 rfl ?_
    refine g_aload_n F 1 dX0_isQuietForAll_38 rfl rfl ?_
    refine g_get (C := RX0) (T := TX0) (N := 8) (v := .ref xs) F i_X0 0 rfl rfl 0 (by decide) w_1 rfl rfl dX0_isQuietForAll_39 ?_
    refine g_get (C := RX7) (T := TX7) (N := 4) (v := .ref n) F i_X7 18 rfl rfl 0 (by decide) w_2 rfl rfl dX0_isQuietForAll_42 ?_
    refine g_iconst F 4 dX0_isQuietForAll_45 (by decide) ?_
    refine g_iald F 19 0 rfl rfl (by unfold vp_in; decide) dX0_isQuietForAll_46 ?_
    refine g_fold 8 (by rfl) ?_
    refine g_icmp_gt F 118 dX0_isQuietForAll_47 (by decide) (fun h9 => absurd h9 (by decide)) (fun c_47 => ?_)
    refine g_aload_n F 1 dX0_isQuietForAll_50 rfl rfl ?_
    refine g_get (C := RX0) (T := TX0) (N := 8) (v := .ref xs) F i_X0 0 rfl rfl 0 (by decide) w_1 rfl rfl dX0_isQuietForAll_51 ?_
    refine g_get (C := RX7) (T := TX7) (N := 4) (v := .ref n) F i_X7 18 rfl rfl 0 (by decide) w_2 rfl rfl dX0_isQuietForAll_54 ?_
    refine g_iconst F 5 dX0_isQuietForAll_57 (by decide) ?_
    refine g_iald F 19 0 rfl rfl (by unfold vp_in; decide) dX0_isQuietForAll_58 ?_
    refine g_fold 2 (by rfl) ?_
    refine g_istore F [(5, .int 2), (4, .int 8), (0, .ref xc), (1, .int a), (2, .int b), (3, .int d)] dX0_isQuietForAll_59 (by decide) rfl ?_
    refine g_iload F 0 dX0_isQuietForAll_61 rfl ?_
    refine g_aload_n F 2 dX0_isQuietForAll_63 rfl rfl ?_
    refine g_get (C := RX0) (T := TX0) (N := 8) (v := .ref xs) F i_X0 0 rfl rfl 0 (by decide) w_1 rfl rfl dX0_isQuietForAll_64 ?_
    refine g_get (C := RX7) (T := TX7) (N := 4) (v := .ref n) F i_X7 18 rfl rfl 0 (by decide) w_2 rfl rfl dX0_isQuietForAll_67 ?_
    refine g_bipush F 6 dX0_isQuietForAll_70 (by decide) ?_
    refine g_iald F 19 0 rfl rfl (by unfold vp_in; decide) dX0_isQuietForAll_72 ?_
    refine g_fold 2 (by rfl) ?_
    refine g_icmp_gt F 112 dX0_isQuietForAll_73 (by decide) (fun h9 => absurd h9 (by decide)) (fun c_73 => ?_)
    refine g_aload_n F 2 dX0_isQuietForAll_76 rfl rfl ?_
    refine g_get (C := RX0) (T := TX0) (N := 8) (v := .ref xl) F i_X0 0 rfl rfl 2 (by decide) w_0 rfl rfl dX0_isQuietForAll_77 ?_
    refine g_aload_n F 2 dX0_isQuietForAll_80 rfl rfl ?_
    refine g_get (C := RX0) (T := TX0) (N := 8) (v := .ref xp) F i_X0 0 rfl rfl 1 (by decide) w_3 rfl rfl dX0_isQuietForAll_81 ?_
    refine g_get (C := RX6) (T := TX6) (N := 5) (v := .ref ph) F i_X6 1 rfl rfl 1 (by decide) w_4 rfl rfl dX0_isQuietForAll_84 ?_
    refine g_aload_n F 2 dX0_isQuietForAll_87 rfl rfl ?_
    refine g_get (C := RX0) (T := TX0) (N := 8) (v := .ref xp) F i_X0 0 rfl rfl 1 (by decide) w_3 rfl rfl dX0_isQuietForAll_88 ?_
    refine g_get (C := RX6) (T := TX6) (N := 5) (v := .int 0) F i_X6 1 rfl rfl 2 (by decide) w_5 rfl rfl dX0_isQuietForAll_91 ?_
    refine g_iload F 1 dX0_isQuietForAll_94 rfl ?_
    refine g_iload F 0 dX0_isQuietForAll_96 rfl ?_
    refine g_callVi (k := 0) (n := 0) (b := xl) (As := [.ref ph, .int 0, .int 8, .int 2]) (st := []) (wc := [(xl, .inr (4, [.ref xs, .int a, .int b, .int d, .int 4, .ref la_t, .int (nI z), .int l_teethMany, .ref la_h, .ref la_u, .ref la_o, .ref la_x, .int l_wear, .int l_x, .int l_v, .int l_wave, .int l_time, .int l_out, .int l_farthest, .int l_begun])), (la_t, .inl (cI, 4, .inl k_t)), (la_h, .inl (cI, 16, .inl k_h)), (la_u, .inl (cI, 16, .inl k_u)), (la_o, .inl (cI, 16, .inl k_o)), (la_x, .inl (cI, 16, .inl k_x)), (xs, .inr (6, [.ref n, .ref fo, .ref wa, .ref we])), (n, .inl (cI, 36, .inl g_nums)), (fo, .inr (2, [.ref cf, .int 1, .ref sf, .ref wf, .int 0, .int 0, .int 0, .int 0, .int 0])), (cf, .inl (cI, 80, .inl (upd (fun _ => 0) 0 (-1)))), (sf, .inl (cI, 12, .inl k_1)), (wa, .inr (2, [.ref cg, .int 1, .ref sg, .ref wg, .int 0, .int 0, .int 0, .int 0, .int 0])), (cg, .inl (cI, 80, .inl (upd (fun _ => 0) 0 0))), (sg, .inl (cI, 12, .inl k_2)), (we, .inr (2, [.ref ch, .int 1, .ref sh, .ref wh, .int 0, .int 0, .int 0, .int 0, .int 0])), (ch, .inl (cI, 80, .inl (upd (fun _ => 0) 0 0))), (sh, .inl (cI, 12, .inl k_3)), (ph, .inl (cI, 96, .inl (fun _ => 1000)))]) (wr := [(xc, .inr (0, [.ref xs, .ref xp, .ref xl, .ref ch_s, .ref ch_t, .ref ch_f, .ref ch_p, .int 0])), (xp, .inr (5, [.ref xs, .ref ph, .int 0, .int 0, .ref pl]))]) F [17, 3, 4, 5, 6, 7, 18, 19, 8, 9, 10, 11, 12, 13, 14, 15, 16, 2] [0, 1] [0] rfl rfl (by decide) rfl (by decide) (by decide) rfl (fun sz => K_X5_runG l D xl xs la_t la_h la_u la_o la_x n fo wa we cf sf wf ch sh wh cg sg wg ph cI a b d 4 l_teethMany l_wear l_x l_v l_wave l_time l_out l_farthest l_begun k_t k_h k_u k_o k_x k_1 k_2 k_3 (fun _ => 1000) 8 2 a.toNatClampNeg b.toNatClampNeg 4 z ((tk_all c_20).1) ((tk_all c_20).2.1) ((tk_all c_20).2.2.1) ((tk_all c_20).2.2.2.1) ((tk_all c_20).2.2.2.2.1) ((tk_all c_20).2.2.2.2.2.1) (rfl) (by decide) (fun _ _ => ⟨by decide, by decide⟩) (by decide) (by decide) (by decide) (by decide) (hz0) (hz6) (hz4) sz) (cwV 4 hts gX0_isQuietForAll_X5_run rfl rfl rfl (by decide +kernel) ⟨Nat.le_of_ble_eq_true rfl, Nat.le_of_ble_eq_true rfl⟩) rfl 0 rfl rfl (Nat.le_of_ble_eq_true rfl) ⟨Nat.le_of_ble_eq_true rfl, Nat.le_of_ble_eq_true rfl⟩ dX0_isQuietForAll_98 (fun r_6 u_5 hw_7 => ?_)
    obtain ⟨z_teethMany_8, z_wear_8, z_x_8, z_v_8, z_wave_8, z_time_8, z_out_8, z_farthest_8, z_begun_8, gt_8, gh_8, gu_8, gq_8, gx_8, g1_8, g2_8, g3_8⟩ := u_5
    have hw_7 : (r_6 = (if ((sp_most (fun s => (fun _ => 1000) (16 * a.toNatClampNeg + s)) 7) - (d * (4 : Int32))) < 1 then (-4) else (sp_ver (sp_pass (sp_most (fun s => (fun _ => 1000) (16 * a.toNatClampNeg + s)) 7) d b.toNatClampNeg (8 : Int32) (2 : Int32) (bt_tf z 16) (bt_tm z 16) (fun s => (fun _ => 1000) (16 * a.toNatClampNeg + s)) (8 * 4))))) ∧ (¬ (((sp_most (fun s => (fun _ => 1000) (16 * a.toNatClampNeg + s)) 7) - (d * (4 : Int32))) < 1) → ∀ j, j < 8 → gh_8 j = ((sp_pass (sp_most (fun s => (fun _ => 1000) (16 * a.toNatClampNeg + s)) 7) d b.toNatClampNeg (8 : Int32) (2 : Int32) (bt_tf z 16) (bt_tm z 16) (fun s => (fun _ => 1000) (16 * a.toNatClampNeg + s)) (8 * 4))).1 j) ∧ (¬ (((sp_most (fun s => (fun _ => 1000) (16 * a.toNatClampNeg + s)) 7) - (d * (4 : Int32))) < 1) → z_wear_8 = 0) := hw_7
    obtain ⟨e_r_6, hp0_9, hp1_9⟩ := hw_7
    show gG p l e (gR 4 0 0 126) s m args below meth c D A 6 Q 0 0 [(xc, .inr (0, [.ref xs, .ref xp, .ref xl, .ref ch_s, .ref ch_t, .ref ch_f, .ref ch_p, .int 0])), (xp, .inr (5, [.ref xs, .ref ph, .int 0, .int 0, .ref pl])), (xl, .inr (4, [.ref xs, .int a, .int b, .int d, .int 4, .ref la_t, .int (nI z), .int z_teethMany_8, .ref la_h, .ref la_u, .ref la_o, .ref la_x, .int z_wear_8, .int z_x_8, .int z_v_8, .int z_wave_8, .int z_time_8, .int z_out_8, .int z_farthest_8, .int z_begun_8])), (la_t, .inl (cI, 4, .inl gt_8)), (la_h, .inl (cI, 16, .inl gh_8)), (la_u, .inl (cI, 16, .inl gu_8)), (la_o, .inl (cI, 16, .inl gq_8)), (la_x, .inl (cI, 16, .inl gx_8)), (xs, .inr (6, [.ref n, .ref fo, .ref wa, .ref we])), (n, .inl (cI, 36, .inl g_nums)), (fo, .inr (2, [.ref cf, .int 1, .ref sf, .ref wf, .int 0, .int 0, .int 0, .int 0, .int 0])), (cf, .inl (cI, 80, .inl (upd (fun _ => 0) 0 (-1)))), (sf, .inl (cI, 12, .inl g1_8)), (wa, .inr (2, [.ref cg, .int 1, .ref sg, .ref wg, .int 0, .int 0, .int 0, .int 0, .int 0])), (cg, .inl (cI, 80, .inl (upd (fun _ => 0) 0 0))), (sg, .inl (cI, 12, .inl g2_8)), (we, .inr (2, [.ref ch, .int 1, .ref sh, .ref wh, .int 0, .int 0, .int 0, .int 0, .int 0])), (ch, .inl (cI, 80, .inl (upd (fun _ => 0) 0 0))), (sh, .inl (cI, 12, .inl g3_8)), (ph, .inl (cI, 96, .inl (fun _ => 1000)))] [(cI, .int)] [(5, .int 2), (4, .int 8), (0, .ref xc), (1, .int a), (2, .int b), (3, .int d)] 101 [.int r_6]
    refine g_fold (if ((sp_most (fun s => (fun _ => 1000) (16 * a.toNatClampNeg + s)) 7) - (d * (4 : Int32))) < 1 then (-4) else (sp_ver (sp_pass (sp_most (fun s => (fun _ => 1000) (16 * a.toNatClampNeg + s)) 7) d b.toNatClampNeg (8 : Int32) (2 : Int32) (bt_tf z 16) (bt_tm z 16) (fun s => (fun _ => 1000) (16 * a.toNatClampNeg + s)) (8 * 4)))) e_r_6 ?_
    refine g_fold (sp_freshz z b.toNatClampNeg d 4 8 2) (run_freshz (rr := 0) (tk_all c_20).2.2.2.2.1 (tk_all c_20).2.2.2.2.2.1 rfl (by decide)) ?_
    refine g_if_eq F 106 dX0_isQuietForAll_101 (by decide) (fun c_101 => ?_) (fun c_101 => ?_)
    · refine g_iinc F (j := 0) 3 [(5, .int 3), (4, .int 8), (0, .ref xc), (1, .int a), (2, .int b), (3, .int d)] dX0_isQuietForAll_106 rfl (by decide) (by decide) rfl ?_
      refine g_goto F 61 dX0_isQuietForAll_109 (by decide) ?_
      refine g_iload F 0 dX0_isQuietForAll_61 rfl ?_
      refine g_aload_n F 2 dX0_isQuietForAll_63 rfl rfl ?_
      refine g_get (C := RX0) (T := TX0) (N := 8) (v := .ref xs) F i_X0 0 rfl rfl 0 (by decide) w_1 rfl rfl dX0_isQuietForAll_64 ?_
      refine g_get (C := RX7) (T := TX7) (N := 4) (v := .ref n) F i_X7 8 rfl rfl 0 (by decide) w_2 rfl rfl dX0_isQuietForAll_67 ?_
      refine g_bipush F 6 dX0_isQuietForAll_70 (by decide) ?_
      refine g_iald F 9 0 rfl rfl (by unfold vp_in; decide) dX0_isQuietForAll_72 ?_
      refine g_fold 2 (by rfl) ?_
      refine g_icmp_gt F 112 dX0_isQuietForAll_73 (by decide) (fun c_73 => ?_) (fun h9 => absurd (by decide) h9) 
      refine g_iinc F (j := 1) 9 [(4, .int 9), (5, .int 3), (0, .ref xc), (1, .int a), (2, .int b), (3, .int d)] dX0_isQuietForAll_112 rfl (by decide) (by decide) rfl ?_
      refine g_goto F 36 dX0_isQuietForAll_115 (by decide) ?_
      refine g_iload F 0 dX0_isQuietForAll_36 rfl ?_
      refine g_aload_n F 2 dX0_isQuietForAll_38 rfl rfl ?_
      refine g_get (C := RX0) (T := TX0) (N := 8) (v := .ref xs) F i_X0 0 rfl rfl 0 (by decide) w_1 rfl rfl dX0_isQuietForAll_39 ?_
      refine g_get (C := RX7) (T := TX7) (N := 4) (v := .ref n) F i_X7 8 rfl rfl 0 (by decide) w_2 rfl rfl dX0_isQuietForAll_42 ?_
      refine g_iconst F 4 dX0_isQuietForAll_45 (by decide) ?_
      refine g_iald F 9 0 rfl rfl (by unfold vp_in; decide) dX0_isQuietForAll_46 ?_
      refine g_fold 8 (by rfl) ?_
      refine g_icmp_gt F 118 dX0_isQuietForAll_47 (by decide) (fun c_47 => ?_) (fun h9 => absurd (by decide) h9) 
      refine g_iconst F 1 dX0_isQuietForAll_118 (by decide) ?_
      exact g_zret F hA hQ hr rfl (a, b, d, 4, z_teethMany_8, z_wear_8, z_x_8, z_v_8, z_wave_8, z_time_8, z_out_8, z_farthest_8, z_begun_8, gt_8, gh_8, gu_8, gq_8, gx_8, g1_8, g2_8, g3_8) (gb_t ⟨⟨c_20.1, c_20.2.1, c_20.2.2.1, c_20.2.2.2.1, c_20.2.2.2.2.1, c_20.2.2.2.2.2.1⟩, decide_eq_true c_101⟩) [0, 1, 19, 2, 3, 4, 5, 6, 7, 8, 9, 10, 11, 12, 13, 14, 15, 16, 17, 18] [0] rfl (by decide) rfl rfl dX0_isQuietForAll_119
    · refine g_iconst F 0 dX0_isQuietForAll_104 (by decide) ?_
      exact g_zret F hA hQ hr rfl (a, b, d, 4, z_teethMany_8, z_wear_8, z_x_8, z_v_8, z_wave_8, z_time_8, z_out_8, z_farthest_8, z_begun_8, gt_8, gh_8, gu_8, gq_8, gx_8, g1_8, g2_8, g3_8) (gb_f (fun h9 => c_101 (of_decide_eq_true h9.2))) [0, 1, 19, 2, 3, 4, 5, 6, 7, 8, 9, 10, 11, 12, 13, 14, 15, 16, 17, 18] [0] rfl (by decide) rfl rfl dX0_isQuietForAll_105
  · have c_20 := gb_0 c_20
    refine g_iconst F 0 dX0_isQuietForAll_23 (by decide) ?_
    exact g_zret F hA hQ hr rfl (a, b, d, 4, l_teethMany, l_wear, l_x, l_v, l_wave, l_time, l_out, l_farthest, l_begun, k_t, k_h, k_u, k_o, k_x, k_1, k_2, k_3) (gb_f (fun h9 => c_20 ⟨h9.1.1, h9.1.2.1, h9.1.2.2.1, h9.1.2.2.2.1, h9.1.2.2.2.2.1, h9.1.2.2.2.2.2, by decide, by decide⟩)) [0, 1, 2, 17, 3, 4, 5, 6, 7, 18, 19, 8, 9, 10, 11, 12, 13, 14, 15, 16] [0] rfl (by decide) rfl rfl dX0_isQuietForAll_24


set_option maxHeartbeats 4000000 in
set_option maxRecDepth 100000 in
theorem K_X0_deepestFeedG (l : Launch) (D : va_G) (xc : Nat) (xs : Nat) (xp : Nat) (xl : Nat) (ch_s : Nat) (ch_t : Nat) (ch_f : Nat) (ch_p : Nat) (la_t : Nat) (la_h : Nat) (la_u : Nat) (la_o : Nat) (la_x : Nat) (n : Nat) (fo : Nat) (wa : Nat) (we : Nat) (cf : Nat) (sf : Nat) (wf : Nat) (ch : Nat) (sh : Nat) (wh : Nat) (cg : Nat) (sg : Nat) (wg : Nat) (ph : Nat) (pl : Nat) (cI : ClassId) (l_ring : Int32) (l_speed : Int32) (l_feed : Int32) (l_turns : Int32) (l_teethMany : Int32) (l_wear : Int32) (l_x : Int32) (l_v : Int32) (l_wave : Int32) (l_time : Int32) (l_out : Int32) (l_farthest : Int32) (l_begun : Int32) (k_t : Nat → Int32) (k_h : Nat → Int32) (k_u : Nat → Int32) (k_o : Nat → Int32) (k_x : Nat → Int32) (k_1 : Nat → Int32) (k_2 : Nat → Int32) (k_3 : Nat → Int32) (a : Int32) (b : Int32) (fl : Int32) (z : Nat) (hz0 : z ≠ 0) (hz6 : z < 65536) (hz4 : bt_CT 32 z ≤ 4) (hab : 0 ≤ a ∧ a < 3 ∧ 1 ≤ b ∧ b ≤ 9) (sz : Nat) : Ki l yX0_deepestFeed wsX0_deepestFeed 5 151 0 0 D [.ref xc, .int a, .int b, .int fl] [(xc, .inr (0, [.ref xs, .ref xp, .ref xl, .ref ch_s, .ref ch_t, .ref ch_f, .ref ch_p, .int 0])), (xp, .inr (5, [.ref xs, .ref ph, .int 0, .int 0, .ref pl])), (ph, .inl (cI, 96, .inl (fun _ => 1000))), (xl, .inr (4, [.ref xs, .int l_ring, .int l_speed, .int l_feed, .int l_turns, .ref la_t, .int (nI z), .int l_teethMany, .ref la_h, .ref la_u, .ref la_o, .ref la_x, .int l_wear, .int l_x, .int l_v, .int l_wave, .int l_time, .int l_out, .int l_farthest, .int l_begun])), (la_t, .inl (cI, 4, .inl k_t)), (la_h, .inl (cI, 16, .inl k_h)), (la_u, .inl (cI, 16, .inl k_u)), (la_o, .inl (cI, 16, .inl k_o)), (la_x, .inl (cI, 16, .inl k_x)), (xs, .inr (6, [.ref n, .ref fo, .ref wa, .ref we])), (n, .inl (cI, 36, .inl g_nums)), (fo, .inr (2, [.ref cf, .int 1, .ref sf, .ref wf, .int 0, .int 0, .int 0, .int 0, .int 0])), (cf, .inl (cI, 80, .inl (upd (fun _ => 0) 0 (-1)))), (sf, .inl (cI, 12, .inl k_1)), (wa, .inr (2, [.ref cg, .int 1, .ref sg, .ref wg, .int 0, .int 0, .int 0, .int 0, .int 0])), (cg, .inl (cI, 80, .inl (upd (fun _ => 0) 0 0))), (sg, .inl (cI, 12, .inl k_2)), (we, .inr (2, [.ref ch, .int 1, .ref sh, .ref wh, .int 0, .int 0, .int 0, .int 0, .int 0])), (ch, .inl (cI, 80, .inl (upd (fun _ => 0) 0 0))), (sh, .inl (cI, 12, .inl k_3))] [(cI, .int)] sz (fun (r : Int32) (u : Int32 × Int32 × Int32 × Int32 × Int32 × Int32 × Int32 × Int32 × Int32 × Int32 × Int32 × Int32 × Int32 × (Nat → Int32) × (Nat → Int32) × (Nat → Int32) × (Nat → Int32) × (Nat → Int32) × (Nat → Int32) × (Nat → Int32) × (Nat → Int32)) => r = (sp_dp (sp_qz z b) fl 20)) (fun (u : Int32 × Int32 × Int32 × Int32 × Int32 × Int32 × Int32 × Int32 × Int32 × Int32 × Int32 × Int32 × Int32 × (Nat → Int32) × (Nat → Int32) × (Nat → Int32) × (Nat → Int32) × (Nat → Int32) × (Nat → Int32) × (Nat → Int32) × (Nat → Int32)) => [(xc, .inr (0, [.ref xs, .ref xp, .ref xl, .ref ch_s, .ref ch_t, .ref ch_f, .ref ch_p, .int 0])), (xp, .inr (5, [.ref xs, .ref ph, .int 0, .int 0, .ref pl])), (ph, .inl (cI, 96, .inl (fun _ => 1000))), (xl, .inr (4, [.ref xs, .int u.1, .int u.2.1, .int u.2.2.1, .int u.2.2.2.1, .ref la_t, .int (nI z), .int u.2.2.2.2.1, .ref la_h, .ref la_u, .ref la_o, .ref la_x, .int u.2.2.2.2.2.1, .int u.2.2.2.2.2.2.1, .int u.2.2.2.2.2.2.2.1, .int u.2.2.2.2.2.2.2.2.1, .int u.2.2.2.2.2.2.2.2.2.1, .int u.2.2.2.2.2.2.2.2.2.2.1, .int u.2.2.2.2.2.2.2.2.2.2.2.1, .int u.2.2.2.2.2.2.2.2.2.2.2.2.1])), (la_t, .inl (cI, 4, .inl u.2.2.2.2.2.2.2.2.2.2.2.2.2.1)), (la_h, .inl (cI, 16, .inl u.2.2.2.2.2.2.2.2.2.2.2.2.2.2.1)), (la_u, .inl (cI, 16, .inl u.2.2.2.2.2.2.2.2.2.2.2.2.2.2.2.1)), (la_o, .inl (cI, 16, .inl u.2.2.2.2.2.2.2.2.2.2.2.2.2.2.2.2.1)), (la_x, .inl (cI, 16, .inl u.2.2.2.2.2.2.2.2.2.2.2.2.2.2.2.2.2.1)), (xs, .inr (6, [.ref n, .ref fo, .ref wa, .ref we])), (n, .inl (cI, 36, .inl g_nums)), (fo, .inr (2, [.ref cf, .int 1, .ref sf, .ref wf, .int 0, .int 0, .int 0, .int 0, .int 0])), (cf, .inl (cI, 80, .inl (upd (fun _ => 0) 0 (-1)))), (sf, .inl (cI, 12, .inl u.2.2.2.2.2.2.2.2.2.2.2.2.2.2.2.2.2.2.1)), (wa, .inr (2, [.ref cg, .int 1, .ref sg, .ref wg, .int 0, .int 0, .int 0, .int 0, .int 0])), (cg, .inl (cI, 80, .inl (upd (fun _ => 0) 0 0))), (sg, .inl (cI, 12, .inl u.2.2.2.2.2.2.2.2.2.2.2.2.2.2.2.2.2.2.2.1)), (we, .inr (2, [.ref ch, .int 1, .ref sh, .ref wh, .int 0, .int 0, .int 0, .int 0, .int 0])), (ch, .inl (cI, 80, .inl (upd (fun _ => 0) 0 0))), (sh, .inl (cI, 12, .inl u.2.2.2.2.2.2.2.2.2.2.2.2.2.2.2.2.2.2.2.2))]) (fun (_ : Int32 × Int32 × Int32 × Int32 × Int32 × Int32 × Int32 × Int32 × Int32 × Int32 × Int32 × Int32 × Int32 × (Nat → Int32) × (Nat → Int32) × (Nat → Int32) × (Nat → Int32) × (Nat → Int32) × (Nat → Int32) × (Nat → Int32) × (Nat → Int32)) => [(cI, .int)]) := by
  unfold Ki
  refine g_ofW (cc := cX0_deepestFeed) (lv := [(0, .ref xc), (1, .int a), (2, .int b), (3, .int fl)]) (by decide) rfl (Nat.le_of_ble_eq_true rfl) rfl ?_
  intro p e s m args below meth c A Q hA hQ F hr hnm
  have hts := F.2.2.2.2.1
  refine g_bipush F 20 dX0_deepestFeed_0 (by decide) ?_
  refine g_istore F [(4, .int 20), (0, .ref xc), (1, .int a), (2, .int b), (3, .int fl)] dX0_deepestFeed_2 (by decide) rfl ?_
  refine g_locals [(0, .ref xc), (1, .int a), (2, .int b), (3, .int fl), (4, .int 20)] [1, 2, 3, 4, 0] rfl ?_
  have loop_4 : ∀ (fuel : Nat) (j : Nat) (y_ring : Int32) (y_speed : Int32) (y_feed : Int32) (y_turns : Int32) (y_teethMany : Int32) (y_wear : Int32) (y_x : Int32) (y_v : Int32) (y_wave : Int32) (y_time : Int32) (y_out : Int32) (y_farthest : Int32) (y_begun : Int32) (y_t : Nat → Int32) (y_h : Nat → Int32) (y_u : Nat → Int32) (y_o : Nat → Int32) (y_x2 : Nat → Int32) (y_1 : Nat → Int32) (y_2 : Nat → Int32) (y_3 : Nat → Int32), j < fuel → (j ≤ 20) → (sp_dp (sp_qz z b) fl 20 = sp_dp (sp_qz z b) fl j) → gG p l e (gR 5 0 0 151) s m args below meth c D A 5 Q 0 0 [(xc, .inr (0, [.ref xs, .ref xp, .ref xl, .ref ch_s, .ref ch_t, .ref ch_f, .ref ch_p, .int 0])), (xp, .inr (5, [.ref xs, .ref ph, .int 0, .int 0, .ref pl])), (ph, .inl (cI, 96, .inl (fun _ => 1000))), (xl, .inr (4, [.ref xs, .int y_ring, .int y_speed, .int y_feed, .int y_turns, .ref la_t, .int (nI z), .int y_teethMany, .ref la_h, .ref la_u, .ref la_o, .ref la_x, .int y_wear, .int y_x, .int y_v, .int y_wave, .int y_time, .int y_out, .int y_farthest, .int y_begun])), (la_t, .inl (cI, 4, .inl y_t)), (la_h, .inl (cI, 16, .inl y_h)), (la_u, .inl (cI, 16, .inl y_u)), (la_o, .inl (cI, 16, .inl y_o)), (la_x, .inl (cI, 16, .inl y_x2)), (xs, .inr (6, [.ref n, .ref fo, .ref wa, .ref we])), (n, .inl (cI, 36, .inl g_nums)), (fo, .inr (2, [.ref cf, .int 1, .ref sf, .ref wf, .int 0, .int 0, .int 0, .int 0, .int 0])), (cf, .inl (cI, 80, .inl (upd (fun _ => 0) 0 (-1)))), (sf, .inl (cI, 12, .inl y_1)), (wa, .inr (2, [.ref cg, .int 1, .ref sg, .ref wg, .int 0, .int 0, .int 0, .int 0, .int 0])), (cg, .inl (cI, 80, .inl (upd (fun _ => 0) 0 0))), (sg, .inl (cI, 12, .inl y_2)), (we, .inr (2, [.ref ch, .int 1, .ref sh, .ref wh, .int 0, .int 0, .int 0, .int 0, .int 0])), (ch, .inl (cI, 80, .inl (upd (fun _ => 0) 0 0))), (sh, .inl (cI, 12, .inl y_3))] [(cI, .int)] [(0, .ref xc), (1, .int a), (2, .int b), (3, .int fl), (4, .int (nI j))] 4 [] := by
    intro fuel_4
    induction fuel_4 with
    | zero => intro j y_ring y_speed y_feed y_turns y_teethMany y_wear y_x y_v y_wave y_time y_out y_farthest y_begun y_t y_h y_u y_o y_x2 y_1 y_2 y_3 hm; exact absurd hm (Nat.not_lt_zero _)
    | succ fuel_4 ih_4 =>
      intro j y_ring y_speed y_feed y_turns y_teethMany y_wear y_x y_v y_wave y_time y_out y_farthest y_begun y_t y_h y_u y_o y_x2 y_1 y_2 y_3 hm4 hj0 hd
      refine g_iload F 4 dX0_deepestFeed_4 rfl ?_
      refine g_iload_n F 3 dX0_deepestFeed_6 rfl rfl ?_
      refine g_icmp_le F 35 dX0_deepestFeed_7 (by decide) (fun c_7 => ?_) (fun c_7 => ?_)
      · refine g_iconst F (-1) dX0_deepestFeed_35 (by decide) ?_
        exact g_iret F hA hQ hr (y_ring, y_speed, y_feed, y_turns, y_teethMany, y_wear, y_x, y_v, y_wave, y_time, y_out, y_farthest, y_begun, y_t, y_h, y_u, y_o, y_x2, y_1, y_2, y_3) (by
      rcases Nat.eq_zero_or_pos j with h0 | hp
      · rw [hd, h0]; rfl
      · obtain ⟨j2, rfl⟩ : ∃ j2, j = j2 + 1 := ⟨j - 1, by omega⟩
        rw [hd]
        exact (sp_dp3 c_7).symm) [0, 1, 2, 3, 4, 5, 6, 7, 8, 9, 10, 11, 12, 13, 14, 15, 16, 17, 18, 19] [0] rfl (by decide) rfl rfl dX0_deepestFeed_36
      · refine g_iload F 4 dX0_deepestFeed_10 rfl ?_
        refine g_if_le F 35 dX0_deepestFeed_12 (by decide) (fun c_12 => ?_) (fun c_12 => ?_)
        · refine g_iconst F (-1) dX0_deepestFeed_35 (by decide) ?_
          exact g_iret F hA hQ hr (y_ring, y_speed, y_feed, y_turns, y_teethMany, y_wear, y_x, y_v, y_wave, y_time, y_out, y_farthest, y_begun, y_t, y_h, y_u, y_o, y_x2, y_1, y_2, y_3) (by
      rcases Nat.eq_zero_or_pos j with h0 | hp
      · rw [hd, h0]; rfl
      · exact absurd c_12 (nI_nle hp (by omega))) [0, 1, 2, 3, 4, 5, 6, 7, 8, 9, 10, 11, 12, 13, 14, 15, 16, 17, 18, 19] [0] rfl (by decide) rfl rfl dX0_deepestFeed_36
        · obtain ⟨j2, rfl⟩ : ∃ j2, j = j2 + 1 := ⟨j - 1, by have : j ≠ 0 := (fun h => c_12 (by rw [h]; decide)); omega⟩
          refine g_aload_n F 0 dX0_deepestFeed_15 rfl rfl ?_
          refine g_iload_n F 1 dX0_deepestFeed_16 rfl rfl ?_
          refine g_iload_n F 2 dX0_deepestFeed_17 rfl rfl ?_
          refine g_iload F 4 dX0_deepestFeed_18 rfl ?_
          refine g_callVi (k := 0) (n := 0) (b := xc) (As := [.int a, .int b, .int (nI (j2 + 1))]) (st := []) (wc := [(xc, .inr (0, [.ref xs, .ref xp, .ref xl, .ref ch_s, .ref ch_t, .ref ch_f, .ref ch_p, .int 0])), (xp, .inr (5, [.ref xs, .ref ph, .int 0, .int 0, .ref pl])), (ph, .inl (cI, 96, .inl (fun _ => 1000))), (xl, .inr (4, [.ref xs, .int y_ring, .int y_speed, .int y_feed, .int y_turns, .ref la_t, .int (nI z), .int y_teethMany, .ref la_h, .ref la_u, .ref la_o, .ref la_x, .int y_wear, .int y_x, .int y_v, .int y_wave, .int y_time, .int y_out, .int y_farthest, .int y_begun])), (la_t, .inl (cI, 4, .inl y_t)), (la_h, .inl (cI, 16, .inl y_h)), (la_u, .inl (cI, 16, .inl y_u)), (la_o, .inl (cI, 16, .inl y_o)), (la_x, .inl (cI, 16, .inl y_x2)), (xs, .inr (6, [.ref n, .ref fo, .ref wa, .ref we])), (n, .inl (cI, 36, .inl g_nums)), (fo, .inr (2, [.ref cf, .int 1, .ref sf, .ref wf, .int 0, .int 0, .int 0, .int 0, .int 0])), (cf, .inl (cI, 80, .inl (upd (fun _ => 0) 0 (-1)))), (sf, .inl (cI, 12, .inl y_1)), (wa, .inr (2, [.ref cg, .int 1, .ref sg, .ref wg, .int 0, .int 0, .int 0, .int 0, .int 0])), (cg, .inl (cI, 80, .inl (upd (fun _ => 0) 0 0))), (sg, .inl (cI, 12, .inl y_2)), (we, .inr (2, [.ref ch, .int 1, .ref sh, .ref wh, .int 0, .int 0, .int 0, .int 0, .int 0])), (ch, .inl (cI, 80, .inl (upd (fun _ => 0) 0 0))), (sh, .inl (cI, 12, .inl y_3))]) (wr := []) F [0, 1, 2, 3, 4, 5, 6, 7, 8, 9, 10, 11, 12, 13, 14, 15, 16, 17, 18, 19] [] [0] rfl rfl (by decide) rfl (by decide) (by decide) rfl (fun sz => K_X0_isQuietForAllG l D xc xs xp xl ch_s ch_t ch_f ch_p la_t la_h la_u la_o la_x n fo wa we cf sf wf ch sh wh cg sg wg ph pl cI y_ring y_speed y_feed y_turns y_teethMany y_wear y_x y_v y_wave y_time y_out y_farthest y_begun y_t y_h y_u y_o y_x2 y_1 y_2 y_3 a b (nI (j2 + 1)) z (hz0) (hz6) (hz4) sz) (cwV 3 hts gX0_deepestFeed_X0_isQuietForAll rfl rfl rfl (by decide +kernel) ⟨Nat.le_of_ble_eq_true rfl, Nat.le_of_ble_eq_true rfl⟩) rfl 0 rfl rfl (Nat.le_of_ble_eq_true rfl) ⟨Nat.le_of_ble_eq_true rfl, Nat.le_of_ble_eq_true rfl⟩ dX0_deepestFeed_20 (fun r_1 u_0 hw_2 => ?_)
          obtain ⟨z_ring_3, z_speed_3, z_feed_3, z_turns_3, z_teethMany_3, z_wear_3, z_x_3, z_v_3, z_wave_3, z_time_3, z_out_3, z_farthest_3, z_begun_3, g_t_3, g_h_3, g_u_3, g_o_3, g_x_3, g_1_3, g_2_3, g_3_3⟩ := u_0
          have hw_2 : r_1 = (if (0 ≤ a ∧ a < 3 ∧ 1 ≤ b ∧ b ≤ 9 ∧ 1 ≤ (nI (j2 + 1)) ∧ (nI (j2 + 1)) ≤ 20) ∧ sp_qz z b (nI (j2 + 1)) = true then 1 else 0) := hw_2
          have e_r_1 := hw_2
          show gG p l e (gR 5 0 0 151) s m args below meth c D A 5 Q 0 0 [(xc, .inr (0, [.ref xs, .ref xp, .ref xl, .ref ch_s, .ref ch_t, .ref ch_f, .ref ch_p, .int 0])), (xp, .inr (5, [.ref xs, .ref ph, .int 0, .int 0, .ref pl])), (ph, .inl (cI, 96, .inl (fun _ => 1000))), (xl, .inr (4, [.ref xs, .int z_ring_3, .int z_speed_3, .int z_feed_3, .int z_turns_3, .ref la_t, .int (nI z), .int z_teethMany_3, .ref la_h, .ref la_u, .ref la_o, .ref la_x, .int z_wear_3, .int z_x_3, .int z_v_3, .int z_wave_3, .int z_time_3, .int z_out_3, .int z_farthest_3, .int z_begun_3])), (la_t, .inl (cI, 4, .inl g_t_3)), (la_h, .inl (cI, 16, .inl g_h_3)), (la_u, .inl (cI, 16, .inl g_u_3)), (la_o, .inl (cI, 16, .inl g_o_3)), (la_x, .inl (cI, 16, .inl g_x_3)), (xs, .inr (6, [.ref n, .ref fo, .ref wa, .ref we])), (n, .inl (cI, 36, .inl g_nums)), (fo, .inr (2, [.ref cf, .int 1, .ref sf, .ref wf, .int 0, .int 0, .int 0, .int 0, .int 0])), (cf, .inl (cI, 80, .inl (upd (fun _ => 0) 0 (-1)))), (sf, .inl (cI, 12, .inl g_1_3)), (wa, .inr (2, [.ref cg, .int 1, .ref sg, .ref wg, .int 0, .int 0, .int 0, .int 0, .int 0])), (cg, .inl (cI, 80, .inl (upd (fun _ => 0) 0 0))), (sg, .inl (cI, 12, .inl g_2_3)), (we, .inr (2, [.ref ch, .int 1, .ref sh, .ref wh, .int 0, .int 0, .int 0, .int 0, .int 0])), (ch, .inl (cI, 80, .inl (upd (fun _ => 0) 0 0))), (sh, .inl (cI, 12, .inl g_3_3))] [(cI, .int)] [(0, .ref xc), (1, .int a), (2, .int b), (3, .int fl), (4, .int (nI (j2 + 1)))] 23 [.int r_1]
          refine g_fold (if (0 ≤ a ∧ a < 3 ∧ 1 ≤ b ∧ b ≤ 9 ∧ 1 ≤ (nI (j2 + 1)) ∧ (nI (j2 + 1)) ≤ 20) ∧ sp_qz z b (nI (j2 + 1)) = true then 1 else 0) e_r_1 ?_
          refine g_if_eq F 29 dX0_deepestFeed_23 (by decide) (fun c_23 => ?_) (fun c_23 => ?_)
          · have c_23 := gb_0 c_23
            refine g_iinc F (j := 4) (nI j2) [(4, .int (nI j2)), (0, .ref xc), (1, .int a), (2, .int b), (3, .int fl)] dX0_deepestFeed_29 rfl (pk_m1 j2) (by decide) rfl ?_
            refine g_goto F 4 dX0_deepestFeed_32 (by decide) ?_
            refine g_locals [(0, .ref xc), (1, .int a), (2, .int b), (3, .int fl), (4, .int (nI j2))] [1, 2, 3, 4, 0] rfl ?_
            exact ih_4 j2 z_ring_3 z_speed_3 z_feed_3 z_turns_3 z_teethMany_3 z_wear_3 z_x_3 z_v_3 z_wave_3 z_time_3 z_out_3 z_farthest_3 z_begun_3 g_t_3 g_h_3 g_u_3 g_o_3 g_x_3 g_1_3 g_2_3 g_3_3 (by omega) (by omega) (hd.trans (sp_dp1 c_7 (fun h9 => c_23 ⟨⟨hab.1, hab.2.1, hab.2.2.1, hab.2.2.2, (gi_fd hj0).1, (gi_fd hj0).2⟩, h9⟩)))
          · have c_23 := gb_n0 c_23
            refine g_iload F 4 dX0_deepestFeed_26 rfl ?_
            exact g_iret F hA hQ hr (z_ring_3, z_speed_3, z_feed_3, z_turns_3, z_teethMany_3, z_wear_3, z_x_3, z_v_3, z_wave_3, z_time_3, z_out_3, z_farthest_3, z_begun_3, g_t_3, g_h_3, g_u_3, g_o_3, g_x_3, g_1_3, g_2_3, g_3_3) ((hd.trans (sp_dp2 c_7 c_23.2)).symm) [0, 1, 2, 3, 4, 5, 6, 7, 8, 9, 10, 11, 12, 13, 14, 15, 16, 17, 18, 19] [0] rfl (by decide) rfl rfl dX0_deepestFeed_28
  exact loop_4 (_ + 1) 20 l_ring l_speed l_feed l_turns l_teethMany l_wear l_x l_v l_wave l_time l_out l_farthest l_begun k_t k_h k_u k_o k_x k_1 k_2 k_3 (Nat.lt_succ_self _) (Nat.le_refl _) (rfl)
