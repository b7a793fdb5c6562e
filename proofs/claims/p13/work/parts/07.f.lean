theorem dX2_forget_0 : decode cX2_forget 0 = .ok (.aload_n 0, 1) := by decide +kernel
theorem dX2_forget_1 : decode cX2_forget 1 = .ok (.iconst 0, 1) := by decide +kernel
theorem dX2_forget_2 : decode cX2_forget 2 = .ok (.putfield 40, 3) := by decide +kernel
theorem dX2_forget_5 : decode cX2_forget 5 = .ok (.aload_n 0, 1) := by decide +kernel
theorem dX2_forget_6 : decode cX2_forget 6 = .ok (.iconst 0, 1) := by decide +kernel
theorem dX2_forget_7 : decode cX2_forget 7 = .ok (.putfield 44, 3) := by decide +kernel
theorem dX2_forget_10 : decode cX2_forget 10 = .ok (.aload_n 0, 1) := by decide +kernel
theorem dX2_forget_11 : decode cX2_forget 11 = .ok (.iconst 0, 1) := by decide +kernel
theorem dX2_forget_12 : decode cX2_forget 12 = .ok (.putfield 47, 3) := by decide +kernel
theorem dX2_forget_15 : decode cX2_forget 15 = .ok (.aload_n 0, 1) := by decide +kernel
theorem dX2_forget_16 : decode cX2_forget 16 = .ok (.iconst 0, 1) := by decide +kernel
theorem dX2_forget_17 : decode cX2_forget 17 = .ok (.putfield 50, 3) := by decide +kernel
theorem dX2_forget_20 : decode cX2_forget 20 = .ok (.return_, 1) := by decide +kernel
set_option maxHeartbeats 4000000 in
set_option maxRecDepth 100000 in
theorem S_X2_forget (l : Launch) (D : va_G) (K : Nat → ClassId) (a : Nat → Nat) (G : gS) (hI : xI G) (sz : Nat) : Kv l yX2_forget wsX2_forget 1 40 0 0 D [.ref (a 9)] (xW K a G) (tK K) sz (fun (G' : gS) => (xI G') ∧ (gu_un xcd [905, 907, 909, 910] G G')) (fun (G' : gS) => (xW K a G')) (fun _ => (tK K)) := by
  unfold Kv
  refine g_ofW (cc := cX2_forget) (lv := [(0, .ref (a 9))]) (by decide) rfl (Nat.le_of_ble_eq_true rfl) rfl ?_
  intro p e s m args below meth c A Q hA hQ F hr hnm
  have hts := F.2.2.2.2.1
  have w_0 : (Cond.fieldLink RX2 40 "QuietCut$Ear" "offers" "I").before args s = true := hts _ (List.mem_of_getElem? (i := 1) rfl)
  have i_X2 : ∀ w ∈ u_ws RX2 TX2 10, w ∈ wsX2_forget := fun _ h => List.mem_cons_of_mem _ (List.mem_append_right _ h)
  have w_1 : (Cond.fieldLink RX2 44 "QuietCut$Ear" "heards" "I").before args s = true := hts _ (List.mem_of_getElem? (i := 2) rfl)
  have w_2 : (Cond.fieldLink RX2 47 "QuietCut$Ear" "rights" "I").before args s = true := hts _ (List.mem_of_getElem? (i := 3) rfl)
  have w_3 : (Cond.fieldLink RX2 50 "QuietCut$Ear" "latestStep" "I").before args s = true := hts _ (List.mem_of_getElem? (i := 4) rfl)
  refine g_aload_n F 0 dX2_forget_0 rfl rfl ?_
  refine g_iconst F 0 dX2_forget_1 (by decide) ?_
  refine xp_9_4 F i_X2 w_0 dX2_forget_2 ?_
  refine g_aload_n F 0 dX2_forget_5 rfl rfl ?_
  refine g_iconst F 0 dX2_forget_6 (by decide) ?_
  refine xp_9_6 F i_X2 w_1 dX2_forget_7 ?_
  refine g_aload_n F 0 dX2_forget_10 rfl rfl ?_
  refine g_iconst F 0 dX2_forget_11 (by decide) ?_
  refine xp_9_8 F i_X2 w_2 dX2_forget_12 ?_
  refine g_aload_n F 0 dX2_forget_15 rfl rfl ?_
  refine g_iconst F 0 dX2_forget_16 (by decide) ?_
  refine xp_9_9 F i_X2 w_3 dX2_forget_17 ?_
  exact u_vret F hA hQ hr (gu_up (gu_up (gu_up (gu_up G 9 4 0) 9 6 0) 9 8 0) 9 9 0) (⟨(gu_I.up (j := 9) (k := 9) (v := 0) (gu_I.up (j := 9) (k := 8) (v := 0) (gu_I.up (j := 9) (k := 6) (v := 0) (gu_I.up (j := 9) (k := 4) (v := 0) hI (show (0 : Int) ≤ (0 : Int32).toInt by decide) (show (0 : Int32).toInt ≤ 10 by decide)) (show (0 : Int) ≤ (0 : Int32).toInt by decide) (show (0 : Int32).toInt ≤ 30 by decide)) (show (0 : Int) ≤ (0 : Int32).toInt by decide) (show (0 : Int32).toInt ≤ 20 by decide)) (ti_rng _).1 (ti_rng _).2), (gu_un.up (j := 9) (k := 9) (v := 0) (gu_un.up (j := 9) (k := 8) (v := 0) (gu_un.up (j := 9) (k := 6) (v := 0) (gu_un.up (j := 9) (k := 4) (v := 0) gu_un.rf (show (905 : Nat) ∈ ([905, 907, 909, 910] : List Nat) by decide)) (show (907 : Nat) ∈ ([905, 907, 909, 910] : List Nat) by decide)) (show (909 : Nat) ∈ ([905, 907, 909, 910] : List Nat) by decide)) (show (910 : Nat) ∈ ([905, 907, 909, 910] : List Nat) by decide))⟩) rfl rfl dX2_forget_20

theorem dX2_isInSpans_0 : decode cX2_isInSpans 0 = .ok (.aload_n 0, 1) := by decide +kernel
theorem dX2_isInSpans_1 : decode cX2_isInSpans 1 = .ok (.getfield 26, 3) := by decide +kernel
theorem dX2_isInSpans_4 : decode cX2_isInSpans 4 = .ok (.getfield 53, 3) := by decide +kernel
theorem dX2_isInSpans_7 : decode cX2_isInSpans 7 = .ok (.iconst 3, 1) := by decide +kernel
theorem dX2_isInSpans_8 : decode cX2_isInSpans 8 = .ok (.iaload, 1) := by decide +kernel
theorem dX2_isInSpans_9 : decode cX2_isInSpans 9 = .ok (.iload_n 1, 1) := by decide +kernel
theorem dX2_isInSpans_10 : decode cX2_isInSpans 10 = .ok (.iconst 4, 1) := by decide +kernel
theorem dX2_isInSpans_11 : decode cX2_isInSpans 11 = .ok (.idiv, 1) := by decide +kernel
theorem dX2_isInSpans_12 : decode cX2_isInSpans 12 = .ok (.iadd, 1) := by decide +kernel
theorem dX2_isInSpans_13 : decode cX2_isInSpans 13 = .ok (.aload_n 0, 1) := by decide +kernel
theorem dX2_isInSpans_14 : decode cX2_isInSpans 14 = .ok (.getfield 26, 3) := by decide +kernel
theorem dX2_isInSpans_17 : decode cX2_isInSpans 17 = .ok (.getfield 53, 3) := by decide +kernel
theorem dX2_isInSpans_20 : decode cX2_isInSpans 20 = .ok (.iconst 4, 1) := by decide +kernel
theorem dX2_isInSpans_21 : decode cX2_isInSpans 21 = .ok (.iaload, 1) := by decide +kernel
theorem dX2_isInSpans_22 : decode cX2_isInSpans 22 = .ok (.if_icmp .gt 33, 3) := by decide +kernel
theorem dX2_isInSpans_25 : decode cX2_isInSpans 25 = .ok (.aload_n 0, 1) := by decide +kernel
theorem dX2_isInSpans_26 : decode cX2_isInSpans 26 = .ok (.getfield 26, 3) := by decide +kernel
theorem dX2_isInSpans_29 : decode cX2_isInSpans 29 = .ok (.getfield 53, 3) := by decide +kernel
theorem dX2_isInSpans_32 : decode cX2_isInSpans 32 = .ok (.iconst 5, 1) := by decide +kernel
theorem dX2_isInSpans_33 : decode cX2_isInSpans 33 = .ok (.iaload, 1) := by decide +kernel
theorem dX2_isInSpans_34 : decode cX2_isInSpans 34 = .ok (.iload_n 1, 1) := by decide +kernel
theorem dX2_isInSpans_35 : decode cX2_isInSpans 35 = .ok (.iconst 4, 1) := by decide +kernel
theorem dX2_isInSpans_36 : decode cX2_isInSpans 36 = .ok (.irem, 1) := by decide +kernel
theorem dX2_isInSpans_37 : decode cX2_isInSpans 37 = .ok (.iadd, 1) := by decide +kernel
theorem dX2_isInSpans_38 : decode cX2_isInSpans 38 = .ok (.aload_n 0, 1) := by decide +kernel
theorem dX2_isInSpans_39 : decode cX2_isInSpans 39 = .ok (.getfield 26, 3) := by decide +kernel
theorem dX2_isInSpans_42 : decode cX2_isInSpans 42 = .ok (.getfield 53, 3) := by decide +kernel
theorem dX2_isInSpans_45 : decode cX2_isInSpans 45 = .ok (.bipush 6, 2) := by decide +kernel
theorem dX2_isInSpans_47 : decode cX2_isInSpans 47 = .ok (.iaload, 1) := by decide +kernel
theorem dX2_isInSpans_48 : decode cX2_isInSpans 48 = .ok (.if_icmp .gt 7, 3) := by decide +kernel
theorem dX2_isInSpans_51 : decode cX2_isInSpans 51 = .ok (.iconst 1, 1) := by decide +kernel
theorem dX2_isInSpans_52 : decode cX2_isInSpans 52 = .ok (.goto 4, 3) := by decide +kernel
theorem dX2_isInSpans_55 : decode cX2_isInSpans 55 = .ok (.iconst 0, 1) := by decide +kernel
theorem dX2_isInSpans_56 : decode cX2_isInSpans 56 = .ok (.ireturn, 1) := by decide +kernel
set_option maxHeartbeats 4000000 in
set_option maxRecDepth 100000 in
theorem S_X2_isInSpans (l : Launch) (D : va_G) (K : Nat → ClassId) (a : Nat → Nat) (G : gS) (p0 : Int32) (s0 : Int) (e0 : p0.toInt = s0) (hI : xI G) (sz : Nat) : Ki l yX2_isInSpans wsX2_isInSpans 1 40 0 0 D [.ref (a 9), .int p0] (xW K a G) (tK K) sz (fun (r : Int32) (_ : Unit) => (0 ≤ r.toInt ∧ r.toInt ≤ 1)) (fun (_ : Unit) => (xW K a G)) (fun _ => (tK K)) := by
  unfold Ki
  refine g_ofW (cc := cX2_isInSpans) (lv := [(0, .ref (a 9)), (1, .int p0)]) (by decide) rfl (Nat.le_of_ble_eq_true rfl) rfl ?_
  intro p e s m args below meth c A Q hA hQ F hr hnm
  have hts := F.2.2.2.2.1
  have w_0 : (Cond.fieldLink RX2 26 "QuietCut$Ear" "shop" "LQuietCut$Shop;").before args s = true := hts _ (List.mem_of_getElem? (i := 1) rfl)
  have i_X2 : ∀ w ∈ u_ws RX2 TX2 10, w ∈ wsX2_isInSpans := fun _ h => List.mem_cons_of_mem _ (List.mem_append_left _ (List.mem_append_right _ h))
  have w_1 : (Cond.fieldLink RX2 53 "QuietCut$Shop" "numbers" "[I").before args s = true := hts _ (List.mem_of_getElem? (i := 2) rfl)
  have i_X7 : ∀ w ∈ u_ws RX7 TX7 4, w ∈ wsX2_isInSpans := fun _ h => List.mem_cons_of_mem _ (List.mem_append_right _ h)
  have rg0 : -2147483648 ≤ s0 ∧ s0 ≤ 2147483647 := e0 ▸ ti_rng p0
  refine g_aload_n F 0 dX2_isInSpans_0 rfl rfl ?_
  refine xg_9_0 F i_X2 w_0 dX2_isInSpans_1 ?_
  refine xg_2_0 F i_X7 w_1 dX2_isInSpans_4 ?_
  refine g_iconst F 3 dX2_isInSpans_7 (by decide) ?_
  refine u1_iald F 18 0 xc_18 rfl 3 rfl (by decide) (by decide) dX2_isInSpans_8 (G 18 3) (rfl) ?_
  refine g_iload_n F 1 dX2_isInSpans_9 rfl rfl ?_
  refine g_iconst F 4 dX2_isInSpans_10 (by decide) ?_
  refine u0_idiv F dX2_isInSpans_11 (by decide) (fun y1 => ?_)
  refine u0_iadd F dX2_isInSpans_12 (fun y2 => ?_)
  refine g_aload_n F 0 dX2_isInSpans_13 rfl rfl ?_
  refine xg_9_0 F i_X2 w_0 dX2_isInSpans_14 ?_
  refine xg_2_0 F i_X7 w_1 dX2_isInSpans_17 ?_
  refine g_iconst F 4 dX2_isInSpans_20 (by decide) ?_
  refine u1_iald F 18 0 xc_18 rfl 4 rfl (by decide) (by decide) dX2_isInSpans_21 (G 18 4) (rfl) ?_
  have b3 : (0 : Int) ≤ (G 18 4).toInt ∧ (G 18 4).toInt ≤ 200 := hI 18 4
  have b4 := ti_rng y2
  refine v_icmp_gt F 55 dX2_isInSpans_22 (by decide) y2.toInt (G 18 4).toInt rfl rfl (fun c5 => ?_) (fun c5 => ?_)
  · refine g_iconst F 0 dX2_isInSpans_55 (by decide) ?_
    exact u_zret F hA hQ hr rfl () ((by decide)) rfl rfl dX2_isInSpans_56
  · refine g_aload_n F 0 dX2_isInSpans_25 rfl rfl ?_
    refine xg_9_0 F i_X2 w_0 dX2_isInSpans_26 ?_
    refine xg_2_0 F i_X7 w_1 dX2_isInSpans_29 ?_
    refine g_iconst F 5 dX2_isInSpans_32 (by decide) ?_
    refine u1_iald F 18 0 xc_18 rfl 5 rfl (by decide) (by decide) dX2_isInSpans_33 (G 18 5) (rfl) ?_
    refine g_iload_n F 1 dX2_isInSpans_34 rfl rfl ?_
    refine g_iconst F 4 dX2_isInSpans_35 (by decide) ?_
    refine u0_irem F dX2_isInSpans_36 (by decide) (fun y6 => ?_)
    refine u0_iadd F dX2_isInSpans_37 (fun y7 => ?_)
    refine g_aload_n F 0 dX2_isInSpans_38 rfl rfl ?_
    refine xg_9_0 F i_X2 w_0 dX2_isInSpans_39 ?_
    refine xg_2_0 F i_X7 w_1 dX2_isInSpans_42 ?_
    refine g_bipush F 6 dX2_isInSpans_45 (by decide) ?_
    refine u1_iald F 18 0 xc_18 rfl 6 rfl (by decide) (by decide) dX2_isInSpans_47 (G 18 6) (rfl) ?_
    have b8 : (0 : Int) ≤ (G 18 6).toInt ∧ (G 18 6).toInt ≤ 200 := hI 18 6
    have b9 := ti_rng y7
    refine v_icmp_gt F 55 dX2_isInSpans_48 (by decide) y7.toInt (G 18 6).toInt rfl rfl (fun c10 => ?_) (fun c10 => ?_)
    · refine g_iconst F 0 dX2_isInSpans_55 (by decide) ?_
      exact u_zret F hA hQ hr rfl () ((by decide)) rfl rfl dX2_isInSpans_56
    · refine g_iconst F 1 dX2_isInSpans_51 (by decide) ?_
      refine g_goto F 56 dX2_isInSpans_52 (by decide) ?_
      exact u_zret F hA hQ hr rfl () ((by decide)) rfl rfl dX2_isInSpans_56


set_option maxHeartbeats 4000000 in
set_option maxRecDepth 100000 in
theorem S_X5_least_68 (l : Launch) (D : va_G) (K : Nat → ClassId) (a : Nat → Nat) (G : gS) (p1 : Int32) (s1 : Int) (p2 : Int32) (s2 : Int) (e1 : p1.toInt = s1) (h1 : 0 ≤ s1 ∧ s1 ≤ 80) (e2 : p2.toInt = s2) (h2 : 1 ≤ s2 ∧ s2 ≤ 16) (hI : xI G) (sz : Nat) : Ki l yX5_least wsX5_least 1 40 0 0 D [.ref (a 68), .int p1, .int p2] (xW K a G) (tK K) sz (fun (r : Int32) (_ : Unit) => (1000 ≤ r.toInt ∧ r.toInt ≤ 1000000) ∧ ((0 ≤ s1 ∧ 1 ≤ s2 ∧ s1 + s2 ≤ 96 → r.toInt = psMn (fun q => (G 68) (s1.toNat + q)) (s2 - 1).toNat))) (fun (_ : Unit) => (xW K a G)) (fun _ => (tK K)) := by
  unfold Ki
  refine g_ofW (cc := cX5_least) (lv := [(0, .ref (a 68)), (1, .int p1), (2, .int p2)]) (by decide) rfl (Nat.le_of_ble_eq_true rfl) rfl ?_
  intro p e s m args below meth c A Q hA hQ F hr hnm
  have hts := F.2.2.2.2.1
  have w_0 : (Cond.methodLink RX5 159 Lib.Math.min.name).before args s = true := hts _ (List.mem_of_getElem? (i := 2) rfl)
  have w_1 : (Cond.static Lib.Math.min.name).before args s = true := hts _ (List.mem_of_getElem? (i := 3) rfl)
  have w_2 : (Cond.initialized "java/lang/Math").before args s = true := hts _ (List.mem_of_getElem? (i := 4) rfl)
  have w_3 : (Cond.code Lib.Math.min.name Lib.Math.min.code 2 (some .int)).before args s = true := hts _ (List.mem_of_getElem? (i := 5) rfl)
  have w_4 : (Cond.constant RX5 163 (1000000)).before args s = true := hts _ (List.mem_of_getElem? (i := 1) rfl)
  have J_6 : ∀ (fuel : Nat) (x6_3 : Int32) (x6_4 : Int32), (2147483647 - x6_4.toInt).toNat < fuel → (1000 ≤ x6_3.toInt ∧ x6_3.toInt ≤ 1000000) → (0 ≤ x6_4.toInt ∧ x6_4.toInt ≤ 96) → ((0 ≤ s1 → s1 ≤ x6_4.toInt ∧ ((x6_4.toInt = s1 ∧ x6_3.toInt = 1000000) ∨ (s1 + 1 ≤ x6_4.toInt ∧ x6_3.toInt = psMn (fun q => ((G 68)) (s1.toNat + q)) (x6_4.toInt - 1 - s1).toNat)))) → ((s1 < 0 ∨ s2 < 1 ∨ 96 < s1 + s2 ∨ x6_4.toInt ≤ s1 + s2)) → gG p l e (gR 1 0 0 40) s m args below meth c D A 5 Q 0 0 (xW K a G) (tK K) [(0, .ref (a 68)), (1, .int p1), (2, .int p2), (3, .int x6_3), (4, .int x6_4)] 6 [] := by
    intro fuel
    induction fuel with
    | zero => intro x6_3 x6_4 hm; exact absurd hm (Nat.not_lt_zero _)
    | succ fuel_6 ih_6 =>
      intro x6_3 x6_4 hm_6 h6_3 h6_4 lm ib
      refine g_iload F 4 dX5_least_6 rfl ?_
      refine g_iload_n F 1 dX5_least_8 rfl rfl ?_
      refine g_iload_n F 2 dX5_least_9 rfl rfl ?_
      refine u_iadd F dX5_least_10 s1 s2 e1 e2 (by omega) (by omega) (fun y1 ey1 => ?_)
      refine v_icmp_ge F 41 dX5_least_11 (by decide) x6_4.toInt y1.toInt rfl rfl (fun c2 => ?_) (fun c2 => ?_)
      · refine g_iload_n F 3 dX5_least_41 rfl rfl ?_
        exact u_iret F hA hQ hr () (⟨(by have h9 := ti_rng x6_3; omega), (fun h9 => by rcases (lm h9.1).2 with ⟨g1, g2⟩ | ⟨g1, g2⟩ <;> first | (exfalso; omega) | (rw [g2, show x6_4.toInt - 1 - s1 = s2 - 1 by omega]))⟩) rfl rfl dX5_least_42
      · refine g_iload F 4 dX5_least_14 rfl ?_
        refine v_if_lt F 41 dX5_least_16 (by decide) x6_4.toInt rfl (fun c3 => absurd c3 (by omega)) (fun c3 => ?_)
        refine g_iload F 4 dX5_least_19 rfl ?_
        refine g_aload_n F 0 dX5_least_21 rfl rfl ?_
        refine g_alen F 68 0 xc_68 rfl 96 rfl dX5_least_22 ?_
        refine v_icmp_ge F 41 dX5_least_23 (by decide) x6_4.toInt 96 rfl rfl (fun c4 => absurd c4 (by omega)) (fun c4 => ?_)
        refine g_iload_n F 3 dX5_least_26 rfl rfl ?_
        refine g_aload_n F 0 dX5_least_27 rfl rfl ?_
        refine g_iload F 4 dX5_least_28 rfl ?_
        refine u1_iald F 68 0 xc_68 rfl x6_4.toInt rfl (by omega) (by omega) dX5_least_30 ((G 68) (x6_4.toInt).toNat) (rfl) ?_
        have b5 : (1000 : Int) ≤ ((G 68) (x6_4.toInt).toNat).toInt ∧ ((G 68) (x6_4.toInt).toNat).toInt ≤ 1000 := hI 68 _
        refine u_mmin F w_0 w_1 w_2 w_3 (Nat.le_of_ble_eq_true rfl) (Nat.le_of_ble_eq_true rfl) (Nat.le_of_ble_eq_true rfl) (Nat.le_of_ble_eq_true rfl) dX5_least_31 x6_3.toInt ((G 68) (x6_4.toInt).toNat).toInt rfl rfl (fun y6 ey6 => ?_)
        refine g_istore_n F [(3, .int y6), (0, .ref (a 68)), (1, .int p1), (2, .int p2), (4, .int x6_4)] dX5_least_34 rfl (by decide) rfl ?_
        refine u_iinc F (fun v_ => [(4, .int v_), (3, .int y6), (0, .ref (a 68)), (1, .int p1), (2, .int p2)]) dX5_least_35 (j := 4) rfl x6_4.toInt 1 rfl rfl (by omega) (by omega) (by decide) (fun _ => rfl) (fun y7 ey7 => ?_)
        refine g_goto F 6 dX5_least_38 (by decide) ?_
        refine g_locals [(0, .ref (a 68)), (1, .int p1), (2, .int p2), (3, .int y6), (4, .int y7)] [2, 3, 4, 1, 0] rfl ?_
        exact ih_6 y6 y7 (by omega) (by have h9 := ti_rng y6; omega) (by have h9 := ti_rng y7; omega) (fun h0 => ⟨by have h9 := (lm h0).1; omega, psMn_go (i := x6_4.toInt) (m := x6_3.toInt) h0 (lm h0).1 (by omega) (lm h0).2 (by omega) (by omega)⟩) (by first | omega | (simp only [Int32.reduceToInt, true_and, and_true, ne_eq, not_true_eq_false, false_and, or_false, false_or, true_or, or_true, false_implies] <;> omega))
  refine g_ldc F w_4 dX5_least_0 ?_
  refine g_istore_n F [(3, .int 1000000), (0, .ref (a 68)), (1, .int p1), (2, .int p2)] dX5_least_2 rfl (by decide) rfl ?_
  refine g_iload_n F 2 dX5_least_3 rfl rfl ?_
  refine g_istore F [(4, .int p1), (3, .int 1000000), (0, .ref (a 68)), (1, .int p1), (2, .int p2)] dX5_least_4 (by decide) rfl ?_
  refine g_locals [(0, .ref (a 68)), (1, .int p1), (2, .int p2), (3, .int 1000000), (4, .int p1)] [2, 3, 4, 1, 0] rfl ?_
  exact J_6 _ 1000000 p1 (Nat.lt_succ_self _) (by decide) (by have h9 := ti_rng p1; omega) (fun h0 => ⟨by omega, Or.inl ⟨by omega, by decide⟩⟩) (by first | omega | (simp only [Int32.reduceToInt, true_and, and_true, ne_eq, not_true_eq_false, false_and, or_false, false_or, true_or, or_true, false_implies] <;> omega))


set_option maxHeartbeats 4000000 in
set_option maxRecDepth 100000 in
theorem S_X5_gapIn_68 (l : Launch) (D : va_G) (K : Nat → ClassId) (a : Nat → Nat) (G : gS) (p1 : Int32) (s1 : Int) (e1 : p1.toInt = s1) (h1 : (-9998) ≤ s1 ∧ s1 ≤ 5000) (hrg : (0 ≤ (G 6 1).toInt ∧ (G 6 1).toInt ≤ 5)) (rgn : ((G 6 1).toInt < (G 18 1).toInt)) (hI : xI G) (sz : Nat) : Ki l yX5_gapIn wsX5_gapIn 2 64 0 0 D [.ref (a 6), .ref (a 68), .int p1] (xW K a G) (tK K) sz (fun (r : Int32) (_ : Unit) => ((-9998) ≤ r.toInt ∧ r.toInt ≤ 1000000) ∧ ((r.toInt = psGa (G 68) (G 6 1).toInt (G 18 1).toInt (G 18 0).toInt s1))) (fun (_ : Unit) => (xW K a G)) (fun _ => (tK K)) := by
  unfold Ki
  refine g_ofW (cc := cX5_gapIn) (lv := [(0, .ref (a 6)), (1, .ref (a 68)), (2, .int p1)]) (by decide) rfl (Nat.le_of_ble_eq_true rfl) rfl ?_
  intro p e s m args below meth c A Q hA hQ F hr hnm
  have hts := F.2.2.2.2.1
  have w_0 : (Cond.fieldLink RX5 29 "QuietCut$Lathe" "shop" "LQuietCut$Shop;").before args s = true := hts _ (List.mem_of_getElem? (i := 1) rfl)
  have i_X5 : ∀ w ∈ u_ws RX5 TX5 20, w ∈ wsX5_gapIn := fun _ h => List.mem_cons_of_mem _ (List.mem_append_left _ (List.mem_append_right _ h))
  have w_1 : (Cond.fieldLink RX5 56 "QuietCut$Shop" "numbers" "[I").before args s = true := hts _ (List.mem_of_getElem? (i := 2) rfl)
  have i_X7 : ∀ w ∈ u_ws RX7 TX7 4, w ∈ wsX5_gapIn := fun _ h => List.mem_cons_of_mem _ (List.mem_append_right _ h)
  have w_2 : (Cond.fieldLink RX5 33 "QuietCut$Lathe" "ring" "I").before args s = true := hts _ (List.mem_of_getElem? (i := 3) rfl)
  have w_3 : (Cond.methodLink RX5 159 Lib.Math.min.name).before args s = true := hts _ (List.mem_of_getElem? (i := 4) rfl)
  have w_4 : (Cond.static Lib.Math.min.name).before args s = true := hts _ (List.mem_of_getElem? (i := 5) rfl)
  have w_5 : (Cond.initialized "java/lang/Math").before args s = true := hts _ (List.mem_of_getElem? (i := 6) rfl)
  have w_6 : (Cond.code Lib.Math.min.name Lib.Math.min.code 2 (some .int)).before args s = true := hts _ (List.mem_of_getElem? (i := 7) rfl)
  have b1 : (4 : Int) ≤ (G 18 0).toInt ∧ (G 18 0).toInt ≤ 16 := hI 18 0
  have b2 : (1 : Int) ≤ (G 18 1).toInt ∧ (G 18 1).toInt ≤ 6 := hI 18 1
  refine g_aload_n F 0 dX5_gapIn_0 rfl rfl ?_
  refine xg_6_0 F i_X5 w_0 dX5_gapIn_1 ?_
  refine xg_2_0 F i_X7 w_1 dX5_gapIn_4 ?_
  refine g_iconst F 0 dX5_gapIn_7 (by decide) ?_
  refine u1_iald F 18 0 xc_18 rfl 0 rfl (by decide) (by decide) dX5_gapIn_8 (G 18 0) (rfl) ?_
  refine g_istore_n F [(3, .int (G 18 0)), (0, .ref (a 6)), (1, .ref (a 68)), (2, .int p1)] dX5_gapIn_9 rfl (by decide) rfl ?_
  refine g_aload_n F 1 dX5_gapIn_10 rfl rfl ?_
  refine xg_6_0 F i_X5 w_0 dX5_gapIn_11 ?_
  refine g_aload_n F 1 dX5_gapIn_14 rfl rfl ?_
  refine xg_6_1 F i_X5 w_2 dX5_gapIn_15 (G 6 1) (rfl) ?_
  refine g_iconst F 1 dX5_gapIn_18 (by decide) ?_
  refine u_isub F dX5_gapIn_19 (G 6 1).toInt 1 rfl rfl (by omega) (by omega) (fun y3 ey3 => ?_)
  refine u_callVi (k := 0) (n := 0) (b := a 2) (As := [.int y3]) (st := []) F (fun sz => S_X7_hasRing_2 l D K a G y3 y3.toInt rfl hI sz) (cwV 1 hts gX5_gapIn_X7_hasRing rfl rfl rfl (by decide +kernel) ⟨Nat.le_of_ble_eq_true rfl, Nat.le_of_ble_eq_true rfl⟩) rfl 2 xc_2 rfl (Nat.le_of_ble_eq_true rfl) ⟨Nat.zero_le _, Nat.zero_le _⟩ dX5_gapIn_20 (fun r4 _ hw5 => ?_)
  rcases hw5 with ⟨rfl, q7⟩ | ⟨rfl, q8⟩
  · have q7 : (0 ≤ y3.toInt ∧ y3.toInt < (G 18 1).toInt) := q7
    refine g_istore F [(4, .int 1), (3, .int (G 18 0)), (0, .ref (a 6)), (1, .ref (a 68)), (2, .int p1)] dX5_gapIn_23 (by decide) rfl ?_
    refine g_aload_n F 2 dX5_gapIn_25 rfl rfl ?_
    refine xg_6_0 F i_X5 w_0 dX5_gapIn_26 ?_
    refine g_aload_n F 2 dX5_gapIn_29 rfl rfl ?_
    refine xg_6_1 F i_X5 w_2 dX5_gapIn_30 (G 6 1) (rfl) ?_
    refine g_iconst F 1 dX5_gapIn_33 (by decide) ?_
    refine u_iadd F dX5_gapIn_34 (G 6 1).toInt 1 rfl rfl (by omega) (by omega) (fun y9 ey9 => ?_)
    refine u_callVi (k := 0) (n := 0) (b := a 2) (As := [.int y9]) (st := []) F (fun sz => S_X7_hasRing_2 l D K a G y9 y9.toInt rfl hI sz) (cwV 1 hts gX5_gapIn_X7_hasRing rfl rfl rfl (by decide +kernel) ⟨Nat.le_of_ble_eq_true rfl, Nat.le_of_ble_eq_true rfl⟩) rfl 2 xc_2 rfl (Nat.le_of_ble_eq_true rfl) ⟨Nat.zero_le _, Nat.zero_le _⟩ dX5_gapIn_35 (fun r10 _ hw11 => ?_)
    rcases hw11 with ⟨rfl, q13⟩ | ⟨rfl, q14⟩
    · have q13 : (0 ≤ y9.toInt ∧ y9.toInt < (G 18 1).toInt) := q13
      refine g_istore F [(5, .int 1), (4, .int 1), (3, .int (G 18 0)), (0, .ref (a 6)), (1, .ref (a 68)), (2, .int p1)] dX5_gapIn_38 (by decide) rfl ?_
      refine g_iload F 1 dX5_gapIn_40 rfl ?_
      refine v_if_eq F 63 dX5_gapIn_42 (by decide) 1 rfl (fun c15 => absurd c15 (by decide)) (fun c15 => ?_)
      refine g_aload_n F 4 dX5_gapIn_45 rfl rfl ?_
      refine g_aload_n F 3 dX5_gapIn_46 rfl rfl ?_
      refine xg_6_1 F i_X5 w_2 dX5_gapIn_47 (G 6 1) (rfl) ?_
      refine g_iconst F 1 dX5_gapIn_50 (by decide) ?_
      refine u_isub F dX5_gapIn_51 (G 6 1).toInt 1 rfl rfl (by omega) (by omega) (fun y16 ey16 => ?_)
      refine g_iconst F 0 dX5_gapIn_52 (by decide) ?_
      refine u_call0 (k := 0) (n := 0) (As := [.int y16, .int 0]) (st := [.ref (a 68)]) F (fun sz => S_X6_placeOf_b6_b15 l D y16 y16.toInt 0 0 rfl (by omega) rfl (by decide) sz) (va_cwS 2 hts gX5_gapIn_X6_placeOf rfl rfl rfl (by decide +kernel) ⟨Nat.le_of_ble_eq_true rfl, Nat.le_of_ble_eq_true rfl⟩) rfl (Nat.le_of_ble_eq_true rfl) ⟨Nat.zero_le _, Nat.zero_le _⟩ dX5_gapIn_53 (fun r17 _ hw18 => ?_)
      have rg20 := hw18.1
      have rg21 := hw18.2
      clear hw18
      refine g_iload_n F 2 dX5_gapIn_56 rfl rfl ?_
      refine u_callSi (k := 0) (n := 0) (As := [.ref (a 68), .int r17, .int (G 18 0)]) (st := []) F (fun sz => S_X5_least_68 l D K a G r17 r17.toInt (G 18 0) (G 18 0).toInt rfl (by omega) rfl (by omega) hI sz) (va_cwS 3 hts gX5_gapIn_X5_least rfl rfl rfl (by decide +kernel) ⟨Nat.le_of_ble_eq_true rfl, Nat.le_of_ble_eq_true rfl⟩) rfl (Nat.le_of_ble_eq_true rfl) ⟨Nat.zero_le _, Nat.zero_le _⟩ dX5_gapIn_57 (fun r22 _ hw23 => ?_)
      have q25 : (0 ≤ r17.toInt ∧ 1 ≤ (G 18 0).toInt ∧ r17.toInt + (G 18 0).toInt ≤ 96 → r22.toInt = psMn (fun q => (G 68) (r17.toInt.toNat + q)) ((G 18 0).toInt - 1).toNat) := hw23.2
      have rg26 := hw23.1
      clear hw23
      refine g_goto F 64 dX5_gapIn_60 (by decide) ?_
      refine g_istore F [(6, .int r22), (5, .int 1), (4, .int 1), (3, .int (G 18 0)), (0, .ref (a 6)), (1, .ref (a 68)), (2, .int p1)] dX5_gapIn_64 (by decide) rfl ?_
      refine g_iload F 1 dX5_gapIn_66 rfl ?_
      refine v_if_eq F 89 dX5_gapIn_68 (by decide) 1 rfl (fun c27 => absurd c27 (by decide)) (fun c27 => ?_)
      refine g_aload_n F 5 dX5_gapIn_71 rfl rfl ?_
      refine g_aload_n F 4 dX5_gapIn_72 rfl rfl ?_
      refine xg_6_1 F i_X5 w_2 dX5_gapIn_73 (G 6 1) (rfl) ?_
      refine g_iconst F 1 dX5_gapIn_76 (by decide) ?_
      refine u_iadd F dX5_gapIn_77 (G 6 1).toInt 1 rfl rfl (by omega) (by omega) (fun y28 ey28 => ?_)
      refine g_iconst F 0 dX5_gapIn_78 (by decide) ?_
      refine u_call0 (k := 0) (n := 0) (As := [.int y28, .int 0]) (st := [.ref (a 68)]) F (fun sz => S_X6_placeOf_b6_b15 l D y28 y28.toInt 0 0 rfl (by omega) rfl (by decide) sz) (va_cwS 2 hts gX5_gapIn_X6_placeOf rfl rfl rfl (by decide +kernel) ⟨Nat.le_of_ble_eq_true rfl, Nat.le_of_ble_eq_true rfl⟩) rfl (Nat.le_of_ble_eq_true rfl) ⟨Nat.zero_le _, Nat.zero_le _⟩ dX5_gapIn_79 (fun r29 _ hw30 => ?_)
      have rg32 := hw30.1
      have rg33 := hw30.2
      clear hw30
      refine g_iload_n F 3 dX5_gapIn_82 rfl rfl ?_
      refine u_callSi (k := 0) (n := 0) (As := [.ref (a 68), .int r29, .int (G 18 0)]) (st := []) F (fun sz => S_X5_least_68 l D K a G r29 r29.toInt (G 18 0) (G 18 0).toInt rfl (by omega) rfl (by omega) hI sz) (va_cwS 3 hts gX5_gapIn_X5_least rfl rfl rfl (by decide +kernel) ⟨Nat.le_of_ble_eq_true rfl, Nat.le_of_ble_eq_true rfl⟩) rfl (Nat.le_of_ble_eq_true rfl) ⟨Nat.zero_le _, Nat.zero_le _⟩ dX5_gapIn_83 (fun r34 _ hw35 => ?_)
      have q37 : (0 ≤ r29.toInt ∧ 1 ≤ (G 18 0).toInt ∧ r29.toInt + (G 18 0).toInt ≤ 96 → r34.toInt = psMn (fun q => (G 68) (r29.toInt.toNat + q)) ((G 18 0).toInt - 1).toNat) := hw35.2
      have rg38 := hw35.1
      clear hw35
      refine g_goto F 90 dX5_gapIn_86 (by decide) ?_
      refine g_istore F [(7, .int r34), (6, .int r22), (5, .int 1), (4, .int 1), (3, .int (G 18 0)), (0, .ref (a 6)), (1, .ref (a 68)), (2, .int p1)] dX5_gapIn_90 (by decide) rfl ?_
      refine g_iload F 3 dX5_gapIn_92 rfl ?_
      refine v_if_eq F 110 dX5_gapIn_94 (by decide) 1 rfl (fun c39 => absurd c39 (by decide)) (fun c39 => ?_)
      refine g_iload F 2 dX5_gapIn_97 rfl ?_
      refine v_if_eq F 110 dX5_gapIn_99 (by decide) 1 rfl (fun c40 => absurd c40 (by decide)) (fun c40 => ?_)
      refine g_iload F 1 dX5_gapIn_102 rfl ?_
      refine g_iload F 0 dX5_gapIn_104 rfl ?_
      refine u_mmin F w_3 w_4 w_5 w_6 (Nat.le_of_ble_eq_true rfl) (Nat.le_of_ble_eq_true rfl) (Nat.le_of_ble_eq_true rfl) (Nat.le_of_ble_eq_true rfl) dX5_gapIn_106 r22.toInt r34.toInt rfl rfl (fun y41 ey41 => ?_)
      exact u_iret F hA hQ hr () (⟨(by have h9 := ti_rng y41; omega), (by have h1 := q25 ⟨by omega, by omega, by omega⟩; rw [show r17.toInt = 16 * ((G 6 1).toInt - 1) by omega] at h1; have h2 := q37 ⟨by omega, by omega, by omega⟩; rw [show r29.toInt = 16 * ((G 6 1).toInt + 1) by omega] at h2; unfold psGa; rw [if_pos (by omega), if_pos (by omega), ← h1, ← h2]; omega)⟩) rfl rfl dX5_gapIn_109
    · have q14 : (y9.toInt < 0 ∨ (G 18 1).toInt ≤ y9.toInt) := q14
      refine g_istore F [(5, .int 0), (4, .int 1), (3, .int (G 18 0)), (0, .ref (a 6)), (1, .ref (a 68)), (2, .int p1)] dX5_gapIn_38 (by decide) rfl ?_
      refine g_iload F 1 dX5_gapIn_40 rfl ?_
      refine v_if_eq F 63 dX5_gapIn_42 (by decide) 1 rfl (fun c42 => absurd c42 (by decide)) (fun c42 => ?_)
      refine g_aload_n F 4 dX5_gapIn_45 rfl rfl ?_
      refine g_aload_n F 3 dX5_gapIn_46 rfl rfl ?_
      refine xg_6_1 F i_X5 w_2 dX5_gapIn_47 (G 6 1) (rfl) ?_
      refine g_iconst F 1 dX5_gapIn_50 (by decide) ?_
      refine u_isub F dX5_gapIn_51 (G 6 1).toInt 1 rfl rfl (by omega) (by omega) (fun y43 ey43 => ?_)
      refine g_iconst F 0 dX5_gapIn_52 (by decide) ?_
      refine u_call0 (k := 0) (n := 0) (As := [.int y43, .int 0]) (st := [.ref (a 68)]) F (fun sz => S_X6_placeOf_b6_b15 l D y43 y43.toInt 0 0 rfl (by omega) rfl (by decide) sz) (va_cwS 2 hts gX5_gapIn_X6_placeOf rfl rfl rfl (by decide +kernel) ⟨Nat.le_of_ble_eq_true rfl, Nat.le_of_ble_eq_true rfl⟩) rfl (Nat.le_of_ble_eq_true rfl) ⟨Nat.zero_le _, Nat.zero_le _⟩ dX5_gapIn_53 (fun r44 _ hw45 => ?_)
      have rg47 := hw45.1
      have rg48 := hw45.2
      clear hw45
      refine g_iload_n F 2 dX5_gapIn_56 rfl rfl ?_
      refine u_callSi (k := 0) (n := 0) (As := [.ref (a 68), .int r44, .int (G 18 0)]) (st := []) F (fun sz => S_X5_least_68 l D K a G r44 r44.toInt (G 18 0) (G 18 0).toInt rfl (by omega) rfl (by omega) hI sz) (va_cwS 3 hts gX5_gapIn_X5_least rfl rfl rfl (by decide +kernel) ⟨Nat.le_of_ble_eq_true rfl, Nat.le_of_ble_eq_true rfl⟩) rfl (Nat.le_of_ble_eq_true rfl) ⟨Nat.zero_le _, Nat.zero_le _⟩ dX5_gapIn_57 (fun r49 _ hw50 => ?_)
      have q52 : (0 ≤ r44.toInt ∧ 1 ≤ (G 18 0).toInt ∧ r44.toInt + (G 18 0).toInt ≤ 96 → r49.toInt = psMn (fun q => (G 68) (r44.toInt.toNat + q)) ((G 18 0).toInt - 1).toNat) := hw50.2
      have rg53 := hw50.1
      clear hw50
      refine g_goto F 64 dX5_gapIn_60 (by decide) ?_
      refine g_istore F [(6, .int r49), (5, .int 0), (4, .int 1), (3, .int (G 18 0)), (0, .ref (a 6)), (1, .ref (a 68)), (2, .int p1)] dX5_gapIn_64 (by decide) rfl ?_
      refine g_iload F 1 dX5_gapIn_66 rfl ?_
      refine v_if_eq F 89 dX5_gapIn_68 (by decide) 0 rfl (fun c54 => ?_) (fun c54 => absurd c54 (by decide))
      refine g_iload_n F 6 dX5_gapIn_89 rfl rfl ?_
      refine g_istore F [(7, .int p1), (6, .int r49), (5, .int 0), (4, .int 1), (3, .int (G 18 0)), (0, .ref (a 6)), (1, .ref (a 68)), (2, .int p1)] dX5_gapIn_90 (by decide) rfl ?_
      refine g_iload F 3 dX5_gapIn_92 rfl ?_
      refine v_if_eq F 110 dX5_gapIn_94 (by decide) 1 rfl (fun c55 => absurd c55 (by decide)) (fun c55 => ?_)
      refine g_iload F 2 dX5_gapIn_97 rfl ?_
      refine v_if_eq F 110 dX5_gapIn_99 (by decide) 0 rfl (fun c56 => ?_) (fun c56 => absurd c56 (by decide))
      refine g_iload F 3 dX5_gapIn_110 rfl ?_
      refine v_if_eq F 120 dX5_gapIn_112 (by decide) 1 rfl (fun c57 => absurd c57 (by decide)) (fun c57 => ?_)
      refine g_iload F 1 dX5_gapIn_115 rfl ?_
      refine g_goto F 122 dX5_gapIn_117 (by decide) ?_
      exact u_iret F hA hQ hr () (⟨(by have h9 := ti_rng r49; omega), (by first | (have h1 := q52 ⟨by omega, by omega, by omega⟩; rw [show r44.toInt = 16 * ((G 6 1).toInt - 1) by omega] at h1; unfold psGa; rw [if_pos (by omega), if_neg (by omega), ← h1]; done) | (have h1 := q52 ⟨by omega, by omega, by omega⟩; rw [show r44.toInt = 16 * ((G 6 1).toInt + 1) by omega] at h1; unfold psGa; rw [if_neg (by omega), if_pos (by omega), ← h1]; done))⟩) rfl rfl dX5_gapIn_122
  · have q8 : (y3.toInt < 0 ∨ (G 18 1).toInt ≤ y3.toInt) := q8
    refine g_istore F [(4, .int 0), (3, .int (G 18 0)), (0, .ref (a 6)), (1, .ref (a 68)), (2, .int p1)] dX5_gapIn_23 (by decide) rfl ?_
    refine g_aload_n F 2 dX5_gapIn_25 rfl rfl ?_
    refine xg_6_0 F i_X5 w_0 dX5_gapIn_26 ?_
    refine g_aload_n F 2 dX5_gapIn_29 rfl rfl ?_
    refine xg_6_1 F i_X5 w_2 dX5_gapIn_30 (G 6 1) (rfl) ?_
    refine g_iconst F 1 dX5_gapIn_33 (by decide) ?_
    refine u_iadd F dX5_gapIn_34 (G 6 1).toInt 1 rfl rfl (by omega) (by omega) (fun y58 ey58 => ?_)
    refine u_callVi (k := 0) (n := 0) (b := a 2) (As := [.int y58]) (st := []) F (fun sz => S_X7_hasRing_2 l D K a G y58 y58.toInt rfl hI sz) (cwV 1 hts gX5_gapIn_X7_hasRing rfl rfl rfl (by decide +kernel) ⟨Nat.le_of_ble_eq_true rfl, Nat.le_of_ble_eq_true rfl⟩) rfl 2 xc_2 rfl (Nat.le_of_ble_eq_true rfl) ⟨Nat.zero_le _, Nat.zero_le _⟩ dX5_gapIn_35 (fun r59 _ hw60 => ?_)
    rcases hw60 with ⟨rfl, q62⟩ | ⟨rfl, q63⟩
    · have q62 : (0 ≤ y58.toInt ∧ y58.toInt < (G 18 1).toInt) := q62
      refine g_istore F [(5, .int 1), (4, .int 0), (3, .int (G 18 0)), (0, .ref (a 6)), (1, .ref (a 68)), (2, .int p1)] dX5_gapIn_38 (by decide) rfl ?_
      refine g_iload F 1 dX5_gapIn_40 rfl ?_
      refine v_if_eq F 63 dX5_gapIn_42 (by decide) 0 rfl (fun c64 => ?_) (fun c64 => absurd c64 (by decide))
      refine g_iload_n F 5 dX5_gapIn_63 rfl rfl ?_
      refine g_istore F [(6, .int p1), (5, .int 1), (4, .int 0), (3, .int (G 18 0)), (0, .ref (a 6)), (1, .ref (a 68)), (2, .int p1)] dX5_gapIn_64 (by decide) rfl ?_
      refine g_iload F 1 dX5_gapIn_66 rfl ?_
      refine v_if_eq F 89 dX5_gapIn_68 (by decide) 1 rfl (fun c65 => absurd c65 (by decide)) (fun c65 => ?_)
      refine g_aload_n F 5 dX5_gapIn_71 rfl rfl ?_
      refine g_aload_n F 4 dX5_gapIn_72 rfl rfl ?_
      refine xg_6_1 F i_X5 w_2 dX5_gapIn_73 (G 6 1) (rfl) ?_
      refine g_iconst F 1 dX5_gapIn_76 (by decide) ?_
      refine u_iadd F dX5_gapIn_77 (G 6 1).toInt 1 rfl rfl (by omega) (by omega) (fun y66 ey66 => ?_)
      refine g_iconst F 0 dX5_gapIn_78 (by decide) ?_
      refine u_call0 (k := 0) (n := 0) (As := [.int y66, .int 0]) (st := [.ref (a 68)]) F (fun sz => S_X6_placeOf_b6_b15 l D y66 y66.toInt 0 0 rfl (by omega) rfl (by decide) sz) (va_cwS 2 hts gX5_gapIn_X6_placeOf rfl rfl rfl (by decide +kernel) ⟨Nat.le_of_ble_eq_true rfl, Nat.le_of_ble_eq_true rfl⟩) rfl (Nat.le_of_ble_eq_true rfl) ⟨Nat.zero_le _, Nat.zero_le _⟩ dX5_gapIn_79 (fun r67 _ hw68 => ?_)
      have rg70 := hw68.1
      have rg71 := hw68.2
      clear hw68
      refine g_iload_n F 3 dX5_gapIn_82 rfl rfl ?_
      refine u_callSi (k := 0) (n := 0) (As := [.ref (a 68), .int r67, .int (G 18 0)]) (st := []) F (fun sz => S_X5_least_68 l D K a G r67 r67.toInt (G 18 0) (G 18 0).toInt rfl (by omega) rfl (by omega) hI sz) (va_cwS 3 hts gX5_gapIn_X5_least rfl rfl rfl (by decide +kernel) ⟨Nat.le_of_ble_eq_true rfl, Nat.le_of_ble_eq_true rfl⟩) rfl (Nat.le_of_ble_eq_true rfl) ⟨Nat.zero_le _, Nat.zero_le _⟩ dX5_gapIn_83 (fun r72 _ hw73 => ?_)
      have q75 : (0 ≤ r67.toInt ∧ 1 ≤ (G 18 0).toInt ∧ r67.toInt + (G 18 0).toInt ≤ 96 → r72.toInt = psMn (fun q => (G 68) (r67.toInt.toNat + q)) ((G 18 0).toInt - 1).toNat) := hw73.2
      have rg76 := hw73.1
      clear hw73
      refine g_goto F 90 dX5_gapIn_86 (by decide) ?_
      refine g_istore F [(7, .int r72), (6, .int p1), (5, .int 1), (4, .int 0), (3, .int (G 18 0)), (0, .ref (a 6)), (1, .ref (a 68)), (2, .int p1)] dX5_gapIn_90 (by decide) rfl ?_
      refine g_iload F 3 dX5_gapIn_92 rfl ?_
      refine v_if_eq F 110 dX5_gapIn_94 (by decide) 0 rfl (fun c77 => ?_) (fun c77 => absurd c77 (by decide))
      refine g_iload F 3 dX5_gapIn_110 rfl ?_
      refine v_if_eq F 120 dX5_gapIn_112 (by decide) 0 rfl (fun c78 => ?_) (fun c78 => absurd c78 (by decide))
      refine g_iload F 0 dX5_gapIn_120 rfl ?_
      exact u_iret F hA hQ hr () (⟨(by have h9 := ti_rng r72; omega), (by first | (have h1 := q75 ⟨by omega, by omega, by omega⟩; rw [show r67.toInt = 16 * ((G 6 1).toInt - 1) by omega] at h1; unfold psGa; rw [if_pos (by omega), if_neg (by omega), ← h1]; done) | (have h1 := q75 ⟨by omega, by omega, by omega⟩; rw [show r67.toInt = 16 * ((G 6 1).toInt + 1) by omega] at h1; unfold psGa; rw [if_neg (by omega), if_pos (by omega), ← h1]; done))⟩) rfl rfl dX5_gapIn_122
    · have q63 : (y58.toInt < 0 ∨ (G 18 1).toInt ≤ y58.toInt) := q63
      refine g_istore F [(5, .int 0), (4, .int 0), (3, .int (G 18 0)), (0, .ref (a 6)), (1, .ref (a 68)), (2, .int p1)] dX5_gapIn_38 (by decide) rfl ?_
      refine g_iload F 1 dX5_gapIn_40 rfl ?_
      refine v_if_eq F 63 dX5_gapIn_42 (by decide) 0 rfl (fun c79 => ?_) (fun c79 => absurd c79 (by decide))
      refine g_iload_n F 5 dX5_gapIn_63 rfl rfl ?_
      refine g_istore F [(6, .int p1), (5, .int 0), (4, .int 0), (3, .int (G 18 0)), (0, .ref (a 6)), (1, .ref (a 68)), (2, .int p1)] dX5_gapIn_64 (by decide) rfl ?_
      refine g_iload F 1 dX5_gapIn_66 rfl ?_
      refine v_if_eq F 89 dX5_gapIn_68 (by decide) 0 rfl (fun c80 => ?_) (fun c80 => absurd c80 (by decide))
      refine g_iload_n F 6 dX5_gapIn_89 rfl rfl ?_
      refine g_istore F [(7, .int p1), (6, .int p1), (5, .int 0), (4, .int 0), (3, .int (G 18 0)), (0, .ref (a 6)), (1, .ref (a 68)), (2, .int p1)] dX5_gapIn_90 (by decide) rfl ?_
      refine g_iload F 3 dX5_gapIn_92 rfl ?_
      refine v_if_eq F 110 dX5_gapIn_94 (by decide) 0 rfl (fun c81 => ?_) (fun c81 => absurd c81 (by decide))
      refine g_iload F 3 dX5_gapIn_110 rfl ?_
      refine v_if_eq F 120 dX5_gapIn_112 (by decide) 0 rfl (fun c82 => ?_) (fun c82 => absurd c82 (by decide))
      refine g_iload F 0 dX5_gapIn_120 rfl ?_
      exact u_iret F hA hQ hr () (⟨(by have h9 := ti_rng p1; omega), (by unfold psGa; rw [if_neg (by omega), if_neg (by omega)]; exact e1)⟩) rfl rfl dX5_gapIn_122


set_option maxHeartbeats 4000000 in
set_option maxRecDepth 100000 in
theorem S_X5_run_68 (l : Launch) (D : va_G) (K : Nat → ClassId) (a : Nat → Nat) (G : gS) (p1 : Int32) (s1 : Int) (p2 : Int32) (s2 : Int) (p3 : Int32) (s3 : Int) (e1 : p1.toInt = s1) (h1 : 0 ≤ s1 ∧ s1 ≤ 30000) (e2 : p2.toInt = s2) (h2 : 0 ≤ s2 ∧ s2 ≤ 300) (e3 : p3.toInt = s3) (h3 : 0 ≤ s3 ∧ s3 ≤ 300) (fr : (0 ≤ (G 6 1).toInt ∧ (G 6 1).toInt < (G 18 1).toInt ∧ 1 ≤ (G 6 2).toInt ∧ (G 6 2).toInt ≤ 9 ∧ 1 ≤ (G 6 3).toInt ∧ (G 6 3).toInt ≤ 20 ∧ 1 ≤ (G 6 4).toInt ∧ (G 6 4).toInt ≤ 12)) (hI : xI G) (sz : Nat) : Ki l yX5_run wsX5_run 4 115 0 0 D [.ref (a 6), .ref (a 68), .int p1, .int p2, .int p3] (xW K a G) (tK K) sz (fun (r : Int32) (G' : gS) => (xI G') ∧ (gu_un xcd [608, 613, 614, 615, 616, 617, 618, 619, 620, 2100, 2400, 2700, 4400, 4500, 4600, 4700, 4800] G G') ∧ ((-4) ≤ r.toInt ∧ r.toInt ≤ 2) ∧ ((r.toInt = -4 ∨ (0 ≤ r.toInt ∧ r.toInt ≤ 2))) ∧ (((xTok G ∧ r.toInt ≠ -4) → xOut G (G 68) p1 p2 p3 G' r.toInt)) ∧ (((r.toInt = -4 ∧ psMx (psHr (G 68) (G 6 1).toInt (G 18 0).toInt) ((G 18 0).toInt - 1).toNat - (G 6 3).toInt * (G 6 4).toInt < 1) ∨ (r.toInt ≠ -4 ∧ 1 ≤ psMx (psHr (G 68) (G 6 1).toInt (G 18 0).toInt) ((G 18 0).toInt - 1).toNat - (G 6 3).toInt * (G 6 4).toInt)))) (fun (G' : gS) => (xW K a G')) (fun _ => (tK K)) := by
  unfold Ki
  refine g_ofW (cc := cX5_run) (lv := [(0, .ref (a 6)), (1, .ref (a 68)), (2, .int p1), (3, .int p2), (4, .int p3)]) (by decide) rfl (Nat.le_of_ble_eq_true rfl) rfl ?_
  intro p e s m args below meth c A Q hA hQ F hr hnm
  have hts := F.2.2.2.2.1
  have w_0 : (Cond.fieldLink RX5 40 "QuietCut$Lathe" "feed" "I").before args s = true := hts _ (List.mem_of_getElem? (i := 9) rfl)
  have i_X5 : ∀ w ∈ u_ws RX5 TX5 20, w ∈ wsX5_run := fun _ h => List.mem_cons_of_mem _ (List.mem_append_left _ (List.mem_append_left _ (List.mem_append_right _ h)))
  have w_1 : (Cond.fieldLink RX5 29 "QuietCut$Lathe" "shop" "LQuietCut$Shop;").before args s = true := hts _ (List.mem_of_getElem? (i := 1) rfl)
  have w_2 : (Cond.fieldLink RX5 90 "QuietCut$Shop" "wall" "LQuietCut$Formula;").before args s = true := hts _ (List.mem_of_getElem? (i := 12) rfl)
  have i_X7 : ∀ w ∈ u_ws RX7 TX7 4, w ∈ wsX5_run := fun _ h => List.mem_cons_of_mem _ (List.mem_append_left _ (List.mem_append_right _ h))
  have w_3 : (Cond.fieldLink RX5 17 "QuietCut$Lathe" "heights" "[I").before args s = true := hts _ (List.mem_of_getElem? (i := 4) rfl)
  have w_4 : (Cond.fieldLink RX5 37 "QuietCut$Lathe" "speed" "I").before args s = true := hts _ (List.mem_of_getElem? (i := 13) rfl)
  have w_5 : (Cond.fieldLink RX5 43 "QuietCut$Lathe" "turns" "I").before args s = true := hts _ (List.mem_of_getElem? (i := 10) rfl)
  have w_6 : (Cond.fieldLink RX5 116 "QuietCut$Lathe" "wave" "I").before args s = true := hts _ (List.mem_of_getElem? (i := 14) rfl)
  have w_7 : (Cond.fieldLink RX5 56 "QuietCut$Shop" "numbers" "[I").before args s = true := hts _ (List.mem_of_getElem? (i := 2) rfl)
  have w_8 : (Cond.fieldLink RX5 83 "QuietCut$Lathe" "begun" "I").before args s = true := hts _ (List.mem_of_getElem? (i := 11) rfl)
  have w_9 : (Cond.fieldLink RX5 33 "QuietCut$Lathe" "ring" "I").before args s = true := hts _ (List.mem_of_getElem? (i := 3) rfl)
  have w_10 : (Cond.methodLink RX5 65 arraycopyName).before args s = true := hts _ (List.mem_of_getElem? (i := 5) rfl)
  have w_11 : (Cond.native arraycopyName).before args s = true := hts _ (List.mem_of_getElem? (i := 6) rfl)
  have w_12 : (Cond.static arraycopyName).before args s = true := hts _ (List.mem_of_getElem? (i := 7) rfl)
  have w_13 : (Cond.initialized "java/lang/System").before args s = true := hts _ (List.mem_of_getElem? (i := 8) rfl)
  have b1 : (4 : Int) ≤ (G 18 0).toInt ∧ (G 18 0).toInt ≤ 16 := hI 18 0
  have b2 : (1 : Int) ≤ (G 18 1).toInt ∧ (G 18 1).toInt ≤ 6 := hI 18 1
  have b3 : (0 : Int) ≤ (G 18 8).toInt ∧ (G 18 8).toInt ≤ 9999 := hI 18 8
  have b4 : (1 : Int) ≤ (G 18 10).toInt ∧ (G 18 10).toInt ≤ 4 := hI 18 10
  have b5 : (1 : Int) ≤ (G 18 11).toInt ∧ (G 18 11).toInt ≤ 6 := hI 18 11
  have J_121 : ∀ (fuel : Nat) (x121_6 : Int32) (x121_7 : Int32) (x121_8 : Int32) (x121_9 : Int32) (x121_10 : Int32) (Gj121 : gS), (2147483647 - x121_10.toInt).toNat < fuel → ((-1000000) ≤ x121_6.toInt ∧ x121_6.toInt ≤ 5000) → ((-9998) ≤ x121_7.toInt ∧ x121_7.toInt ≤ 1000000) → (0 ≤ x121_8.toInt ∧ x121_8.toInt ≤ 1) → (0 ≤ x121_9.toInt ∧ x121_9.toInt ≤ 5) → (0 ≤ x121_10.toInt ∧ x121_10.toInt ≤ 12) → (xI Gj121) → (gu_un xcd [608, 613, 614, 615, 617, 618, 619, 620, 2100, 2400, 2700, 4400, 4500, 4600, 4700, 4800] G Gj121) → (∃ n9 : Nat, (n9 : Int) ≤ x121_10.toInt * (G 18 0).toInt ∧ (x121_8.toInt = 0 → (n9 : Int) = x121_10.toInt * (G 18 0).toInt ∧ x121_9.toInt = (n9 : Int) % (G 18 11).toInt) ∧ (xTok G → xRl G (G 68) p1 x121_6 x121_7 p2 p3 Gj121 n9 x121_8.toInt ∧ xBg G (G 68) p1 x121_6 x121_7 p2 p3 Gj121 n9)) → (x121_6.toInt = psMx (psHr (G 68) (G 6 1).toInt (G 18 0).toInt) ((G 18 0).toInt - 1).toNat ∧ x121_7.toInt = psGa (G 68) (G 6 1).toInt (G 18 1).toInt (G 18 0).toInt x121_6.toInt) → (xMt G Gj121) → ((x121_8.toInt ≠ 0 ∨ (-9999 ≤ (Gj121 6 13).toInt ∧ (Gj121 6 13).toInt ≤ 9999 ∧ -19998 ≤ (Gj121 6 14).toInt ∧ (Gj121 6 14).toInt ≤ 19998))) → (((Gj121 6 19).toInt = x121_10.toInt)) → ((x121_10.toInt ≤ (G 6 4).toInt)) → ((x121_6.toInt - (G 6 3).toInt * (G 6 4).toInt ≥ 1)) → gG p l e (gR 4 0 0 115) s m args below meth c D A 14 Q 0 0 (xW K a Gj121) (tK K) [(0, .ref (a 6)), (3, .int p2), (4, .int p3), (5, .int (G 18 0)), (6, .int x121_6), (7, .int x121_7), (8, .int x121_8), (9, .int x121_9), (10, .int x121_10)] 121 [] := by
    intro fuel
    induction fuel with
    | zero => intro x121_6 x121_7 x121_8 x121_9 x121_10 Gj121 hm; exact absurd hm (Nat.not_lt_zero _)
    | succ fuel_121 ih_121 =>
      intro x121_6 x121_7 x121_8 x121_9 x121_10 Gj121 hm_121 h121_6 h121_7 h121_8 h121_9 h121_10 jI121 jU121 r1 lv mt_121 xb1 bg1 tl1 lc1
      have J_148 : ∀ (fuel : Nat) (x148_8 : Int32) (x148_9 : Int32) (x148_11 : Int32) (Gj148 : gS), (2147483647 - x148_11.toInt).toNat < fuel → (0 ≤ x148_8.toInt ∧ x148_8.toInt ≤ 1) → (0 ≤ x148_9.toInt ∧ x148_9.toInt ≤ 5) → (0 ≤ x121_10.toInt ∧ x121_10.toInt ≤ 11) → (0 ≤ x148_11.toInt ∧ x148_11.toInt ≤ 16) → (xI Gj148) → (gu_un xcd [613, 614, 615, 617, 618, 619, 620, 2100, 2400, 2700, 4500, 4600, 4700, 4800] Gj121 Gj148) → ((xTok G → xRl G (G 68) p1 x121_6 x121_7 p2 p3 Gj148 (x121_10.toInt * (G 18 0).toInt + x148_11.toInt).toNat x148_8.toInt ∧ (0 < x148_11.toInt → xBg G (G 68) p1 x121_6 x121_7 p2 p3 Gj148 (x121_10.toInt * (G 18 0).toInt + x148_11.toInt).toNat))) → (x148_9.toInt = (x121_10.toInt * (G 18 0).toInt + x148_11.toInt) % (G 18 11).toInt) → (xMt G Gj148) → ((x148_8.toInt ≠ 0 ∨ (-9999 ≤ (Gj148 6 13).toInt ∧ (Gj148 6 13).toInt ≤ 9999 ∧ -19998 ≤ (Gj148 6 14).toInt ∧ (Gj148 6 14).toInt ≤ 19998))) → (((Gj148 6 19).toInt = x121_10.toInt + 1)) → ((x121_10.toInt + 1 ≤ (G 6 4).toInt)) → ((x148_8.toInt = 0 ∨ 0 < x148_11.toInt)) → ((x148_11.toInt ≤ (G 18 0).toInt)) → gG p l e (gR 4 0 0 115) s m args below meth c D A 14 Q 0 0 (xW K a Gj148) (tK K) [(0, .ref (a 6)), (3, .int p2), (4, .int p3), (5, .int (G 18 0)), (6, .int x121_6), (7, .int x121_7), (8, .int x148_8), (9, .int x148_9), (10, .int x121_10), (11, .int x148_11)] 148 [] := by
        intro fuel
        induction fuel with
        | zero => intro x148_8 x148_9 x148_11 Gj148 hm; exact absurd hm (Nat.not_lt_zero _)
        | succ fuel_148 ih_148 =>
          intro x148_8 x148_9 x148_11 Gj148 hm_148 h148_8 h148_9 k148_10 h148_11 jI148 jU148 r2 r3 mt xb2 bg2 tl2 sh2 il2
          refine g_iload F 9 dX5_run_148 rfl ?_
          refine g_iload F 3 dX5_run_150 rfl ?_
          refine v_icmp_ge F 255 dX5_run_152 (by decide) x148_11.toInt (G 18 0).toInt rfl rfl (fun c6 => ?_) (fun c6 => ?_)
          · refine u_iinc F (fun v_ => [(10, .int v_), (0, .ref (a 6)), (3, .int p2), (4, .int p3), (5, .int (G 18 0)), (6, .int x121_6), (7, .int x121_7), (8, .int x148_8), (9, .int x148_9), (11, .int x148_11)]) dX5_run_255 (j := 8) rfl x121_10.toInt 1 rfl rfl (by omega) (by omega) (by decide) (fun _ => rfl) (fun y7 ey7 => ?_)
            refine g_goto F 121 dX5_run_258 (by decide) ?_
            refine g_locals [(0, .ref (a 6)), (3, .int p2), (4, .int p3), (5, .int (G 18 0)), (6, .int x121_6), (7, .int x121_7), (8, .int x148_8), (9, .int x148_9), (10, .int y7)] [1, 2, 3, 4, 5, 6, 7, 8, 0] rfl ?_
            exact ih_121 x121_6 x121_7 x148_8 x148_9 y7 Gj148 (by omega) (by have h9 := ti_rng x121_6; omega) (by have h9 := ti_rng x121_7; omega) (by have h9 := ti_rng x148_8; omega) (by have h9 := ti_rng x148_9; omega) (by have h9 := ti_rng y7; omega) jI148 (gu_un.tr (gu_un.tr gu_un.rf (gu_un.su jU121 rfl)) (gu_un.su jU148 rfl)) (⟨(x121_10.toInt * (G 18 0).toInt + x148_11.toInt).toNat, by rw [show y7.toInt = x121_10.toInt + 1 by omega, Int.add_mul, Int.one_mul]; omega, fun h0 => ⟨by rw [show y7.toInt = x121_10.toInt + 1 by omega, Int.add_mul, Int.one_mul]; omega, by rw [Int.toNat_of_nonneg (by omega)]; exact r3⟩, fun hz => ⟨(r2 hz).1, (r2 hz).2 (by omega)⟩⟩) (lv) (mt) (by (first | omega | (simp only [Int32.reduceToInt, true_and, and_true, ne_eq, not_true_eq_false, false_and, or_false, false_or, true_or, or_true, false_implies] <;> omega))) (by (first | omega | (simp only [Int32.reduceToInt, true_and, and_true, ne_eq, not_true_eq_false, false_and, or_false, false_or, true_or, or_true, false_implies] <;> omega))) (by have e9_6_4 : Gj148 6 4 = (G 6 4) := (jU148 6 4 (by decide)).trans (jU121 6 4 (by decide)); (try simp only [e9_6_4, true_and, and_true]) <;> (first | omega | (simp only [Int32.reduceToInt, true_and, and_true, ne_eq, not_true_eq_false, false_and, or_false, false_or, true_or, or_true, false_implies] <;> omega))) (by omega)
          · refine g_iload F 6 dX5_run_155 rfl ?_
            refine v_if_ne F 255 dX5_run_157 (by decide) x148_8.toInt rfl (fun c8 => ?_) (fun c8 => ?_)
            · refine u_iinc F (fun v_ => [(10, .int v_), (0, .ref (a 6)), (3, .int p2), (4, .int p3), (5, .int (G 18 0)), (6, .int x121_6), (7, .int x121_7), (8, .int x148_8), (9, .int x148_9), (11, .int x148_11)]) dX5_run_255 (j := 8) rfl x121_10.toInt 1 rfl rfl (by omega) (by omega) (by decide) (fun _ => rfl) (fun y9 ey9 => ?_)
              refine g_goto F 121 dX5_run_258 (by decide) ?_
              refine g_locals [(0, .ref (a 6)), (3, .int p2), (4, .int p3), (5, .int (G 18 0)), (6, .int x121_6), (7, .int x121_7), (8, .int x148_8), (9, .int x148_9), (10, .int y9)] [1, 2, 3, 4, 5, 6, 7, 8, 0] rfl ?_
              exact ih_121 x121_6 x121_7 x148_8 x148_9 y9 Gj148 (by omega) (by have h9 := ti_rng x121_6; omega) (by have h9 := ti_rng x121_7; omega) (by have h9 := ti_rng x148_8; omega) (by have h9 := ti_rng x148_9; omega) (by have h9 := ti_rng y9; omega) jI148 (gu_un.tr (gu_un.tr gu_un.rf (gu_un.su jU121 rfl)) (gu_un.su jU148 rfl)) (⟨(x121_10.toInt * (G 18 0).toInt + x148_11.toInt).toNat, by rw [show y9.toInt = x121_10.toInt + 1 by omega, Int.add_mul, Int.one_mul]; omega, fun h0 => ⟨by rw [show y9.toInt = x121_10.toInt + 1 by omega, Int.add_mul, Int.one_mul]; omega, by rw [Int.toNat_of_nonneg (by omega)]; exact r3⟩, fun hz => ⟨(r2 hz).1, (r2 hz).2 (by omega)⟩⟩) (lv) (mt) (by (first | omega | (simp only [Int32.reduceToInt, true_and, and_true, ne_eq, not_true_eq_false, false_and, or_false, false_or, true_or, or_true, false_implies] <;> omega))) (by (first | omega | (simp only [Int32.reduceToInt, true_and, and_true, ne_eq, not_true_eq_false, false_and, or_false, false_or, true_or, or_true, false_implies] <;> omega))) (by have e9_6_4 : Gj148 6 4 = (G 6 4) := (jU148 6 4 (by decide)).trans (jU121 6 4 (by decide)); (try simp only [e9_6_4, true_and, and_true]) <;> (first | omega | (simp only [Int32.reduceToInt, true_and, and_true, ne_eq, not_true_eq_false, false_and, or_false, false_or, true_or, or_true, false_implies] <;> omega))) (by omega)
            · have ts0 : 0 ≤ x121_10.toInt * (G 18 0).toInt := Int.mul_nonneg (by omega) (by omega)
              have m1 : (x121_10 + 1).toInt = x121_10.toInt + 1 := ti_add rfl rfl (by omega) (by omega)
              refine g_aload_n F 0 dX5_run_160 rfl rfl ?_
              refine g_iload F 9 dX5_run_161 rfl ?_
              refine g_iload F 8 dX5_run_163 rfl ?_
              refine g_iload F 4 dX5_run_165 rfl ?_
              refine g_aload_n F 0 dX5_run_167 rfl rfl ?_
              refine xg_6_3 F i_X5 w_0 dX5_run_168 (G 6 3) ((jU148 6 3 (by decide)).trans (jU121 6 3 (by decide))) ?_
              refine g_iload F 8 dX5_run_171 rfl ?_
              refine g_iconst F 1 dX5_run_173 (by decide) ?_
              refine g_iadd F dX5_run_174 ?_
              refine g_imul F dX5_run_175 ?_
              refine g_isub F dX5_run_176 ?_
              have m2 : (G 6 3).toInt * (x121_10.toInt + 1) ≤ (G 6 3).toInt * (G 6 4).toInt := Int.mul_le_mul_of_nonneg_left (by omega) (by omega)
              have m3 := Int.mul_nonneg (show (0 : Int) ≤ (G 6 3).toInt by omega) (show (0 : Int) ≤ x121_10.toInt + 1 by omega)
              have m4 : ((G 6 3) * (x121_10 + 1)).toInt = (G 6 3).toInt * (x121_10.toInt + 1) := ti_mul rfl m1 (by omega) (by omega)
              have m5 : ((x121_6 - ((G 6 3) * (x121_10 + 1))) : Int32).toInt = x121_6.toInt - (G 6 3).toInt * (x121_10.toInt + 1) := ti_sub rfl m4 (by omega) (by omega)
              refine u_callVi (k := 0) (n := 0) (b := a 6) (As := [.int x148_11, .int x121_10, .int (x121_6 - ((G 6 3) * (x121_10 + 1)))]) (st := []) F (fun sz => S_X5_bite l D K a Gj148 x148_11 x148_11.toInt x121_10 x121_10.toInt (x121_6 - ((G 6 3) * (x121_10 + 1))) ((x121_6 - ((G 6 3) * (x121_10 + 1))) : Int32).toInt rfl (by omega) rfl rfl (by omega) (by (first | omega | (simp only [Int32.reduceToInt, true_and, and_true, ne_eq, not_true_eq_false, false_and, or_false, false_or, true_or, or_true, false_implies] <;> omega))) jI148 sz) (cwV 3 hts gX5_run_X5_bite rfl rfl rfl (by decide +kernel) ⟨Nat.le_of_ble_eq_true rfl, Nat.le_of_ble_eq_true rfl⟩) rfl 6 xc_6 rfl (Nat.le_of_ble_eq_true rfl) ⟨Nat.zero_le _, Nat.zero_le _⟩ dX5_run_177 (fun r10 G12 hw11 => ?_)
              have hI13 : xI G12 := hw11.1
              have hU14 : gu_un xcd [613, 618, 2100, 2700, 4500, 4600, 4700, 4800] Gj148 G12 := hw11.2.1
              have hp15 := hw11.2.2
              have b16 : (0 : Int) ≤ (Gj121 6 7).toInt ∧ (Gj121 6 7).toInt ≤ 4 := jI121 6 7
              have q17 : (∀ (Q S : gS) (C : Nat → List Int), xBq Gj148 Q C x121_10 (x121_6 - ((G 6 3) * (x121_10 + 1))) → (pR (G 18 0).toInt S (Gj148 45) (Gj148 6 12) (Gj148 6 13) (Gj148 6 14) (Gj148 6 17) (Gj148 6 18) (Gj148 6 16) 0 ∧ pL (G 18 0).toInt S (Gj148 46) (Gj148 47) (Gj148 48)) → (pR (G 18 0).toInt (psT Q C x148_11.toInt x121_10 ((Gj121 6 7).toInt).toNat S) (G12 45) (G12 6 12) (Gj148 6 13) (Gj148 6 14) (G12 6 17) (Gj148 6 18) (Gj148 6 16) (Int32.ofInt r10.toInt) ∧ pL (G 18 0).toInt (psT Q C x148_11.toInt x121_10 ((Gj121 6 7).toInt).toNat S) (G12 46) (G12 47) (G12 48))) := by have h9 := hp15.2.1; (try simp only [(show Gj148 18 0 = (G 18 0) from (jU148 18 0 (by decide)).trans (jU121 18 0 (by decide))), (show Gj148 18 0 = (G 18 0) from (jU148 18 0 (by decide)).trans (jU121 18 0 (by decide))), (show Gj148 18 0 = (G 18 0) from (jU148 18 0 (by decide)).trans (jU121 18 0 (by decide))), (show Gj148 6 7 = (Gj121 6 7) from jU148 6 7 (by decide)), (show Gj148 18 0 = (G 18 0) from (jU148 18 0 (by decide)).trans (jU121 18 0 (by decide))), (show Gj148 6 7 = (Gj121 6 7) from jU148 6 7 (by decide))] at h9); first | exact h9 | omega
              have q18 : (-39996 ≤ r10.toInt ∧ r10.toInt ≤ 39996) := hp15.2.2
              have rg19 := hp15.1
              clear hp15 hw11
              refine g_istore F [(12, .int r10), (0, .ref (a 6)), (3, .int p2), (4, .int p3), (5, .int (G 18 0)), (6, .int x121_6), (7, .int x121_7), (8, .int x148_8), (9, .int x148_9), (10, .int x121_10), (11, .int x148_11)] dX5_run_180 (by decide) rfl ?_
              refine g_iload_n F 2 dX5_run_182 rfl rfl ?_
              refine g_aload_n F 1 dX5_run_183 rfl rfl ?_
              refine xg_6_0 F i_X5 w_1 dX5_run_184 ?_
              refine xg_2_2 F i_X7 w_2 dX5_run_187 ?_
              refine g_aload_n F 1 dX5_run_190 rfl rfl ?_
              refine xg_6_8 F i_X5 w_3 dX5_run_191 ?_
              refine g_iload F 10 dX5_run_194 rfl ?_
              refine u1_iald F 45 0 xc_45 rfl x148_11.toInt rfl (by omega) (by omega) dX5_run_196 ((G12 45) (x148_11.toInt).toNat) (rfl) ?_
              have b20 : ((-9998) : Int) ≤ ((G12 45) (x148_11.toInt).toNat).toInt ∧ ((G12 45) (x148_11.toInt).toNat).toInt ≤ 5000 := hI13 45 _
              refine g_iload F 6 dX5_run_197 rfl ?_
              refine u_callVi (k := 0) (n := 0) (b := a 12) (As := [.int ((G12 45) (x148_11.toInt).toNat), .int x121_7]) (st := [.int p2]) F (fun sz => S_X3_value_12 l D K a G12 ((G12 45) (x148_11.toInt).toNat) ((G12 45) (x148_11.toInt).toNat).toInt x121_7 x121_7.toInt rfl rfl hI13 sz) (cwV 2 hts gX5_run_X3_value rfl rfl rfl (by decide +kernel) ⟨Nat.le_of_ble_eq_true rfl, Nat.le_of_ble_eq_true rfl⟩) rfl 12 xc_12 rfl (Nat.le_of_ble_eq_true rfl) ⟨Nat.zero_le _, Nat.zero_le _⟩ dX5_run_199 (fun r21 G23 hw22 => ?_)
              have hI24 : xI G23 := hw22.1
              have hU25 : gu_un xcd [2400] G12 G23 := hw22.2.1
              have hp26 := hw22.2.2
              have b27 : (0 : Int) ≤ (G 12 1).toInt ∧ (G 12 1).toInt ≤ 80 := hI 12 1
              have q28 : (gcOK (tkr (G 23) ((G 12 1).toInt).toNat) → r21.toInt = (eV ((G12 45) (x148_11.toInt).toNat) x121_7 (tkr (G 23) ((G 12 1).toInt).toNat)).toInt) := by have h9 := hp26; (try simp only [(show G12 12 1 = (G 12 1) from (hU14 12 1 (by decide)).trans ((jU148 12 1 (by decide)).trans (jU121 12 1 (by decide)))), (show G12 12 1 = (G 12 1) from (hU14 12 1 (by decide)).trans ((jU148 12 1 (by decide)).trans (jU121 12 1 (by decide)))), (show G12 23 = (G 23) from (show G12 23 = Gj148 23 from funext fun k_ => hU14 23 k_ (show (2300 : Nat) ∉ ([613, 618, 2100, 2700, 4500, 4600, 4700, 4800] : List Nat) by decide)).trans ((show Gj148 23 = Gj121 23 from funext fun k_ => jU148 23 k_ (show (2300 : Nat) ∉ ([613, 614, 615, 617, 618, 619, 620, 2100, 2400, 2700, 4500, 4600, 4700, 4800] : List Nat) by decide)).trans ((show Gj121 23 = G 23 from funext fun k_ => jU121 23 k_ (show (2300 : Nat) ∉ ([608, 613, 614, 615, 617, 618, 619, 620, 2100, 2400, 2700, 4400, 4500, 4600, 4700, 4800] : List Nat) by decide))))), (show G12 23 = (G 23) from (show G12 23 = Gj148 23 from funext fun k_ => hU14 23 k_ (show (2300 : Nat) ∉ ([613, 618, 2100, 2700, 4500, 4600, 4700, 4800] : List Nat) by decide)).trans ((show Gj148 23 = Gj121 23 from funext fun k_ => jU148 23 k_ (show (2300 : Nat) ∉ ([613, 614, 615, 617, 618, 619, 620, 2100, 2400, 2700, 4500, 4600, 4700, 4800] : List Nat) by decide)).trans ((show Gj121 23 = G 23 from funext fun k_ => jU121 23 k_ (show (2300 : Nat) ∉ ([608, 613, 614, 615, 617, 618, 619, 620, 2100, 2400, 2700, 4400, 4500, 4600, 4700, 4800] : List Nat) by decide)))))] at h9); first | exact h9 | omega
              clear hp26 hw22
              refine g_iconst F 0 dX5_run_202 (by decide) ?_
              refine g_sipush F 999 dX5_run_203 (by decide) ?_
              refine u_call0 (k := 0) (n := 0) (As := [.int r21, .int 0, .int 999]) (st := [.int p2]) F (fun sz => S_X5_within l D r21 r21.toInt 0 0 999 999 rfl rfl rfl sz) (va_cwS 3 hts gX5_run_X5_within rfl rfl rfl (by decide +kernel) ⟨Nat.le_of_ble_eq_true rfl, Nat.le_of_ble_eq_true rfl⟩) rfl (Nat.le_of_ble_eq_true rfl) ⟨Nat.zero_le _, Nat.zero_le _⟩ dX5_run_206 (fun r29 _ hw30 => ?_)
              have q32 : (r29.toInt = max (0 : Int) (min (999 : Int) r21.toInt)) := hw30
              clear hw30
              refine g_iadd F dX5_run_209 ?_
              have hs9 : ((p2 + r29) : Int32).toInt = _ + _ := ti_add rfl rfl (by omega) (by omega)
              refine g_istore F [(13, .int (p2 + r29)), (12, .int r10), (0, .ref (a 6)), (3, .int p2), (4, .int p3), (5, .int (G 18 0)), (6, .int x121_6), (7, .int x121_7), (8, .int x148_8), (9, .int x148_9), (10, .int x121_10), (11, .int x148_11)] dX5_run_210 (by decide) rfl ?_
              refine g_aload_n F 2 dX5_run_212 rfl rfl ?_
              refine g_aload_n F 2 dX5_run_213 rfl rfl ?_
              refine xg_6_2 F i_X5 w_4 dX5_run_214 (G 6 2) ((hU25 6 2 (by decide)).trans ((hU14 6 2 (by decide)).trans ((jU148 6 2 (by decide)).trans (jU121 6 2 (by decide))))) ?_
              refine g_aload_n F 2 dX5_run_217 rfl rfl ?_
              refine xg_6_0 F i_X5 w_1 dX5_run_218 ?_
              refine g_iload F 9 dX5_run_221 rfl ?_
              refine u_callVi (k := 0) (n := 0) (b := a 2) (As := [.int x148_9]) (st := [.int (G 6 2), .ref (a 6)]) F (fun sz => S_X7_swayAt_2 l D K a G23 x148_9 x148_9.toInt rfl (by omega) hI24 sz) (cwV 1 hts gX5_run_X7_swayAt rfl rfl rfl (by decide +kernel) ⟨Nat.le_of_ble_eq_true rfl, Nat.le_of_ble_eq_true rfl⟩) rfl 2 xc_2 rfl (Nat.le_of_ble_eq_true rfl) ⟨Nat.zero_le _, Nat.zero_le _⟩ dX5_run_223 (fun r33 _ hw34 => ?_)
              have q36 : (r33.toInt = ((G 18) (30 + (x148_9.toInt).toNat)).toInt) := by have h9 := hw34.2; (try simp only [(show G23 18 = (G 18) from (show G23 18 = G12 18 from funext fun k_ => hU25 18 k_ (show (1800 : Nat) ∉ ([2400] : List Nat) by decide)).trans ((show G12 18 = Gj148 18 from funext fun k_ => hU14 18 k_ (show (1800 : Nat) ∉ ([613, 618, 2100, 2700, 4500, 4600, 4700, 4800] : List Nat) by decide)).trans ((show Gj148 18 = Gj121 18 from funext fun k_ => jU148 18 k_ (show (1800 : Nat) ∉ ([613, 614, 615, 617, 618, 619, 620, 2100, 2400, 2700, 4500, 4600, 4700, 4800] : List Nat) by decide)).trans ((show Gj121 18 = G 18 from funext fun k_ => jU121 18 k_ (show (1800 : Nat) ∉ ([608, 613, 614, 615, 617, 618, 619, 620, 2100, 2400, 2700, 4400, 4500, 4600, 4700, 4800] : List Nat) by decide))))))] at h9); first | exact h9 | omega
              have rg37 := hw34.1
              clear hw34
              refine g_iadd F dX5_run_226 ?_
              have ss9 : (((G 6 2) + r33) : Int32).toInt = _ + _ := ti_add rfl rfl (by omega) (by omega)
              refine g_iload F 1 dX5_run_227 rfl ?_
              refine g_iload F 0 dX5_run_229 rfl ?_
              refine g_iload F 4 dX5_run_231 rfl ?_
              refine u_callVi (k := 0) (n := 0) (b := a 6) (As := [.int ((G 6 2) + r33), .int r10, .int (p2 + r29), .int p3]) (st := []) F (fun sz => S_X5_swingsTooFar l D K a G23 ((G 6 2) + r33) (((G 6 2) + r33) : Int32).toInt r10 r10.toInt (p2 + r29) ((p2 + r29) : Int32).toInt p3 s3 rfl rfl (by omega) rfl (by omega) e3 (by omega) (by have e9_6_13 : G23 6 13 = (Gj148 6 13) := (hU25 6 13 (by decide)).trans (hU14 6 13 (by decide)); have e9_6_14 : G23 6 14 = (Gj148 6 14) := (hU25 6 14 (by decide)).trans (hU14 6 14 (by decide)); (try simp only [e9_6_13, e9_6_14, true_and, and_true]) <;> (first | omega | (simp only [Int32.reduceToInt, true_and, and_true, ne_eq, not_true_eq_false, false_and, or_false, false_or, true_or, or_true, false_implies] <;> omega))) hI24 sz) (cwV 4 hts gX5_run_X5_swingsTooFar rfl rfl rfl (by decide +kernel) ⟨Nat.le_of_ble_eq_true rfl, Nat.le_of_ble_eq_true rfl⟩) rfl 6 xc_6 rfl (Nat.le_of_ble_eq_true rfl) ⟨Nat.zero_le _, Nat.zero_le _⟩ dX5_run_233 (fun r38 G40 hw39 => ?_)
              have hI41 : xI G40 := hw39.1
              have hU42 : gu_un xcd [614, 615, 617, 619] G23 G40 := hw39.2.1
              have hp43 := hw39.2.2
              have q44 : (∀ Q S : gS, (Q 0 2 = (G 18) 2 ∧ Q 0 7 = (G 18) 7 ∧ Q 3 5 = p3) → swR S (G23 6 13) (G23 6 14) (G23 6 18) (G23 6 16) 0 → swR (psJ Q r10 (p2 + r29) ((((G 6 2) + r33) : Int32).toInt).toNat S) (G40 6 13) (G40 6 14) (G40 6 18) (G40 6 16) (Int32.ofInt r38.toInt)) := by have h9 := hp43.2.1; (try simp only [(show G23 18 = (G 18) from (show G23 18 = G12 18 from funext fun k_ => hU25 18 k_ (show (1800 : Nat) ∉ ([2400] : List Nat) by decide)).trans ((show G12 18 = Gj148 18 from funext fun k_ => hU14 18 k_ (show (1800 : Nat) ∉ ([613, 618, 2100, 2700, 4500, 4600, 4700, 4800] : List Nat) by decide)).trans ((show Gj148 18 = Gj121 18 from funext fun k_ => jU148 18 k_ (show (1800 : Nat) ∉ ([613, 614, 615, 617, 618, 619, 620, 2100, 2400, 2700, 4500, 4600, 4700, 4800] : List Nat) by decide)).trans ((show Gj121 18 = G 18 from funext fun k_ => jU121 18 k_ (show (1800 : Nat) ∉ ([608, 613, 614, 615, 617, 618, 619, 620, 2100, 2400, 2700, 4400, 4500, 4600, 4700, 4800] : List Nat) by decide)))))), (show G23 18 = (G 18) from (show G23 18 = G12 18 from funext fun k_ => hU25 18 k_ (show (1800 : Nat) ∉ ([2400] : List Nat) by decide)).trans ((show G12 18 = Gj148 18 from funext fun k_ => hU14 18 k_ (show (1800 : Nat) ∉ ([613, 618, 2100, 2700, 4500, 4600, 4700, 4800] : List Nat) by decide)).trans ((show Gj148 18 = Gj121 18 from funext fun k_ => jU148 18 k_ (show (1800 : Nat) ∉ ([613, 614, 615, 617, 618, 619, 620, 2100, 2400, 2700, 4500, 4600, 4700, 4800] : List Nat) by decide)).trans ((show Gj121 18 = G 18 from funext fun k_ => jU121 18 k_ (show (1800 : Nat) ∉ ([608, 613, 614, 615, 617, 618, 619, 620, 2100, 2400, 2700, 4400, 4500, 4600, 4700, 4800] : List Nat) by decide))))))] at h9); first | exact h9 | omega
              have q45 : (r38.toInt ≠ 0 ∨ (-9999 ≤ (G40 6 13).toInt ∧ (G40 6 13).toInt ≤ 9999 ∧ -19998 ≤ (G40 6 14).toInt ∧ (G40 6 14).toInt ≤ 19998)) := hp43.2.2
              have rg46 := hp43.1
              clear hp43 hw39
              refine g_istore F [(8, .int r38), (13, .int (p2 + r29)), (12, .int r10), (0, .ref (a 6)), (3, .int p2), (4, .int p3), (5, .int (G 18 0)), (6, .int x121_6), (7, .int x121_7), (9, .int x148_9), (10, .int x121_10), (11, .int x148_11)] dX5_run_236 (by decide) rfl ?_
              refine g_aload_n F 3 dX5_run_238 rfl rfl ?_
              refine xg_6_0 F i_X5 w_1 dX5_run_239 ?_
              refine g_iload F 9 dX5_run_242 rfl ?_
              refine u_callVi (k := 0) (n := 0) (b := a 2) (As := [.int x148_9]) (st := []) F (fun sz => S_X7_swayBehind_2 l D K a G40 x148_9 x148_9.toInt rfl (by omega) hI41 sz) (cwV 1 hts gX5_run_X7_swayBehind rfl rfl rfl (by decide +kernel) ⟨Nat.le_of_ble_eq_true rfl, Nat.le_of_ble_eq_true rfl⟩) rfl 2 xc_2 rfl (Nat.le_of_ble_eq_true rfl) ⟨Nat.zero_le _, Nat.zero_le _⟩ dX5_run_244 (fun r47 _ hw48 => ?_)
              have q50 : (r47.toInt = if x148_9.toInt + 1 < (G 18 11).toInt then x148_9.toInt + 1 else 0) := by have h9 := hw48.2; (try simp only [(show G40 18 11 = (G 18 11) from (hU42 18 11 (by decide)).trans ((hU25 18 11 (by decide)).trans ((hU14 18 11 (by decide)).trans ((jU148 18 11 (by decide)).trans (jU121 18 11 (by decide))))))] at h9); first | exact h9 | omega
              have rg51 := hw48.1
              clear hw48
              refine g_istore F [(9, .int r47), (8, .int r38), (13, .int (p2 + r29)), (12, .int r10), (0, .ref (a 6)), (3, .int p2), (4, .int p3), (5, .int (G 18 0)), (6, .int x121_6), (7, .int x121_7), (10, .int x121_10), (11, .int x148_11)] dX5_run_247 (by decide) rfl ?_
              refine u_iinc F (fun v_ => [(11, .int v_), (9, .int r47), (8, .int r38), (13, .int (p2 + r29)), (12, .int r10), (0, .ref (a 6)), (3, .int p2), (4, .int p3), (5, .int (G 18 0)), (6, .int x121_6), (7, .int x121_7), (10, .int x121_10)]) dX5_run_249 (j := 11) rfl x148_11.toInt 1 rfl rfl (by omega) (by omega) (by decide) (fun _ => rfl) (fun y52 ey52 => ?_)
              refine g_goto F 148 dX5_run_252 (by decide) ?_
              refine g_locals [(0, .ref (a 6)), (3, .int p2), (4, .int p3), (5, .int (G 18 0)), (6, .int x121_6), (7, .int x121_7), (8, .int r38), (9, .int r47), (10, .int x121_10), (11, .int y52)] [5, 6, 7, 8, 9, 10, 2, 1, 11, 0] rfl ?_
              exact ih_148 r38 r47 y52 G40 (by omega) (by have h9 := ti_rng r38; omega) (by have h9 := ti_rng r47; omega) (by have h9 := ti_rng x121_10; omega) (by have h9 := ti_rng y52; omega) hI41 (gu_un.tr (gu_un.tr (gu_un.tr (gu_un.tr gu_un.rf (gu_un.su jU148 rfl)) (gu_un.su hU14 rfl)) (gu_un.su hU25 rfl)) (gu_un.su hU42 rfl)) (fun hz => by have h9 := xRl.go (n := (x121_10.toInt * (G 18 0).toInt + x148_11.toInt).toNat) (y := (x121_10.toInt * (G 18 0).toInt + y52.toInt).toNat) (T := x121_10.toInt) (i := x148_11.toInt) (s := (G 18 0).toInt) (t := x121_10) (fo := r10) (ho := (p2 + r29)) (m := ((Gj121 6 7).toInt).toNat) (rd := x148_9.toInt) (k := ((((G 6 2) + r33) : Int32).toInt).toNat) (sh := r38) ((r2 hz).1.sh (by omega)) (by omega) rfl (by omega) (by omega) rfl (fun Q C hq => xBq_of hq (show Gj148 18 = (G 18) from ((show Gj148 18 = Gj121 18 from funext fun k_ => jU148 18 k_ (by simp [xcd])).trans (show Gj121 18 = (G 18) from ((show Gj121 18 = G 18 from funext fun k_ => jU121 18 k_ (by simp [xcd])).trans (show G 18 = (G 18) from rfl))))) (show Gj148 20 = (G 20) from ((show Gj148 20 = Gj121 20 from funext fun k_ => jU148 20 k_ (by simp [xcd])).trans (show Gj121 20 = (G 20) from ((show Gj121 20 = G 20 from funext fun k_ => jU121 20 k_ (by simp [xcd])).trans (show G 20 = (G 20) from rfl))))) (show Gj148 26 = (G 26) from ((show Gj148 26 = Gj121 26 from funext fun k_ => jU148 26 k_ (by simp [xcd])).trans (show Gj121 26 = (G 26) from ((show Gj121 26 = G 26 from funext fun k_ => jU121 26 k_ (by simp [xcd])).trans (show G 26 = (G 26) from rfl))))) (show Gj148 11 1 = (G 11 1) from (jU148 11 1 (by decide)).trans (jU121 11 1 (by decide))) (show Gj148 13 1 = (G 13 1) from (jU148 13 1 (by decide)).trans (jU121 13 1 (by decide))) (mt hz) rfl) (by have h6 := (mt hz).1; rw [show Gj148 6 7 = (Gj121 6 7) from jU148 6 7 (by decide)] at h6; rw [h6]) (Int32.toInt_inj.mp (by omega)) (by have h := q17; simp only [Int32.ofInt_toInt] at h; exact h) (fun gc => congrArg (p2 + ·) (psC_of q32 (q28 gc))) (by rw [Int.toNat_of_nonneg (by omega)]; exact r3) (by omega) (by rw [← Int32.toInt_inj.mp q36]) (by have h := q44; rw [Int32.ofInt_toInt, show G23 6 13 = Gj148 6 13 from (show G23 6 13 = Gj148 6 13 from (show gu_un xcd [613, 618, 2100, 2400, 2700, 4500, 4600, 4700, 4800] Gj148 G23 from (gu_un.tr (gu_un.tr gu_un.rf (gu_un.su hU14 rfl)) (gu_un.su hU25 rfl))) 6 13 (by decide)), show G23 6 14 = Gj148 6 14 from (show G23 6 14 = Gj148 6 14 from (show gu_un xcd [613, 618, 2100, 2400, 2700, 4500, 4600, 4700, 4800] Gj148 G23 from (gu_un.tr (gu_un.tr gu_un.rf (gu_un.su hU14 rfl)) (gu_un.su hU25 rfl))) 6 14 (by decide)), show G23 6 18 = Gj148 6 18 from (show G23 6 18 = Gj148 6 18 from (show gu_un xcd [613, 618, 2100, 2400, 2700, 4500, 4600, 4700, 4800] Gj148 G23 from (gu_un.tr (gu_un.tr gu_un.rf (gu_un.su hU14 rfl)) (gu_un.su hU25 rfl))) 6 18 (by decide)), show G23 6 16 = Gj148 6 16 from (show G23 6 16 = Gj148 6 16 from (show gu_un xcd [613, 618, 2100, 2400, 2700, 4500, 4600, 4700, 4800] Gj148 G23 from (gu_un.tr (gu_un.tr gu_un.rf (gu_un.su hU14 rfl)) (gu_un.su hU25 rfl))) 6 16 (by decide))] at h; exact h) (show G40 45 = G12 45 from funext fun k_ => (show gu_un xcd [614, 615, 617, 619, 2400] G12 G40 from (gu_un.tr (gu_un.tr gu_un.rf (gu_un.su hU25 rfl)) (gu_un.su hU42 rfl))) 45 k_ (by simp [xcd])) (show G40 46 = G12 46 from funext fun k_ => (show gu_un xcd [614, 615, 617, 619, 2400] G12 G40 from (gu_un.tr (gu_un.tr gu_un.rf (gu_un.su hU25 rfl)) (gu_un.su hU42 rfl))) 46 k_ (by simp [xcd])) (show G40 47 = G12 47 from funext fun k_ => (show gu_un xcd [614, 615, 617, 619, 2400] G12 G40 from (gu_un.tr (gu_un.tr gu_un.rf (gu_un.su hU25 rfl)) (gu_un.su hU42 rfl))) 47 k_ (by simp [xcd])) (show G40 48 = G12 48 from funext fun k_ => (show gu_un xcd [614, 615, 617, 619, 2400] G12 G40 from (gu_un.tr (gu_un.tr gu_un.rf (gu_un.su hU25 rfl)) (gu_un.su hU42 rfl))) 48 k_ (by simp [xcd])) (show G40 6 12 = G12 6 12 from (show gu_un xcd [614, 615, 617, 619, 2400] G12 G40 from (gu_un.tr (gu_un.tr gu_un.rf (gu_un.su hU25 rfl)) (gu_un.su hU42 rfl))) 6 12 (by decide)) (show G40 6 17 = G12 6 17 from (show gu_un xcd [614, 615, 617, 619, 2400] G12 G40 from (gu_un.tr (gu_un.tr gu_un.rf (gu_un.su hU25 rfl)) (gu_un.su hU42 rfl))) 6 17 (by decide)) (show G40 6 19 = Gj148 6 19 from (show gu_un xcd [613, 614, 615, 617, 618, 619, 2100, 2400, 2700, 4500, 4600, 4700, 4800] Gj148 G40 from (gu_un.tr (gu_un.tr (gu_un.tr gu_un.rf (gu_un.su hU14 rfl)) (gu_un.su hU25 rfl)) (gu_un.su hU42 rfl))) 6 19 (by decide)) (by omega) rfl; exact ⟨h9.1, fun _ => h9.2⟩) (by rw [show x121_10.toInt * (G 18 0).toInt + y52.toInt = (x121_10.toInt * (G 18 0).toInt + x148_11.toInt) + 1 by omega]; exact rnd_1 r3 (by omega) (by omega) q50) (xMt.tr mt (show G40 6 7 = Gj148 6 7 from (show gu_un xcd [613, 614, 615, 617, 618, 619, 2100, 2400, 2700, 4500, 4600, 4700, 4800] Gj148 G40 from (gu_un.tr (gu_un.tr (gu_un.tr gu_un.rf (gu_un.su hU14 rfl)) (gu_un.su hU25 rfl)) (gu_un.su hU42 rfl))) 6 7 (by decide)) (show G40 44 = Gj148 44 from funext fun k_ => (show gu_un xcd [613, 614, 615, 617, 618, 619, 2100, 2400, 2700, 4500, 4600, 4700, 4800] Gj148 G40 from (gu_un.tr (gu_un.tr (gu_un.tr gu_un.rf (gu_un.su hU14 rfl)) (gu_un.su hU25 rfl)) (gu_un.su hU42 rfl))) 44 k_ (by simp [xcd]))) (by (first | omega | (simp only [Int32.reduceToInt, true_and, and_true, ne_eq, not_true_eq_false, false_and, or_false, false_or, true_or, or_true, false_implies] <;> omega))) (by have e9_6_19 : G40 6 19 = (Gj148 6 19) := (hU42 6 19 (by decide)).trans ((hU25 6 19 (by decide)).trans (hU14 6 19 (by decide))); (try simp only [e9_6_19, true_and, and_true]) <;> (first | omega | (simp only [Int32.reduceToInt, true_and, and_true, ne_eq, not_true_eq_false, false_and, or_false, false_or, true_or, or_true, false_implies] <;> omega))) (by have e9_6_4 : G40 6 4 = (G 6 4) := (hU42 6 4 (by decide)).trans ((hU25 6 4 (by decide)).trans ((hU14 6 4 (by decide)).trans ((jU148 6 4 (by decide)).trans (jU121 6 4 (by decide))))); (try simp only [e9_6_4, true_and, and_true]) <;> (first | omega | (simp only [Int32.reduceToInt, true_and, and_true, ne_eq, not_true_eq_false, false_and, or_false, false_or, true_or, or_true, false_implies] <;> omega))) (by (first | omega | (simp only [Int32.reduceToInt, true_and, and_true, ne_eq, not_true_eq_false, false_and, or_false, false_or, true_or, or_true, false_implies] <;> omega))) (by have e9_18_0 : G40 18 0 = (G 18 0) := (hU42 18 0 (by decide)).trans ((hU25 18 0 (by decide)).trans ((hU14 18 0 (by decide)).trans ((jU148 18 0 (by decide)).trans (jU121 18 0 (by decide))))); (try simp only [e9_18_0, true_and, and_true]) <;> (first | omega | (simp only [Int32.reduceToInt, true_and, and_true, ne_eq, not_true_eq_false, false_and, or_false, false_or, true_or, or_true, false_implies] <;> omega)))
      refine g_iload F 8 dX5_run_121 rfl ?_
      refine g_aload_n F 0 dX5_run_123 rfl rfl ?_
      refine xg_6_4 F i_X5 w_5 dX5_run_124 (G 6 4) (jU121 6 4 (by decide)) ?_
      have b53 := ti_rng (G 6 4)
      refine v_icmp_ge F 261 dX5_run_127 (by decide) x121_10.toInt (G 6 4).toInt rfl rfl (fun c54 => ?_) (fun c54 => ?_)
      · refine g_aload_n F 0 dX5_run_261 rfl rfl ?_
        refine g_aload_n F 0 dX5_run_262 rfl rfl ?_
        refine xg_6_8 F i_X5 w_3 dX5_run_263 ?_
        refine g_iconst F 0 dX5_run_266 (by decide) ?_
        refine g_iload F 3 dX5_run_267 rfl ?_
        refine u_callSi (k := 0) (n := 0) (As := [.ref (a 45), .int 0, .int (G 18 0)]) (st := [.ref (a 6)]) F (fun sz => S_X5_greatest_45 l D K a Gj121 0 0 (G 18 0) (G 18 0).toInt rfl (by decide) rfl (by omega) jI121 sz) (va_cwS 3 hts gX5_run_X5_greatest rfl rfl rfl (by decide +kernel) ⟨Nat.le_of_ble_eq_true rfl, Nat.le_of_ble_eq_true rfl⟩) rfl (Nat.le_of_ble_eq_true rfl) ⟨Nat.zero_le _, Nat.zero_le _⟩ dX5_run_269 (fun r55 _ hw56 => ?_)
        have q58 : ((0 : Int) = 0 ∧ 1 ≤ (G 18 0).toInt ∧ (G 18 0).toInt ≤ 16 → r55.toInt = psMx (Gj121 45) ((G 18 0).toInt - 1).toNat) := hw56.2
        have rg59 := hw56.1
        clear hw56
        refine g_aload_n F 0 dX5_run_272 rfl rfl ?_
        refine xg_6_8 F i_X5 w_3 dX5_run_273 ?_
        refine g_iconst F 0 dX5_run_276 (by decide) ?_
        refine g_iload F 3 dX5_run_277 rfl ?_
        refine u_callSi (k := 0) (n := 0) (As := [.ref (a 45), .int 0, .int (G 18 0)]) (st := [.int r55, .ref (a 6)]) F (fun sz => S_X5_least_45 l D K a Gj121 0 0 (G 18 0) (G 18 0).toInt rfl (by decide) rfl (by omega) jI121 sz) (va_cwS 3 hts gX5_run_X5_least rfl rfl rfl (by decide +kernel) ⟨Nat.le_of_ble_eq_true rfl, Nat.le_of_ble_eq_true rfl⟩) rfl (Nat.le_of_ble_eq_true rfl) ⟨Nat.zero_le _, Nat.zero_le _⟩ dX5_run_279 (fun r60 _ hw61 => ?_)
        have q63 : (0 ≤ (0 : Int) ∧ 1 ≤ (G 18 0).toInt ∧ (0 : Int) + (G 18 0).toInt ≤ 16 → r60.toInt = psMn (fun q => (Gj121 45) ((0 : Int).toNat + q)) ((G 18 0).toInt - 1).toNat) := hw61.2
        have rg64 := hw61.1
        clear hw61
        refine u_isub F dX5_run_282 r55.toInt r60.toInt rfl rfl (by omega) (by omega) (fun y65 ey65 => ?_)
        refine xp_6_15 F i_X5 w_6 dX5_run_283 ?_
        refine g_iload F 6 dX5_run_286 rfl ?_
        refine v_if_eq F 293 dX5_run_288 (by decide) x121_8.toInt rfl (fun c66 => ?_) (fun c66 => ?_)
        · refine g_aload_n F 0 dX5_run_293 rfl rfl ?_
          refine xg_6_15 F i_X5 w_6 dX5_run_294 y65 (rfl) ?_
          refine g_aload_n F 0 dX5_run_297 rfl rfl ?_
          refine xg_6_0 F i_X5 w_1 dX5_run_298 ?_
          refine xg_2_0 F i_X7 w_7 dX5_run_301 ?_
          refine g_bipush F 8 dX5_run_304 (by decide) ?_
          refine u1_iald F 18 0 xc_18 rfl 8 rfl (by decide) (by decide) dX5_run_306 (G 18 8) (jU121 18 8 (by decide)) ?_
          refine v_icmp_le F 314 dX5_run_307 (by decide) y65.toInt (G 18 8).toInt rfl rfl (fun c67 => ?_) (fun c67 => ?_)
          · refine g_iconst F 0 dX5_run_314 (by decide) ?_
            exact u_iret F hA hQ hr (gu_up Gj121 6 15 y65) (⟨(gu_I.up (j := 6) (k := 15) (v := y65) jI121 (ti_rng _).1 (ti_rng _).2), (gu_un.up (j := 6) (k := 15) (v := y65) (gu_un.tr gu_un.rf (gu_un.su jU121 rfl)) (show (616 : Nat) ∈ ([608, 613, 614, 615, 616, 617, 618, 619, 620, 2100, 2400, 2700, 4400, 4500, 4600, 4700, 4800] : List Nat) by decide)), (by decide), (by show (0 = -4 ∨ (0 ≤ 0 ∧ 0 ≤ 2)); (first | omega | (simp only [Int32.reduceToInt, true_and, and_true, ne_eq, not_true_eq_false, false_and, or_false, false_or, true_or, or_true, false_implies] <;> omega))), (fun h9 => by obtain ⟨n9, a1, a2, a3⟩ := r1; have tm := Int.mul_le_mul_of_nonneg_right (show x121_10.toInt ≤ (G 6 4).toInt by omega) (show (0 : Int) ≤ (G 18 0).toInt by omega); have hf := xRl.fin (m := ((G 6 4).toInt * (G 18 0).toInt).toNat) (a3 h9.1).1 (a3 h9.1).2 (by omega) (by by_cases e : x121_8.toInt = 0 <;> first | exact Or.inl e | (right; have a4 := a2 e; rw [show x121_10.toInt = (G 6 4).toInt by omega] at a4; omega)); exact ⟨_, _, lv.1, lv.2, hf.1.sh (by first | (rw [if_pos (by decide)]; omega) | (rw [if_neg (by decide)]; omega)), hf.2, by have g1 := q58 ⟨rfl, by omega, by omega⟩; have g2 := q63 ⟨by omega, by omega, by omega⟩; have g3 : psMn (fun q => (Gj121 45) ((0 : Int).toNat + q)) ((G 18 0).toInt - 1).toNat = psMn (Gj121 45) ((G 18 0).toInt - 1).toNat := psMn_eq (fun i _ => by rw [show (0 : Int).toNat + i = i by omega]); show y65.toInt = psMx (Gj121 45) _ - psMn (Gj121 45) _; omega, by first | exact Or.inl (by decide) | exact Or.inr (Or.inl ⟨by decide, by show (G 18 8).toInt < y65.toInt; omega⟩) | exact Or.inr (Or.inr ⟨by decide, by show y65.toInt ≤ (G 18 8).toInt; omega⟩)⟩), (by have h7 := lv.1; exact Or.inr ⟨by decide, by omega⟩)⟩) rfl rfl dX5_run_315
          · refine g_iconst F 1 dX5_run_310 (by decide) ?_
            refine g_goto F 315 dX5_run_311 (by decide) ?_
            exact u_iret F hA hQ hr (gu_up Gj121 6 15 y65) (⟨(gu_I.up (j := 6) (k := 15) (v := y65) jI121 (ti_rng _).1 (ti_rng _).2), (gu_un.up (j := 6) (k := 15) (v := y65) (gu_un.tr gu_un.rf (gu_un.su jU121 rfl)) (show (616 : Nat) ∈ ([608, 613, 614, 615, 616, 617, 618, 619, 620, 2100, 2400, 2700, 4400, 4500, 4600, 4700, 4800] : List Nat) by decide)), (by decide), (by show (1 = -4 ∨ (0 ≤ 1 ∧ 1 ≤ 2)); (first | omega | (simp only [Int32.reduceToInt, true_and, and_true, ne_eq, not_true_eq_false, false_and, or_false, false_or, true_or, or_true, false_implies] <;> omega))), (fun h9 => by obtain ⟨n9, a1, a2, a3⟩ := r1; have tm := Int.mul_le_mul_of_nonneg_right (show x121_10.toInt ≤ (G 6 4).toInt by omega) (show (0 : Int) ≤ (G 18 0).toInt by omega); have hf := xRl.fin (m := ((G 6 4).toInt * (G 18 0).toInt).toNat) (a3 h9.1).1 (a3 h9.1).2 (by omega) (by by_cases e : x121_8.toInt = 0 <;> first | exact Or.inl e | (right; have a4 := a2 e; rw [show x121_10.toInt = (G 6 4).toInt by omega] at a4; omega)); exact ⟨_, _, lv.1, lv.2, hf.1.sh (by first | (rw [if_pos (by decide)]; omega) | (rw [if_neg (by decide)]; omega)), hf.2, by have g1 := q58 ⟨rfl, by omega, by omega⟩; have g2 := q63 ⟨by omega, by omega, by omega⟩; have g3 : psMn (fun q => (Gj121 45) ((0 : Int).toNat + q)) ((G 18 0).toInt - 1).toNat = psMn (Gj121 45) ((G 18 0).toInt - 1).toNat := psMn_eq (fun i _ => by rw [show (0 : Int).toNat + i = i by omega]); show y65.toInt = psMx (Gj121 45) _ - psMn (Gj121 45) _; omega, by first | exact Or.inl (by decide) | exact Or.inr (Or.inl ⟨by decide, by show (G 18 8).toInt < y65.toInt; omega⟩) | exact Or.inr (Or.inr ⟨by decide, by show y65.toInt ≤ (G 18 8).toInt; omega⟩)⟩), (by have h7 := lv.1; exact Or.inr ⟨by decide, by omega⟩)⟩) rfl rfl dX5_run_315
        · refine g_iconst F 2 dX5_run_291 (by decide) ?_
          exact u_iret F hA hQ hr (gu_up Gj121 6 15 y65) (⟨(gu_I.up (j := 6) (k := 15) (v := y65) jI121 (ti_rng _).1 (ti_rng _).2), (gu_un.up (j := 6) (k := 15) (v := y65) (gu_un.tr gu_un.rf (gu_un.su jU121 rfl)) (show (616 : Nat) ∈ ([608, 613, 614, 615, 616, 617, 618, 619, 620, 2100, 2400, 2700, 4400, 4500, 4600, 4700, 4800] : List Nat) by decide)), (by decide), (by show (2 = -4 ∨ (0 ≤ 2 ∧ 2 ≤ 2)); (first | omega | (simp only [Int32.reduceToInt, true_and, and_true, ne_eq, not_true_eq_false, false_and, or_false, false_or, true_or, or_true, false_implies] <;> omega))), (fun h9 => by obtain ⟨n9, a1, a2, a3⟩ := r1; have tm := Int.mul_le_mul_of_nonneg_right (show x121_10.toInt ≤ (G 6 4).toInt by omega) (show (0 : Int) ≤ (G 18 0).toInt by omega); have hf := xRl.fin (m := ((G 6 4).toInt * (G 18 0).toInt).toNat) (a3 h9.1).1 (a3 h9.1).2 (by omega) (by by_cases e : x121_8.toInt = 0 <;> first | exact Or.inl e | (right; have a4 := a2 e; rw [show x121_10.toInt = (G 6 4).toInt by omega] at a4; omega)); exact ⟨_, _, lv.1, lv.2, hf.1.sh (by first | (rw [if_pos (by decide)]; omega) | (rw [if_neg (by decide)]; omega)), hf.2, by have g1 := q58 ⟨rfl, by omega, by omega⟩; have g2 := q63 ⟨by omega, by omega, by omega⟩; have g3 : psMn (fun q => (Gj121 45) ((0 : Int).toNat + q)) ((G 18 0).toInt - 1).toNat = psMn (Gj121 45) ((G 18 0).toInt - 1).toNat := psMn_eq (fun i _ => by rw [show (0 : Int).toNat + i = i by omega]); show y65.toInt = psMx (Gj121 45) _ - psMn (Gj121 45) _; omega, by first | exact Or.inl (by decide) | exact Or.inr (Or.inl ⟨by decide, by show (G 18 8).toInt < y65.toInt; omega⟩) | exact Or.inr (Or.inr ⟨by decide, by show y65.toInt ≤ (G 18 8).toInt; omega⟩)⟩), (by have h7 := lv.1; exact Or.inr ⟨by decide, by omega⟩)⟩) rfl rfl dX5_run_292
      · refine g_iload F 6 dX5_run_130 rfl ?_
        refine v_if_ne F 261 dX5_run_132 (by decide) x121_8.toInt rfl (fun c68 => ?_) (fun c68 => ?_)
        · refine g_aload_n F 0 dX5_run_261 rfl rfl ?_
          refine g_aload_n F 0 dX5_run_262 rfl rfl ?_
          refine xg_6_8 F i_X5 w_3 dX5_run_263 ?_
          refine g_iconst F 0 dX5_run_266 (by decide) ?_
          refine g_iload F 3 dX5_run_267 rfl ?_
          refine u_callSi (k := 0) (n := 0) (As := [.ref (a 45), .int 0, .int (G 18 0)]) (st := [.ref (a 6)]) F (fun sz => S_X5_greatest_45 l D K a Gj121 0 0 (G 18 0) (G 18 0).toInt rfl (by decide) rfl (by omega) jI121 sz) (va_cwS 3 hts gX5_run_X5_greatest rfl rfl rfl (by decide +kernel) ⟨Nat.le_of_ble_eq_true rfl, Nat.le_of_ble_eq_true rfl⟩) rfl (Nat.le_of_ble_eq_true rfl) ⟨Nat.zero_le _, Nat.zero_le _⟩ dX5_run_269 (fun r69 _ hw70 => ?_)
          have q72 : ((0 : Int) = 0 ∧ 1 ≤ (G 18 0).toInt ∧ (G 18 0).toInt ≤ 16 → r69.toInt = psMx (Gj121 45) ((G 18 0).toInt - 1).toNat) := hw70.2
          have rg73 := hw70.1
          clear hw70
          refine g_aload_n F 0 dX5_run_272 rfl rfl ?_
          refine xg_6_8 F i_X5 w_3 dX5_run_273 ?_
          refine g_iconst F 0 dX5_run_276 (by decide) ?_
          refine g_iload F 3 dX5_run_277 rfl ?_
          refine u_callSi (k := 0) (n := 0) (As := [.ref (a 45), .int 0, .int (G 18 0)]) (st := [.int r69, .ref (a 6)]) F (fun sz => S_X5_least_45 l D K a Gj121 0 0 (G 18 0) (G 18 0).toInt rfl (by decide) rfl (by omega) jI121 sz) (va_cwS 3 hts gX5_run_X5_least rfl rfl rfl (by decide +kernel) ⟨Nat.le_of_ble_eq_true rfl, Nat.le_of_ble_eq_true rfl⟩) rfl (Nat.le_of_ble_eq_true rfl) ⟨Nat.zero_le _, Nat.zero_le _⟩ dX5_run_279 (fun r74 _ hw75 => ?_)
          have q77 : (0 ≤ (0 : Int) ∧ 1 ≤ (G 18 0).toInt ∧ (0 : Int) + (G 18 0).toInt ≤ 16 → r74.toInt = psMn (fun q => (Gj121 45) ((0 : Int).toNat + q)) ((G 18 0).toInt - 1).toNat) := hw75.2
          have rg78 := hw75.1
          clear hw75
          refine u_isub F dX5_run_282 r69.toInt r74.toInt rfl rfl (by omega) (by omega) (fun y79 ey79 => ?_)
          refine xp_6_15 F i_X5 w_6 dX5_run_283 ?_
          refine g_iload F 6 dX5_run_286 rfl ?_
          refine v_if_eq F 293 dX5_run_288 (by decide) x121_8.toInt rfl (fun c80 => absurd c80 (by omega)) (fun c80 => ?_)
          refine g_iconst F 2 dX5_run_291 (by decide) ?_
          exact u_iret F hA hQ hr (gu_up Gj121 6 15 y79) (⟨(gu_I.up (j := 6) (k := 15) (v := y79) jI121 (ti_rng _).1 (ti_rng _).2), (gu_un.up (j := 6) (k := 15) (v := y79) (gu_un.tr gu_un.rf (gu_un.su jU121 rfl)) (show (616 : Nat) ∈ ([608, 613, 614, 615, 616, 617, 618, 619, 620, 2100, 2400, 2700, 4400, 4500, 4600, 4700, 4800] : List Nat) by decide)), (by decide), (by show (2 = -4 ∨ (0 ≤ 2 ∧ 2 ≤ 2)); (first | omega | (simp only [Int32.reduceToInt, true_and, and_true, ne_eq, not_true_eq_false, false_and, or_false, false_or, true_or, or_true, false_implies] <;> omega))), (fun h9 => by obtain ⟨n9, a1, a2, a3⟩ := r1; have tm := Int.mul_le_mul_of_nonneg_right (show x121_10.toInt ≤ (G 6 4).toInt by omega) (show (0 : Int) ≤ (G 18 0).toInt by omega); have hf := xRl.fin (m := ((G 6 4).toInt * (G 18 0).toInt).toNat) (a3 h9.1).1 (a3 h9.1).2 (by omega) (by by_cases e : x121_8.toInt = 0 <;> first | exact Or.inl e | (right; have a4 := a2 e; rw [show x121_10.toInt = (G 6 4).toInt by omega] at a4; omega)); exact ⟨_, _, lv.1, lv.2, hf.1.sh (by first | (rw [if_pos (by decide)]; omega) | (rw [if_neg (by decide)]; omega)), hf.2, by have g1 := q72 ⟨rfl, by omega, by omega⟩; have g2 := q77 ⟨by omega, by omega, by omega⟩; have g3 : psMn (fun q => (Gj121 45) ((0 : Int).toNat + q)) ((G 18 0).toInt - 1).toNat = psMn (Gj121 45) ((G 18 0).toInt - 1).toNat := psMn_eq (fun i _ => by rw [show (0 : Int).toNat + i = i by omega]); show y79.toInt = psMx (Gj121 45) _ - psMn (Gj121 45) _; omega, by first | exact Or.inl (by decide) | exact Or.inr (Or.inl ⟨by decide, by show (G 18 8).toInt < y79.toInt; omega⟩) | exact Or.inr (Or.inr ⟨by decide, by show y79.toInt ≤ (G 18 8).toInt; omega⟩)⟩), (by have h7 := lv.1; exact Or.inr ⟨by decide, by omega⟩)⟩) rfl rfl dX5_run_292
        · refine g_aload_n F 0 dX5_run_135 rfl rfl ?_
          refine g_dup F dX5_run_136 rfl ?_
          refine xg_6_19 F i_X5 w_8 dX5_run_137 (Gj121 6 19) (rfl) ?_
          refine g_iconst F 1 dX5_run_140 (by decide) ?_
          refine u_iaddc F dX5_run_141 (Gj121 6 19).toInt 1 rfl rfl (fun y81 ey81 => ?_)
          refine xp_6_19 F i_X5 w_8 dX5_run_142 ?_
          refine g_iconst F 0 dX5_run_145 (by decide) ?_
          refine g_istore F [(11, .int 0), (0, .ref (a 6)), (3, .int p2), (4, .int p3), (5, .int (G 18 0)), (6, .int x121_6), (7, .int x121_7), (8, .int x121_8), (9, .int x121_9), (10, .int x121_10)] dX5_run_146 (by decide) rfl ?_
          refine g_locals [(0, .ref (a 6)), (3, .int p2), (4, .int p3), (5, .int (G 18 0)), (6, .int x121_6), (7, .int x121_7), (8, .int x121_8), (9, .int x121_9), (10, .int x121_10), (11, .int 0)] [1, 2, 3, 4, 5, 6, 7, 8, 9, 0] rfl ?_
          exact J_148 _ x121_8 x121_9 0 (gu_up Gj121 6 19 y81) (Nat.lt_succ_self _) (by have h9 := ti_rng x121_8; omega) (by have h9 := ti_rng x121_9; omega) (by have h9 := ti_rng x121_10; omega) (by decide) (gu_I.up (j := 6) (k := 19) (v := y81) jI121 (ti_rng _).1 (ti_rng _).2) (gu_un.up (j := 6) (k := 19) (v := y81) gu_un.rf (show (620 : Nat) ∈ ([613, 614, 615, 617, 618, 619, 620, 2100, 2400, 2700, 4500, 4600, 4700, 4800] : List Nat) by decide)) (fun hz => by obtain ⟨n9, a1, a2, a3⟩ := r1; rw [show (x121_10.toInt * (G 18 0).toInt + Int32.toInt 0).toNat = n9 by (rw [show Int32.toInt 0 = 0 from rfl]; have a4 := a2 (by omega); omega)]; exact ⟨(a3 hz).1, fun h9 => absurd h9 (by decide)⟩) (by obtain ⟨n9, a1, a2, a3⟩ := r1; have a4 := a2 (by omega); rw [show Int32.toInt 0 = 0 from rfl, Int.add_zero, ← a4.1]; exact a4.2) (xMt.tr mt_121 (show (gu_up Gj121 6 19 y81) 6 7 = Gj121 6 7 from (show gu_un xcd [620] Gj121 (gu_up Gj121 6 19 y81) from (gu_un.up (j := 6) (k := 19) (v := y81) gu_un.rf (show (620 : Nat) ∈ ([620] : List Nat) by decide))) 6 7 (by decide)) (show (gu_up Gj121 6 19 y81) 44 = Gj121 44 from funext fun k_ => (show gu_un xcd [620] Gj121 (gu_up Gj121 6 19 y81) from (gu_un.up (j := 6) (k := 19) (v := y81) gu_un.rf (show (620 : Nat) ∈ ([620] : List Nat) by decide))) 44 k_ (by simp [xcd]))) (by have e9_6_13 : (gu_up Gj121 6 19 y81) 6 13 = (Gj121 6 13) := rfl; have e9_6_14 : (gu_up Gj121 6 19 y81) 6 14 = (Gj121 6 14) := rfl; (try simp only [e9_6_13, e9_6_14, true_and, and_true]) <;> (first | omega | (simp only [Int32.reduceToInt, true_and, and_true, ne_eq, not_true_eq_false, false_and, or_false, false_or, true_or, or_true, false_implies] <;> omega))) (by have e9_6_19 : (gu_up Gj121 6 19 y81) 6 19 = y81 := rfl; (try simp only [e9_6_19, true_and, and_true]) <;> (first | omega | (simp only [Int32.reduceToInt, true_and, and_true, ne_eq, not_true_eq_false, false_and, or_false, false_or, true_or, or_true, false_implies] <;> omega))) (by have e9_6_4 : (gu_up Gj121 6 19 y81) 6 4 = (G 6 4) := jU121 6 4 (by decide); (try simp only [e9_6_4, true_and, and_true]) <;> (first | omega | (simp only [Int32.reduceToInt, true_and, and_true, ne_eq, not_true_eq_false, false_and, or_false, false_or, true_or, or_true, false_implies] <;> omega))) (by (first | omega | (simp only [Int32.reduceToInt, true_and, and_true, ne_eq, not_true_eq_false, false_and, or_false, false_or, true_or, or_true, false_implies] <;> omega))) (by have e9_18_0 : (gu_up Gj121 6 19 y81) 18 0 = (G 18 0) := jU121 18 0 (by decide); (try simp only [e9_18_0, true_and, and_true]) <;> (first | omega | (simp only [Int32.reduceToInt, true_and, and_true, ne_eq, not_true_eq_false, false_and, or_false, false_or, true_or, or_true, false_implies] <;> omega)))
  refine g_aload_n F 0 dX5_run_0 rfl rfl ?_
  refine xg_6_0 F i_X5 w_1 dX5_run_1 ?_
  refine xg_2_0 F i_X7 w_7 dX5_run_4 ?_
  refine g_iconst F 0 dX5_run_7 (by decide) ?_
  refine u1_iald F 18 0 xc_18 rfl 0 rfl (by decide) (by decide) dX5_run_8 (G 18 0) (rfl) ?_
  refine g_istore F [(5, .int (G 18 0)), (0, .ref (a 6)), (1, .ref (a 68)), (2, .int p1), (3, .int p2), (4, .int p3)] dX5_run_9 (by decide) rfl ?_
  refine g_aload_n F 1 dX5_run_11 rfl rfl ?_
  refine xg_6_0 F i_X5 w_1 dX5_run_12 ?_
  refine g_aload_n F 1 dX5_run_15 rfl rfl ?_
  refine xg_6_1 F i_X5 w_9 dX5_run_16 (G 6 1) (rfl) ?_
  refine u_callVi (k := 0) (n := 0) (b := a 2) (As := [.int (G 6 1)]) (st := []) F (fun sz => S_X7_hasRing_2 l D K a G (G 6 1) (G 6 1).toInt rfl hI sz) (cwV 1 hts gX5_run_X7_hasRing rfl rfl rfl (by decide +kernel) ⟨Nat.le_of_ble_eq_true rfl, Nat.le_of_ble_eq_true rfl⟩) rfl 2 xc_2 rfl (Nat.le_of_ble_eq_true rfl) ⟨Nat.zero_le _, Nat.zero_le _⟩ dX5_run_19 (fun r82 _ hw83 => ?_)
  rcases hw83 with ⟨rfl, q85⟩ | ⟨rfl, q86⟩
  · have q85 : (0 ≤ (G 6 1).toInt ∧ (G 6 1).toInt < (G 18 1).toInt) := q85
    refine v_if_eq F 45 dX5_run_22 (by decide) 1 rfl (fun c87 => absurd c87 (by decide)) (fun c87 => ?_)
    refine g_iload F 0 dX5_run_25 rfl ?_
    refine g_iconst F 1 dX5_run_27 (by decide) ?_
    refine v_icmp_lt F 45 dX5_run_28 (by decide) (G 18 0).toInt 1 rfl rfl (fun c88 => absurd c88 (by omega)) (fun c88 => ?_)
    refine g_iload F 0 dX5_run_31 rfl ?_
    refine g_bipush F 16 dX5_run_33 (by decide) ?_
    refine v_icmp_gt F 45 dX5_run_35 (by decide) (G 18 0).toInt 16 rfl rfl (fun c89 => absurd c89 (by omega)) (fun c89 => ?_)
    refine g_aload_n F 2 dX5_run_38 rfl rfl ?_
    refine g_alen F 68 0 xc_68 rfl 96 rfl dX5_run_39 ?_
    refine g_bipush F 96 dX5_run_40 (by decide) ?_
    refine v_icmp_ge F 48 dX5_run_42 (by decide) 96 96 rfl rfl (fun c90 => ?_) (fun c90 => absurd c90 (by decide))
    refine g_aload_n F 2 dX5_run_48 rfl rfl ?_
    refine g_aload_n F 1 dX5_run_49 rfl rfl ?_
    refine xg_6_1 F i_X5 w_9 dX5_run_50 (G 6 1) (rfl) ?_
    refine g_iconst F 0 dX5_run_53 (by decide) ?_
    refine u_call0 (k := 0) (n := 0) (As := [.int (G 6 1), .int 0]) (st := [.ref (a 68)]) F (fun sz => S_X6_placeOf_b5_b15 l D (G 6 1) (G 6 1).toInt 0 0 rfl (by omega) rfl (by decide) sz) (va_cwS 2 hts gX5_run_X6_placeOf rfl rfl rfl (by decide +kernel) ⟨Nat.le_of_ble_eq_true rfl, Nat.le_of_ble_eq_true rfl⟩) rfl (Nat.le_of_ble_eq_true rfl) ⟨Nat.zero_le _, Nat.zero_le _⟩ dX5_run_54 (fun r91 _ hw92 => ?_)
    have rg94 := hw92.1
    have rg95 := hw92.2
    clear hw92
    refine g_aload_n F 1 dX5_run_57 rfl rfl ?_
    refine xg_6_8 F i_X5 w_3 dX5_run_58 ?_
    refine g_iconst F 0 dX5_run_61 (by decide) ?_
    refine g_iload F 0 dX5_run_62 rfl ?_
    refine u_copyi F w_10 w_11 w_12 w_13 68 45 0 xc_68 xc_45 rfl r91.toInt 0 (G 18 0).toInt rfl rfl rfl (by omega) (by decide) (by omega) (by omega) (by omega) (Nat.le_of_ble_eq_true rfl) (Nat.le_of_ble_eq_true rfl) (xW K a (gu_st G 45 (va_cpy (G 68) (G 45) (r91.toInt).toNat 0 ((G 18 0).toInt).toNat))) (xs_45 _) dX5_run_64 ?_
    refine g_aload_n F 1 dX5_run_67 rfl rfl ?_
    refine xg_6_8 F i_X5 w_3 dX5_run_68 ?_
    refine g_iconst F 0 dX5_run_71 (by decide) ?_
    refine g_iload F 0 dX5_run_72 rfl ?_
    refine u_callSi (k := 0) (n := 0) (As := [.ref (a 45), .int 0, .int (G 18 0)]) (st := []) F (fun sz => S_X5_greatest_45 l D K a (gu_st G 45 (va_cpy (G 68) (G 45) (r91.toInt).toNat 0 ((G 18 0).toInt).toNat)) 0 0 (G 18 0) (G 18 0).toInt rfl (by decide) rfl (by omega) (gu_I.cpy (j := 45) (f := G 68) (sp := (r91.toInt).toNat) (dp := 0) hI (fun k_ => (show ((-9998) : Int) ≤ (G 68 ((r91.toInt).toNat + k_)).toInt ∧ (G 68 ((r91.toInt).toNat + k_)).toInt ≤ 5000 from ⟨Int.le_trans (show ((-9998) : Int) ≤ 1000 by decide) (hI 68 _).1, Int.le_trans (hI 68 _).2 (show (1000 : Int) ≤ 5000 by decide)⟩))) sz) (va_cwS 3 hts gX5_run_X5_greatest rfl rfl rfl (by decide +kernel) ⟨Nat.le_of_ble_eq_true rfl, Nat.le_of_ble_eq_true rfl⟩) rfl (Nat.le_of_ble_eq_true rfl) ⟨Nat.zero_le _, Nat.zero_le _⟩ dX5_run_74 (fun r96 _ hw97 => ?_)
    have q99 : ((0 : Int) = 0 ∧ 1 ≤ (G 18 0).toInt ∧ (G 18 0).toInt ≤ 16 → r96.toInt = psMx ((gu_st G 45 (va_cpy (G 68) (G 45) (r91.toInt).toNat 0 ((G 18 0).toInt).toNat)) 45) ((G 18 0).toInt - 1).toNat) := hw97.2
    have rg100 := hw97.1
    clear hw97
    refine g_istore F [(6, .int r96), (5, .int (G 18 0)), (0, .ref (a 6)), (1, .ref (a 68)), (2, .int p1), (3, .int p2), (4, .int p3)] dX5_run_77 (by decide) rfl ?_
    refine g_iload F 0 dX5_run_79 rfl ?_
    refine g_aload_n F 2 dX5_run_81 rfl rfl ?_
    refine xg_6_3 F i_X5 w_0 dX5_run_82 (G 6 3) (rfl) ?_
    refine g_aload_n F 2 dX5_run_85 rfl rfl ?_
    refine xg_6_4 F i_X5 w_5 dX5_run_86 (G 6 4) (rfl) ?_
    refine g_imul F dX5_run_89 ?_
    have mp0 := Int.mul_nonneg (show (0 : Int) ≤ (G 6 3).toInt by omega) (show (0 : Int) ≤ (G 6 4).toInt by omega)
    have mp1 : (G 6 3).toInt * (G 6 4).toInt ≤ 20 * 12 := Int.mul_le_mul (by omega) (by omega) (by omega) (by omega)
    have mp : (((G 6 3) * (G 6 4)) : Int32).toInt = (G 6 3).toInt * (G 6 4).toInt := ti_mul rfl rfl (by omega) (by omega)
    refine u_isub F dX5_run_90 r96.toInt (((G 6 3) * (G 6 4)) : Int32).toInt rfl rfl (by omega) (by omega) (fun y101 ey101 => ?_)
    refine g_iconst F 1 dX5_run_91 (by decide) ?_
    refine v_icmp_ge F 98 dX5_run_92 (by decide) y101.toInt 1 rfl rfl (fun c102 => ?_) (fun c102 => ?_)
    · refine g_aload_n F 2 dX5_run_98 rfl rfl ?_
      refine g_aload_n F 3 dX5_run_99 rfl rfl ?_
      refine g_iload F 0 dX5_run_100 rfl ?_
      refine u_callVi (k := 0) (n := 0) (b := a 6) (As := [.ref (a 68), .int r96]) (st := []) F (fun sz => S_X5_gapIn_68 l D K a (gu_st G 45 (va_cpy (G 68) (G 45) (r91.toInt).toNat 0 ((G 18 0).toInt).toNat)) r96 r96.toInt rfl (by omega) (by have e9_6_1 : (gu_st G 45 (va_cpy (G 68) (G 45) (r91.toInt).toNat 0 ((G 18 0).toInt).toNat)) 6 1 = (G 6 1) := rfl; (try simp only [e9_6_1, true_and, and_true]) <;> (first | omega | (simp only [Int32.reduceToInt, true_and, and_true, ne_eq, not_true_eq_false, false_and, or_false, false_or, true_or, or_true, false_implies] <;> omega))) (by have e9_6_1 : (gu_st G 45 (va_cpy (G 68) (G 45) (r91.toInt).toNat 0 ((G 18 0).toInt).toNat)) 6 1 = (G 6 1) := rfl; have e9_18_1 : (gu_st G 45 (va_cpy (G 68) (G 45) (r91.toInt).toNat 0 ((G 18 0).toInt).toNat)) 18 1 = (G 18 1) := rfl; (try simp only [e9_6_1, e9_18_1, true_and, and_true]) <;> (first | omega | (simp only [Int32.reduceToInt, true_and, and_true, ne_eq, not_true_eq_false, false_and, or_false, false_or, true_or, or_true, false_implies] <;> omega))) (gu_I.cpy (j := 45) (f := G 68) (sp := (r91.toInt).toNat) (dp := 0) hI (fun k_ => (show ((-9998) : Int) ≤ (G 68 ((r91.toInt).toNat + k_)).toInt ∧ (G 68 ((r91.toInt).toNat + k_)).toInt ≤ 5000 from ⟨Int.le_trans (show ((-9998) : Int) ≤ 1000 by decide) (hI 68 _).1, Int.le_trans (hI 68 _).2 (show (1000 : Int) ≤ 5000 by decide)⟩))) sz) (cwV 2 hts gX5_run_X5_gapIn rfl rfl rfl (by decide +kernel) ⟨Nat.le_of_ble_eq_true rfl, Nat.le_of_ble_eq_true rfl⟩) rfl 6 xc_6 rfl (Nat.le_of_ble_eq_true rfl) ⟨Nat.zero_le _, Nat.zero_le _⟩ dX5_run_102 (fun r103 _ hw104 => ?_)
      have q106 : (r103.toInt = psGa (G 68) (G 6 1).toInt (G 18 1).toInt (G 18 0).toInt r96.toInt) := hw104.2
      have rg107 := hw104.1
      clear hw104
      refine g_istore F [(7, .int r103), (6, .int r96), (5, .int (G 18 0)), (0, .ref (a 6)), (1, .ref (a 68)), (2, .int p1), (3, .int p2), (4, .int p3)] dX5_run_105 (by decide) rfl ?_
      refine g_aload_n F 3 dX5_run_107 rfl rfl ?_
      refine g_iload_n F 5 dX5_run_108 rfl rfl ?_
      refine u_callVv (k := 0) (n := 0) (b := a 6) (As := [.int p1]) (st := []) F (fun sz => S_X5_begin l D K a (gu_st G 45 (va_cpy (G 68) (G 45) (r91.toInt).toNat 0 ((G 18 0).toInt).toNat)) p1 s1 e1 (by omega) (gu_I.cpy (j := 45) (f := G 68) (sp := (r91.toInt).toNat) (dp := 0) hI (fun k_ => (show ((-9998) : Int) ≤ (G 68 ((r91.toInt).toNat + k_)).toInt ∧ (G 68 ((r91.toInt).toNat + k_)).toInt ≤ 5000 from ⟨Int.le_trans (show ((-9998) : Int) ≤ 1000 by decide) (hI 68 _).1, Int.le_trans (hI 68 _).2 (show (1000 : Int) ≤ 5000 by decide)⟩))) sz) (cwV 1 hts gX5_run_X5_begin rfl rfl rfl (by decide +kernel) ⟨Nat.le_of_ble_eq_true rfl, Nat.le_of_ble_eq_true rfl⟩) rfl 6 xc_6 rfl (Nat.le_of_ble_eq_true rfl) ⟨Nat.zero_le _, Nat.zero_le _⟩ dX5_run_109 (fun G110 hw109 => ?_)
      have hI111 : xI G110 := hw109.1
      have hU112 : gu_un xcd [608, 613, 614, 615, 617, 618, 619, 620, 4400, 4600] (gu_st G 45 (va_cpy (G 68) (G 45) (r91.toInt).toNat 0 ((G 18 0).toInt).toNat)) G110 := hw109.2.1
      have hp113 := hw109.2.2
      have q114 : xMt (gu_st G 45 (va_cpy (G 68) (G 45) (r91.toInt).toNat 0 ((G 18 0).toInt).toNat)) G110 := hp113.1
      have q115 : (∀ q : Nat, q < 16 → G110 46 q = -1) := hp113.2.1
      have q116 : (G110 6 12 = p1 ∧ G110 6 13 = 0 ∧ G110 6 14 = 0 ∧ G110 6 16 = 0 ∧ G110 6 17 = 0 ∧ G110 6 18 = 0 ∧ G110 6 19 = 0) := hp113.2.2
      have bz13 : (G110 6 13).toInt = 0 := by rw [q116.2.1]; rfl
      have bz14 : (G110 6 14).toInt = 0 := by rw [q116.2.2.1]; rfl
      have bz19 : (G110 6 19).toInt = 0 := by rw [q116.2.2.2.2.2.2]; rfl
      clear hp113 hw109
      refine g_iconst F 0 dX5_run_112 (by decide) ?_
      refine g_istore F [(8, .int 0), (7, .int r103), (6, .int r96), (5, .int (G 18 0)), (0, .ref (a 6)), (1, .ref (a 68)), (2, .int p1), (3, .int p2), (4, .int p3)] dX5_run_113 (by decide) rfl ?_
      refine g_iconst F 0 dX5_run_115 (by decide) ?_
      refine g_istore F [(9, .int 0), (8, .int 0), (7, .int r103), (6, .int r96), (5, .int (G 18 0)), (0, .ref (a 6)), (1, .ref (a 68)), (2, .int p1), (3, .int p2), (4, .int p3)] dX5_run_116 (by decide) rfl ?_
      refine g_iconst F 0 dX5_run_118 (by decide) ?_
      refine g_istore F [(10, .int 0), (9, .int 0), (8, .int 0), (7, .int r103), (6, .int r96), (5, .int (G 18 0)), (0, .ref (a 6)), (1, .ref (a 68)), (2, .int p1), (3, .int p2), (4, .int p3)] dX5_run_119 (by decide) rfl ?_
      refine g_locals [(0, .ref (a 6)), (3, .int p2), (4, .int p3), (5, .int (G 18 0)), (6, .int r96), (7, .int r103), (8, .int 0), (9, .int 0), (10, .int 0)] [6, 9, 10, 5, 4, 3, 2, 1, 0] rfl ?_
      exact J_121 _ r96 r103 0 0 0 G110 (Nat.lt_succ_self _) (by have h9 := ti_rng r96; omega) (by have h9 := ti_rng r103; omega) (by decide) (by decide) (by decide) hI111 (gu_un.tr (gu_un.sw (j := 45) (f := (va_cpy (G 68) (G 45) (r91.toInt).toNat 0 ((G 18 0).toInt).toNat)) gu_un.rf (fun _ => show (4500 : Nat) ∈ ([608, 613, 614, 615, 617, 618, 619, 620, 2100, 2400, 2700, 4400, 4500, 4600, 4700, 4800] : List Nat) by decide)) (gu_un.su hU112 rfl)) (⟨0, by rw [show Int32.toInt 0 = 0 from rfl, Int.zero_mul]; exact Int.le_refl 0, fun _ => ⟨by rw [show Int32.toInt 0 = 0 from rfl, Int.zero_mul]; rfl, by show (0 : Int) = 0 % _; rw [Int.zero_emod]⟩, fun hz => ⟨(xRl.at0 (fun q hq => by rw [(show G110 45 = (va_cpy (G 68) (G 45) (r91.toInt).toNat 0 ((G 18 0).toInt).toNat) from ((show G110 45 = (gu_st G 45 (va_cpy (G 68) (G 45) (r91.toInt).toNat 0 ((G 18 0).toInt).toNat)) 45 from funext fun k_ => hU112 45 k_ (by simp [xcd])).trans (show (gu_st G 45 (va_cpy (G 68) (G 45) (r91.toInt).toNat 0 ((G 18 0).toInt).toNat)) 45 = (va_cpy (G 68) (G 45) (r91.toInt).toNat 0 ((G 18 0).toInt).toNat) from rfl)))]; unfold va_cpy; rw [if_pos (by omega)]; congr 1; omega) q115 (by omega) q116).sh rfl, fun Q C _ h9 => absurd rfl h9⟩⟩) (⟨by rw [q99 ⟨rfl, by omega, by omega⟩]; exact psMx_eq (h := (gu_st G 45 (va_cpy (G 68) (G 45) (r91.toInt).toNat 0 ((G 18 0).toInt).toNat)) 45) (g := psHr (G 68) (G 6 1).toInt (G 18 0).toInt) (n := ((G 18 0).toInt - 1).toNat) (fun q hq => by show va_cpy _ _ _ _ _ q = psHr _ _ _ q; unfold va_cpy psHr; rw [if_pos (by omega), if_pos (by omega)]; congr 1; omega), q106⟩) (xMt.tr q114 (show G110 6 7 = G110 6 7 from (show gu_un xcd [] G110 G110 from gu_un.rf) 6 7 (by decide)) (show G110 44 = G110 44 from funext fun k_ => (show gu_un xcd [] G110 G110 from gu_un.rf) 44 k_ (by simp [xcd]))) (by (first | omega | (simp only [Int32.reduceToInt, true_and, and_true, ne_eq, not_true_eq_false, false_and, or_false, false_or, true_or, or_true, false_implies] <;> omega))) (by (first | omega | (simp only [Int32.reduceToInt, true_and, and_true, ne_eq, not_true_eq_false, false_and, or_false, false_or, true_or, or_true, false_implies] <;> omega))) (by have e9_6_4 : G110 6 4 = (G 6 4) := hU112 6 4 (by decide); (try simp only [e9_6_4, true_and, and_true]) <;> (first | omega | (simp only [Int32.reduceToInt, true_and, and_true, ne_eq, not_true_eq_false, false_and, or_false, false_or, true_or, or_true, false_implies] <;> omega))) (by omega)
    · refine g_bipush F (-4) dX5_run_95 (by decide) ?_
      exact u_iret F hA hQ hr (gu_st G 45 (va_cpy (G 68) (G 45) (r91.toInt).toNat 0 ((G 18 0).toInt).toNat)) (⟨(gu_I.cpy (j := 45) (f := G 68) (sp := (r91.toInt).toNat) (dp := 0) hI (fun k_ => (show ((-9998) : Int) ≤ (G 68 ((r91.toInt).toNat + k_)).toInt ∧ (G 68 ((r91.toInt).toNat + k_)).toInt ≤ 5000 from ⟨Int.le_trans (show ((-9998) : Int) ≤ 1000 by decide) (hI 68 _).1, Int.le_trans (hI 68 _).2 (show (1000 : Int) ≤ 5000 by decide)⟩))), (gu_un.sw (j := 45) (f := (va_cpy (G 68) (G 45) (r91.toInt).toNat 0 ((G 18 0).toInt).toNat)) gu_un.rf (fun _ => show (4500 : Nat) ∈ ([608, 613, 614, 615, 616, 617, 618, 619, 620, 2100, 2400, 2700, 4400, 4500, 4600, 4700, 4800] : List Nat) by decide)), (by decide), (by show ((-4) = -4 ∨ (0 ≤ (-4) ∧ (-4) ≤ 2)); (first | omega | (simp only [Int32.reduceToInt, true_and, and_true, ne_eq, not_true_eq_false, false_and, or_false, false_or, true_or, or_true, false_implies] <;> omega))), (fun h9 => absurd rfl h9.2), (by have h7 := q99 ⟨rfl, by omega, by omega⟩; have h6 := psMx_eq (h := (gu_st G 45 (va_cpy (G 68) (G 45) (r91.toInt).toNat 0 ((G 18 0).toInt).toNat)) 45) (g := psHr (G 68) (G 6 1).toInt (G 18 0).toInt) (n := ((G 18 0).toInt - 1).toNat) (fun q hq => by show va_cpy _ _ _ _ _ q = psHr _ _ _ q; unfold va_cpy psHr; rw [if_pos (by omega), if_pos (by omega)]; congr 1; omega); rw [h6] at h7; exact Or.inl ⟨by decide, by omega⟩)⟩) rfl rfl dX5_run_97
  · have q86 : ((G 6 1).toInt < 0 ∨ (G 18 1).toInt ≤ (G 6 1).toInt) := q86
    refine v_if_eq F 45 dX5_run_22 (by decide) 0 rfl (fun c117 => ?_) (fun c117 => absurd c117 (by decide))
    refine g_bipush F (-4) dX5_run_45 (by decide) ?_
    exact u_iret F hA hQ hr G (⟨hI, gu_un.rf, (by decide), (by show ((-4) = -4 ∨ (0 ≤ (-4) ∧ (-4) ≤ 2)); (first | omega | (simp only [Int32.reduceToInt, true_and, and_true, ne_eq, not_true_eq_false, false_and, or_false, false_or, true_or, or_true, false_implies] <;> omega))), (fun h9 => absurd rfl h9.2), (by exfalso; omega)⟩) rfl rfl dX5_run_47

theorem dX2_addOffer_0 : decode cX2_addOffer 0 = .ok (.aload_n 0, 1) := by decide +kernel
theorem dX2_addOffer_1 : decode cX2_addOffer 1 = .ok (.getfield 30, 3) := by decide +kernel
theorem dX2_addOffer_4 : decode cX2_addOffer 4 = .ok (.aload_n 0, 1) := by decide +kernel
theorem dX2_addOffer_5 : decode cX2_addOffer 5 = .ok (.getfield 9, 3) := by decide +kernel
theorem dX2_addOffer_8 : decode cX2_addOffer 8 = .ok (.iconst 0, 1) := by decide +kernel
theorem dX2_addOffer_9 : decode cX2_addOffer 9 = .ok (.aload_n 0, 1) := by decide +kernel
theorem dX2_addOffer_10 : decode cX2_addOffer 10 = .ok (.getfield 26, 3) := by decide +kernel
theorem dX2_addOffer_13 : decode cX2_addOffer 13 = .ok (.getfield 53, 3) := by decide +kernel
theorem dX2_addOffer_16 : decode cX2_addOffer 16 = .ok (.iconst 3, 1) := by decide +kernel
theorem dX2_addOffer_17 : decode cX2_addOffer 17 = .ok (.iaload, 1) := by decide +kernel
theorem dX2_addOffer_18 : decode cX2_addOffer 18 = .ok (.aload_n 0, 1) := by decide +kernel
theorem dX2_addOffer_19 : decode cX2_addOffer 19 = .ok (.getfield 26, 3) := by decide +kernel
theorem dX2_addOffer_22 : decode cX2_addOffer 22 = .ok (.getfield 53, 3) := by decide +kernel
theorem dX2_addOffer_25 : decode cX2_addOffer 25 = .ok (.iconst 5, 1) := by decide +kernel
theorem dX2_addOffer_26 : decode cX2_addOffer 26 = .ok (.iaload, 1) := by decide +kernel
theorem dX2_addOffer_27 : decode cX2_addOffer 27 = .ok (.invokevirtual 58, 3) := by decide +kernel
theorem dX2_addOffer_30 : decode cX2_addOffer 30 = .ok (.bipush (-4), 2) := by decide +kernel
theorem dX2_addOffer_32 : decode cX2_addOffer 32 = .ok (.if_icmp .ne 6, 3) := by decide +kernel
theorem dX2_addOffer_35 : decode cX2_addOffer 35 = .ok (.bipush (-2), 2) := by decide +kernel
theorem dX2_addOffer_37 : decode cX2_addOffer 37 = .ok (.ireturn, 1) := by decide +kernel
theorem dX2_addOffer_38 : decode cX2_addOffer 38 = .ok (.aload_n 0, 1) := by decide +kernel
theorem dX2_addOffer_39 : decode cX2_addOffer 39 = .ok (.getfield 40, 3) := by decide +kernel
theorem dX2_addOffer_42 : decode cX2_addOffer 42 = .ok (.bipush 10, 2) := by decide +kernel
theorem dX2_addOffer_44 : decode cX2_addOffer 44 = .ok (.if_icmp .lt 6, 3) := by decide +kernel
theorem dX2_addOffer_47 : decode cX2_addOffer 47 = .ok (.bipush (-3), 2) := by decide +kernel
theorem dX2_addOffer_49 : decode cX2_addOffer 49 = .ok (.ireturn, 1) := by decide +kernel
theorem dX2_addOffer_50 : decode cX2_addOffer 50 = .ok (.iconst 0, 1) := by decide +kernel
theorem dX2_addOffer_51 : decode cX2_addOffer 51 = .ok (.istore_n 1, 1) := by decide +kernel
theorem dX2_addOffer_52 : decode cX2_addOffer 52 = .ok (.iload_n 1, 1) := by decide +kernel
theorem dX2_addOffer_53 : decode cX2_addOffer 53 = .ok (.bipush 16, 2) := by decide +kernel
theorem dX2_addOffer_55 : decode cX2_addOffer 55 = .ok (.if_icmp .ge 70, 3) := by decide +kernel
theorem dX2_addOffer_58 : decode cX2_addOffer 58 = .ok (.aload_n 0, 1) := by decide +kernel
theorem dX2_addOffer_59 : decode cX2_addOffer 59 = .ok (.iload_n 1, 1) := by decide +kernel
theorem dX2_addOffer_60 : decode cX2_addOffer 60 = .ok (.invokevirtual 64, 3) := by decide +kernel
theorem dX2_addOffer_63 : decode cX2_addOffer 63 = .ok (.ifCond .eq 56, 3) := by decide +kernel
theorem dX2_addOffer_66 : decode cX2_addOffer 66 = .ok (.aload_n 0, 1) := by decide +kernel
theorem dX2_addOffer_67 : decode cX2_addOffer 67 = .ok (.getfield 26, 3) := by decide +kernel
theorem dX2_addOffer_70 : decode cX2_addOffer 70 = .ok (.getfield 53, 3) := by decide +kernel
theorem dX2_addOffer_73 : decode cX2_addOffer 73 = .ok (.iconst 3, 1) := by decide +kernel
theorem dX2_addOffer_74 : decode cX2_addOffer 74 = .ok (.iaload, 1) := by decide +kernel
theorem dX2_addOffer_75 : decode cX2_addOffer 75 = .ok (.iload_n 1, 1) := by decide +kernel
theorem dX2_addOffer_76 : decode cX2_addOffer 76 = .ok (.iconst 4, 1) := by decide +kernel
theorem dX2_addOffer_77 : decode cX2_addOffer 77 = .ok (.idiv, 1) := by decide +kernel
theorem dX2_addOffer_78 : decode cX2_addOffer 78 = .ok (.iadd, 1) := by decide +kernel
theorem dX2_addOffer_79 : decode cX2_addOffer 79 = .ok (.istore_n 2, 1) := by decide +kernel
theorem dX2_addOffer_80 : decode cX2_addOffer 80 = .ok (.aload_n 0, 1) := by decide +kernel
theorem dX2_addOffer_81 : decode cX2_addOffer 81 = .ok (.getfield 26, 3) := by decide +kernel
theorem dX2_addOffer_84 : decode cX2_addOffer 84 = .ok (.getfield 53, 3) := by decide +kernel
theorem dX2_addOffer_87 : decode cX2_addOffer 87 = .ok (.iconst 5, 1) := by decide +kernel
theorem dX2_addOffer_88 : decode cX2_addOffer 88 = .ok (.iaload, 1) := by decide +kernel
theorem dX2_addOffer_89 : decode cX2_addOffer 89 = .ok (.iload_n 1, 1) := by decide +kernel
theorem dX2_addOffer_90 : decode cX2_addOffer 90 = .ok (.iconst 4, 1) := by decide +kernel
theorem dX2_addOffer_91 : decode cX2_addOffer 91 = .ok (.irem, 1) := by decide +kernel
theorem dX2_addOffer_92 : decode cX2_addOffer 92 = .ok (.iadd, 1) := by decide +kernel
theorem dX2_addOffer_93 : decode cX2_addOffer 93 = .ok (.istore_n 3, 1) := by decide +kernel
theorem dX2_addOffer_94 : decode cX2_addOffer 94 = .ok (.aload_n 0, 1) := by decide +kernel
theorem dX2_addOffer_95 : decode cX2_addOffer 95 = .ok (.getfield 17, 3) := by decide +kernel
theorem dX2_addOffer_98 : decode cX2_addOffer 98 = .ok (.aload_n 0, 1) := by decide +kernel
theorem dX2_addOffer_99 : decode cX2_addOffer 99 = .ok (.getfield 40, 3) := by decide +kernel
theorem dX2_addOffer_102 : decode cX2_addOffer 102 = .ok (.aaload, 1) := by decide +kernel
theorem dX2_addOffer_103 : decode cX2_addOffer 103 = .ok (.iload_n 1, 1) := by decide +kernel
theorem dX2_addOffer_104 : decode cX2_addOffer 104 = .ok (.aload_n 0, 1) := by decide +kernel
theorem dX2_addOffer_105 : decode cX2_addOffer 105 = .ok (.getfield 30, 3) := by decide +kernel
theorem dX2_addOffer_108 : decode cX2_addOffer 108 = .ok (.aload_n 0, 1) := by decide +kernel
theorem dX2_addOffer_109 : decode cX2_addOffer 109 = .ok (.getfield 9, 3) := by decide +kernel
theorem dX2_addOffer_112 : decode cX2_addOffer 112 = .ok (.iconst 0, 1) := by decide +kernel
theorem dX2_addOffer_113 : decode cX2_addOffer 113 = .ok (.iload_n 2, 1) := by decide +kernel
theorem dX2_addOffer_114 : decode cX2_addOffer 114 = .ok (.iload_n 3, 1) := by decide +kernel
theorem dX2_addOffer_115 : decode cX2_addOffer 115 = .ok (.invokevirtual 58, 3) := by decide +kernel
theorem dX2_addOffer_118 : decode cX2_addOffer 118 = .ok (.iastore, 1) := by decide +kernel
theorem dX2_addOffer_119 : decode cX2_addOffer 119 = .ok (.iinc 1 1, 3) := by decide +kernel
theorem dX2_addOffer_122 : decode cX2_addOffer 122 = .ok (.goto (-70), 3) := by decide +kernel
theorem dX2_addOffer_125 : decode cX2_addOffer 125 = .ok (.aload_n 0, 1) := by decide +kernel
theorem dX2_addOffer_126 : decode cX2_addOffer 126 = .ok (.dup, 1) := by decide +kernel
theorem dX2_addOffer_127 : decode cX2_addOffer 127 = .ok (.getfield 40, 3) := by decide +kernel
theorem dX2_addOffer_130 : decode cX2_addOffer 130 = .ok (.iconst 1, 1) := by decide +kernel
theorem dX2_addOffer_131 : decode cX2_addOffer 131 = .ok (.iadd, 1) := by decide +kernel
theorem dX2_addOffer_132 : decode cX2_addOffer 132 = .ok (.putfield 40, 3) := by decide +kernel
theorem dX2_addOffer_135 : decode cX2_addOffer 135 = .ok (.aload_n 0, 1) := by decide +kernel
theorem dX2_addOffer_136 : decode cX2_addOffer 136 = .ok (.getfield 40, 3) := by decide +kernel
theorem dX2_addOffer_139 : decode cX2_addOffer 139 = .ok (.iconst 1, 1) := by decide +kernel
theorem dX2_addOffer_140 : decode cX2_addOffer 140 = .ok (.isub, 1) := by decide +kernel
theorem dX2_addOffer_141 : decode cX2_addOffer 141 = .ok (.ireturn, 1) := by decide +kernel
set_option maxRecDepth 20000 in
theorem ggX2_addOffer_X2_isInSpans : GoodIn wsX2_addOffer wsX2_isInSpans := goodIn_r _ [119, 3, 4, 120, 121, 122, 123, 124, 125, 126, 127, 128, 129, 130, 131, 132, 133] rfl (by decide +kernel)
set_option maxRecDepth 20000 in
theorem gX2_addOffer_X2_isInSpans : GoodIn wsX2_addOffer (wsV RX2 64 RX2 yX2_isInSpans wsX2_isInSpans) := goodIn_app (goodIn_of _ (by decide +kernel)) ggX2_addOffer_X2_isInSpans
set_option maxRecDepth 20000 in
theorem ggX2_addOffer_X5_run : GoodIn wsX2_addOffer wsX5_run := goodIn_r _ [11, 12, 13, 14, 15, 16, 17, 18, 19, 20, 21, 22, 23, 24, 25, 26, 27, 28, 29, 30, 31, 32, 33, 34, 35, 36, 37, 10, 38, 39, 40, 41, 42, 43, 44, 45, 46, 47, 48, 49, 50, 51, 52, 53, 54, 55, 56, 57, 58, 59, 60, 61, 62, 63, 64, 65, 66, 67, 68, 69, 70, 71, 72, 73, 74, 75, 76, 77, 78, 79, 80, 81, 82, 83, 84, 85, 86, 87, 88, 89, 90, 91, 92, 93, 94, 95, 96, 97, 98, 99, 100, 101, 102, 103, 104, 105, 106, 107, 108, 109, 110, 111, 112, 113, 114, 134, 135, 136, 137, 138, 139, 140, 141, 142, 143, 144, 145, 146, 147, 148, 149, 150, 151, 152, 153, 130, 131, 132, 133, 154, 155, 156, 157, 158, 159, 160, 161, 162] rfl (by decide +kernel)
set_option maxRecDepth 20000 in
theorem gX2_addOffer_X5_run : GoodIn wsX2_addOffer (wsV RX2 58 RX5 yX5_run wsX5_run) := goodIn_app (goodIn_of _ (by decide +kernel)) ggX2_addOffer_X5_run
set_option maxHeartbeats 4000000 in
set_option maxRecDepth 100000 in
theorem S_X2_addOffer (l : Launch) (D : va_G) (K : Nat → ClassId) (a : Nat → Nat) (G : gS) (fr : (0 ≤ (G 6 1).toInt ∧ (G 6 1).toInt < (G 18 1).toInt ∧ 1 ≤ (G 6 2).toInt ∧ (G 6 2).toInt ≤ 9 ∧ 1 ≤ (G 6 3).toInt ∧ (G 6 3).toInt ≤ 20 ∧ 1 ≤ (G 6 4).toInt ∧ (G 6 4).toInt ≤ 12)) (hI : xI G) (sz : Nat) : Ki l yX2_addOffer wsX2_addOffer 5 148 0 0 D [.ref (a 9)] (xW K a G) (tK K) sz (fun (r : Int32) (G' : gS) => (xI G') ∧ (gu_un xcd [608, 613, 614, 615, 616, 617, 618, 619, 620, 905, 2100, 2400, 2700, 4400, 4500, 4600, 4700, 4800, 7000, 7100, 7200, 7300, 7400, 7500, 7600, 7700, 7800, 7900] G G') ∧ ((-3) ≤ r.toInt ∧ r.toInt ≤ 9)) (fun (G' : gS) => (xW K a G')) (fun _ => (tK K)) := by
  unfold Ki
  refine g_ofW (cc := cX2_addOffer) (lv := [(0, .ref (a 9))]) (by decide) rfl (Nat.le_of_ble_eq_true rfl) rfl ?_
  intro p e s m args below meth c A Q hA hQ F hr hnm
  have hts := F.2.2.2.2.1
  have w_0 : (Cond.fieldLink RX2 40 "QuietCut$Ear" "offers" "I").before args s = true := hts _ (List.mem_of_getElem? (i := 5) rfl)
  have i_X2 : ∀ w ∈ u_ws RX2 TX2 10, w ∈ wsX2_addOffer := fun _ h => List.mem_cons_of_mem _ (List.mem_append_left _ (List.mem_append_left _ (List.mem_append_left _ (List.mem_append_right _ h))))
  have w_1 : (Cond.fieldLink RX2 26 "QuietCut$Ear" "shop" "LQuietCut$Shop;").before args s = true := hts _ (List.mem_of_getElem? (i := 3) rfl)
  have w_2 : (Cond.fieldLink RX2 53 "QuietCut$Shop" "numbers" "[I").before args s = true := hts _ (List.mem_of_getElem? (i := 4) rfl)
  have i_X7 : ∀ w ∈ u_ws RX7 TX7 4, w ∈ wsX2_addOffer := fun _ h => List.mem_cons_of_mem _ (List.mem_append_left _ (List.mem_append_left _ (List.mem_append_right _ h)))
  have w_3 : (Cond.fieldLink RX2 17 "QuietCut$Ear" "verdicts" "[[I").before args s = true := hts _ (List.mem_of_getElem? (i := 6) rfl)
  have w_4 : (Cond.fieldLink RX2 30 "QuietCut$Ear" "lathe" "LQuietCut$Lathe;").before args s = true := hts _ (List.mem_of_getElem? (i := 1) rfl)
  have w_5 : (Cond.fieldLink RX2 9 "QuietCut$Ear" "fresh" "[I").before args s = true := hts _ (List.mem_of_getElem? (i := 2) rfl)
  have J_52 : ∀ (fuel : Nat) (x52_1 : Int32) (Gj52 : gS), (2147483647 - x52_1.toInt).toNat < fuel → (0 ≤ x52_1.toInt ∧ x52_1.toInt ≤ 16) → (xI Gj52) → (gu_un xcd [608, 613, 614, 615, 616, 617, 618, 619, 620, 2100, 2400, 2700, 4400, 4500, 4600, 4700, 4800, 7000, 7100, 7200, 7300, 7400, 7500, 7600, 7700, 7800, 7900] G Gj52) → ((0 ≤ (G 9 4).toInt ∧ (G 9 4).toInt ≤ 9)) → gG p l e (gR 5 0 0 148) s m args below meth c D A 4 Q 0 0 (xW K a Gj52) (tK K) [(0, .ref (a 9)), (1, .int x52_1)] 52 [] := by
    intro fuel
    induction fuel with
    | zero => intro x52_1 Gj52 hm; exact absurd hm (Nat.not_lt_zero _)
    | succ fuel_52 ih_52 =>
      intro x52_1 Gj52 hm_52 h52_1 jI52 jU52 off_52
      have J_119 : ∀  (Gj119 : gS), (0 ≤ x52_1.toInt ∧ x52_1.toInt ≤ 15) → (xI Gj119) → (gu_un xcd [608, 613, 614, 615, 616, 617, 618, 619, 620, 2100, 2400, 2700, 4400, 4500, 4600, 4700, 4800, 7000, 7100, 7200, 7300, 7400, 7500, 7600, 7700, 7800, 7900] Gj52 Gj119) → ((0 ≤ (G 9 4).toInt ∧ (G 9 4).toInt ≤ 9)) → gG p l e (gR 5 0 0 148) s m args below meth c D A 4 Q 0 0 (xW K a Gj119) (tK K) [(0, .ref (a 9)), (1, .int x52_1)] 119 [] := by
        intro Gj119 k119_1 jI119 jU119 off_119
        refine u_iinc F (fun v_ => [(1, .int v_), (0, .ref (a 9))]) dX2_addOffer_119 (j := 1) rfl x52_1.toInt 1 rfl rfl (by omega) (by omega) (by decide) (fun _ => rfl) (fun y1 ey1 => ?_)
        refine g_goto F 52 dX2_addOffer_122 (by decide) ?_
        refine g_locals [(0, .ref (a 9)), (1, .int y1)] [1, 0] rfl ?_
        have b2 : (0 : Int) ≤ (G 9 4).toInt ∧ (G 9 4).toInt ≤ 10 := hI 9 4
        exact ih_52 y1 Gj119 (by omega) (by have h9 := ti_rng y1; omega) jI119 (gu_un.tr (gu_un.tr gu_un.rf (gu_un.su jU52 rfl)) (gu_un.su jU119 rfl)) (by have e9_9_4 : Gj119 9 4 = (G 9 4) := (jU119 9 4 (by decide)).trans (jU52 9 4 (by decide)); (try simp only [e9_9_4, true_and, and_true]) <;> (first | omega | (simp only [Int32.reduceToInt, true_and, and_true, ne_eq, not_true_eq_false, false_and, or_false, false_or, true_or, or_true, false_implies] <;> omega)))
      refine g_iload_n F 1 dX2_addOffer_52 rfl rfl ?_
      refine g_bipush F 16 dX2_addOffer_53 (by decide) ?_
      refine v_icmp_ge F 125 dX2_addOffer_55 (by decide) x52_1.toInt 16 rfl rfl (fun c3 => ?_) (fun c3 => ?_)
      · refine g_aload_n F 0 dX2_addOffer_125 rfl rfl ?_
        refine g_dup F dX2_addOffer_126 rfl ?_
        refine xg_9_4 F i_X2 w_0 dX2_addOffer_127 (G 9 4) (jU52 9 4 (by decide)) ?_
        refine g_iconst F 1 dX2_addOffer_130 (by decide) ?_
        have b5 : (0 : Int) ≤ (G 9 4).toInt ∧ (G 9 4).toInt ≤ 10 := hI 9 4
        refine u_iadd F dX2_addOffer_131 (G 9 4).toInt 1 rfl rfl (by omega) (by omega) (fun y4 ey4 => ?_)
        refine xp_9_4 F i_X2 w_0 dX2_addOffer_132 ?_
        refine g_aload_n F 0 dX2_addOffer_135 rfl rfl ?_
        refine xg_9_4 F i_X2 w_0 dX2_addOffer_136 y4 (rfl) ?_
        refine g_iconst F 1 dX2_addOffer_139 (by decide) ?_
        refine u_isub F dX2_addOffer_140 y4.toInt 1 rfl rfl (by omega) (by omega) (fun y6 ey6 => ?_)
        exact u_iret F hA hQ hr (gu_up Gj52 9 4 y4) (⟨(gu_I.up (j := 9) (k := 4) (v := y4) jI52 (show (0 : Int) ≤ Int32.toInt y4 by omega) (show Int32.toInt y4 ≤ 10 by omega)), (gu_un.up (j := 9) (k := 4) (v := y4) (gu_un.tr gu_un.rf (gu_un.su jU52 rfl)) (show (905 : Nat) ∈ ([608, 613, 614, 615, 616, 617, 618, 619, 620, 905, 2100, 2400, 2700, 4400, 4500, 4600, 4700, 4800, 7000, 7100, 7200, 7300, 7400, 7500, 7600, 7700, 7800, 7900] : List Nat) by decide)), (by have h9 := ti_rng y6; omega)⟩) rfl rfl dX2_addOffer_141
      · refine g_aload_n F 0 dX2_addOffer_58 rfl rfl ?_
        refine g_iload_n F 1 dX2_addOffer_59 rfl rfl ?_
        refine u_callVi (k := 0) (n := 0) (b := a 9) (As := [.int x52_1]) (st := []) F (fun sz => S_X2_isInSpans l D K a Gj52 x52_1 x52_1.toInt rfl jI52 sz) (cwV 1 hts gX2_addOffer_X2_isInSpans rfl rfl rfl (by decide +kernel) ⟨Nat.le_of_ble_eq_true rfl, Nat.le_of_ble_eq_true rfl⟩) rfl 9 xc_9 rfl (Nat.le_of_ble_eq_true rfl) ⟨Nat.zero_le _, Nat.zero_le _⟩ dX2_addOffer_60 (fun r7 _ hw8 => ?_)
        have rg10 := hw8
        clear hw8
        refine v_if_eq F 119 dX2_addOffer_63 (by decide) r7.toInt rfl (fun c11 => ?_) (fun c11 => ?_)
        · have b12 : (0 : Int) ≤ (G 9 4).toInt ∧ (G 9 4).toInt ≤ 10 := hI 9 4
          exact J_119 Gj52 (by have h9 := ti_rng x52_1; omega) jI52 gu_un.rf (by have e9_9_4 : Gj52 9 4 = (G 9 4) := jU52 9 4 (by decide); (try simp only [e9_9_4, true_and, and_true]) <;> (first | omega | (simp only [Int32.reduceToInt, true_and, and_true, ne_eq, not_true_eq_false, false_and, or_false, false_or, true_or, or_true, false_implies] <;> omega)))
        · refine g_aload_n F 0 dX2_addOffer_66 rfl rfl ?_
          refine xg_9_0 F i_X2 w_1 dX2_addOffer_67 ?_
          refine xg_2_0 F i_X7 w_2 dX2_addOffer_70 ?_
          refine g_iconst F 3 dX2_addOffer_73 (by decide) ?_
          refine u1_iald F 18 0 xc_18 rfl 3 rfl (by decide) (by decide) dX2_addOffer_74 (G 18 3) (jU52 18 3 (by decide)) ?_
          refine g_iload_n F 1 dX2_addOffer_75 rfl rfl ?_
          refine g_iconst F 4 dX2_addOffer_76 (by decide) ?_
          refine u_idiv F dX2_addOffer_77 (by decide) x52_1.toInt 4 rfl rfl (by omega) (by omega) (fun y13 ey13 => ?_)
          have b15 : (0 : Int) ≤ (G 18 3).toInt ∧ (G 18 3).toInt ≤ 200 := hI 18 3
          refine u_iadd F dX2_addOffer_78 (G 18 3).toInt y13.toInt rfl rfl (by omega) (by omega) (fun y14 ey14 => ?_)
          refine g_istore_n F [(2, .int y14), (0, .ref (a 9)), (1, .int x52_1)] dX2_addOffer_79 rfl (by decide) rfl ?_
          refine g_aload_n F 1 dX2_addOffer_80 rfl rfl ?_
          refine xg_9_0 F i_X2 w_1 dX2_addOffer_81 ?_
          refine xg_2_0 F i_X7 w_2 dX2_addOffer_84 ?_
          refine g_iconst F 5 dX2_addOffer_87 (by decide) ?_
          refine u1_iald F 18 0 xc_18 rfl 5 rfl (by decide) (by decide) dX2_addOffer_88 (G 18 5) (jU52 18 5 (by decide)) ?_
          refine g_iload_n F 2 dX2_addOffer_89 rfl rfl ?_
          refine g_iconst F 4 dX2_addOffer_90 (by decide) ?_
          refine u_irem F dX2_addOffer_91 (by decide) x52_1.toInt 4 rfl rfl (by omega) (by omega) (fun y16 ey16 => ?_)
          have b18 : (0 : Int) ≤ (G 18 5).toInt ∧ (G 18 5).toInt ≤ 200 := hI 18 5
          refine u_iadd F dX2_addOffer_92 (G 18 5).toInt y16.toInt rfl rfl (by omega) (by omega) (fun y17 ey17 => ?_)
          refine g_istore_n F [(3, .int y17), (2, .int y14), (0, .ref (a 9)), (1, .int x52_1)] dX2_addOffer_93 rfl (by decide) rfl ?_
          refine g_aload_n F 2 dX2_addOffer_94 rfl rfl ?_
          refine xg_9_3 F i_X2 w_3 dX2_addOffer_95 ?_
          refine g_aload_n F 2 dX2_addOffer_98 rfl rfl ?_
          refine xg_9_4 F i_X2 w_0 dX2_addOffer_99 (G 9 4) (jU52 9 4 (by decide)) ?_
          have b19 : (0 : Int) ≤ (G 9 4).toInt ∧ (G 9 4).toInt ≤ 10 := hI 9 4
          rcases (show (G 9 4).toInt = 0 ∨ (G 9 4).toInt = 1 ∨ (G 9 4).toInt = 2 ∨ (G 9 4).toInt = 3 ∨ (G 9 4).toInt = 4 ∨ (G 9 4).toInt = 5 ∨ (G 9 4).toInt = 6 ∨ (G 9 4).toInt = 7 ∨ (G 9 4).toInt = 8 ∨ (G 9 4).toInt = 9 by omega) with c20 | c20 | c20 | c20 | c20 | c20 | c20 | c20 | c20 | c20
          · refine g_aald (b := a 70) F 69 1 xc_69 rfl (ti_in (show Int32.toInt (G 9 4) = 0 from c20) (by decide) (by decide)) (by rw [show Int32.toNatClampNeg (G 9 4) = 0 from congrArg Int.toNat (show Int32.toInt (G 9 4) = 0 from c20)]; rfl) dX2_addOffer_102 ?_
            refine g_iload_n F 3 dX2_addOffer_103 rfl rfl ?_
            refine g_aload_n F 2 dX2_addOffer_104 rfl rfl ?_
            refine xg_9_1 F i_X2 w_4 dX2_addOffer_105 ?_
            refine g_aload_n F 2 dX2_addOffer_108 rfl rfl ?_
            refine xg_9_2 F i_X2 w_5 dX2_addOffer_109 ?_
            refine g_iconst F 0 dX2_addOffer_112 (by decide) ?_
            refine g_iload_n F 1 dX2_addOffer_113 rfl rfl ?_
            refine g_iload_n F 0 dX2_addOffer_114 rfl rfl ?_
            have b21 : (1 : Int) ≤ (G 18 1).toInt ∧ (G 18 1).toInt ≤ 6 := hI 18 1
            refine u_callVi (k := 0) (n := 0) (b := a 6) (As := [.ref (a 68), .int 0, .int y14, .int y17]) (st := [.int x52_1, .ref (a 70)]) F (fun sz => S_X5_run_68 l D K a Gj52 0 0 y14 y14.toInt y17 y17.toInt rfl (by decide) rfl (by omega) rfl (by omega) (by have e9_6_1 : Gj52 6 1 = (G 6 1) := jU52 6 1 (by decide); have e9_6_2 : Gj52 6 2 = (G 6 2) := jU52 6 2 (by decide); have e9_6_3 : Gj52 6 3 = (G 6 3) := jU52 6 3 (by decide); have e9_6_4 : Gj52 6 4 = (G 6 4) := jU52 6 4 (by decide); have e9_18_1 : Gj52 18 1 = (G 18 1) := jU52 18 1 (by decide); (try simp only [e9_6_1, e9_6_2, e9_6_3, e9_6_4, e9_18_1, true_and, and_true]) <;> (first | omega | (simp only [Int32.reduceToInt, true_and, and_true, ne_eq, not_true_eq_false, false_and, or_false, false_or, true_or, or_true, false_implies] <;> omega))) jI52 sz) (cwV 4 hts gX2_addOffer_X5_run rfl rfl rfl (by decide +kernel) ⟨Nat.le_of_ble_eq_true rfl, Nat.le_of_ble_eq_true rfl⟩) rfl 6 xc_6 rfl (Nat.le_of_ble_eq_true rfl) ⟨Nat.zero_le _, Nat.zero_le _⟩ dX2_addOffer_115 (fun r22 G24 hw23 => ?_)
            have hI25 : xI G24 := hw23.1
            have hU26 : gu_un xcd [608, 613, 614, 615, 616, 617, 618, 619, 620, 2100, 2400, 2700, 4400, 4500, 4600, 4700, 4800] Gj52 G24 := hw23.2.1
            have hp27 := hw23.2.2
            have q28 : (r22.toInt = -4 ∨ (0 ≤ r22.toInt ∧ r22.toInt ≤ 2)) := hp27.2.1
            have q29 : ((xTok Gj52 ∧ r22.toInt ≠ -4) → xOut Gj52 (Gj52 68) 0 y14 y17 G24 r22.toInt) := hp27.2.2.1
            have b30 : (4 : Int) ≤ (G 18 0).toInt ∧ (G 18 0).toInt ≤ 16 := hI 18 0
            have q31 : ((r22.toInt = -4 ∧ psMx (psHr (G 68) (G 6 1).toInt (G 18 0).toInt) ((G 18 0).toInt - 1).toNat - (G 6 3).toInt * (G 6 4).toInt < 1) ∨ (r22.toInt ≠ -4 ∧ 1 ≤ psMx (psHr (G 68) (G 6 1).toInt (G 18 0).toInt) ((G 18 0).toInt - 1).toNat - (G 6 3).toInt * (G 6 4).toInt)) := by have h9 := hp27.2.2.2; (try simp only [(show Gj52 6 1 = (G 6 1) from jU52 6 1 (by decide)), (show Gj52 18 0 = (G 18 0) from jU52 18 0 (by decide)), (show Gj52 18 0 = (G 18 0) from jU52 18 0 (by decide)), (show Gj52 6 3 = (G 6 3) from jU52 6 3 (by decide)), (show Gj52 6 4 = (G 6 4) from jU52 6 4 (by decide)), (show Gj52 6 1 = (G 6 1) from jU52 6 1 (by decide)), (show Gj52 18 0 = (G 18 0) from jU52 18 0 (by decide)), (show Gj52 18 0 = (G 18 0) from jU52 18 0 (by decide)), (show Gj52 6 3 = (G 6 3) from jU52 6 3 (by decide)), (show Gj52 6 4 = (G 6 4) from jU52 6 4 (by decide)), (show Gj52 68 = (G 68) from (show Gj52 68 = G 68 from funext fun k_ => jU52 68 k_ (show (6800 : Nat) ∉ ([608, 613, 614, 615, 616, 617, 618, 619, 620, 2100, 2400, 2700, 4400, 4500, 4600, 4700, 4800, 7000, 7100, 7200, 7300, 7400, 7500, 7600, 7700, 7800, 7900] : List Nat) by decide))), (show Gj52 68 = (G 68) from (show Gj52 68 = G 68 from funext fun k_ => jU52 68 k_ (show (6800 : Nat) ∉ ([608, 613, 614, 615, 616, 617, 618, 619, 620, 2100, 2400, 2700, 4400, 4500, 4600, 4700, 4800, 7000, 7100, 7200, 7300, 7400, 7500, 7600, 7700, 7800, 7900] : List Nat) by decide)))] at h9); first | exact h9 | omega
            have rg32 := hp27.1
            clear hp27 hw23
            refine u_iast F 70 0 xc_70 rfl x52_1.toInt rfl (by omega) (by omega) (xW K a (gu_up G24 70 (x52_1.toInt).toNat r22)) (xs_70 _) dX2_addOffer_118 ?_
            refine g_locals [(0, .ref (a 9)), (1, .int x52_1)] [2, 3] rfl ?_
            exact J_119 (gu_up G24 70 (x52_1.toInt).toNat r22) (by have h9 := ti_rng x52_1; omega) (gu_I.up (j := 70) (k := (x52_1.toInt).toNat) (v := r22) hI25 (ti_rng _).1 (ti_rng _).2) (gu_un.up (j := 70) (k := (x52_1.toInt).toNat) (v := r22) (gu_un.tr gu_un.rf (gu_un.su hU26 rfl)) (show (7000 : Nat) ∈ ([608, 613, 614, 615, 616, 617, 618, 619, 620, 2100, 2400, 2700, 4400, 4500, 4600, 4700, 4800, 7000, 7100, 7200, 7300, 7400, 7500, 7600, 7700, 7800, 7900] : List Nat) by decide)) (by have e9_9_4 : (gu_up G24 70 (x52_1.toInt).toNat r22) 9 4 = (G 9 4) := (hU26 9 4 (by decide)).trans (jU52 9 4 (by decide)); (try simp only [e9_9_4, true_and, and_true]) <;> (first | omega | (simp only [Int32.reduceToInt, true_and, and_true, ne_eq, not_true_eq_false, false_and, or_false, false_or, true_or, or_true, false_implies] <;> omega)))
          · refine g_aald (b := a 71) F 69 1 xc_69 rfl (ti_in (show Int32.toInt (G 9 4) = 1 from c20) (by decide) (by decide)) (by rw [show Int32.toNatClampNeg (G 9 4) = 1 from congrArg Int.toNat (show Int32.toInt (G 9 4) = 1 from c20)]; rfl) dX2_addOffer_102 ?_
            refine g_iload_n F 3 dX2_addOffer_103 rfl rfl ?_
            refine g_aload_n F 2 dX2_addOffer_104 rfl rfl ?_
            refine xg_9_1 F i_X2 w_4 dX2_addOffer_105 ?_
            refine g_aload_n F 2 dX2_addOffer_108 rfl rfl ?_
            refine xg_9_2 F i_X2 w_5 dX2_addOffer_109 ?_
            refine g_iconst F 0 dX2_addOffer_112 (by decide) ?_
            refine g_iload_n F 1 dX2_addOffer_113 rfl rfl ?_
            refine g_iload_n F 0 dX2_addOffer_114 rfl rfl ?_
            have b33 : (1 : Int) ≤ (G 18 1).toInt ∧ (G 18 1).toInt ≤ 6 := hI 18 1
            refine u_callVi (k := 0) (n := 0) (b := a 6) (As := [.ref (a 68), .int 0, .int y14, .int y17]) (st := [.int x52_1, .ref (a 71)]) F (fun sz => S_X5_run_68 l D K a Gj52 0 0 y14 y14.toInt y17 y17.toInt rfl (by decide) rfl (by omega) rfl (by omega) (by have e9_6_1 : Gj52 6 1 = (G 6 1) := jU52 6 1 (by decide); have e9_6_2 : Gj52 6 2 = (G 6 2) := jU52 6 2 (by decide); have e9_6_3 : Gj52 6 3 = (G 6 3) := jU52 6 3 (by decide); have e9_6_4 : Gj52 6 4 = (G 6 4) := jU52 6 4 (by decide); have e9_18_1 : Gj52 18 1 = (G 18 1) := jU52 18 1 (by decide); (try simp only [e9_6_1, e9_6_2, e9_6_3, e9_6_4, e9_18_1, true_and, and_true]) <;> (first | omega | (simp only [Int32.reduceToInt, true_and, and_true, ne_eq, not_true_eq_false, false_and, or_false, false_or, true_or, or_true, false_implies] <;> omega))) jI52 sz) (cwV 4 hts gX2_addOffer_X5_run rfl rfl rfl (by decide +kernel) ⟨Nat.le_of_ble_eq_true rfl, Nat.le_of_ble_eq_true rfl⟩) rfl 6 xc_6 rfl (Nat.le_of_ble_eq_true rfl) ⟨Nat.zero_le _, Nat.zero_le _⟩ dX2_addOffer_115 (fun r34 G36 hw35 => ?_)
            have hI37 : xI G36 := hw35.1
            have hU38 : gu_un xcd [608, 613, 614, 615, 616, 617, 618, 619, 620, 2100, 2400, 2700, 4400, 4500, 4600, 4700, 4800] Gj52 G36 := hw35.2.1
            have hp39 := hw35.2.2
            have q40 : (r34.toInt = -4 ∨ (0 ≤ r34.toInt ∧ r34.toInt ≤ 2)) := hp39.2.1
            have q41 : ((xTok Gj52 ∧ r34.toInt ≠ -4) → xOut Gj52 (Gj52 68) 0 y14 y17 G36 r34.toInt) := hp39.2.2.1
            have b42 : (4 : Int) ≤ (G 18 0).toInt ∧ (G 18 0).toInt ≤ 16 := hI 18 0
            have q43 : ((r34.toInt = -4 ∧ psMx (psHr (G 68) (G 6 1).toInt (G 18 0).toInt) ((G 18 0).toInt - 1).toNat - (G 6 3).toInt * (G 6 4).toInt < 1) ∨ (r34.toInt ≠ -4 ∧ 1 ≤ psMx (psHr (G 68) (G 6 1).toInt (G 18 0).toInt) ((G 18 0).toInt - 1).toNat - (G 6 3).toInt * (G 6 4).toInt)) := by have h9 := hp39.2.2.2; (try simp only [(show Gj52 6 1 = (G 6 1) from jU52 6 1 (by decide)), (show Gj52 18 0 = (G 18 0) from jU52 18 0 (by decide)), (show Gj52 18 0 = (G 18 0) from jU52 18 0 (by decide)), (show Gj52 6 3 = (G 6 3) from jU52 6 3 (by decide)), (show Gj52 6 4 = (G 6 4) from jU52 6 4 (by decide)), (show Gj52 6 1 = (G 6 1) from jU52 6 1 (by decide)), (show Gj52 18 0 = (G 18 0) from jU52 18 0 (by decide)), (show Gj52 18 0 = (G 18 0) from jU52 18 0 (by decide)), (show Gj52 6 3 = (G 6 3) from jU52 6 3 (by decide)), (show Gj52 6 4 = (G 6 4) from jU52 6 4 (by decide)), (show Gj52 68 = (G 68) from (show Gj52 68 = G 68 from funext fun k_ => jU52 68 k_ (show (6800 : Nat) ∉ ([608, 613, 614, 615, 616, 617, 618, 619, 620, 2100, 2400, 2700, 4400, 4500, 4600, 4700, 4800, 7000, 7100, 7200, 7300, 7400, 7500, 7600, 7700, 7800, 7900] : List Nat) by decide))), (show Gj52 68 = (G 68) from (show Gj52 68 = G 68 from funext fun k_ => jU52 68 k_ (show (6800 : Nat) ∉ ([608, 613, 614, 615, 616, 617, 618, 619, 620, 2100, 2400, 2700, 4400, 4500, 4600, 4700, 4800, 7000, 7100, 7200, 7300, 7400, 7500, 7600, 7700, 7800, 7900] : List Nat) by decide)))] at h9); first | exact h9 | omega
            have rg44 := hp39.1
            clear hp39 hw35
            refine u_iast F 71 0 xc_71 rfl x52_1.toInt rfl (by omega) (by omega) (xW K a (gu_up G36 71 (x52_1.toInt).toNat r34)) (xs_71 _) dX2_addOffer_118 ?_
            refine g_locals [(0, .ref (a 9)), (1, .int x52_1)] [2, 3] rfl ?_
            exact J_119 (gu_up G36 71 (x52_1.toInt).toNat r34) (by have h9 := ti_rng x52_1; omega) (gu_I.up (j := 71) (k := (x52_1.toInt).toNat) (v := r34) hI37 (ti_rng _).1 (ti_rng _).2) (gu_un.up (j := 71) (k := (x52_1.toInt).toNat) (v := r34) (gu_un.tr gu_un.rf (gu_un.su hU38 rfl)) (show (7100 : Nat) ∈ ([608, 613, 614, 615, 616, 617, 618, 619, 620, 2100, 2400, 2700, 4400, 4500, 4600, 4700, 4800, 7000, 7100, 7200, 7300, 7400, 7500, 7600, 7700, 7800, 7900] : List Nat) by decide)) (by have e9_9_4 : (gu_up G36 71 (x52_1.toInt).toNat r34) 9 4 = (G 9 4) := (hU38 9 4 (by decide)).trans (jU52 9 4 (by decide)); (try simp only [e9_9_4, true_and, and_true]) <;> (first | omega | (simp only [Int32.reduceToInt, true_and, and_true, ne_eq, not_true_eq_false, false_and, or_false, false_or, true_or, or_true, false_implies] <;> omega)))
          · refine g_aald (b := a 72) F 69 1 xc_69 rfl (ti_in (show Int32.toInt (G 9 4) = 2 from c20) (by decide) (by decide)) (by rw [show Int32.toNatClampNeg (G 9 4) = 2 from congrArg Int.toNat (show Int32.toInt (G 9 4) = 2 from c20)]; rfl) dX2_addOffer_102 ?_
            refine g_iload_n F 3 dX2_addOffer_103 rfl rfl ?_
            refine g_aload_n F 2 dX2_addOffer_104 rfl rfl ?_
            refine xg_9_1 F i_X2 w_4 dX2_addOffer_105 ?_
            refine g_aload_n F 2 dX2_addOffer_108 rfl rfl ?_
            refine xg_9_2 F i_X2 w_5 dX2_addOffer_109 ?_
            refine g_iconst F 0 dX2_addOffer_112 (by decide) ?_
            refine g_iload_n F 1 dX2_addOffer_113 rfl rfl ?_
            refine g_iload_n F 0 dX2_addOffer_114 rfl rfl ?_
            have b45 : (1 : Int) ≤ (G 18 1).toInt ∧ (G 18 1).toInt ≤ 6 := hI 18 1
            refine u_callVi (k := 0) (n := 0) (b := a 6) (As := [.ref (a 68), .int 0, .int y14, .int y17]) (st := [.int x52_1, .ref (a 72)]) F (fun sz => S_X5_run_68 l D K a Gj52 0 0 y14 y14.toInt y17 y17.toInt rfl (by decide) rfl (by omega) rfl (by omega) (by have e9_6_1 : Gj52 6 1 = (G 6 1) := jU52 6 1 (by decide); have e9_6_2 : Gj52 6 2 = (G 6 2) := jU52 6 2 (by decide); have e9_6_3 : Gj52 6 3 = (G 6 3) := jU52 6 3 (by decide); have e9_6_4 : Gj52 6 4 = (G 6 4) := jU52 6 4 (by decide); have e9_18_1 : Gj52 18 1 = (G 18 1) := jU52 18 1 (by decide); (try simp only [e9_6_1, e9_6_2, e9_6_3, e9_6_4, e9_18_1, true_and, and_true]) <;> (first | omega | (simp only [Int32.reduceToInt, true_and, and_true, ne_eq, not_true_eq_false, false_and, or_false, false_or, true_or, or_true, false_implies] <;> omega))) jI52 sz) (cwV 4 hts gX2_addOffer_X5_run rfl rfl rfl (by decide +kernel) ⟨Nat.le_of_ble_eq_true rfl, Nat.le_of_ble_eq_true rfl⟩) rfl 6 xc_6 rfl (Nat.le_of_ble_eq_true rfl) ⟨Nat.zero_le _, Nat.zero_le _⟩ dX2_addOffer_115 (fun r46 G48 hw47 => ?_)
            have hI49 : xI G48 := hw47.1
            have hU50 : gu_un xcd [608, 613, 614, 615, 616, 617, 618, 619, 620, 2100, 2400, 2700, 4400, 4500, 4600, 4700, 4800] Gj52 G48 := hw47.2.1
            have hp51 := hw47.2.2
            have q52 : (r46.toInt = -4 ∨ (0 ≤ r46.toInt ∧ r46.toInt ≤ 2)) := hp51.2.1
            have q53 : ((xTok Gj52 ∧ r46.toInt ≠ -4) → xOut Gj52 (Gj52 68) 0 y14 y17 G48 r46.toInt) := hp51.2.2.1
            have b54 : (4 : Int) ≤ (G 18 0).toInt ∧ (G 18 0).toInt ≤ 16 := hI 18 0
            have q55 : ((r46.toInt = -4 ∧ psMx (psHr (G 68) (G 6 1).toInt (G 18 0).toInt) ((G 18 0).toInt - 1).toNat - (G 6 3).toInt * (G 6 4).toInt < 1) ∨ (r46.toInt ≠ -4 ∧ 1 ≤ psMx (psHr (G 68) (G 6 1).toInt (G 18 0).toInt) ((G 18 0).toInt - 1).toNat - (G 6 3).toInt * (G 6 4).toInt)) := by have h9 := hp51.2.2.2; (try simp only [(show Gj52 6 1 = (G 6 1) from jU52 6 1 (by decide)), (show Gj52 18 0 = (G 18 0) from jU52 18 0 (by decide)), (show Gj52 18 0 = (G 18 0) from jU52 18 0 (by decide)), (show Gj52 6 3 = (G 6 3) from jU52 6 3 (by decide)), (show Gj52 6 4 = (G 6 4) from jU52 6 4 (by decide)), (show Gj52 6 1 = (G 6 1) from jU52 6 1 (by decide)), (show Gj52 18 0 = (G 18 0) from jU52 18 0 (by decide)), (show Gj52 18 0 = (G 18 0) from jU52 18 0 (by decide)), (show Gj52 6 3 = (G 6 3) from jU52 6 3 (by decide)), (show Gj52 6 4 = (G 6 4) from jU52 6 4 (by decide)), (show Gj52 68 = (G 68) from (show Gj52 68 = G 68 from funext fun k_ => jU52 68 k_ (show (6800 : Nat) ∉ ([608, 613, 614, 615, 616, 617, 618, 619, 620, 2100, 2400, 2700, 4400, 4500, 4600, 4700, 4800, 7000, 7100, 7200, 7300, 7400, 7500, 7600, 7700, 7800, 7900] : List Nat) by decide))), (show Gj52 68 = (G 68) from (show Gj52 68 = G 68 from funext fun k_ => jU52 68 k_ (show (6800 : Nat) ∉ ([608, 613, 614, 615, 616, 617, 618, 619, 620, 2100, 2400, 2700, 4400, 4500, 4600, 4700, 4800, 7000, 7100, 7200, 7300, 7400, 7500, 7600, 7700, 7800, 7900] : List Nat) by decide)))] at h9); first | exact h9 | omega
            have rg56 := hp51.1
            clear hp51 hw47
            refine u_iast F 72 0 xc_72 rfl x52_1.toInt rfl (by omega) (by omega) (xW K a (gu_up G48 72 (x52_1.toInt).toNat r46)) (xs_72 _) dX2_addOffer_118 ?_
            refine g_locals [(0, .ref (a 9)), (1, .int x52_1)] [2, 3] rfl ?_
            exact J_119 (gu_up G48 72 (x52_1.toInt).toNat r46) (by have h9 := ti_rng x52_1; omega) (gu_I.up (j := 72) (k := (x52_1.toInt).toNat) (v := r46) hI49 (ti_rng _).1 (ti_rng _).2) (gu_un.up (j := 72) (k := (x52_1.toInt).toNat) (v := r46) (gu_un.tr gu_un.rf (gu_un.su hU50 rfl)) (show (7200 : Nat) ∈ ([608, 613, 614, 615, 616, 617, 618, 619, 620, 2100, 2400, 2700, 4400, 4500, 4600, 4700, 4800, 7000, 7100, 7200, 7300, 7400, 7500, 7600, 7700, 7800, 7900] : List Nat) by decide)) (by have e9_9_4 : (gu_up G48 72 (x52_1.toInt).toNat r46) 9 4 = (G 9 4) := (hU50 9 4 (by decide)).trans (jU52 9 4 (by decide)); (try simp only [e9_9_4, true_and, and_true]) <;> (first | omega | (simp only [Int32.reduceToInt, true_and, and_true, ne_eq, not_true_eq_false, false_and, or_false, false_or, true_or, or_true, false_implies] <;> omega)))
          · refine g_aald (b := a 73) F 69 1 xc_69 rfl (ti_in (show Int32.toInt (G 9 4) = 3 from c20) (by decide) (by decide)) (by rw [show Int32.toNatClampNeg (G 9 4) = 3 from congrArg Int.toNat (show Int32.toInt (G 9 4) = 3 from c20)]; rfl) dX2_addOffer_102 ?_
            refine g_iload_n F 3 dX2_addOffer_103 rfl rfl ?_
            refine g_aload_n F 2 dX2_addOffer_104 rfl rfl ?_
            refine xg_9_1 F i_X2 w_4 dX2_addOffer_105 ?_
            refine g_aload_n F 2 dX2_addOffer_108 rfl rfl ?_
            refine xg_9_2 F i_X2 w_5 dX2_addOffer_109 ?_
            refine g_iconst F 0 dX2_addOffer_112 (by decide) ?_
            refine g_iload_n F 1 dX2_addOffer_113 rfl rfl ?_
            refine g_iload_n F 0 dX2_addOffer_114 rfl rfl ?_
            have b57 : (1 : Int) ≤ (G 18 1).toInt ∧ (G 18 1).toInt ≤ 6 := hI 18 1
            refine u_callVi (k := 0) (n := 0) (b := a 6) (As := [.ref (a 68), .int 0, .int y14, .int y17]) (st := [.int x52_1, .ref (a 73)]) F (fun sz => S_X5_run_68 l D K a Gj52 0 0 y14 y14.toInt y17 y17.toInt rfl (by decide) rfl (by omega) rfl (by omega) (by have e9_6_1 : Gj52 6 1 = (G 6 1) := jU52 6 1 (by decide); have e9_6_2 : Gj52 6 2 = (G 6 2) := jU52 6 2 (by decide); have e9_6_3 : Gj52 6 3 = (G 6 3) := jU52 6 3 (by decide); have e9_6_4 : Gj52 6 4 = (G 6 4) := jU52 6 4 (by decide); have e9_18_1 : Gj52 18 1 = (G 18 1) := jU52 18 1 (by decide); (try simp only [e9_6_1, e9_6_2, e9_6_3, e9_6_4, e9_18_1, true_and, and_true]) <;> (first | omega | (simp only [Int32.reduceToInt, true_and, and_true, ne_eq, not_true_eq_false, false_and, or_false, false_or, true_or, or_true, false_implies] <;> omega))) jI52 sz) (cwV 4 hts gX2_addOffer_X5_run rfl rfl rfl (by decide +kernel) ⟨Nat.le_of_ble_eq_true rfl, Nat.le_of_ble_eq_true rfl⟩) rfl 6 xc_6 rfl (Nat.le_of_ble_eq_true rfl) ⟨Nat.zero_le _, Nat.zero_le _⟩ dX2_addOffer_115 (fun r58 G60 hw59 => ?_)
            have hI61 : xI G60 := hw59.1
            have hU62 : gu_un xcd [608, 613, 614, 615, 616, 617, 618, 619, 620, 2100, 2400, 2700, 4400, 4500, 4600, 4700, 4800] Gj52 G60 := hw59.2.1
            have hp63 := hw59.2.2
            have q64 : (r58.toInt = -4 ∨ (0 ≤ r58.toInt ∧ r58.toInt ≤ 2)) := hp63.2.1
            have q65 : ((xTok Gj52 ∧ r58.toInt ≠ -4) → xOut Gj52 (Gj52 68) 0 y14 y17 G60 r58.toInt) := hp63.2.2.1
            have b66 : (4 : Int) ≤ (G 18 0).toInt ∧ (G 18 0).toInt ≤ 16 := hI 18 0
            have q67 : ((r58.toInt = -4 ∧ psMx (psHr (G 68) (G 6 1).toInt (G 18 0).toInt) ((G 18 0).toInt - 1).toNat - (G 6 3).toInt * (G 6 4).toInt < 1) ∨ (r58.toInt ≠ -4 ∧ 1 ≤ psMx (psHr (G 68) (G 6 1).toInt (G 18 0).toInt) ((G 18 0).toInt - 1).toNat - (G 6 3).toInt * (G 6 4).toInt)) := by have h9 := hp63.2.2.2; (try simp only [(show Gj52 6 1 = (G 6 1) from jU52 6 1 (by decide)), (show Gj52 18 0 = (G 18 0) from jU52 18 0 (by decide)), (show Gj52 18 0 = (G 18 0) from jU52 18 0 (by decide)), (show Gj52 6 3 = (G 6 3) from jU52 6 3 (by decide)), (show Gj52 6 4 = (G 6 4) from jU52 6 4 (by decide)), (show Gj52 6 1 = (G 6 1) from jU52 6 1 (by decide)), (show Gj52 18 0 = (G 18 0) from jU52 18 0 (by decide)), (show Gj52 18 0 = (G 18 0) from jU52 18 0 (by decide)), (show Gj52 6 3 = (G 6 3) from jU52 6 3 (by decide)), (show Gj52 6 4 = (G 6 4) from jU52 6 4 (by decide)), (show Gj52 68 = (G 68) from (show Gj52 68 = G 68 from funext fun k_ => jU52 68 k_ (show (6800 : Nat) ∉ ([608, 613, 614, 615, 616, 617, 618, 619, 620, 2100, 2400, 2700, 4400, 4500, 4600, 4700, 4800, 7000, 7100, 7200, 7300, 7400, 7500, 7600, 7700, 7800, 7900] : List Nat) by decide))), (show Gj52 68 = (G 68) from (show Gj52 68 = G 68 from funext fun k_ => jU52 68 k_ (show (6800 : Nat) ∉ ([608, 613, 614, 615, 616, 617, 618, 619, 620, 2100, 2400, 2700, 4400, 4500, 4600, 4700, 4800, 7000, 7100, 7200, 7300, 7400, 7500, 7600, 7700, 7800, 7900] : List Nat) by decide)))] at h9); first | exact h9 | omega
            have rg68 := hp63.1
            clear hp63 hw59
            refine u_iast F 73 0 xc_73 rfl x52_1.toInt rfl (by omega) (by omega) (xW K a (gu_up G60 73 (x52_1.toInt).toNat r58)) (xs_73 _) dX2_addOffer_118 ?_
            refine g_locals [(0, .ref (a 9)), (1, .int x52_1)] [2, 3] rfl ?_
            exact J_119 (gu_up G60 73 (x52_1.toInt).toNat r58) (by have h9 := ti_rng x52_1; omega) (gu_I.up (j := 73) (k := (x52_1.toInt).toNat) (v := r58) hI61 (ti_rng _).1 (ti_rng _).2) (gu_un.up (j := 73) (k := (x52_1.toInt).toNat) (v := r58) (gu_un.tr gu_un.rf (gu_un.su hU62 rfl)) (show (7300 : Nat) ∈ ([608, 613, 614, 615, 616, 617, 618, 619, 620, 2100, 2400, 2700, 4400, 4500, 4600, 4700, 4800, 7000, 7100, 7200, 7300, 7400, 7500, 7600, 7700, 7800, 7900] : List Nat) by decide)) (by have e9_9_4 : (gu_up G60 73 (x52_1.toInt).toNat r58) 9 4 = (G 9 4) := (hU62 9 4 (by decide)).trans (jU52 9 4 (by decide)); (try simp only [e9_9_4, true_and, and_true]) <;> (first | omega | (simp only [Int32.reduceToInt, true_and, and_true, ne_eq, not_true_eq_false, false_and, or_false, false_or, true_or, or_true, false_implies] <;> omega)))
          · refine g_aald (b := a 74) F 69 1 xc_69 rfl (ti_in (show Int32.toInt (G 9 4) = 4 from c20) (by decide) (by decide)) (by rw [show Int32.toNatClampNeg (G 9 4) = 4 from congrArg Int.toNat (show Int32.toInt (G 9 4) = 4 from c20)]; rfl) dX2_addOffer_102 ?_
            refine g_iload_n F 3 dX2_addOffer_103 rfl rfl ?_
            refine g_aload_n F 2 dX2_addOffer_104 rfl rfl ?_
            refine xg_9_1 F i_X2 w_4 dX2_addOffer_105 ?_
            refine g_aload_n F 2 dX2_addOffer_108 rfl rfl ?_
            refine xg_9_2 F i_X2 w_5 dX2_addOffer_109 ?_
            refine g_iconst F 0 dX2_addOffer_112 (by decide) ?_
            refine g_iload_n F 1 dX2_addOffer_113 rfl rfl ?_
            refine g_iload_n F 0 dX2_addOffer_114 rfl rfl ?_
            have b69 : (1 : Int) ≤ (G 18 1).toInt ∧ (G 18 1).toInt ≤ 6 := hI 18 1
            refine u_callVi (k := 0) (n := 0) (b := a 6) (As := [.ref (a 68), .int 0, .int y14, .int y17]) (st := [.int x52_1, .ref (a 74)]) F (fun sz => S_X5_run_68 l D K a Gj52 0 0 y14 y14.toInt y17 y17.toInt rfl (by decide) rfl (by omega) rfl (by omega) (by have e9_6_1 : Gj52 6 1 = (G 6 1) := jU52 6 1 (by decide); have e9_6_2 : Gj52 6 2 = (G 6 2) := jU52 6 2 (by decide); have e9_6_3 : Gj52 6 3 = (G 6 3) := jU52 6 3 (by decide); have e9_6_4 : Gj52 6 4 = (G 6 4) := jU52 6 4 (by decide); have e9_18_1 : Gj52 18 1 = (G 18 1) := jU52 18 1 (by decide); (try simp only [e9_6_1, e9_6_2, e9_6_3, e9_6_4, e9_18_1, true_and, and_true]) <;> (first | omega | (simp only [Int32.reduceToInt, true_and, and_true, ne_eq, not_true_eq_false, false_and, or_false, false_or, true_or, or_true, false_implies] <;> omega))) jI52 sz) (cwV 4 hts gX2_addOffer_X5_run rfl rfl rfl (by decide +kernel) ⟨Nat.le_of_ble_eq_true rfl, Nat.le_of_ble_eq_true rfl⟩) rfl 6 xc_6 rfl (Nat.le_of_ble_eq_true rfl) ⟨Nat.zero_le _, Nat.zero_le _⟩ dX2_addOffer_115 (fun r70 G72 hw71 => ?_)
            have hI73 : xI G72 := hw71.1
            have hU74 : gu_un xcd [608, 613, 614, 615, 616, 617, 618, 619, 620, 2100, 2400, 2700, 4400, 4500, 4600, 4700, 4800] Gj52 G72 := hw71.2.1
            have hp75 := hw71.2.2
            have q76 : (r70.toInt = -4 ∨ (0 ≤ r70.toInt ∧ r70.toInt ≤ 2)) := hp75.2.1
            have q77 : ((xTok Gj52 ∧ r70.toInt ≠ -4) → xOut Gj52 (Gj52 68) 0 y14 y17 G72 r70.toInt) := hp75.2.2.1
            have b78 : (4 : Int) ≤ (G 18 0).toInt ∧ (G 18 0).toInt ≤ 16 := hI 18 0
            have q79 : ((r70.toInt = -4 ∧ psMx (psHr (G 68) (G 6 1).toInt (G 18 0).toInt) ((G 18 0).toInt - 1).toNat - (G 6 3).toInt * (G 6 4).toInt < 1) ∨ (r70.toInt ≠ -4 ∧ 1 ≤ psMx (psHr (G 68) (G 6 1).toInt (G 18 0).toInt) ((G 18 0).toInt - 1).toNat - (G 6 3).toInt * (G 6 4).toInt)) := by have h9 := hp75.2.2.2; (try simp only [(show Gj52 6 1 = (G 6 1) from jU52 6 1 (by decide)), (show Gj52 18 0 = (G 18 0) from jU52 18 0 (by decide)), (show Gj52 18 0 = (G 18 0) from jU52 18 0 (by decide)), (show Gj52 6 3 = (G 6 3) from jU52 6 3 (by decide)), (show Gj52 6 4 = (G 6 4) from jU52 6 4 (by decide)), (show Gj52 6 1 = (G 6 1) from jU52 6 1 (by decide)), (show Gj52 18 0 = (G 18 0) from jU52 18 0 (by decide)), (show Gj52 18 0 = (G 18 0) from jU52 18 0 (by decide)), (show Gj52 6 3 = (G 6 3) from jU52 6 3 (by decide)), (show Gj52 6 4 = (G 6 4) from jU52 6 4 (by decide)), (show Gj52 68 = (G 68) from (show Gj52 68 = G 68 from funext fun k_ => jU52 68 k_ (show (6800 : Nat) ∉ ([608, 613, 614, 615, 616, 617, 618, 619, 620, 2100, 2400, 2700, 4400, 4500, 4600, 4700, 4800, 7000, 7100, 7200, 7300, 7400, 7500, 7600, 7700, 7800, 7900] : List Nat) by decide))), (show Gj52 68 = (G 68) from (show Gj52 68 = G 68 from funext fun k_ => jU52 68 k_ (show (6800 : Nat) ∉ ([608, 613, 614, 615, 616, 617, 618, 619, 620, 2100, 2400, 2700, 4400, 4500, 4600, 4700, 4800, 7000, 7100, 7200, 7300, 7400, 7500, 7600, 7700, 7800, 7900] : List Nat) by decide)))] at h9); first | exact h9 | omega
            have rg80 := hp75.1
            clear hp75 hw71
            refine u_iast F 74 0 xc_74 rfl x52_1.toInt rfl (by omega) (by omega) (xW K a (gu_up G72 74 (x52_1.toInt).toNat r70)) (xs_74 _) dX2_addOffer_118 ?_
            refine g_locals [(0, .ref (a 9)), (1, .int x52_1)] [2, 3] rfl ?_
            exact J_119 (gu_up G72 74 (x52_1.toInt).toNat r70) (by have h9 := ti_rng x52_1; omega) (gu_I.up (j := 74) (k := (x52_1.toInt).toNat) (v := r70) hI73 (ti_rng _).1 (ti_rng _).2) (gu_un.up (j := 74) (k := (x52_1.toInt).toNat) (v := r70) (gu_un.tr gu_un.rf (gu_un.su hU74 rfl)) (show (7400 : Nat) ∈ ([608, 613, 614, 615, 616, 617, 618, 619, 620, 2100, 2400, 2700, 4400, 4500, 4600, 4700, 4800, 7000, 7100, 7200, 7300, 7400, 7500, 7600, 7700, 7800, 7900] : List Nat) by decide)) (by have e9_9_4 : (gu_up G72 74 (x52_1.toInt).toNat r70) 9 4 = (G 9 4) := (hU74 9 4 (by decide)).trans (jU52 9 4 (by decide)); (try simp only [e9_9_4, true_and, and_true]) <;> (first | omega | (simp only [Int32.reduceToInt, true_and, and_true, ne_eq, not_true_eq_false, false_and, or_false, false_or, true_or, or_true, false_implies] <;> omega)))
          · refine g_aald (b := a 75) F 69 1 xc_69 rfl (ti_in (show Int32.toInt (G 9 4) = 5 from c20) (by decide) (by decide)) (by rw [show Int32.toNatClampNeg (G 9 4) = 5 from congrArg Int.toNat (show Int32.toInt (G 9 4) = 5 from c20)]; rfl) dX2_addOffer_102 ?_
            refine g_iload_n F 3 dX2_addOffer_103 rfl rfl ?_
            refine g_aload_n F 2 dX2_addOffer_104 rfl rfl ?_
            refine xg_9_1 F i_X2 w_4 dX2_addOffer_105 ?_
            refine g_aload_n F 2 dX2_addOffer_108 rfl rfl ?_
            refine xg_9_2 F i_X2 w_5 dX2_addOffer_109 ?_
            refine g_iconst F 0 dX2_addOffer_112 (by decide) ?_
            refine g_iload_n F 1 dX2_addOffer_113 rfl rfl ?_
            refine g_iload_n F 0 dX2_addOffer_114 rfl rfl ?_
            have b81 : (1 : Int) ≤ (G 18 1).toInt ∧ (G 18 1).toInt ≤ 6 := hI 18 1
            refine u_callVi (k := 0) (n := 0) (b := a 6) (As := [.ref (a 68), .int 0, .int y14, .int y17]) (st := [.int x52_1, .ref (a 75)]) F (fun sz => S_X5_run_68 l D K a Gj52 0 0 y14 y14.toInt y17 y17.toInt rfl (by decide) rfl (by omega) rfl (by omega) (by have e9_6_1 : Gj52 6 1 = (G 6 1) := jU52 6 1 (by decide); have e9_6_2 : Gj52 6 2 = (G 6 2) := jU52 6 2 (by decide); have e9_6_3 : Gj52 6 3 = (G 6 3) := jU52 6 3 (by decide); have e9_6_4 : Gj52 6 4 = (G 6 4) := jU52 6 4 (by decide); have e9_18_1 : Gj52 18 1 = (G 18 1) := jU52 18 1 (by decide); (try simp only [e9_6_1, e9_6_2, e9_6_3, e9_6_4, e9_18_1, true_and, and_true]) <;> (first | omega | (simp only [Int32.reduceToInt, true_and, and_true, ne_eq, not_true_eq_false, false_and, or_false, false_or, true_or, or_true, false_implies] <;> omega))) jI52 sz) (cwV 4 hts gX2_addOffer_X5_run rfl rfl rfl (by decide +kernel) ⟨Nat.le_of_ble_eq_true rfl, Nat.le_of_ble_eq_true rfl⟩) rfl 6 xc_6 rfl (Nat.le_of_ble_eq_true rfl) ⟨Nat.zero_le _, Nat.zero_le _⟩ dX2_addOffer_115 (fun r82 G84 hw83 => ?_)
            have hI85 : xI G84 := hw83.1
            have hU86 : gu_un xcd [608, 613, 614, 615, 616, 617, 618, 619, 620, 2100, 2400, 2700, 4400, 4500, 4600, 4700, 4800] Gj52 G84 := hw83.2.1
            have hp87 := hw83.2.2
            have q88 : (r82.toInt = -4 ∨ (0 ≤ r82.toInt ∧ r82.toInt ≤ 2)) := hp87.2.1
            have q89 : ((xTok Gj52 ∧ r82.toInt ≠ -4) → xOut Gj52 (Gj52 68) 0 y14 y17 G84 r82.toInt) := hp87.2.2.1
            have b90 : (4 : Int) ≤ (G 18 0).toInt ∧ (G 18 0).toInt ≤ 16 := hI 18 0
            have q91 : ((r82.toInt = -4 ∧ psMx (psHr (G 68) (G 6 1).toInt (G 18 0).toInt) ((G 18 0).toInt - 1).toNat - (G 6 3).toInt * (G 6 4).toInt < 1) ∨ (r82.toInt ≠ -4 ∧ 1 ≤ psMx (psHr (G 68) (G 6 1).toInt (G 18 0).toInt) ((G 18 0).toInt - 1).toNat - (G 6 3).toInt * (G 6 4).toInt)) := by have h9 := hp87.2.2.2; (try simp only [(show Gj52 6 1 = (G 6 1) from jU52 6 1 (by decide)), (show Gj52 18 0 = (G 18 0) from jU52 18 0 (by decide)), (show Gj52 18 0 = (G 18 0) from jU52 18 0 (by decide)), (show Gj52 6 3 = (G 6 3) from jU52 6 3 (by decide)), (show Gj52 6 4 = (G 6 4) from jU52 6 4 (by decide)), (show Gj52 6 1 = (G 6 1) from jU52 6 1 (by decide)), (show Gj52 18 0 = (G 18 0) from jU52 18 0 (by decide)), (show Gj52 18 0 = (G 18 0) from jU52 18 0 (by decide)), (show Gj52 6 3 = (G 6 3) from jU52 6 3 (by decide)), (show Gj52 6 4 = (G 6 4) from jU52 6 4 (by decide)), (show Gj52 68 = (G 68) from (show Gj52 68 = G 68 from funext fun k_ => jU52 68 k_ (show (6800 : Nat) ∉ ([608, 613, 614, 615, 616, 617, 618, 619, 620, 2100, 2400, 2700, 4400, 4500, 4600, 4700, 4800, 7000, 7100, 7200, 7300, 7400, 7500, 7600, 7700, 7800, 7900] : List Nat) by decide))), (show Gj52 68 = (G 68) from (show Gj52 68 = G 68 from funext fun k_ => jU52 68 k_ (show (6800 : Nat) ∉ ([608, 613, 614, 615, 616, 617, 618, 619, 620, 2100, 2400, 2700, 4400, 4500, 4600, 4700, 4800, 7000, 7100, 7200, 7300, 7400, 7500, 7600, 7700, 7800, 7900] : List Nat) by decide)))] at h9); first | exact h9 | omega
            have rg92 := hp87.1
            clear hp87 hw83
            refine u_iast F 75 0 xc_75 rfl x52_1.toInt rfl (by omega) (by omega) (xW K a (gu_up G84 75 (x52_1.toInt).toNat r82)) (xs_75 _) dX2_addOffer_118 ?_
            refine g_locals [(0, .ref (a 9)), (1, .int x52_1)] [2, 3] rfl ?_
            exact J_119 (gu_up G84 75 (x52_1.toInt).toNat r82) (by have h9 := ti_rng x52_1; omega) (gu_I.up (j := 75) (k := (x52_1.toInt).toNat) (v := r82) hI85 (ti_rng _).1 (ti_rng _).2) (gu_un.up (j := 75) (k := (x52_1.toInt).toNat) (v := r82) (gu_un.tr gu_un.rf (gu_un.su hU86 rfl)) (show (7500 : Nat) ∈ ([608, 613, 614, 615, 616, 617, 618, 619, 620, 2100, 2400, 2700, 4400, 4500, 4600, 4700, 4800, 7000, 7100, 7200, 7300, 7400, 7500, 7600, 7700, 7800, 7900] : List Nat) by decide)) (by have e9_9_4 : (gu_up G84 75 (x52_1.toInt).toNat r82) 9 4 = (G 9 4) := (hU86 9 4 (by decide)).trans (jU52 9 4 (by decide)); (try simp only [e9_9_4, true_and, and_true]) <;> (first | omega | (simp only [Int32.reduceToInt, true_and, and_true, ne_eq, not_true_eq_false, false_and, or_false, false_or, true_or, or_true, false_implies] <;> omega)))
          · refine g_aald (b := a 76) F 69 1 xc_69 rfl (ti_in (show Int32.toInt (G 9 4) = 6 from c20) (by decide) (by decide)) (by rw [show Int32.toNatClampNeg (G 9 4) = 6 from congrArg Int.toNat (show Int32.toInt (G 9 4) = 6 from c20)]; rfl) dX2_addOffer_102 ?_
            refine g_iload_n F 3 dX2_addOffer_103 rfl rfl ?_
            refine g_aload_n F 2 dX2_addOffer_104 rfl rfl ?_
            refine xg_9_1 F i_X2 w_4 dX2_addOffer_105 ?_
            refine g_aload_n F 2 dX2_addOffer_108 rfl rfl ?_
            refine xg_9_2 F i_X2 w_5 dX2_addOffer_109 ?_
            refine g_iconst F 0 dX2_addOffer_112 (by decide) ?_
            refine g_iload_n F 1 dX2_addOffer_113 rfl rfl ?_
            refine g_iload_n F 0 dX2_addOffer_114 rfl rfl ?_
            have b93 : (1 : Int) ≤ (G 18 1).toInt ∧ (G 18 1).toInt ≤ 6 := hI 18 1
            refine u_callVi (k := 0) (n := 0) (b := a 6) (As := [.ref (a 68), .int 0, .int y14, .int y17]) (st := [.int x52_1, .ref (a 76)]) F (fun sz => S_X5_run_68 l D K a Gj52 0 0 y14 y14.toInt y17 y17.toInt rfl (by decide) rfl (by omega) rfl (by omega) (by have e9_6_1 : Gj52 6 1 = (G 6 1) := jU52 6 1 (by decide); have e9_6_2 : Gj52 6 2 = (G 6 2) := jU52 6 2 (by decide); have e9_6_3 : Gj52 6 3 = (G 6 3) := jU52 6 3 (by decide); have e9_6_4 : Gj52 6 4 = (G 6 4) := jU52 6 4 (by decide); have e9_18_1 : Gj52 18 1 = (G 18 1) := jU52 18 1 (by decide); (try simp only [e9_6_1, e9_6_2, e9_6_3, e9_6_4, e9_18_1, true_and, and_true]) <;> (first | omega | (simp only [Int32.reduceToInt, true_and, and_true, ne_eq, not_true_eq_false, false_and, or_false, false_or, true_or, or_true, false_implies] <;> omega))) jI52 sz) (cwV 4 hts gX2_addOffer_X5_run rfl rfl rfl (by decide +kernel) ⟨Nat.le_of_ble_eq_true rfl, Nat.le_of_ble_eq_true rfl⟩) rfl 6 xc_6 rfl (Nat.le_of_ble_eq_true rfl) ⟨Nat.zero_le _, Nat.zero_le _⟩ dX2_addOffer_115 (fun r94 G96 hw95 => ?_)
            have hI97 : xI G96 := hw95.1
            have hU98 : gu_un xcd [608, 613, 614, 615, 616, 617, 618, 619, 620, 2100, 2400, 2700, 4400, 4500, 4600, 4700, 4800] Gj52 G96 := hw95.2.1
            have hp99 := hw95.2.2
            have q100 : (r94.toInt = -4 ∨ (0 ≤ r94.toInt ∧ r94.toInt ≤ 2)) := hp99.2.1
            have q101 : ((xTok Gj52 ∧ r94.toInt ≠ -4) → xOut Gj52 (Gj52 68) 0 y14 y17 G96 r94.toInt) := hp99.2.2.1
            have b102 : (4 : Int) ≤ (G 18 0).toInt ∧ (G 18 0).toInt ≤ 16 := hI 18 0
            have q103 : ((r94.toInt = -4 ∧ psMx (psHr (G 68) (G 6 1).toInt (G 18 0).toInt) ((G 18 0).toInt - 1).toNat - (G 6 3).toInt * (G 6 4).toInt < 1) ∨ (r94.toInt ≠ -4 ∧ 1 ≤ psMx (psHr (G 68) (G 6 1).toInt (G 18 0).toInt) ((G 18 0).toInt - 1).toNat - (G 6 3).toInt * (G 6 4).toInt)) := by have h9 := hp99.2.2.2; (try simp only [(show Gj52 6 1 = (G 6 1) from jU52 6 1 (by decide)), (show Gj52 18 0 = (G 18 0) from jU52 18 0 (by decide)), (show Gj52 18 0 = (G 18 0) from jU52 18 0 (by decide)), (show Gj52 6 3 = (G 6 3) from jU52 6 3 (by decide)), (show Gj52 6 4 = (G 6 4) from jU52 6 4 (by decide)), (show Gj52 6 1 = (G 6 1) from jU52 6 1 (by decide)), (show Gj52 18 0 = (G 18 0) from jU52 18 0 (by decide)), (show Gj52 18 0 = (G 18 0) from jU52 18 0 (by decide)), (show Gj52 6 3 = (G 6 3) from jU52 6 3 (by decide)), (show Gj52 6 4 = (G 6 4) from jU52 6 4 (by decide)), (show Gj52 68 = (G 68) from (show Gj52 68 = G 68 from funext fun k_ => jU52 68 k_ (show (6800 : Nat) ∉ ([608, 613, 614, 615, 616, 617, 618, 619, 620, 2100, 2400, 2700, 4400, 4500, 4600, 4700, 4800, 7000, 7100, 7200, 7300, 7400, 7500, 7600, 7700, 7800, 7900] : List Nat) by decide))), (show Gj52 68 = (G 68) from (show Gj52 68 = G 68 from funext fun k_ => jU52 68 k_ (show (6800 : Nat) ∉ ([608, 613, 614, 615, 616, 617, 618, 619, 620, 2100, 2400, 2700, 4400, 4500, 4600, 4700, 4800, 7000, 7100, 7200, 7300, 7400, 7500, 7600, 7700, 7800, 7900] : List Nat) by decide)))] at h9); first | exact h9 | omega
            have rg104 := hp99.1
            clear hp99 hw95
            refine u_iast F 76 0 xc_76 rfl x52_1.toInt rfl (by omega) (by omega) (xW K a (gu_up G96 76 (x52_1.toInt).toNat r94)) (xs_76 _) dX2_addOffer_118 ?_
            refine g_locals [(0, .ref (a 9)), (1, .int x52_1)] [2, 3] rfl ?_
            exact J_119 (gu_up G96 76 (x52_1.toInt).toNat r94) (by have h9 := ti_rng x52_1; omega) (gu_I.up (j := 76) (k := (x52_1.toInt).toNat) (v := r94) hI97 (ti_rng _).1 (ti_rng _).2) (gu_un.up (j := 76) (k := (x52_1.toInt).toNat) (v := r94) (gu_un.tr gu_un.rf (gu_un.su hU98 rfl)) (show (7600 : Nat) ∈ ([608, 613, 614, 615, 616, 617, 618, 619, 620, 2100, 2400, 2700, 4400, 4500, 4600, 4700, 4800, 7000, 7100, 7200, 7300, 7400, 7500, 7600, 7700, 7800, 7900] : List Nat) by decide)) (by have e9_9_4 : (gu_up G96 76 (x52_1.toInt).toNat r94) 9 4 = (G 9 4) := (hU98 9 4 (by decide)).trans (jU52 9 4 (by decide)); (try simp only [e9_9_4, true_and, and_true]) <;> (first | omega | (simp only [Int32.reduceToInt, true_and, and_true, ne_eq, not_true_eq_false, false_and, or_false, false_or, true_or, or_true, false_implies] <;> omega)))
          · refine g_aald (b := a 77) F 69 1 xc_69 rfl (ti_in (show Int32.toInt (G 9 4) = 7 from c20) (by decide) (by decide)) (by rw [show Int32.toNatClampNeg (G 9 4) = 7 from congrArg Int.toNat (show Int32.toInt (G 9 4) = 7 from c20)]; rfl) dX2_addOffer_102 ?_
            refine g_iload_n F 3 dX2_addOffer_103 rfl rfl ?_
            refine g_aload_n F 2 dX2_addOffer_104 rfl rfl ?_
            refine xg_9_1 F i_X2 w_4 dX2_addOffer_105 ?_
            refine g_aload_n F 2 dX2_addOffer_108 rfl rfl ?_
            refine xg_9_2 F i_X2 w_5 dX2_addOffer_109 ?_
            refine g_iconst F 0 dX2_addOffer_112 (by decide) ?_
            refine g_iload_n F 1 dX2_addOffer_113 rfl rfl ?_
            refine g_iload_n F 0 dX2_addOffer_114 rfl rfl ?_
            have b105 : (1 : Int) ≤ (G 18 1).toInt ∧ (G 18 1).toInt ≤ 6 := hI 18 1
            refine u_callVi (k := 0) (n := 0) (b := a 6) (As := [.ref (a 68), .int 0, .int y14, .int y17]) (st := [.int x52_1, .ref (a 77)]) F (fun sz => S_X5_run_68 l D K a Gj52 0 0 y14 y14.toInt y17 y17.toInt rfl (by decide) rfl (by omega) rfl (by omega) (by have e9_6_1 : Gj52 6 1 = (G 6 1) := jU52 6 1 (by decide); have e9_6_2 : Gj52 6 2 = (G 6 2) := jU52 6 2 (by decide); have e9_6_3 : Gj52 6 3 = (G 6 3) := jU52 6 3 (by decide); have e9_6_4 : Gj52 6 4 = (G 6 4) := jU52 6 4 (by decide); have e9_18_1 : Gj52 18 1 = (G 18 1) := jU52 18 1 (by decide); (try simp only [e9_6_1, e9_6_2, e9_6_3, e9_6_4, e9_18_1, true_and, and_true]) <;> (first | omega | (simp only [Int32.reduceToInt, true_and, and_true, ne_eq, not_true_eq_false, false_and, or_false, false_or, true_or, or_true, false_implies] <;> omega))) jI52 sz) (cwV 4 hts gX2_addOffer_X5_run rfl rfl rfl (by decide +kernel) ⟨Nat.le_of_ble_eq_true rfl, Nat.le_of_ble_eq_true rfl⟩) rfl 6 xc_6 rfl (Nat.le_of_ble_eq_true rfl) ⟨Nat.zero_le _, Nat.zero_le _⟩ dX2_addOffer_115 (fun r106 G108 hw107 => ?_)
            have hI109 : xI G108 := hw107.1
            have hU110 : gu_un xcd [608, 613, 614, 615, 616, 617, 618, 619, 620, 2100, 2400, 2700, 4400, 4500, 4600, 4700, 4800] Gj52 G108 := hw107.2.1
            have hp111 := hw107.2.2
            have q112 : (r106.toInt = -4 ∨ (0 ≤ r106.toInt ∧ r106.toInt ≤ 2)) := hp111.2.1
            have q113 : ((xTok Gj52 ∧ r106.toInt ≠ -4) → xOut Gj52 (Gj52 68) 0 y14 y17 G108 r106.toInt) := hp111.2.2.1
            have b114 : (4 : Int) ≤ (G 18 0).toInt ∧ (G 18 0).toInt ≤ 16 := hI 18 0
            have q115 : ((r106.toInt = -4 ∧ psMx (psHr (G 68) (G 6 1).toInt (G 18 0).toInt) ((G 18 0).toInt - 1).toNat - (G 6 3).toInt * (G 6 4).toInt < 1) ∨ (r106.toInt ≠ -4 ∧ 1 ≤ psMx (psHr (G 68) (G 6 1).toInt (G 18 0).toInt) ((G 18 0).toInt - 1).toNat - (G 6 3).toInt * (G 6 4).toInt)) := by have h9 := hp111.2.2.2; (try simp only [(show Gj52 6 1 = (G 6 1) from jU52 6 1 (by decide)), (show Gj52 18 0 = (G 18 0) from jU52 18 0 (by decide)), (show Gj52 18 0 = (G 18 0) from jU52 18 0 (by decide)), (show Gj52 6 3 = (G 6 3) from jU52 6 3 (by decide)), (show Gj52 6 4 = (G 6 4) from jU52 6 4 (by decide)), (show Gj52 6 1 = (G 6 1) from jU52 6 1 (by decide)), (show Gj52 18 0 = (G 18 0) from jU52 18 0 (by decide)), (show Gj52 18 0 = (G 18 0) from jU52 18 0 (by decide)), (show Gj52 6 3 = (G 6 3) from jU52 6 3 (by decide)), (show Gj52 6 4 = (G 6 4) from jU52 6 4 (by decide)), (show Gj52 68 = (G 68) from (show Gj52 68 = G 68 from funext fun k_ => jU52 68 k_ (show (6800 : Nat) ∉ ([608, 613, 614, 615, 616, 617, 618, 619, 620, 2100, 2400, 2700, 4400, 4500, 4600, 4700, 4800, 7000, 7100, 7200, 7300, 7400, 7500, 7600, 7700, 7800, 7900] : List Nat) by decide))), (show Gj52 68 = (G 68) from (show Gj52 68 = G 68 from funext fun k_ => jU52 68 k_ (show (6800 : Nat) ∉ ([608, 613, 614, 615, 616, 617, 618, 619, 620, 2100, 2400, 2700, 4400, 4500, 4600, 4700, 4800, 7000, 7100, 7200, 7300, 7400, 7500, 7600, 7700, 7800, 7900] : List Nat) by decide)))] at h9); first | exact h9 | omega
            have rg116 := hp111.1
            clear hp111 hw107
            refine u_iast F 77 0 xc_77 rfl x52_1.toInt rfl (by omega) (by omega) (xW K a (gu_up G108 77 (x52_1.toInt).toNat r106)) (xs_77 _) dX2_addOffer_118 ?_
            refine g_locals [(0, .ref (a 9)), (1, .int x52_1)] [2, 3] rfl ?_
            exact J_119 (gu_up G108 77 (x52_1.toInt).toNat r106) (by have h9 := ti_rng x52_1; omega) (gu_I.up (j := 77) (k := (x52_1.toInt).toNat) (v := r106) hI109 (ti_rng _).1 (ti_rng _).2) (gu_un.up (j := 77) (k := (x52_1.toInt).toNat) (v := r106) (gu_un.tr gu_un.rf (gu_un.su hU110 rfl)) (show (7700 : Nat) ∈ ([608, 613, 614, 615, 616, 617, 618, 619, 620, 2100, 2400, 2700, 4400, 4500, 4600, 4700, 4800, 7000, 7100, 7200, 7300, 7400, 7500, 7600, 7700, 7800, 7900] : List Nat) by decide)) (by have e9_9_4 : (gu_up G108 77 (x52_1.toInt).toNat r106) 9 4 = (G 9 4) := (hU110 9 4 (by decide)).trans (jU52 9 4 (by decide)); (try simp only [e9_9_4, true_and, and_true]) <;> (first | omega | (simp only [Int32.reduceToInt, true_and, and_true, ne_eq, not_true_eq_false, false_and, or_false, false_or, true_or, or_true, false_implies] <;> omega)))
          · refine g_aald (b := a 78) F 69 1 xc_69 rfl (ti_in (show Int32.toInt (G 9 4) = 8 from c20) (by decide) (by decide)) (by rw [show Int32.toNatClampNeg (G 9 4) = 8 from congrArg Int.toNat (show Int32.toInt (G 9 4) = 8 from c20)]; rfl) dX2_addOffer_102 ?_
            refine g_iload_n F 3 dX2_addOffer_103 rfl rfl ?_
            refine g_aload_n F 2 dX2_addOffer_104 rfl rfl ?_
            refine xg_9_1 F i_X2 w_4 dX2_addOffer_105 ?_
            refine g_aload_n F 2 dX2_addOffer_108 rfl rfl ?_
            refine xg_9_2 F i_X2 w_5 dX2_addOffer_109 ?_
            refine g_iconst F 0 dX2_addOffer_112 (by decide) ?_
            refine g_iload_n F 1 dX2_addOffer_113 rfl rfl ?_
            refine g_iload_n F 0 dX2_addOffer_114 rfl rfl ?_
            have b117 : (1 : Int) ≤ (G 18 1).toInt ∧ (G 18 1).toInt ≤ 6 := hI 18 1
            refine u_callVi (k := 0) (n := 0) (b := a 6) (As := [.ref (a 68), .int 0, .int y14, .int y17]) (st := [.int x52_1, .ref (a 78)]) F (fun sz => S_X5_run_68 l D K a Gj52 0 0 y14 y14.toInt y17 y17.toInt rfl (by decide) rfl (by omega) rfl (by omega) (by have e9_6_1 : Gj52 6 1 = (G 6 1) := jU52 6 1 (by decide); have e9_6_2 : Gj52 6 2 = (G 6 2) := jU52 6 2 (by decide); have e9_6_3 : Gj52 6 3 = (G 6 3) := jU52 6 3 (by decide); have e9_6_4 : Gj52 6 4 = (G 6 4) := jU52 6 4 (by decide); have e9_18_1 : Gj52 18 1 = (G 18 1) := jU52 18 1 (by decide); (try simp only [e9_6_1, e9_6_2, e9_6_3, e9_6_4, e9_18_1, true_and, and_true]) <;> (first | omega | (simp only [Int32.reduceToInt, true_and, and_true, ne_eq, not_true_eq_false, false_and, or_false, false_or, true_or, or_true, false_implies] <;> omega))) jI52 sz) (cwV 4 hts gX2_addOffer_X5_run rfl rfl rfl (by decide +kernel) ⟨Nat.le_of_ble_eq_true rfl, Nat.le_of_ble_eq_true rfl⟩) rfl 6 xc_6 rfl (Nat.le_of_ble_eq_true rfl) ⟨Nat.zero_le _, Nat.zero_le _⟩ dX2_addOffer_115 (fun r118 G120 hw119 => ?_)
            have hI121 : xI G120 := hw119.1
            have hU122 : gu_un xcd [608, 613, 614, 615, 616, 617, 618, 619, 620, 2100, 2400, 2700, 4400, 4500, 4600, 4700, 4800] Gj52 G120 := hw119.2.1
            have hp123 := hw119.2.2
            have q124 : (r118.toInt = -4 ∨ (0 ≤ r118.toInt ∧ r118.toInt ≤ 2)) := hp123.2.1
            have q125 : ((xTok Gj52 ∧ r118.toInt ≠ -4) → xOut Gj52 (Gj52 68) 0 y14 y17 G120 r118.toInt) := hp123.2.2.1
            have b126 : (4 : Int) ≤ (G 18 0).toInt ∧ (G 18 0).toInt ≤ 16 := hI 18 0
            have q127 : ((r118.toInt = -4 ∧ psMx (psHr (G 68) (G 6 1).toInt (G 18 0).toInt) ((G 18 0).toInt - 1).toNat - (G 6 3).toInt * (G 6 4).toInt < 1) ∨ (r118.toInt ≠ -4 ∧ 1 ≤ psMx (psHr (G 68) (G 6 1).toInt (G 18 0).toInt) ((G 18 0).toInt - 1).toNat - (G 6 3).toInt * (G 6 4).toInt)) := by have h9 := hp123.2.2.2; (try simp only [(show Gj52 6 1 = (G 6 1) from jU52 6 1 (by decide)), (show Gj52 18 0 = (G 18 0) from jU52 18 0 (by decide)), (show Gj52 18 0 = (G 18 0) from jU52 18 0 (by decide)), (show Gj52 6 3 = (G 6 3) from jU52 6 3 (by decide)), (show Gj52 6 4 = (G 6 4) from jU52 6 4 (by decide)), (show Gj52 6 1 = (G 6 1) from jU52 6 1 (by decide)), (show Gj52 18 0 = (G 18 0) from jU52 18 0 (by decide)), (show Gj52 18 0 = (G 18 0) from jU52 18 0 (by decide)), (show Gj52 6 3 = (G 6 3) from jU52 6 3 (by decide)), (show Gj52 6 4 = (G 6 4) from jU52 6 4 (by decide)), (show Gj52 68 = (G 68) from (show Gj52 68 = G 68 from funext fun k_ => jU52 68 k_ (show (6800 : Nat) ∉ ([608, 613, 614, 615, 616, 617, 618, 619, 620, 2100, 2400, 2700, 4400, 4500, 4600, 4700, 4800, 7000, 7100, 7200, 7300, 7400, 7500, 7600, 7700, 7800, 7900] : List Nat) by decide))), (show Gj52 68 = (G 68) from (show Gj52 68 = G 68 from funext fun k_ => jU52 68 k_ (show (6800 : Nat) ∉ ([608, 613, 614, 615, 616, 617, 618, 619, 620, 2100, 2400, 2700, 4400, 4500, 4600, 4700, 4800, 7000, 7100, 7200, 7300, 7400, 7500, 7600, 7700, 7800, 7900] : List Nat) by decide)))] at h9); first | exact h9 | omega
            have rg128 := hp123.1
            clear hp123 hw119
            refine u_iast F 78 0 xc_78 rfl x52_1.toInt rfl (by omega) (by omega) (xW K a (gu_up G120 78 (x52_1.toInt).toNat r118)) (xs_78 _) dX2_addOffer_118 ?_
            refine g_locals [(0, .ref (a 9)), (1, .int x52_1)] [2, 3] rfl ?_
            exact J_119 (gu_up G120 78 (x52_1.toInt).toNat r118) (by have h9 := ti_rng x52_1; omega) (gu_I.up (j := 78) (k := (x52_1.toInt).toNat) (v := r118) hI121 (ti_rng _).1 (ti_rng _).2) (gu_un.up (j := 78) (k := (x52_1.toInt).toNat) (v := r118) (gu_un.tr gu_un.rf (gu_un.su hU122 rfl)) (show (7800 : Nat) ∈ ([608, 613, 614, 615, 616, 617, 618, 619, 620, 2100, 2400, 2700, 4400, 4500, 4600, 4700, 4800, 7000, 7100, 7200, 7300, 7400, 7500, 7600, 7700, 7800, 7900] : List Nat) by decide)) (by have e9_9_4 : (gu_up G120 78 (x52_1.toInt).toNat r118) 9 4 = (G 9 4) := (hU122 9 4 (by decide)).trans (jU52 9 4 (by decide)); (try simp only [e9_9_4, true_and, and_true]) <;> (first | omega | (simp only [Int32.reduceToInt, true_and, and_true, ne_eq, not_true_eq_false, false_and, or_false, false_or, true_or, or_true, false_implies] <;> omega)))
          · refine g_aald (b := a 79) F 69 1 xc_69 rfl (ti_in (show Int32.toInt (G 9 4) = 9 from c20) (by decide) (by decide)) (by rw [show Int32.toNatClampNeg (G 9 4) = 9 from congrArg Int.toNat (show Int32.toInt (G 9 4) = 9 from c20)]; rfl) dX2_addOffer_102 ?_
            refine g_iload_n F 3 dX2_addOffer_103 rfl rfl ?_
            refine g_aload_n F 2 dX2_addOffer_104 rfl rfl ?_
            refine xg_9_1 F i_X2 w_4 dX2_addOffer_105 ?_
            refine g_aload_n F 2 dX2_addOffer_108 rfl rfl ?_
            refine xg_9_2 F i_X2 w_5 dX2_addOffer_109 ?_
            refine g_iconst F 0 dX2_addOffer_112 (by decide) ?_
            refine g_iload_n F 1 dX2_addOffer_113 rfl rfl ?_
            refine g_iload_n F 0 dX2_addOffer_114 rfl rfl ?_
            have b129 : (1 : Int) ≤ (G 18 1).toInt ∧ (G 18 1).toInt ≤ 6 := hI 18 1
            refine u_callVi (k := 0) (n := 0) (b := a 6) (As := [.ref (a 68), .int 0, .int y14, .int y17]) (st := [.int x52_1, .ref (a 79)]) F (fun sz => S_X5_run_68 l D K a Gj52 0 0 y14 y14.toInt y17 y17.toInt rfl (by decide) rfl (by omega) rfl (by omega) (by have e9_6_1 : Gj52 6 1 = (G 6 1) := jU52 6 1 (by decide); have e9_6_2 : Gj52 6 2 = (G 6 2) := jU52 6 2 (by decide); have e9_6_3 : Gj52 6 3 = (G 6 3) := jU52 6 3 (by decide); have e9_6_4 : Gj52 6 4 = (G 6 4) := jU52 6 4 (by decide); have e9_18_1 : Gj52 18 1 = (G 18 1) := jU52 18 1 (by decide); (try simp only [e9_6_1, e9_6_2, e9_6_3, e9_6_4, e9_18_1, true_and, and_true]) <;> (first | omega | (simp only [Int32.reduceToInt, true_and, and_true, ne_eq, not_true_eq_false, false_and, or_false, false_or, true_or, or_true, false_implies] <;> omega))) jI52 sz) (cwV 4 hts gX2_addOffer_X5_run rfl rfl rfl (by decide +kernel) ⟨Nat.le_of_ble_eq_true rfl, Nat.le_of_ble_eq_true rfl⟩) rfl 6 xc_6 rfl (Nat.le_of_ble_eq_true rfl) ⟨Nat.zero_le _, Nat.zero_le _⟩ dX2_addOffer_115 (fun r130 G132 hw131 => ?_)
            have hI133 : xI G132 := hw131.1
            have hU134 : gu_un xcd [608, 613, 614, 615, 616, 617, 618, 619, 620, 2100, 2400, 2700, 4400, 4500, 4600, 4700, 4800] Gj52 G132 := hw131.2.1
            have hp135 := hw131.2.2
            have q136 : (r130.toInt = -4 ∨ (0 ≤ r130.toInt ∧ r130.toInt ≤ 2)) := hp135.2.1
            have q137 : ((xTok Gj52 ∧ r130.toInt ≠ -4) → xOut Gj52 (Gj52 68) 0 y14 y17 G132 r130.toInt) := hp135.2.2.1
            have b138 : (4 : Int) ≤ (G 18 0).toInt ∧ (G 18 0).toInt ≤ 16 := hI 18 0
            have q139 : ((r130.toInt = -4 ∧ psMx (psHr (G 68) (G 6 1).toInt (G 18 0).toInt) ((G 18 0).toInt - 1).toNat - (G 6 3).toInt * (G 6 4).toInt < 1) ∨ (r130.toInt ≠ -4 ∧ 1 ≤ psMx (psHr (G 68) (G 6 1).toInt (G 18 0).toInt) ((G 18 0).toInt - 1).toNat - (G 6 3).toInt * (G 6 4).toInt)) := by have h9 := hp135.2.2.2; (try simp only [(show Gj52 6 1 = (G 6 1) from jU52 6 1 (by decide)), (show Gj52 18 0 = (G 18 0) from jU52 18 0 (by decide)), (show Gj52 18 0 = (G 18 0) from jU52 18 0 (by decide)), (show Gj52 6 3 = (G 6 3) from jU52 6 3 (by decide)), (show Gj52 6 4 = (G 6 4) from jU52 6 4 (by decide)), (show Gj52 6 1 = (G 6 1) from jU52 6 1 (by decide)), (show Gj52 18 0 = (G 18 0) from jU52 18 0 (by decide)), (show Gj52 18 0 = (G 18 0) from jU52 18 0 (by decide)), (show Gj52 6 3 = (G 6 3) from jU52 6 3 (by decide)), (show Gj52 6 4 = (G 6 4) from jU52 6 4 (by decide)), (show Gj52 68 = (G 68) from (show Gj52 68 = G 68 from funext fun k_ => jU52 68 k_ (show (6800 : Nat) ∉ ([608, 613, 614, 615, 616, 617, 618, 619, 620, 2100, 2400, 2700, 4400, 4500, 4600, 4700, 4800, 7000, 7100, 7200, 7300, 7400, 7500, 7600, 7700, 7800, 7900] : List Nat) by decide))), (show Gj52 68 = (G 68) from (show Gj52 68 = G 68 from funext fun k_ => jU52 68 k_ (show (6800 : Nat) ∉ ([608, 613, 614, 615, 616, 617, 618, 619, 620, 2100, 2400, 2700, 4400, 4500, 4600, 4700, 4800, 7000, 7100, 7200, 7300, 7400, 7500, 7600, 7700, 7800, 7900] : List Nat) by decide)))] at h9); first | exact h9 | omega
            have rg140 := hp135.1
            clear hp135 hw131
            refine u_iast F 79 0 xc_79 rfl x52_1.toInt rfl (by omega) (by omega) (xW K a (gu_up G132 79 (x52_1.toInt).toNat r130)) (xs_79 _) dX2_addOffer_118 ?_
            refine g_locals [(0, .ref (a 9)), (1, .int x52_1)] [2, 3] rfl ?_
            exact J_119 (gu_up G132 79 (x52_1.toInt).toNat r130) (by have h9 := ti_rng x52_1; omega) (gu_I.up (j := 79) (k := (x52_1.toInt).toNat) (v := r130) hI133 (ti_rng _).1 (ti_rng _).2) (gu_un.up (j := 79) (k := (x52_1.toInt).toNat) (v := r130) (gu_un.tr gu_un.rf (gu_un.su hU134 rfl)) (show (7900 : Nat) ∈ ([608, 613, 614, 615, 616, 617, 618, 619, 620, 2100, 2400, 2700, 4400, 4500, 4600, 4700, 4800, 7000, 7100, 7200, 7300, 7400, 7500, 7600, 7700, 7800, 7900] : List Nat) by decide)) (by have e9_9_4 : (gu_up G132 79 (x52_1.toInt).toNat r130) 9 4 = (G 9 4) := (hU134 9 4 (by decide)).trans (jU52 9 4 (by decide)); (try simp only [e9_9_4, true_and, and_true]) <;> (first | omega | (simp only [Int32.reduceToInt, true_and, and_true, ne_eq, not_true_eq_false, false_and, or_false, false_or, true_or, or_true, false_implies] <;> omega)))
  refine g_aload_n F 0 dX2_addOffer_0 rfl rfl ?_
  refine xg_9_1 F i_X2 w_4 dX2_addOffer_1 ?_
  refine g_aload_n F 0 dX2_addOffer_4 rfl rfl ?_
  refine xg_9_2 F i_X2 w_5 dX2_addOffer_5 ?_
  refine g_iconst F 0 dX2_addOffer_8 (by decide) ?_
  refine g_aload_n F 0 dX2_addOffer_9 rfl rfl ?_
  refine xg_9_0 F i_X2 w_1 dX2_addOffer_10 ?_
  refine xg_2_0 F i_X7 w_2 dX2_addOffer_13 ?_
  refine g_iconst F 3 dX2_addOffer_16 (by decide) ?_
  refine u1_iald F 18 0 xc_18 rfl 3 rfl (by decide) (by decide) dX2_addOffer_17 (G 18 3) (rfl) ?_
  refine g_aload_n F 0 dX2_addOffer_18 rfl rfl ?_
  refine xg_9_0 F i_X2 w_1 dX2_addOffer_19 ?_
  refine xg_2_0 F i_X7 w_2 dX2_addOffer_22 ?_
  refine g_iconst F 5 dX2_addOffer_25 (by decide) ?_
  refine u1_iald F 18 0 xc_18 rfl 5 rfl (by decide) (by decide) dX2_addOffer_26 (G 18 5) (rfl) ?_
  have b141 : (0 : Int) ≤ (G 18 3).toInt ∧ (G 18 3).toInt ≤ 200 := hI 18 3
  have b142 : (0 : Int) ≤ (G 18 5).toInt ∧ (G 18 5).toInt ≤ 200 := hI 18 5
  have b143 : (1 : Int) ≤ (G 18 1).toInt ∧ (G 18 1).toInt ≤ 6 := hI 18 1
  refine u_callVi (k := 0) (n := 0) (b := a 6) (As := [.ref (a 68), .int 0, .int (G 18 3), .int (G 18 5)]) (st := []) F (fun sz => S_X5_run_68 l D K a G 0 0 (G 18 3) (G 18 3).toInt (G 18 5) (G 18 5).toInt rfl (by decide) rfl (by omega) rfl (by omega) (by (first | omega | (simp only [Int32.reduceToInt, true_and, and_true, ne_eq, not_true_eq_false, false_and, or_false, false_or, true_or, or_true, false_implies] <;> omega))) hI sz) (cwV 4 hts gX2_addOffer_X5_run rfl rfl rfl (by decide +kernel) ⟨Nat.le_of_ble_eq_true rfl, Nat.le_of_ble_eq_true rfl⟩) rfl 6 xc_6 rfl (Nat.le_of_ble_eq_true rfl) ⟨Nat.zero_le _, Nat.zero_le _⟩ dX2_addOffer_27 (fun r144 G146 hw145 => ?_)
  have hI147 : xI G146 := hw145.1
  have hU148 : gu_un xcd [608, 613, 614, 615, 616, 617, 618, 619, 620, 2100, 2400, 2700, 4400, 4500, 4600, 4700, 4800] G G146 := hw145.2.1
  have hp149 := hw145.2.2
  have q150 : (r144.toInt = -4 ∨ (0 ≤ r144.toInt ∧ r144.toInt ≤ 2)) := hp149.2.1
  have q151 : ((xTok G ∧ r144.toInt ≠ -4) → xOut G (G 68) 0 (G 18 3) (G 18 5) G146 r144.toInt) := hp149.2.2.1
  have b152 : (4 : Int) ≤ (G 18 0).toInt ∧ (G 18 0).toInt ≤ 16 := hI 18 0
  have q153 : ((r144.toInt = -4 ∧ psMx (psHr (G 68) (G 6 1).toInt (G 18 0).toInt) ((G 18 0).toInt - 1).toNat - (G 6 3).toInt * (G 6 4).toInt < 1) ∨ (r144.toInt ≠ -4 ∧ 1 ≤ psMx (psHr (G 68) (G 6 1).toInt (G 18 0).toInt) ((G 18 0).toInt - 1).toNat - (G 6 3).toInt * (G 6 4).toInt)) := hp149.2.2.2
  have rg154 := hp149.1
  clear hp149 hw145
  refine g_bipush F (-4) dX2_addOffer_30 (by decide) ?_
  refine v_icmp_ne F 38 dX2_addOffer_32 (by decide) r144.toInt (-4) rfl rfl (fun c155 => ?_) (fun c155 => ?_)
  · refine g_aload_n F 0 dX2_addOffer_38 rfl rfl ?_
    refine xg_9_4 F i_X2 w_0 dX2_addOffer_39 (G 9 4) (hU148 9 4 (by decide)) ?_
    refine g_bipush F 10 dX2_addOffer_42 (by decide) ?_
    have b156 : (0 : Int) ≤ (G 9 4).toInt ∧ (G 9 4).toInt ≤ 10 := hI 9 4
    refine v_icmp_lt F 50 dX2_addOffer_44 (by decide) (G 9 4).toInt 10 rfl rfl (fun c157 => ?_) (fun c157 => ?_)
    · refine g_iconst F 0 dX2_addOffer_50 (by decide) ?_
      refine g_istore_n F [(1, .int 0), (0, .ref (a 9))] dX2_addOffer_51 rfl (by decide) rfl ?_
      refine g_locals [(0, .ref (a 9)), (1, .int 0)] [1, 0] rfl ?_
      exact J_52 _ 0 G146 (Nat.lt_succ_self _) (by decide) hI147 (gu_un.tr gu_un.rf (gu_un.su hU148 rfl)) (by have e9_9_4 : G146 9 4 = (G 9 4) := hU148 9 4 (by decide); (try simp only [e9_9_4, true_and, and_true]) <;> (first | omega | (simp only [Int32.reduceToInt, true_and, and_true, ne_eq, not_true_eq_false, false_and, or_false, false_or, true_or, or_true, false_implies] <;> omega)))
    · refine g_bipush F (-3) dX2_addOffer_47 (by decide) ?_
      exact u_iret F hA hQ hr G146 (⟨hI147, (gu_un.tr gu_un.rf (gu_un.su hU148 rfl)), (by decide)⟩) rfl rfl dX2_addOffer_49
  · refine g_bipush F (-2) dX2_addOffer_35 (by decide) ?_
    exact u_iret F hA hQ hr G146 (⟨hI147, (gu_un.tr gu_un.rf (gu_un.su hU148 rfl)), (by decide)⟩) rfl rfl dX2_addOffer_37

theorem dX2_mayBeTold_0 : decode cX2_mayBeTold 0 = .ok (.iload_n 1, 1) := by decide +kernel
theorem dX2_mayBeTold_1 : decode cX2_mayBeTold 1 = .ok (.aload_n 0, 1) := by decide +kernel
theorem dX2_mayBeTold_2 : decode cX2_mayBeTold 2 = .ok (.getfield 50, 3) := by decide +kernel
theorem dX2_mayBeTold_5 : decode cX2_mayBeTold 5 = .ok (.if_icmp .lt 23, 3) := by decide +kernel
theorem dX2_mayBeTold_8 : decode cX2_mayBeTold 8 = .ok (.iload_n 1, 1) := by decide +kernel
theorem dX2_mayBeTold_9 : decode cX2_mayBeTold 9 = .ok (.sipush 999, 3) := by decide +kernel
theorem dX2_mayBeTold_12 : decode cX2_mayBeTold 12 = .ok (.if_icmp .gt 16, 3) := by decide +kernel
theorem dX2_mayBeTold_15 : decode cX2_mayBeTold 15 = .ok (.iload_n 2, 1) := by decide +kernel
theorem dX2_mayBeTold_16 : decode cX2_mayBeTold 16 = .ok (.ifCond .lt 12, 3) := by decide +kernel
theorem dX2_mayBeTold_19 : decode cX2_mayBeTold 19 = .ok (.iload_n 2, 1) := by decide +kernel
theorem dX2_mayBeTold_20 : decode cX2_mayBeTold 20 = .ok (.iconst 2, 1) := by decide +kernel
theorem dX2_mayBeTold_21 : decode cX2_mayBeTold 21 = .ok (.if_icmp .gt 7, 3) := by decide +kernel
theorem dX2_mayBeTold_24 : decode cX2_mayBeTold 24 = .ok (.iconst 1, 1) := by decide +kernel
theorem dX2_mayBeTold_25 : decode cX2_mayBeTold 25 = .ok (.goto 4, 3) := by decide +kernel
theorem dX2_mayBeTold_28 : decode cX2_mayBeTold 28 = .ok (.iconst 0, 1) := by decide +kernel
theorem dX2_mayBeTold_29 : decode cX2_mayBeTold 29 = .ok (.ireturn, 1) := by decide +kernel
set_option maxHeartbeats 4000000 in
set_option maxRecDepth 100000 in
theorem S_X2_mayBeTold (l : Launch) (D : va_G) (K : Nat → ClassId) (a : Nat → Nat) (G : gS) (p0 : Int32) (s0 : Int) (p1 : Int32) (s1 : Int) (e0 : p0.toInt = s0) (e1 : p1.toInt = s1) (hI : xI G) (sz : Nat) : Ki l yX2_mayBeTold wsX2_mayBeTold 1 40 0 0 D [.ref (a 9), .int p0, .int p1] (xW K a G) (tK K) sz (fun (r : Int32) (_ : Unit) => (0 ≤ r.toInt ∧ r.toInt ≤ 1)) (fun (_ : Unit) => (xW K a G)) (fun _ => (tK K)) := by
  unfold Ki
  refine g_ofW (cc := cX2_mayBeTold) (lv := [(0, .ref (a 9)), (1, .int p0), (2, .int p1)]) (by decide) rfl (Nat.le_of_ble_eq_true rfl) rfl ?_
  intro p e s m args below meth c A Q hA hQ F hr hnm
  have hts := F.2.2.2.2.1
  have w_0 : (Cond.fieldLink RX2 50 "QuietCut$Ear" "latestStep" "I").before args s = true := hts _ (List.mem_of_getElem? (i := 1) rfl)
  have i_X2 : ∀ w ∈ u_ws RX2 TX2 10, w ∈ wsX2_mayBeTold := fun _ h => List.mem_cons_of_mem _ (List.mem_append_right _ h)
  have rg0 : -2147483648 ≤ s0 ∧ s0 ≤ 2147483647 := e0 ▸ ti_rng p0
  have rg1 : -2147483648 ≤ s1 ∧ s1 ≤ 2147483647 := e1 ▸ ti_rng p1
  refine g_iload_n F 1 dX2_mayBeTold_0 rfl rfl ?_
  refine g_aload_n F 0 dX2_mayBeTold_1 rfl rfl ?_
  refine xg_9_9 F i_X2 w_0 dX2_mayBeTold_2 (G 9 9) (rfl) ?_
  have b1 := ti_rng (G 9 9)
  refine v_icmp_lt F 28 dX2_mayBeTold_5 (by decide) s0 (G 9 9).toInt e0 rfl (fun c2 => ?_) (fun c2 => ?_)
  · refine g_iconst F 0 dX2_mayBeTold_28 (by decide) ?_
    exact u_zret F hA hQ hr rfl () ((by decide)) rfl rfl dX2_mayBeTold_29
  · refine g_iload_n F 1 dX2_mayBeTold_8 rfl rfl ?_
    refine g_sipush F 999 dX2_mayBeTold_9 (by decide) ?_
    refine v_icmp_gt F 28 dX2_mayBeTold_12 (by decide) s0 999 e0 rfl (fun c3 => ?_) (fun c3 => ?_)
    · refine g_iconst F 0 dX2_mayBeTold_28 (by decide) ?_
      exact u_zret F hA hQ hr rfl () ((by decide)) rfl rfl dX2_mayBeTold_29
    · refine g_iload_n F 2 dX2_mayBeTold_15 rfl rfl ?_
      refine v_if_lt F 28 dX2_mayBeTold_16 (by decide) s1 e1 (fun c4 => ?_) (fun c4 => ?_)
      · refine g_iconst F 0 dX2_mayBeTold_28 (by decide) ?_
        exact u_zret F hA hQ hr rfl () ((by decide)) rfl rfl dX2_mayBeTold_29
      · refine g_iload_n F 2 dX2_mayBeTold_19 rfl rfl ?_
        refine g_iconst F 2 dX2_mayBeTold_20 (by decide) ?_
        refine v_icmp_gt F 28 dX2_mayBeTold_21 (by decide) s1 2 e1 rfl (fun c5 => ?_) (fun c5 => ?_)
        · refine g_iconst F 0 dX2_mayBeTold_28 (by decide) ?_
          exact u_zret F hA hQ hr rfl () ((by decide)) rfl rfl dX2_mayBeTold_29
        · refine g_iconst F 1 dX2_mayBeTold_24 (by decide) ?_
          refine g_goto F 29 dX2_mayBeTold_25 (by decide) ?_
          exact u_zret F hA hQ hr rfl () ((by decide)) rfl rfl dX2_mayBeTold_29

theorem dX2_addHeard_0 : decode cX2_addHeard 0 = .ok (.aload_n 0, 1) := by decide +kernel
theorem dX2_addHeard_1 : decode cX2_addHeard 1 = .ok (.iload_n 1, 1) := by decide +kernel
theorem dX2_addHeard_2 : decode cX2_addHeard 2 = .ok (.iload_n 3, 1) := by decide +kernel
theorem dX2_addHeard_3 : decode cX2_addHeard 3 = .ok (.invokevirtual 68, 3) := by decide +kernel
theorem dX2_addHeard_6 : decode cX2_addHeard 6 = .ok (.ifCond .eq 15, 3) := by decide +kernel
theorem dX2_addHeard_9 : decode cX2_addHeard 9 = .ok (.iload_n 2, 1) := by decide +kernel
theorem dX2_addHeard_10 : decode cX2_addHeard 10 = .ok (.ifCond .lt 11, 3) := by decide +kernel
theorem dX2_addHeard_13 : decode cX2_addHeard 13 = .ok (.iload_n 2, 1) := by decide +kernel
theorem dX2_addHeard_14 : decode cX2_addHeard 14 = .ok (.aload_n 0, 1) := by decide +kernel
theorem dX2_addHeard_15 : decode cX2_addHeard 15 = .ok (.getfield 40, 3) := by decide +kernel
theorem dX2_addHeard_18 : decode cX2_addHeard 18 = .ok (.if_icmp .lt 6, 3) := by decide +kernel
theorem dX2_addHeard_21 : decode cX2_addHeard 21 = .ok (.bipush (-2), 2) := by decide +kernel
theorem dX2_addHeard_23 : decode cX2_addHeard 23 = .ok (.ireturn, 1) := by decide +kernel
theorem dX2_addHeard_24 : decode cX2_addHeard 24 = .ok (.aload_n 0, 1) := by decide +kernel
theorem dX2_addHeard_25 : decode cX2_addHeard 25 = .ok (.getfield 44, 3) := by decide +kernel
theorem dX2_addHeard_28 : decode cX2_addHeard 28 = .ok (.bipush 30, 2) := by decide +kernel
theorem dX2_addHeard_30 : decode cX2_addHeard 30 = .ok (.if_icmp .lt 6, 3) := by decide +kernel
theorem dX2_addHeard_33 : decode cX2_addHeard 33 = .ok (.bipush (-3), 2) := by decide +kernel
theorem dX2_addHeard_35 : decode cX2_addHeard 35 = .ok (.ireturn, 1) := by decide +kernel
theorem dX2_addHeard_36 : decode cX2_addHeard 36 = .ok (.aload_n 0, 1) := by decide +kernel
theorem dX2_addHeard_37 : decode cX2_addHeard 37 = .ok (.getfield 20, 3) := by decide +kernel
theorem dX2_addHeard_40 : decode cX2_addHeard 40 = .ok (.iconst 0, 1) := by decide +kernel
theorem dX2_addHeard_41 : decode cX2_addHeard 41 = .ok (.aaload, 1) := by decide +kernel
theorem dX2_addHeard_42 : decode cX2_addHeard 42 = .ok (.aload_n 0, 1) := by decide +kernel
theorem dX2_addHeard_43 : decode cX2_addHeard 43 = .ok (.getfield 44, 3) := by decide +kernel
theorem dX2_addHeard_46 : decode cX2_addHeard 46 = .ok (.iload_n 1, 1) := by decide +kernel
theorem dX2_addHeard_47 : decode cX2_addHeard 47 = .ok (.iastore, 1) := by decide +kernel
theorem dX2_addHeard_48 : decode cX2_addHeard 48 = .ok (.aload_n 0, 1) := by decide +kernel
theorem dX2_addHeard_49 : decode cX2_addHeard 49 = .ok (.getfield 20, 3) := by decide +kernel
theorem dX2_addHeard_52 : decode cX2_addHeard 52 = .ok (.iconst 1, 1) := by decide +kernel
theorem dX2_addHeard_53 : decode cX2_addHeard 53 = .ok (.aaload, 1) := by decide +kernel
theorem dX2_addHeard_54 : decode cX2_addHeard 54 = .ok (.aload_n 0, 1) := by decide +kernel
theorem dX2_addHeard_55 : decode cX2_addHeard 55 = .ok (.getfield 44, 3) := by decide +kernel
theorem dX2_addHeard_58 : decode cX2_addHeard 58 = .ok (.iload_n 2, 1) := by decide +kernel
theorem dX2_addHeard_59 : decode cX2_addHeard 59 = .ok (.iastore, 1) := by decide +kernel
theorem dX2_addHeard_60 : decode cX2_addHeard 60 = .ok (.aload_n 0, 1) := by decide +kernel
theorem dX2_addHeard_61 : decode cX2_addHeard 61 = .ok (.getfield 20, 3) := by decide +kernel
theorem dX2_addHeard_64 : decode cX2_addHeard 64 = .ok (.iconst 2, 1) := by decide +kernel
theorem dX2_addHeard_65 : decode cX2_addHeard 65 = .ok (.aaload, 1) := by decide +kernel
theorem dX2_addHeard_66 : decode cX2_addHeard 66 = .ok (.aload_n 0, 1) := by decide +kernel
theorem dX2_addHeard_67 : decode cX2_addHeard 67 = .ok (.getfield 44, 3) := by decide +kernel
theorem dX2_addHeard_70 : decode cX2_addHeard 70 = .ok (.iload_n 3, 1) := by decide +kernel
theorem dX2_addHeard_71 : decode cX2_addHeard 71 = .ok (.iastore, 1) := by decide +kernel
theorem dX2_addHeard_72 : decode cX2_addHeard 72 = .ok (.aload_n 0, 1) := by decide +kernel
theorem dX2_addHeard_73 : decode cX2_addHeard 73 = .ok (.iload_n 1, 1) := by decide +kernel
theorem dX2_addHeard_74 : decode cX2_addHeard 74 = .ok (.putfield 50, 3) := by decide +kernel
theorem dX2_addHeard_77 : decode cX2_addHeard 77 = .ok (.aload_n 0, 1) := by decide +kernel
theorem dX2_addHeard_78 : decode cX2_addHeard 78 = .ok (.dup, 1) := by decide +kernel
theorem dX2_addHeard_79 : decode cX2_addHeard 79 = .ok (.getfield 44, 3) := by decide +kernel
theorem dX2_addHeard_82 : decode cX2_addHeard 82 = .ok (.iconst 1, 1) := by decide +kernel
theorem dX2_addHeard_83 : decode cX2_addHeard 83 = .ok (.iadd, 1) := by decide +kernel
theorem dX2_addHeard_84 : decode cX2_addHeard 84 = .ok (.putfield 44, 3) := by decide +kernel
theorem dX2_addHeard_87 : decode cX2_addHeard 87 = .ok (.aload_n 0, 1) := by decide +kernel
theorem dX2_addHeard_88 : decode cX2_addHeard 88 = .ok (.getfield 44, 3) := by decide +kernel
theorem dX2_addHeard_91 : decode cX2_addHeard 91 = .ok (.iconst 1, 1) := by decide +kernel
theorem dX2_addHeard_92 : decode cX2_addHeard 92 = .ok (.isub, 1) := by decide +kernel
theorem dX2_addHeard_93 : decode cX2_addHeard 93 = .ok (.ireturn, 1) := by decide +kernel
set_option maxRecDepth 20000 in
theorem ggX2_addHeard_X2_mayBeTold : GoodIn wsX2_addHeard wsX2_mayBeTold := goodIn_r _ [9, 4, 10, 11, 12, 13, 14, 15, 16, 17, 18, 19] rfl (by decide +kernel)
set_option maxRecDepth 20000 in
theorem gX2_addHeard_X2_mayBeTold : GoodIn wsX2_addHeard (wsV RX2 68 RX2 yX2_mayBeTold wsX2_mayBeTold) := goodIn_app (goodIn_of _ (by decide +kernel)) ggX2_addHeard_X2_mayBeTold
set_option maxHeartbeats 4000000 in
set_option maxRecDepth 100000 in
theorem S_X2_addHeard (l : Launch) (D : va_G) (K : Nat → ClassId) (a : Nat → Nat) (G : gS) (p0 : Int32) (s0 : Int) (p1 : Int32) (s1 : Int) (p2 : Int32) (s2 : Int) (e0 : p0.toInt = s0) (e1 : p1.toInt = s1) (e2 : p2.toInt = s2) (hI : xI G) (sz : Nat) : Ki l yX2_addHeard wsX2_addHeard 2 62 0 0 D [.ref (a 9), .int p0, .int p1, .int p2] (xW K a G) (tK K) sz (fun (r : Int32) (G' : gS) => (xI G') ∧ (gu_un xcd [907, 910, 8100, 8200, 8300] G G') ∧ ((-3) ≤ r.toInt ∧ r.toInt ≤ 29)) (fun (G' : gS) => (xW K a G')) (fun _ => (tK K)) := by
  unfold Ki
  refine g_ofW (cc := cX2_addHeard) (lv := [(0, .ref (a 9)), (1, .int p0), (2, .int p1), (3, .int p2)]) (by decide) rfl (Nat.le_of_ble_eq_true rfl) rfl ?_
  intro p e s m args below meth c A Q hA hQ F hr hnm
  have hts := F.2.2.2.2.1
  have w_0 : (Cond.fieldLink RX2 40 "QuietCut$Ear" "offers" "I").before args s = true := hts _ (List.mem_of_getElem? (i := 1) rfl)
  have i_X2 : ∀ w ∈ u_ws RX2 TX2 10, w ∈ wsX2_addHeard := fun _ h => List.mem_cons_of_mem _ (List.mem_append_right _ h)
  have w_1 : (Cond.fieldLink RX2 44 "QuietCut$Ear" "heards" "I").before args s = true := hts _ (List.mem_of_getElem? (i := 2) rfl)
  have w_2 : (Cond.fieldLink RX2 20 "QuietCut$Ear" "heardRows" "[[I").before args s = true := hts _ (List.mem_of_getElem? (i := 3) rfl)
  have w_3 : (Cond.fieldLink RX2 50 "QuietCut$Ear" "latestStep" "I").before args s = true := hts _ (List.mem_of_getElem? (i := 4) rfl)
  have rg0 : -2147483648 ≤ s0 ∧ s0 ≤ 2147483647 := e0 ▸ ti_rng p0
  have rg1 : -2147483648 ≤ s1 ∧ s1 ≤ 2147483647 := e1 ▸ ti_rng p1
  have rg2 : -2147483648 ≤ s2 ∧ s2 ≤ 2147483647 := e2 ▸ ti_rng p2
  refine g_aload_n F 0 dX2_addHeard_0 rfl rfl ?_
  refine g_iload_n F 1 dX2_addHeard_1 rfl rfl ?_
  refine g_iload_n F 3 dX2_addHeard_2 rfl rfl ?_
  refine u_callVi (k := 0) (n := 0) (b := a 9) (As := [.int p0, .int p2]) (st := []) F (fun sz => S_X2_mayBeTold l D K a G p0 s0 p2 s2 e0 e2 hI sz) (cwV 2 hts gX2_addHeard_X2_mayBeTold rfl rfl rfl (by decide +kernel) ⟨Nat.le_of_ble_eq_true rfl, Nat.le_of_ble_eq_true rfl⟩) rfl 9 xc_9 rfl (Nat.le_of_ble_eq_true rfl) ⟨Nat.zero_le _, Nat.zero_le _⟩ dX2_addHeard_3 (fun r1 _ hw2 => ?_)
  have rg4 := hw2
  clear hw2
  refine v_if_eq F 21 dX2_addHeard_6 (by decide) r1.toInt rfl (fun c5 => ?_) (fun c5 => ?_)
  · refine g_bipush F (-2) dX2_addHeard_21 (by decide) ?_
    exact u_iret F hA hQ hr G (⟨hI, gu_un.rf, (by decide)⟩) rfl rfl dX2_addHeard_23
  · refine g_iload_n F 2 dX2_addHeard_9 rfl rfl ?_
    refine v_if_lt F 21 dX2_addHeard_10 (by decide) s1 e1 (fun c6 => ?_) (fun c6 => ?_)
    · refine g_bipush F (-2) dX2_addHeard_21 (by decide) ?_
      exact u_iret F hA hQ hr G (⟨hI, gu_un.rf, (by decide)⟩) rfl rfl dX2_addHeard_23
    · refine g_iload_n F 2 dX2_addHeard_13 rfl rfl ?_
      refine g_aload_n F 0 dX2_addHeard_14 rfl rfl ?_
      refine xg_9_4 F i_X2 w_0 dX2_addHeard_15 (G 9 4) (rfl) ?_
      have b7 : (0 : Int) ≤ (G 9 4).toInt ∧ (G 9 4).toInt ≤ 10 := hI 9 4
      refine v_icmp_lt F 24 dX2_addHeard_18 (by decide) s1 (G 9 4).toInt e1 rfl (fun c8 => ?_) (fun c8 => ?_)
      · refine g_aload_n F 0 dX2_addHeard_24 rfl rfl ?_
        refine xg_9_6 F i_X2 w_1 dX2_addHeard_25 (G 9 6) (rfl) ?_
        refine g_bipush F 30 dX2_addHeard_28 (by decide) ?_
        have b9 : (0 : Int) ≤ (G 9 6).toInt ∧ (G 9 6).toInt ≤ 30 := hI 9 6
        refine v_icmp_lt F 36 dX2_addHeard_30 (by decide) (G 9 6).toInt 30 rfl rfl (fun c10 => ?_) (fun c10 => ?_)
        · refine g_aload_n F 0 dX2_addHeard_36 rfl rfl ?_
          refine xg_9_5 F i_X2 w_2 dX2_addHeard_37 ?_
          refine g_iconst F 0 dX2_addHeard_40 (by decide) ?_
          refine g_aald (b := a 81) F 80 1 xc_80 rfl (ti_in (show Int32.toInt 0 = 0 from rfl) (by decide) (by decide)) (by rw [show Int32.toNatClampNeg 0 = 0 from congrArg Int.toNat (show Int32.toInt 0 = 0 from rfl)]; rfl) dX2_addHeard_41 ?_
          refine g_aload_n F 0 dX2_addHeard_42 rfl rfl ?_
          refine xg_9_6 F i_X2 w_1 dX2_addHeard_43 (G 9 6) (rfl) ?_
          refine g_iload_n F 1 dX2_addHeard_46 rfl rfl ?_
          refine u_iast F 81 0 xc_81 rfl (G 9 6).toInt rfl (by omega) (by omega) (xW K a (gu_up G 81 ((G 9 6).toInt).toNat p0)) (xs_81 _) dX2_addHeard_47 ?_
          refine g_aload_n F 0 dX2_addHeard_48 rfl rfl ?_
          refine xg_9_5 F i_X2 w_2 dX2_addHeard_49 ?_
          refine g_iconst F 1 dX2_addHeard_52 (by decide) ?_
          refine g_aald (b := a 82) F 80 1 xc_80 rfl (ti_in (show Int32.toInt 1 = 1 from rfl) (by decide) (by decide)) (by rw [show Int32.toNatClampNeg 1 = 1 from congrArg Int.toNat (show Int32.toInt 1 = 1 from rfl)]; rfl) dX2_addHeard_53 ?_
          refine g_aload_n F 0 dX2_addHeard_54 rfl rfl ?_
          refine xg_9_6 F i_X2 w_1 dX2_addHeard_55 (G 9 6) (rfl) ?_
          refine g_iload_n F 2 dX2_addHeard_58 rfl rfl ?_
          refine u_iast F 82 0 xc_82 rfl (G 9 6).toInt rfl (by omega) (by omega) (xW K a (gu_up (gu_up G 81 ((G 9 6).toInt).toNat p0) 82 ((G 9 6).toInt).toNat p1)) (xs_82 _) dX2_addHeard_59 ?_
          refine g_aload_n F 0 dX2_addHeard_60 rfl rfl ?_
          refine xg_9_5 F i_X2 w_2 dX2_addHeard_61 ?_
          refine g_iconst F 2 dX2_addHeard_64 (by decide) ?_
          refine g_aald (b := a 83) F 80 1 xc_80 rfl (ti_in (show Int32.toInt 2 = 2 from rfl) (by decide) (by decide)) (by rw [show Int32.toNatClampNeg 2 = 2 from congrArg Int.toNat (show Int32.toInt 2 = 2 from rfl)]; rfl) dX2_addHeard_65 ?_
          refine g_aload_n F 0 dX2_addHeard_66 rfl rfl ?_
          refine xg_9_6 F i_X2 w_1 dX2_addHeard_67 (G 9 6) (rfl) ?_
          refine g_iload_n F 3 dX2_addHeard_70 rfl rfl ?_
          refine u_iast F 83 0 xc_83 rfl (G 9 6).toInt rfl (by omega) (by omega) (xW K a (gu_up (gu_up (gu_up G 81 ((G 9 6).toInt).toNat p0) 82 ((G 9 6).toInt).toNat p1) 83 ((G 9 6).toInt).toNat p2)) (xs_83 _) dX2_addHeard_71 ?_
          refine g_aload_n F 0 dX2_addHeard_72 rfl rfl ?_
          refine g_iload_n F 1 dX2_addHeard_73 rfl rfl ?_
          refine xp_9_9 F i_X2 w_3 dX2_addHeard_74 ?_
          refine g_aload_n F 0 dX2_addHeard_77 rfl rfl ?_
          refine g_dup F dX2_addHeard_78 rfl ?_
          refine xg_9_6 F i_X2 w_1 dX2_addHeard_79 (G 9 6) (rfl) ?_
          refine g_iconst F 1 dX2_addHeard_82 (by decide) ?_
          refine u_iadd F dX2_addHeard_83 (G 9 6).toInt 1 rfl rfl (by omega) (by omega) (fun y11 ey11 => ?_)
          refine xp_9_6 F i_X2 w_1 dX2_addHeard_84 ?_
          refine g_aload_n F 0 dX2_addHeard_87 rfl rfl ?_
          refine xg_9_6 F i_X2 w_1 dX2_addHeard_88 y11 (rfl) ?_
          refine g_iconst F 1 dX2_addHeard_91 (by decide) ?_
          refine u_isub F dX2_addHeard_92 y11.toInt 1 rfl rfl (by omega) (by omega) (fun y12 ey12 => ?_)
          exact u_iret F hA hQ hr (gu_up (gu_up (gu_up (gu_up (gu_up G 81 ((G 9 6).toInt).toNat p0) 82 ((G 9 6).toInt).toNat p1) 83 ((G 9 6).toInt).toNat p2) 9 9 p0) 9 6 y11) (⟨(gu_I.up (j := 9) (k := 6) (v := y11) (gu_I.up (j := 9) (k := 9) (v := p0) (gu_I.up (j := 83) (k := ((G 9 6).toInt).toNat) (v := p2) (gu_I.up (j := 82) (k := ((G 9 6).toInt).toNat) (v := p1) (gu_I.up (j := 81) (k := ((G 9 6).toInt).toNat) (v := p0) hI (ti_rng _).1 (ti_rng _).2) (ti_rng _).1 (ti_rng _).2) (ti_rng _).1 (ti_rng _).2) (ti_rng _).1 (ti_rng _).2) (show (0 : Int) ≤ Int32.toInt y11 by omega) (show Int32.toInt y11 ≤ 30 by omega)), (gu_un.up (j := 9) (k := 6) (v := y11) (gu_un.up (j := 9) (k := 9) (v := p0) (gu_un.up (j := 83) (k := ((G 9 6).toInt).toNat) (v := p2) (gu_un.up (j := 82) (k := ((G 9 6).toInt).toNat) (v := p1) (gu_un.up (j := 81) (k := ((G 9 6).toInt).toNat) (v := p0) gu_un.rf (show (8100 : Nat) ∈ ([907, 910, 8100, 8200, 8300] : List Nat) by decide)) (show (8200 : Nat) ∈ ([907, 910, 8100, 8200, 8300] : List Nat) by decide)) (show (8300 : Nat) ∈ ([907, 910, 8100, 8200, 8300] : List Nat) by decide)) (show (910 : Nat) ∈ ([907, 910, 8100, 8200, 8300] : List Nat) by decide)) (show (907 : Nat) ∈ ([907, 910, 8100, 8200, 8300] : List Nat) by decide)), (by have h9 := ti_rng y12; omega)⟩) rfl rfl dX2_addHeard_93
        · refine g_bipush F (-3) dX2_addHeard_33 (by decide) ?_
          exact u_iret F hA hQ hr G (⟨hI, gu_un.rf, (by decide)⟩) rfl rfl dX2_addHeard_35
      · refine g_bipush F (-2) dX2_addHeard_21 (by decide) ?_
        exact u_iret F hA hQ hr G (⟨hI, gu_un.rf, (by decide)⟩) rfl rfl dX2_addHeard_23

theorem dX2_timesRighted_0 : decode cX2_timesRighted 0 = .ok (.iconst 0, 1) := by decide +kernel
theorem dX2_timesRighted_1 : decode cX2_timesRighted 1 = .ok (.istore_n 2, 1) := by decide +kernel
theorem dX2_timesRighted_2 : decode cX2_timesRighted 2 = .ok (.iconst 0, 1) := by decide +kernel
theorem dX2_timesRighted_3 : decode cX2_timesRighted 3 = .ok (.istore_n 3, 1) := by decide +kernel
theorem dX2_timesRighted_4 : decode cX2_timesRighted 4 = .ok (.iload_n 3, 1) := by decide +kernel
theorem dX2_timesRighted_5 : decode cX2_timesRighted 5 = .ok (.aload_n 0, 1) := by decide +kernel
theorem dX2_timesRighted_6 : decode cX2_timesRighted 6 = .ok (.getfield 47, 3) := by decide +kernel
theorem dX2_timesRighted_9 : decode cX2_timesRighted 9 = .ok (.if_icmp .ge 30, 3) := by decide +kernel
theorem dX2_timesRighted_12 : decode cX2_timesRighted 12 = .ok (.iload_n 3, 1) := by decide +kernel
theorem dX2_timesRighted_13 : decode cX2_timesRighted 13 = .ok (.bipush 20, 2) := by decide +kernel
theorem dX2_timesRighted_15 : decode cX2_timesRighted 15 = .ok (.if_icmp .ge 24, 3) := by decide +kernel
theorem dX2_timesRighted_18 : decode cX2_timesRighted 18 = .ok (.aload_n 0, 1) := by decide +kernel
theorem dX2_timesRighted_19 : decode cX2_timesRighted 19 = .ok (.getfield 23, 3) := by decide +kernel
theorem dX2_timesRighted_22 : decode cX2_timesRighted 22 = .ok (.iconst 1, 1) := by decide +kernel
theorem dX2_timesRighted_23 : decode cX2_timesRighted 23 = .ok (.aaload, 1) := by decide +kernel
theorem dX2_timesRighted_24 : decode cX2_timesRighted 24 = .ok (.iload_n 3, 1) := by decide +kernel
theorem dX2_timesRighted_25 : decode cX2_timesRighted 25 = .ok (.iaload, 1) := by decide +kernel
theorem dX2_timesRighted_26 : decode cX2_timesRighted 26 = .ok (.iload_n 1, 1) := by decide +kernel
theorem dX2_timesRighted_27 : decode cX2_timesRighted 27 = .ok (.if_icmp .ne 6, 3) := by decide +kernel
theorem dX2_timesRighted_30 : decode cX2_timesRighted 30 = .ok (.iinc 2 1, 3) := by decide +kernel
theorem dX2_timesRighted_33 : decode cX2_timesRighted 33 = .ok (.iinc 3 1, 3) := by decide +kernel
theorem dX2_timesRighted_36 : decode cX2_timesRighted 36 = .ok (.goto (-32), 3) := by decide +kernel
theorem dX2_timesRighted_39 : decode cX2_timesRighted 39 = .ok (.iload_n 2, 1) := by decide +kernel
theorem dX2_timesRighted_40 : decode cX2_timesRighted 40 = .ok (.ireturn, 1) := by decide +kernel
set_option maxHeartbeats 4000000 in
set_option maxRecDepth 100000 in
theorem S_X2_timesRighted (l : Launch) (D : va_G) (K : Nat → ClassId) (a : Nat → Nat) (G : gS) (p0 : Int32) (s0 : Int) (e0 : p0.toInt = s0) (hI : xI G) (sz : Nat) : Ki l yX2_timesRighted wsX2_timesRighted 1 40 0 0 D [.ref (a 9), .int p0] (xW K a G) (tK K) sz (fun (r : Int32) (_ : Unit) => True) (fun (_ : Unit) => (xW K a G)) (fun _ => (tK K)) := by
  unfold Ki
  refine g_ofW (cc := cX2_timesRighted) (lv := [(0, .ref (a 9)), (1, .int p0)]) (by decide) rfl (Nat.le_of_ble_eq_true rfl) rfl ?_
  intro p e s m args below meth c A Q hA hQ F hr hnm
  have hts := F.2.2.2.2.1
  have w_0 : (Cond.fieldLink RX2 47 "QuietCut$Ear" "rights" "I").before args s = true := hts _ (List.mem_of_getElem? (i := 1) rfl)
  have i_X2 : ∀ w ∈ u_ws RX2 TX2 10, w ∈ wsX2_timesRighted := fun _ h => List.mem_cons_of_mem _ (List.mem_append_right _ h)
  have w_1 : (Cond.fieldLink RX2 23 "QuietCut$Ear" "rightRows" "[[I").before args s = true := hts _ (List.mem_of_getElem? (i := 2) rfl)
  have rg0 : -2147483648 ≤ s0 ∧ s0 ≤ 2147483647 := e0 ▸ ti_rng p0
  have J_4 : ∀ (fuel : Nat) (x4_2 : Int32) (x4_3 : Int32), (2147483647 - x4_3.toInt).toNat < fuel → (0 ≤ x4_3.toInt ∧ x4_3.toInt ≤ 20) → gG p l e (gR 1 0 0 40) s m args below meth c D A 4 Q 0 0 (xW K a G) (tK K) [(0, .ref (a 9)), (1, .int p0), (2, .int x4_2), (3, .int x4_3)] 4 [] := by
    intro fuel
    induction fuel with
    | zero => intro x4_2 x4_3 hm; exact absurd hm (Nat.not_lt_zero _)
    | succ fuel_4 ih_4 =>
      intro x4_2 x4_3 hm_4 h4_3
      have J_33 : ∀  (x33_2 : Int32), (0 ≤ x4_3.toInt ∧ x4_3.toInt ≤ 19) → gG p l e (gR 1 0 0 40) s m args below meth c D A 4 Q 0 0 (xW K a G) (tK K) [(0, .ref (a 9)), (1, .int p0), (2, .int x33_2), (3, .int x4_3)] 33 [] := by
        intro x33_2 k33_3
        refine u_iinc F (fun v_ => [(3, .int v_), (0, .ref (a 9)), (1, .int p0), (2, .int x33_2)]) dX2_timesRighted_33 (j := 3) rfl x4_3.toInt 1 rfl rfl (by omega) (by omega) (by decide) (fun _ => rfl) (fun y1 ey1 => ?_)
        refine g_goto F 4 dX2_timesRighted_36 (by decide) ?_
        refine g_locals [(0, .ref (a 9)), (1, .int p0), (2, .int x33_2), (3, .int y1)] [1, 2, 3, 0] rfl ?_
        exact ih_4 x33_2 y1 (by omega) (by have h9 := ti_rng y1; omega)
      refine g_iload_n F 3 dX2_timesRighted_4 rfl rfl ?_
      refine g_aload_n F 0 dX2_timesRighted_5 rfl rfl ?_
      refine xg_9_8 F i_X2 w_0 dX2_timesRighted_6 (G 9 8) (rfl) ?_
      have b2 : (0 : Int) ≤ (G 9 8).toInt ∧ (G 9 8).toInt ≤ 20 := hI 9 8
      refine v_icmp_ge F 39 dX2_timesRighted_9 (by decide) x4_3.toInt (G 9 8).toInt rfl rfl (fun c3 => ?_) (fun c3 => ?_)
      · refine g_iload_n F 2 dX2_timesRighted_39 rfl rfl ?_
        exact u_iret F hA hQ hr () (trivial) rfl rfl dX2_timesRighted_40
      · refine g_iload_n F 3 dX2_timesRighted_12 rfl rfl ?_
        refine g_bipush F 20 dX2_timesRighted_13 (by decide) ?_
        refine v_icmp_ge F 39 dX2_timesRighted_15 (by decide) x4_3.toInt 20 rfl rfl (fun c4 => absurd c4 (by omega)) (fun c4 => ?_)
        refine g_aload_n F 0 dX2_timesRighted_18 rfl rfl ?_
        refine xg_9_7 F i_X2 w_1 dX2_timesRighted_19 ?_
        refine g_iconst F 1 dX2_timesRighted_22 (by decide) ?_
        refine g_aald (b := a 86) F 84 1 xc_84 rfl (ti_in (show Int32.toInt 1 = 1 from rfl) (by decide) (by decide)) (by rw [show Int32.toNatClampNeg 1 = 1 from congrArg Int.toNat (show Int32.toInt 1 = 1 from rfl)]; rfl) dX2_timesRighted_23 ?_
        refine g_iload_n F 3 dX2_timesRighted_24 rfl rfl ?_
        refine u_iald F 86 0 xc_86 rfl x4_3.toInt rfl (by omega) (by omega) dX2_timesRighted_25 (fun _ => True) (fun _ => trivial) (fun y5 by5 => ?_)
        refine g_iload_n F 1 dX2_timesRighted_26 rfl rfl ?_
        have b6 := ti_rng y5
        refine v_icmp_ne F 33 dX2_timesRighted_27 (by decide) y5.toInt s0 rfl e0 (fun c7 => ?_) (fun c7 => ?_)
        · exact J_33 x4_2 (by have h9 := ti_rng x4_3; omega)
        · refine u0_iinc F (fun v_ => [(2, .int v_), (0, .ref (a 9)), (1, .int p0), (3, .int x4_3)]) dX2_timesRighted_30 (j := 2) rfl (by decide) (fun _ => rfl) (fun y8 => ?_)
          refine g_locals [(0, .ref (a 9)), (1, .int p0), (2, .int y8), (3, .int x4_3)] [1, 2, 0, 3] rfl ?_
          exact J_33 y8 (by have h9 := ti_rng x4_3; omega)
  refine g_iconst F 0 dX2_timesRighted_0 (by decide) ?_
  refine g_istore_n F [(2, .int 0), (0, .ref (a 9)), (1, .int p0)] dX2_timesRighted_1 rfl (by decide) rfl ?_
  refine g_iconst F 0 dX2_timesRighted_2 (by decide) ?_
  refine g_istore_n F [(3, .int 0), (2, .int 0), (0, .ref (a 9)), (1, .int p0)] dX2_timesRighted_3 rfl (by decide) rfl ?_
  refine g_locals [(0, .ref (a 9)), (1, .int p0), (2, .int 0), (3, .int 0)] [2, 3, 1, 0] rfl ?_
  exact J_4 _ 0 0 (Nat.lt_succ_self _) (by decide)

theorem dX2_addRight_0 : decode cX2_addRight 0 = .ok (.aload_n 0, 1) := by decide +kernel
theorem dX2_addRight_1 : decode cX2_addRight 1 = .ok (.iload_n 1, 1) := by decide +kernel
theorem dX2_addRight_2 : decode cX2_addRight 2 = .ok (.iload_n 3, 1) := by decide +kernel
theorem dX2_addRight_3 : decode cX2_addRight 3 = .ok (.invokevirtual 68, 3) := by decide +kernel
theorem dX2_addRight_6 : decode cX2_addRight 6 = .ok (.ifCond .eq 21, 3) := by decide +kernel
theorem dX2_addRight_9 : decode cX2_addRight 9 = .ok (.iload_n 2, 1) := by decide +kernel
theorem dX2_addRight_10 : decode cX2_addRight 10 = .ok (.ifCond .lt 17, 3) := by decide +kernel
theorem dX2_addRight_13 : decode cX2_addRight 13 = .ok (.iload_n 2, 1) := by decide +kernel
theorem dX2_addRight_14 : decode cX2_addRight 14 = .ok (.aload_n 0, 1) := by decide +kernel
theorem dX2_addRight_15 : decode cX2_addRight 15 = .ok (.getfield 44, 3) := by decide +kernel
theorem dX2_addRight_18 : decode cX2_addRight 18 = .ok (.if_icmp .ge 9, 3) := by decide +kernel
theorem dX2_addRight_21 : decode cX2_addRight 21 = .ok (.iload_n 2, 1) := by decide +kernel
theorem dX2_addRight_22 : decode cX2_addRight 22 = .ok (.bipush 30, 2) := by decide +kernel
theorem dX2_addRight_24 : decode cX2_addRight 24 = .ok (.if_icmp .lt 6, 3) := by decide +kernel
theorem dX2_addRight_27 : decode cX2_addRight 27 = .ok (.bipush (-2), 2) := by decide +kernel
theorem dX2_addRight_29 : decode cX2_addRight 29 = .ok (.ireturn, 1) := by decide +kernel
theorem dX2_addRight_30 : decode cX2_addRight 30 = .ok (.iload_n 1, 1) := by decide +kernel
theorem dX2_addRight_31 : decode cX2_addRight 31 = .ok (.aload_n 0, 1) := by decide +kernel
theorem dX2_addRight_32 : decode cX2_addRight 32 = .ok (.getfield 20, 3) := by decide +kernel
theorem dX2_addRight_35 : decode cX2_addRight 35 = .ok (.iconst 0, 1) := by decide +kernel
theorem dX2_addRight_36 : decode cX2_addRight 36 = .ok (.aaload, 1) := by decide +kernel
theorem dX2_addRight_37 : decode cX2_addRight 37 = .ok (.iload_n 2, 1) := by decide +kernel
theorem dX2_addRight_38 : decode cX2_addRight 38 = .ok (.iaload, 1) := by decide +kernel
theorem dX2_addRight_39 : decode cX2_addRight 39 = .ok (.if_icmp .gt 6, 3) := by decide +kernel
theorem dX2_addRight_42 : decode cX2_addRight 42 = .ok (.bipush (-2), 2) := by decide +kernel
theorem dX2_addRight_44 : decode cX2_addRight 44 = .ok (.ireturn, 1) := by decide +kernel
theorem dX2_addRight_45 : decode cX2_addRight 45 = .ok (.aload_n 0, 1) := by decide +kernel
theorem dX2_addRight_46 : decode cX2_addRight 46 = .ok (.getfield 47, 3) := by decide +kernel
theorem dX2_addRight_49 : decode cX2_addRight 49 = .ok (.bipush 20, 2) := by decide +kernel
theorem dX2_addRight_51 : decode cX2_addRight 51 = .ok (.if_icmp .lt 6, 3) := by decide +kernel
theorem dX2_addRight_54 : decode cX2_addRight 54 = .ok (.bipush (-3), 2) := by decide +kernel
theorem dX2_addRight_56 : decode cX2_addRight 56 = .ok (.ireturn, 1) := by decide +kernel
theorem dX2_addRight_57 : decode cX2_addRight 57 = .ok (.aload_n 0, 1) := by decide +kernel
theorem dX2_addRight_58 : decode cX2_addRight 58 = .ok (.getfield 23, 3) := by decide +kernel
theorem dX2_addRight_61 : decode cX2_addRight 61 = .ok (.iconst 0, 1) := by decide +kernel
theorem dX2_addRight_62 : decode cX2_addRight 62 = .ok (.aaload, 1) := by decide +kernel
theorem dX2_addRight_63 : decode cX2_addRight 63 = .ok (.aload_n 0, 1) := by decide +kernel
theorem dX2_addRight_64 : decode cX2_addRight 64 = .ok (.getfield 47, 3) := by decide +kernel
theorem dX2_addRight_67 : decode cX2_addRight 67 = .ok (.iload_n 1, 1) := by decide +kernel
theorem dX2_addRight_68 : decode cX2_addRight 68 = .ok (.iastore, 1) := by decide +kernel
theorem dX2_addRight_69 : decode cX2_addRight 69 = .ok (.aload_n 0, 1) := by decide +kernel
theorem dX2_addRight_70 : decode cX2_addRight 70 = .ok (.getfield 23, 3) := by decide +kernel
theorem dX2_addRight_73 : decode cX2_addRight 73 = .ok (.iconst 1, 1) := by decide +kernel
theorem dX2_addRight_74 : decode cX2_addRight 74 = .ok (.aaload, 1) := by decide +kernel
theorem dX2_addRight_75 : decode cX2_addRight 75 = .ok (.aload_n 0, 1) := by decide +kernel
theorem dX2_addRight_76 : decode cX2_addRight 76 = .ok (.getfield 47, 3) := by decide +kernel
theorem dX2_addRight_79 : decode cX2_addRight 79 = .ok (.iload_n 2, 1) := by decide +kernel
theorem dX2_addRight_80 : decode cX2_addRight 80 = .ok (.iastore, 1) := by decide +kernel
theorem dX2_addRight_81 : decode cX2_addRight 81 = .ok (.aload_n 0, 1) := by decide +kernel
theorem dX2_addRight_82 : decode cX2_addRight 82 = .ok (.getfield 23, 3) := by decide +kernel
theorem dX2_addRight_85 : decode cX2_addRight 85 = .ok (.iconst 2, 1) := by decide +kernel
theorem dX2_addRight_86 : decode cX2_addRight 86 = .ok (.aaload, 1) := by decide +kernel
theorem dX2_addRight_87 : decode cX2_addRight 87 = .ok (.aload_n 0, 1) := by decide +kernel
theorem dX2_addRight_88 : decode cX2_addRight 88 = .ok (.getfield 47, 3) := by decide +kernel
theorem dX2_addRight_91 : decode cX2_addRight 91 = .ok (.iload_n 3, 1) := by decide +kernel
theorem dX2_addRight_92 : decode cX2_addRight 92 = .ok (.iastore, 1) := by decide +kernel
theorem dX2_addRight_93 : decode cX2_addRight 93 = .ok (.aload_n 0, 1) := by decide +kernel
theorem dX2_addRight_94 : decode cX2_addRight 94 = .ok (.iload_n 1, 1) := by decide +kernel
theorem dX2_addRight_95 : decode cX2_addRight 95 = .ok (.putfield 50, 3) := by decide +kernel
theorem dX2_addRight_98 : decode cX2_addRight 98 = .ok (.aload_n 0, 1) := by decide +kernel
theorem dX2_addRight_99 : decode cX2_addRight 99 = .ok (.dup, 1) := by decide +kernel
theorem dX2_addRight_100 : decode cX2_addRight 100 = .ok (.getfield 47, 3) := by decide +kernel
theorem dX2_addRight_103 : decode cX2_addRight 103 = .ok (.iconst 1, 1) := by decide +kernel
theorem dX2_addRight_104 : decode cX2_addRight 104 = .ok (.iadd, 1) := by decide +kernel
theorem dX2_addRight_105 : decode cX2_addRight 105 = .ok (.putfield 47, 3) := by decide +kernel
theorem dX2_addRight_108 : decode cX2_addRight 108 = .ok (.aload_n 0, 1) := by decide +kernel
theorem dX2_addRight_109 : decode cX2_addRight 109 = .ok (.iload_n 2, 1) := by decide +kernel
theorem dX2_addRight_110 : decode cX2_addRight 110 = .ok (.invokevirtual 72, 3) := by decide +kernel
theorem dX2_addRight_113 : decode cX2_addRight 113 = .ok (.ireturn, 1) := by decide +kernel
set_option maxRecDepth 20000 in
theorem ggX2_addRight_X2_mayBeTold : GoodIn wsX2_addRight wsX2_mayBeTold := goodIn_r _ [10, 5, 15, 16, 17, 18, 19, 20, 21, 22, 23, 24] rfl (by decide +kernel)
set_option maxRecDepth 20000 in
theorem gX2_addRight_X2_mayBeTold : GoodIn wsX2_addRight (wsV RX2 68 RX2 yX2_mayBeTold wsX2_mayBeTold) := goodIn_app (goodIn_of _ (by decide +kernel)) ggX2_addRight_X2_mayBeTold
set_option maxRecDepth 20000 in
theorem ggX2_addRight_X2_timesRighted : GoodIn wsX2_addRight wsX2_timesRighted := goodIn_r _ [14, 3, 4, 15, 16, 17, 18, 19, 20, 21, 22, 23, 24] rfl (by decide +kernel)
set_option maxRecDepth 20000 in
theorem gX2_addRight_X2_timesRighted : GoodIn wsX2_addRight (wsV RX2 72 RX2 yX2_timesRighted wsX2_timesRighted) := goodIn_app (goodIn_of _ (by decide +kernel)) ggX2_addRight_X2_timesRighted
set_option maxHeartbeats 4000000 in
set_option maxRecDepth 100000 in
theorem S_X2_addRight (l : Launch) (D : va_G) (K : Nat → ClassId) (a : Nat → Nat) (G : gS) (p0 : Int32) (s0 : Int) (p1 : Int32) (s1 : Int) (p2 : Int32) (s2 : Int) (e0 : p0.toInt = s0) (e1 : p1.toInt = s1) (e2 : p2.toInt = s2) (hI : xI G) (sz : Nat) : Ki l yX2_addRight wsX2_addRight 2 63 0 0 D [.ref (a 9), .int p0, .int p1, .int p2] (xW K a G) (tK K) sz (fun (r : Int32) (G' : gS) => (xI G') ∧ (gu_un xcd [909, 910, 8500, 8600, 8700] G G')) (fun (G' : gS) => (xW K a G')) (fun _ => (tK K)) := by
  unfold Ki
  refine g_ofW (cc := cX2_addRight) (lv := [(0, .ref (a 9)), (1, .int p0), (2, .int p1), (3, .int p2)]) (by decide) rfl (Nat.le_of_ble_eq_true rfl) rfl ?_
  intro p e s m args below meth c A Q hA hQ F hr hnm
  have hts := F.2.2.2.2.1
  have w_0 : (Cond.fieldLink RX2 44 "QuietCut$Ear" "heards" "I").before args s = true := hts _ (List.mem_of_getElem? (i := 1) rfl)
  have i_X2 : ∀ w ∈ u_ws RX2 TX2 10, w ∈ wsX2_addRight := fun _ h => List.mem_cons_of_mem _ (List.mem_append_right _ h)
  have w_1 : (Cond.fieldLink RX2 20 "QuietCut$Ear" "heardRows" "[[I").before args s = true := hts _ (List.mem_of_getElem? (i := 2) rfl)
  have w_2 : (Cond.fieldLink RX2 47 "QuietCut$Ear" "rights" "I").before args s = true := hts _ (List.mem_of_getElem? (i := 3) rfl)
  have w_3 : (Cond.fieldLink RX2 23 "QuietCut$Ear" "rightRows" "[[I").before args s = true := hts _ (List.mem_of_getElem? (i := 4) rfl)
  have w_4 : (Cond.fieldLink RX2 50 "QuietCut$Ear" "latestStep" "I").before args s = true := hts _ (List.mem_of_getElem? (i := 5) rfl)
  have rg0 : -2147483648 ≤ s0 ∧ s0 ≤ 2147483647 := e0 ▸ ti_rng p0
  have rg1 : -2147483648 ≤ s1 ∧ s1 ≤ 2147483647 := e1 ▸ ti_rng p1
  have rg2 : -2147483648 ≤ s2 ∧ s2 ≤ 2147483647 := e2 ▸ ti_rng p2
  refine g_aload_n F 0 dX2_addRight_0 rfl rfl ?_
  refine g_iload_n F 1 dX2_addRight_1 rfl rfl ?_
  refine g_iload_n F 3 dX2_addRight_2 rfl rfl ?_
  refine u_callVi (k := 0) (n := 0) (b := a 9) (As := [.int p0, .int p2]) (st := []) F (fun sz => S_X2_mayBeTold l D K a G p0 s0 p2 s2 e0 e2 hI sz) (cwV 2 hts gX2_addRight_X2_mayBeTold rfl rfl rfl (by decide +kernel) ⟨Nat.le_of_ble_eq_true rfl, Nat.le_of_ble_eq_true rfl⟩) rfl 9 xc_9 rfl (Nat.le_of_ble_eq_true rfl) ⟨Nat.zero_le _, Nat.zero_le _⟩ dX2_addRight_3 (fun r1 _ hw2 => ?_)
  have rg4 := hw2
  clear hw2
  refine v_if_eq F 27 dX2_addRight_6 (by decide) r1.toInt rfl (fun c5 => ?_) (fun c5 => ?_)
  · refine g_bipush F (-2) dX2_addRight_27 (by decide) ?_
    exact u_iret F hA hQ hr G (⟨hI, gu_un.rf⟩) rfl rfl dX2_addRight_29
  · refine g_iload_n F 2 dX2_addRight_9 rfl rfl ?_
    refine v_if_lt F 27 dX2_addRight_10 (by decide) s1 e1 (fun c6 => ?_) (fun c6 => ?_)
    · refine g_bipush F (-2) dX2_addRight_27 (by decide) ?_
      exact u_iret F hA hQ hr G (⟨hI, gu_un.rf⟩) rfl rfl dX2_addRight_29
    · refine g_iload_n F 2 dX2_addRight_13 rfl rfl ?_
      refine g_aload_n F 0 dX2_addRight_14 rfl rfl ?_
      refine xg_9_6 F i_X2 w_0 dX2_addRight_15 (G 9 6) (rfl) ?_
      have b7 : (0 : Int) ≤ (G 9 6).toInt ∧ (G 9 6).toInt ≤ 30 := hI 9 6
      refine v_icmp_ge F 27 dX2_addRight_18 (by decide) s1 (G 9 6).toInt e1 rfl (fun c8 => ?_) (fun c8 => ?_)
      · refine g_bipush F (-2) dX2_addRight_27 (by decide) ?_
        exact u_iret F hA hQ hr G (⟨hI, gu_un.rf⟩) rfl rfl dX2_addRight_29
      · refine g_iload_n F 2 dX2_addRight_21 rfl rfl ?_
        refine g_bipush F 30 dX2_addRight_22 (by decide) ?_
        refine v_icmp_lt F 30 dX2_addRight_24 (by decide) s1 30 e1 rfl (fun c9 => ?_) (fun c9 => absurd c9 (by omega))
        refine g_iload_n F 1 dX2_addRight_30 rfl rfl ?_
        refine g_aload_n F 0 dX2_addRight_31 rfl rfl ?_
        refine xg_9_5 F i_X2 w_1 dX2_addRight_32 ?_
        refine g_iconst F 0 dX2_addRight_35 (by decide) ?_
        refine g_aald (b := a 81) F 80 1 xc_80 rfl (ti_in (show Int32.toInt 0 = 0 from rfl) (by decide) (by decide)) (by rw [show Int32.toNatClampNeg 0 = 0 from congrArg Int.toNat (show Int32.toInt 0 = 0 from rfl)]; rfl) dX2_addRight_36 ?_
        refine g_iload_n F 2 dX2_addRight_37 rfl rfl ?_
        refine u_iald F 81 0 xc_81 rfl s1 e1 (by omega) (by omega) dX2_addRight_38 (fun _ => True) (fun _ => trivial) (fun y10 by10 => ?_)
        have b11 := ti_rng y10
        refine v_icmp_gt F 45 dX2_addRight_39 (by decide) s0 y10.toInt e0 rfl (fun c12 => ?_) (fun c12 => ?_)
        · refine g_aload_n F 0 dX2_addRight_45 rfl rfl ?_
          refine xg_9_8 F i_X2 w_2 dX2_addRight_46 (G 9 8) (rfl) ?_
          refine g_bipush F 20 dX2_addRight_49 (by decide) ?_
          have b13 : (0 : Int) ≤ (G 9 8).toInt ∧ (G 9 8).toInt ≤ 20 := hI 9 8
          refine v_icmp_lt F 57 dX2_addRight_51 (by decide) (G 9 8).toInt 20 rfl rfl (fun c14 => ?_) (fun c14 => ?_)
          · refine g_aload_n F 0 dX2_addRight_57 rfl rfl ?_
            refine xg_9_7 F i_X2 w_3 dX2_addRight_58 ?_
            refine g_iconst F 0 dX2_addRight_61 (by decide) ?_
            refine g_aald (b := a 85) F 84 1 xc_84 rfl (ti_in (show Int32.toInt 0 = 0 from rfl) (by decide) (by decide)) (by rw [show Int32.toNatClampNeg 0 = 0 from congrArg Int.toNat (show Int32.toInt 0 = 0 from rfl)]; rfl) dX2_addRight_62 ?_
            refine g_aload_n F 0 dX2_addRight_63 rfl rfl ?_
            refine xg_9_8 F i_X2 w_2 dX2_addRight_64 (G 9 8) (rfl) ?_
            refine g_iload_n F 1 dX2_addRight_67 rfl rfl ?_
            refine u_iast F 85 0 xc_85 rfl (G 9 8).toInt rfl (by omega) (by omega) (xW K a (gu_up G 85 ((G 9 8).toInt).toNat p0)) (xs_85 _) dX2_addRight_68 ?_
            refine g_aload_n F 0 dX2_addRight_69 rfl rfl ?_
            refine xg_9_7 F i_X2 w_3 dX2_addRight_70 ?_
            refine g_iconst F 1 dX2_addRight_73 (by decide) ?_
            refine g_aald (b := a 86) F 84 1 xc_84 rfl (ti_in (show Int32.toInt 1 = 1 from rfl) (by decide) (by decide)) (by rw [show Int32.toNatClampNeg 1 = 1 from congrArg Int.toNat (show Int32.toInt 1 = 1 from rfl)]; rfl) dX2_addRight_74 ?_
            refine g_aload_n F 0 dX2_addRight_75 rfl rfl ?_
            refine xg_9_8 F i_X2 w_2 dX2_addRight_76 (G 9 8) (rfl) ?_
            refine g_iload_n F 2 dX2_addRight_79 rfl rfl ?_
            refine u_iast F 86 0 xc_86 rfl (G 9 8).toInt rfl (by omega) (by omega) (xW K a (gu_up (gu_up G 85 ((G 9 8).toInt).toNat p0) 86 ((G 9 8).toInt).toNat p1)) (xs_86 _) dX2_addRight_80 ?_
            refine g_aload_n F 0 dX2_addRight_81 rfl rfl ?_
            refine xg_9_7 F i_X2 w_3 dX2_addRight_82 ?_
            refine g_iconst F 2 dX2_addRight_85 (by decide) ?_
            refine g_aald (b := a 87) F 84 1 xc_84 rfl (ti_in (show Int32.toInt 2 = 2 from rfl) (by decide) (by decide)) (by rw [show Int32.toNatClampNeg 2 = 2 from congrArg Int.toNat (show Int32.toInt 2 = 2 from rfl)]; rfl) dX2_addRight_86 ?_
            refine g_aload_n F 0 dX2_addRight_87 rfl rfl ?_
            refine xg_9_8 F i_X2 w_2 dX2_addRight_88 (G 9 8) (rfl) ?_
            refine g_iload_n F 3 dX2_addRight_91 rfl rfl ?_
            refine u_iast F 87 0 xc_87 rfl (G 9 8).toInt rfl (by omega) (by omega) (xW K a (gu_up (gu_up (gu_up G 85 ((G 9 8).toInt).toNat p0) 86 ((G 9 8).toInt).toNat p1) 87 ((G 9 8).toInt).toNat p2)) (xs_87 _) dX2_addRight_92 ?_
            refine g_aload_n F 0 dX2_addRight_93 rfl rfl ?_
            refine g_iload_n F 1 dX2_addRight_94 rfl rfl ?_
            refine xp_9_9 F i_X2 w_4 dX2_addRight_95 ?_
            refine g_aload_n F 0 dX2_addRight_98 rfl rfl ?_
            refine g_dup F dX2_addRight_99 rfl ?_
            refine xg_9_8 F i_X2 w_2 dX2_addRight_100 (G 9 8) (rfl) ?_
            refine g_iconst F 1 dX2_addRight_103 (by decide) ?_
            refine u_iadd F dX2_addRight_104 (G 9 8).toInt 1 rfl rfl (by omega) (by omega) (fun y15 ey15 => ?_)
            refine xp_9_8 F i_X2 w_2 dX2_addRight_105 ?_
            refine g_aload_n F 0 dX2_addRight_108 rfl rfl ?_
            refine g_iload_n F 2 dX2_addRight_109 rfl rfl ?_
            refine u_callVi (k := 0) (n := 0) (b := a 9) (As := [.int p1]) (st := []) F (fun sz => S_X2_timesRighted l D K a (gu_up (gu_up (gu_up (gu_up (gu_up G 85 ((G 9 8).toInt).toNat p0) 86 ((G 9 8).toInt).toNat p1) 87 ((G 9 8).toInt).toNat p2) 9 9 p0) 9 8 y15) p1 s1 e1 (gu_I.up (j := 9) (k := 8) (v := y15) (gu_I.up (j := 9) (k := 9) (v := p0) (gu_I.up (j := 87) (k := ((G 9 8).toInt).toNat) (v := p2) (gu_I.up (j := 86) (k := ((G 9 8).toInt).toNat) (v := p1) (gu_I.up (j := 85) (k := ((G 9 8).toInt).toNat) (v := p0) hI (ti_rng _).1 (ti_rng _).2) (ti_rng _).1 (ti_rng _).2) (ti_rng _).1 (ti_rng _).2) (ti_rng _).1 (ti_rng _).2) (show (0 : Int) ≤ Int32.toInt y15 by omega) (show Int32.toInt y15 ≤ 20 by omega)) sz) (cwV 1 hts gX2_addRight_X2_timesRighted rfl rfl rfl (by decide +kernel) ⟨Nat.le_of_ble_eq_true rfl, Nat.le_of_ble_eq_true rfl⟩) rfl 9 xc_9 rfl (Nat.le_of_ble_eq_true rfl) ⟨Nat.zero_le _, Nat.zero_le _⟩ dX2_addRight_110 (fun r16 _ hw17 => ?_)
            exact u_iret F hA hQ hr (gu_up (gu_up (gu_up (gu_up (gu_up G 85 ((G 9 8).toInt).toNat p0) 86 ((G 9 8).toInt).toNat p1) 87 ((G 9 8).toInt).toNat p2) 9 9 p0) 9 8 y15) (⟨(gu_I.up (j := 9) (k := 8) (v := y15) (gu_I.up (j := 9) (k := 9) (v := p0) (gu_I.up (j := 87) (k := ((G 9 8).toInt).toNat) (v := p2) (gu_I.up (j := 86) (k := ((G 9 8).toInt).toNat) (v := p1) (gu_I.up (j := 85) (k := ((G 9 8).toInt).toNat) (v := p0) hI (ti_rng _).1 (ti_rng _).2) (ti_rng _).1 (ti_rng _).2) (ti_rng _).1 (ti_rng _).2) (ti_rng _).1 (ti_rng _).2) (show (0 : Int) ≤ Int32.toInt y15 by omega) (show Int32.toInt y15 ≤ 20 by omega)), (gu_un.up (j := 9) (k := 8) (v := y15) (gu_un.up (j := 9) (k := 9) (v := p0) (gu_un.up (j := 87) (k := ((G 9 8).toInt).toNat) (v := p2) (gu_un.up (j := 86) (k := ((G 9 8).toInt).toNat) (v := p1) (gu_un.up (j := 85) (k := ((G 9 8).toInt).toNat) (v := p0) gu_un.rf (show (8500 : Nat) ∈ ([909, 910, 8500, 8600, 8700] : List Nat) by decide)) (show (8600 : Nat) ∈ ([909, 910, 8500, 8600, 8700] : List Nat) by decide)) (show (8700 : Nat) ∈ ([909, 910, 8500, 8600, 8700] : List Nat) by decide)) (show (910 : Nat) ∈ ([909, 910, 8500, 8600, 8700] : List Nat) by decide)) (show (909 : Nat) ∈ ([909, 910, 8500, 8600, 8700] : List Nat) by decide))⟩) rfl rfl dX2_addRight_113
          · refine g_bipush F (-3) dX2_addRight_54 (by decide) ?_
            exact u_iret F hA hQ hr G (⟨hI, gu_un.rf⟩) rfl rfl dX2_addRight_56
        · refine g_bipush F (-2) dX2_addRight_42 (by decide) ?_
          exact u_iret F hA hQ hr G (⟨hI, gu_un.rf⟩) rfl rfl dX2_addRight_44

theorem dX2_verdictKnown_0 : decode cX2_verdictKnown 0 = .ok (.aload_n 0, 1) := by decide +kernel
theorem dX2_verdictKnown_1 : decode cX2_verdictKnown 1 = .ok (.getfield 20, 3) := by decide +kernel
theorem dX2_verdictKnown_4 : decode cX2_verdictKnown 4 = .ok (.iconst 2, 1) := by decide +kernel
theorem dX2_verdictKnown_5 : decode cX2_verdictKnown 5 = .ok (.aaload, 1) := by decide +kernel
theorem dX2_verdictKnown_6 : decode cX2_verdictKnown 6 = .ok (.iload_n 1, 1) := by decide +kernel
theorem dX2_verdictKnown_7 : decode cX2_verdictKnown 7 = .ok (.iaload, 1) := by decide +kernel
theorem dX2_verdictKnown_8 : decode cX2_verdictKnown 8 = .ok (.istore_n 3, 1) := by decide +kernel
theorem dX2_verdictKnown_9 : decode cX2_verdictKnown 9 = .ok (.iconst 0, 1) := by decide +kernel
theorem dX2_verdictKnown_10 : decode cX2_verdictKnown 10 = .ok (.istore 4, 2) := by decide +kernel
theorem dX2_verdictKnown_12 : decode cX2_verdictKnown 12 = .ok (.iload 4, 2) := by decide +kernel
theorem dX2_verdictKnown_14 : decode cX2_verdictKnown 14 = .ok (.aload_n 0, 1) := by decide +kernel
theorem dX2_verdictKnown_15 : decode cX2_verdictKnown 15 = .ok (.getfield 47, 3) := by decide +kernel
theorem dX2_verdictKnown_18 : decode cX2_verdictKnown 18 = .ok (.if_icmp .ge 52, 3) := by decide +kernel
theorem dX2_verdictKnown_21 : decode cX2_verdictKnown 21 = .ok (.iload 4, 2) := by decide +kernel
theorem dX2_verdictKnown_23 : decode cX2_verdictKnown 23 = .ok (.bipush 20, 2) := by decide +kernel
theorem dX2_verdictKnown_25 : decode cX2_verdictKnown 25 = .ok (.if_icmp .ge 45, 3) := by decide +kernel
theorem dX2_verdictKnown_28 : decode cX2_verdictKnown 28 = .ok (.aload_n 0, 1) := by decide +kernel
theorem dX2_verdictKnown_29 : decode cX2_verdictKnown 29 = .ok (.getfield 23, 3) := by decide +kernel
theorem dX2_verdictKnown_32 : decode cX2_verdictKnown 32 = .ok (.iconst 1, 1) := by decide +kernel
theorem dX2_verdictKnown_33 : decode cX2_verdictKnown 33 = .ok (.aaload, 1) := by decide +kernel
theorem dX2_verdictKnown_34 : decode cX2_verdictKnown 34 = .ok (.iload 4, 2) := by decide +kernel
theorem dX2_verdictKnown_36 : decode cX2_verdictKnown 36 = .ok (.iaload, 1) := by decide +kernel
theorem dX2_verdictKnown_37 : decode cX2_verdictKnown 37 = .ok (.iload_n 1, 1) := by decide +kernel
theorem dX2_verdictKnown_38 : decode cX2_verdictKnown 38 = .ok (.if_icmp .ne 26, 3) := by decide +kernel
theorem dX2_verdictKnown_41 : decode cX2_verdictKnown 41 = .ok (.aload_n 0, 1) := by decide +kernel
theorem dX2_verdictKnown_42 : decode cX2_verdictKnown 42 = .ok (.getfield 23, 3) := by decide +kernel
theorem dX2_verdictKnown_45 : decode cX2_verdictKnown 45 = .ok (.iconst 0, 1) := by decide +kernel
theorem dX2_verdictKnown_46 : decode cX2_verdictKnown 46 = .ok (.aaload, 1) := by decide +kernel
theorem dX2_verdictKnown_47 : decode cX2_verdictKnown 47 = .ok (.iload 4, 2) := by decide +kernel
theorem dX2_verdictKnown_49 : decode cX2_verdictKnown 49 = .ok (.iaload, 1) := by decide +kernel
theorem dX2_verdictKnown_50 : decode cX2_verdictKnown 50 = .ok (.iload_n 2, 1) := by decide +kernel
theorem dX2_verdictKnown_51 : decode cX2_verdictKnown 51 = .ok (.if_icmp .gt 13, 3) := by decide +kernel
theorem dX2_verdictKnown_54 : decode cX2_verdictKnown 54 = .ok (.aload_n 0, 1) := by decide +kernel
theorem dX2_verdictKnown_55 : decode cX2_verdictKnown 55 = .ok (.getfield 23, 3) := by decide +kernel
theorem dX2_verdictKnown_58 : decode cX2_verdictKnown 58 = .ok (.iconst 2, 1) := by decide +kernel
theorem dX2_verdictKnown_59 : decode cX2_verdictKnown 59 = .ok (.aaload, 1) := by decide +kernel
theorem dX2_verdictKnown_60 : decode cX2_verdictKnown 60 = .ok (.iload 4, 2) := by decide +kernel
theorem dX2_verdictKnown_62 : decode cX2_verdictKnown 62 = .ok (.iaload, 1) := by decide +kernel
theorem dX2_verdictKnown_63 : decode cX2_verdictKnown 63 = .ok (.istore_n 3, 1) := by decide +kernel
theorem dX2_verdictKnown_64 : decode cX2_verdictKnown 64 = .ok (.iinc 4 1, 3) := by decide +kernel
theorem dX2_verdictKnown_67 : decode cX2_verdictKnown 67 = .ok (.goto (-55), 3) := by decide +kernel
theorem dX2_verdictKnown_70 : decode cX2_verdictKnown 70 = .ok (.iload_n 3, 1) := by decide +kernel
theorem dX2_verdictKnown_71 : decode cX2_verdictKnown 71 = .ok (.ireturn, 1) := by decide +kernel
set_option maxHeartbeats 4000000 in
set_option maxRecDepth 100000 in
theorem S_X2_verdictKnown (l : Launch) (D : va_G) (K : Nat → ClassId) (a : Nat → Nat) (G : gS) (p0 : Int32) (s0 : Int) (p1 : Int32) (s1 : Int) (e0 : p0.toInt = s0) (h0 : 0 ≤ s0 ∧ s0 ≤ 29) (e1 : p1.toInt = s1) (hI : xI G) (sz : Nat) : Ki l yX2_verdictKnown wsX2_verdictKnown 1 40 0 0 D [.ref (a 9), .int p0, .int p1] (xW K a G) (tK K) sz (fun (r : Int32) (_ : Unit) => True) (fun (_ : Unit) => (xW K a G)) (fun _ => (tK K)) := by
  unfold Ki
  refine g_ofW (cc := cX2_verdictKnown) (lv := [(0, .ref (a 9)), (1, .int p0), (2, .int p1)]) (by decide) rfl (Nat.le_of_ble_eq_true rfl) rfl ?_
  intro p e s m args below meth c A Q hA hQ F hr hnm
  have hts := F.2.2.2.2.1
  have w_0 : (Cond.fieldLink RX2 47 "QuietCut$Ear" "rights" "I").before args s = true := hts _ (List.mem_of_getElem? (i := 2) rfl)
  have i_X2 : ∀ w ∈ u_ws RX2 TX2 10, w ∈ wsX2_verdictKnown := fun _ h => List.mem_cons_of_mem _ (List.mem_append_right _ h)
  have w_1 : (Cond.fieldLink RX2 23 "QuietCut$Ear" "rightRows" "[[I").before args s = true := hts _ (List.mem_of_getElem? (i := 3) rfl)
  have w_2 : (Cond.fieldLink RX2 20 "QuietCut$Ear" "heardRows" "[[I").before args s = true := hts _ (List.mem_of_getElem? (i := 1) rfl)
  have rg1 : -2147483648 ≤ s1 ∧ s1 ≤ 2147483647 := e1 ▸ ti_rng p1
  have J_12 : ∀ (fuel : Nat) (x12_3 : Int32) (x12_4 : Int32), (2147483647 - x12_4.toInt).toNat < fuel → (0 ≤ x12_4.toInt ∧ x12_4.toInt ≤ 20) → gG p l e (gR 1 0 0 40) s m args below meth c D A 5 Q 0 0 (xW K a G) (tK K) [(0, .ref (a 9)), (1, .int p0), (2, .int p1), (3, .int x12_3), (4, .int x12_4)] 12 [] := by
    intro fuel
    induction fuel with
    | zero => intro x12_3 x12_4 hm; exact absurd hm (Nat.not_lt_zero _)
    | succ fuel_12 ih_12 =>
      intro x12_3 x12_4 hm_12 h12_4
      have J_64 : ∀  (x64_3 : Int32), (0 ≤ x12_4.toInt ∧ x12_4.toInt ≤ 19) → gG p l e (gR 1 0 0 40) s m args below meth c D A 5 Q 0 0 (xW K a G) (tK K) [(0, .ref (a 9)), (1, .int p0), (2, .int p1), (3, .int x64_3), (4, .int x12_4)] 64 [] := by
        intro x64_3 k64_4
        refine u_iinc F (fun v_ => [(4, .int v_), (0, .ref (a 9)), (1, .int p0), (2, .int p1), (3, .int x64_3)]) dX2_verdictKnown_64 (j := 4) rfl x12_4.toInt 1 rfl rfl (by omega) (by omega) (by decide) (fun _ => rfl) (fun y1 ey1 => ?_)
        refine g_goto F 12 dX2_verdictKnown_67 (by decide) ?_
        refine g_locals [(0, .ref (a 9)), (1, .int p0), (2, .int p1), (3, .int x64_3), (4, .int y1)] [1, 2, 3, 4, 0] rfl ?_
        exact ih_12 x64_3 y1 (by omega) (by have h9 := ti_rng y1; omega)
      refine g_iload F 4 dX2_verdictKnown_12 rfl ?_
      refine g_aload_n F 0 dX2_verdictKnown_14 rfl rfl ?_
      refine xg_9_8 F i_X2 w_0 dX2_verdictKnown_15 (G 9 8) (rfl) ?_
      have b2 : (0 : Int) ≤ (G 9 8).toInt ∧ (G 9 8).toInt ≤ 20 := hI 9 8
      refine v_icmp_ge F 70 dX2_verdictKnown_18 (by decide) x12_4.toInt (G 9 8).toInt rfl rfl (fun c3 => ?_) (fun c3 => ?_)
      · refine g_iload_n F 3 dX2_verdictKnown_70 rfl rfl ?_
        exact u_iret F hA hQ hr () (trivial) rfl rfl dX2_verdictKnown_71
      · refine g_iload F 4 dX2_verdictKnown_21 rfl ?_
        refine g_bipush F 20 dX2_verdictKnown_23 (by decide) ?_
        refine v_icmp_ge F 70 dX2_verdictKnown_25 (by decide) x12_4.toInt 20 rfl rfl (fun c4 => absurd c4 (by omega)) (fun c4 => ?_)
        refine g_aload_n F 0 dX2_verdictKnown_28 rfl rfl ?_
        refine xg_9_7 F i_X2 w_1 dX2_verdictKnown_29 ?_
        refine g_iconst F 1 dX2_verdictKnown_32 (by decide) ?_
        refine g_aald (b := a 86) F 84 1 xc_84 rfl (ti_in (show Int32.toInt 1 = 1 from rfl) (by decide) (by decide)) (by rw [show Int32.toNatClampNeg 1 = 1 from congrArg Int.toNat (show Int32.toInt 1 = 1 from rfl)]; rfl) dX2_verdictKnown_33 ?_
        refine g_iload F 4 dX2_verdictKnown_34 rfl ?_
        refine u_iald F 86 0 xc_86 rfl x12_4.toInt rfl (by omega) (by omega) dX2_verdictKnown_36 (fun _ => True) (fun _ => trivial) (fun y5 by5 => ?_)
        refine g_iload_n F 1 dX2_verdictKnown_37 rfl rfl ?_
        have b6 := ti_rng y5
        refine v_icmp_ne F 64 dX2_verdictKnown_38 (by decide) y5.toInt s0 rfl e0 (fun c7 => ?_) (fun c7 => ?_)
        · exact J_64 x12_3 (by have h9 := ti_rng x12_4; omega)
        · refine g_aload_n F 0 dX2_verdictKnown_41 rfl rfl ?_
          refine xg_9_7 F i_X2 w_1 dX2_verdictKnown_42 ?_
          refine g_iconst F 0 dX2_verdictKnown_45 (by decide) ?_
          refine g_aald (b := a 85) F 84 1 xc_84 rfl (ti_in (show Int32.toInt 0 = 0 from rfl) (by decide) (by decide)) (by rw [show Int32.toNatClampNeg 0 = 0 from congrArg Int.toNat (show Int32.toInt 0 = 0 from rfl)]; rfl) dX2_verdictKnown_46 ?_
          refine g_iload F 4 dX2_verdictKnown_47 rfl ?_
          refine u_iald F 85 0 xc_85 rfl x12_4.toInt rfl (by omega) (by omega) dX2_verdictKnown_49 (fun _ => True) (fun _ => trivial) (fun y8 by8 => ?_)
          refine g_iload_n F 2 dX2_verdictKnown_50 rfl rfl ?_
          have b9 := ti_rng y8
          refine v_icmp_gt F 64 dX2_verdictKnown_51 (by decide) y8.toInt s1 rfl e1 (fun c10 => ?_) (fun c10 => ?_)
          · exact J_64 x12_3 (by have h9 := ti_rng x12_4; omega)
          · refine g_aload_n F 0 dX2_verdictKnown_54 rfl rfl ?_
            refine xg_9_7 F i_X2 w_1 dX2_verdictKnown_55 ?_
            refine g_iconst F 2 dX2_verdictKnown_58 (by decide) ?_
            refine g_aald (b := a 87) F 84 1 xc_84 rfl (ti_in (show Int32.toInt 2 = 2 from rfl) (by decide) (by decide)) (by rw [show Int32.toNatClampNeg 2 = 2 from congrArg Int.toNat (show Int32.toInt 2 = 2 from rfl)]; rfl) dX2_verdictKnown_59 ?_
            refine g_iload F 4 dX2_verdictKnown_60 rfl ?_
            refine u_iald F 87 0 xc_87 rfl x12_4.toInt rfl (by omega) (by omega) dX2_verdictKnown_62 (fun _ => True) (fun _ => trivial) (fun y11 by11 => ?_)
            refine g_istore_n F [(3, .int y11), (0, .ref (a 9)), (1, .int p0), (2, .int p1), (4, .int x12_4)] dX2_verdictKnown_63 rfl (by decide) rfl ?_
            refine g_locals [(0, .ref (a 9)), (1, .int p0), (2, .int p1), (3, .int y11), (4, .int x12_4)] [1, 2, 3, 0, 4] rfl ?_
            exact J_64 y11 (by have h9 := ti_rng x12_4; omega)
  refine g_aload_n F 0 dX2_verdictKnown_0 rfl rfl ?_
  refine xg_9_5 F i_X2 w_2 dX2_verdictKnown_1 ?_
  refine g_iconst F 2 dX2_verdictKnown_4 (by decide) ?_
  refine g_aald (b := a 83) F 80 1 xc_80 rfl (ti_in (show Int32.toInt 2 = 2 from rfl) (by decide) (by decide)) (by rw [show Int32.toNatClampNeg 2 = 2 from congrArg Int.toNat (show Int32.toInt 2 = 2 from rfl)]; rfl) dX2_verdictKnown_5 ?_
  refine g_iload_n F 1 dX2_verdictKnown_6 rfl rfl ?_
  refine u_iald F 83 0 xc_83 rfl s0 e0 (by omega) (by omega) dX2_verdictKnown_7 (fun _ => True) (fun _ => trivial) (fun y12 by12 => ?_)
  refine g_istore_n F [(3, .int y12), (0, .ref (a 9)), (1, .int p0), (2, .int p1)] dX2_verdictKnown_8 rfl (by decide) rfl ?_
  refine g_iconst F 0 dX2_verdictKnown_9 (by decide) ?_
  refine g_istore F [(4, .int 0), (3, .int y12), (0, .ref (a 9)), (1, .int p0), (2, .int p1)] dX2_verdictKnown_10 (by decide) rfl ?_
  refine g_locals [(0, .ref (a 9)), (1, .int p0), (2, .int p1), (3, .int y12), (4, .int 0)] [2, 3, 4, 1, 0] rfl ?_
  exact J_12 _ y12 0 (Nat.lt_succ_self _) (by decide)

theorem dX2_pairsWith_0 : decode cX2_pairsWith 0 = .ok (.iconst 0, 1) := by decide +kernel
theorem dX2_pairsWith_1 : decode cX2_pairsWith 1 = .ok (.istore_n 3, 1) := by decide +kernel
theorem dX2_pairsWith_2 : decode cX2_pairsWith 2 = .ok (.iconst 0, 1) := by decide +kernel
theorem dX2_pairsWith_3 : decode cX2_pairsWith 3 = .ok (.istore 4, 2) := by decide +kernel
theorem dX2_pairsWith_5 : decode cX2_pairsWith 5 = .ok (.iload 4, 2) := by decide +kernel
theorem dX2_pairsWith_7 : decode cX2_pairsWith 7 = .ok (.bipush 16, 2) := by decide +kernel
theorem dX2_pairsWith_9 : decode cX2_pairsWith 9 = .ok (.if_icmp .ge 39, 3) := by decide +kernel
theorem dX2_pairsWith_12 : decode cX2_pairsWith 12 = .ok (.iload_n 1, 1) := by decide +kernel
theorem dX2_pairsWith_13 : decode cX2_pairsWith 13 = .ok (.ifCond .lt 35, 3) := by decide +kernel
theorem dX2_pairsWith_16 : decode cX2_pairsWith 16 = .ok (.iload_n 1, 1) := by decide +kernel
theorem dX2_pairsWith_17 : decode cX2_pairsWith 17 = .ok (.bipush 10, 2) := by decide +kernel
theorem dX2_pairsWith_19 : decode cX2_pairsWith 19 = .ok (.if_icmp .ge 29, 3) := by decide +kernel
theorem dX2_pairsWith_22 : decode cX2_pairsWith 22 = .ok (.aload_n 0, 1) := by decide +kernel
theorem dX2_pairsWith_23 : decode cX2_pairsWith 23 = .ok (.getfield 17, 3) := by decide +kernel
theorem dX2_pairsWith_26 : decode cX2_pairsWith 26 = .ok (.iload_n 1, 1) := by decide +kernel
theorem dX2_pairsWith_27 : decode cX2_pairsWith 27 = .ok (.aaload, 1) := by decide +kernel
theorem dX2_pairsWith_28 : decode cX2_pairsWith 28 = .ok (.iload 4, 2) := by decide +kernel
theorem dX2_pairsWith_30 : decode cX2_pairsWith 30 = .ok (.iaload, 1) := by decide +kernel
theorem dX2_pairsWith_31 : decode cX2_pairsWith 31 = .ok (.iload_n 2, 1) := by decide +kernel
theorem dX2_pairsWith_32 : decode cX2_pairsWith 32 = .ok (.if_icmp .ne 10, 3) := by decide +kernel
theorem dX2_pairsWith_35 : decode cX2_pairsWith 35 = .ok (.iload_n 3, 1) := by decide +kernel
theorem dX2_pairsWith_36 : decode cX2_pairsWith 36 = .ok (.iconst 1, 1) := by decide +kernel
theorem dX2_pairsWith_37 : decode cX2_pairsWith 37 = .ok (.iload 4, 2) := by decide +kernel
theorem dX2_pairsWith_39 : decode cX2_pairsWith 39 = .ok (.ishl, 1) := by decide +kernel
theorem dX2_pairsWith_40 : decode cX2_pairsWith 40 = .ok (.ior, 1) := by decide +kernel
theorem dX2_pairsWith_41 : decode cX2_pairsWith 41 = .ok (.istore_n 3, 1) := by decide +kernel
theorem dX2_pairsWith_42 : decode cX2_pairsWith 42 = .ok (.iinc 4 1, 3) := by decide +kernel
theorem dX2_pairsWith_45 : decode cX2_pairsWith 45 = .ok (.goto (-40), 3) := by decide +kernel
theorem dX2_pairsWith_48 : decode cX2_pairsWith 48 = .ok (.iload_n 3, 1) := by decide +kernel
theorem dX2_pairsWith_49 : decode cX2_pairsWith 49 = .ok (.ireturn, 1) := by decide +kernel
set_option maxHeartbeats 4000000 in
set_option maxRecDepth 100000 in
theorem S_X2_pairsWith (l : Launch) (D : va_G) (K : Nat → ClassId) (a : Nat → Nat) (G : gS) (p0 : Int32) (s0 : Int) (p1 : Int32) (s1 : Int) (e0 : p0.toInt = s0) (e1 : p1.toInt = s1) (hI : xI G) (sz : Nat) : Ki l yX2_pairsWith wsX2_pairsWith 1 40 0 0 D [.ref (a 9), .int p0, .int p1] (xW K a G) (tK K) sz (fun (r : Int32) (_ : Unit) => True) (fun (_ : Unit) => (xW K a G)) (fun _ => (tK K)) := by
  unfold Ki
  refine g_ofW (cc := cX2_pairsWith) (lv := [(0, .ref (a 9)), (1, .int p0), (2, .int p1)]) (by decide) rfl (Nat.le_of_ble_eq_true rfl) rfl ?_
  intro p e s m args below meth c A Q hA hQ F hr hnm
  have hts := F.2.2.2.2.1
  have w_0 : (Cond.fieldLink RX2 17 "QuietCut$Ear" "verdicts" "[[I").before args s = true := hts _ (List.mem_of_getElem? (i := 1) rfl)
  have i_X2 : ∀ w ∈ u_ws RX2 TX2 10, w ∈ wsX2_pairsWith := fun _ h => List.mem_cons_of_mem _ (List.mem_append_right _ h)
  have rg0 : -2147483648 ≤ s0 ∧ s0 ≤ 2147483647 := e0 ▸ ti_rng p0
  have rg1 : -2147483648 ≤ s1 ∧ s1 ≤ 2147483647 := e1 ▸ ti_rng p1
  have J_5 : ∀ (fuel : Nat) (x5_3 : Int32) (x5_4 : Int32), (2147483647 - x5_4.toInt).toNat < fuel → (0 ≤ x5_4.toInt ∧ x5_4.toInt ≤ 16) → gG p l e (gR 1 0 0 40) s m args below meth c D A 5 Q 0 0 (xW K a G) (tK K) [(0, .ref (a 9)), (1, .int p0), (2, .int p1), (3, .int x5_3), (4, .int x5_4)] 5 [] := by
    intro fuel
    induction fuel with
    | zero => intro x5_3 x5_4 hm; exact absurd hm (Nat.not_lt_zero _)
    | succ fuel_5 ih_5 =>
      intro x5_3 x5_4 hm_5 h5_4
      have J_42 : ∀  (x42_3 : Int32), (0 ≤ s0 ∧ s0 ≤ 9) → (0 ≤ x5_4.toInt ∧ x5_4.toInt ≤ 15) → gG p l e (gR 1 0 0 40) s m args below meth c D A 5 Q 0 0 (xW K a G) (tK K) [(0, .ref (a 9)), (1, .int p0), (2, .int p1), (3, .int x42_3), (4, .int x5_4)] 42 [] := by
        intro x42_3 k42_1 k42_4
        refine u_iinc F (fun v_ => [(4, .int v_), (0, .ref (a 9)), (1, .int p0), (2, .int p1), (3, .int x42_3)]) dX2_pairsWith_42 (j := 4) rfl x5_4.toInt 1 rfl rfl (by omega) (by omega) (by decide) (fun _ => rfl) (fun y1 ey1 => ?_)
        refine g_goto F 5 dX2_pairsWith_45 (by decide) ?_
        refine g_locals [(0, .ref (a 9)), (1, .int p0), (2, .int p1), (3, .int x42_3), (4, .int y1)] [1, 2, 3, 4, 0] rfl ?_
        exact ih_5 x42_3 y1 (by omega) (by have h9 := ti_rng y1; omega)
      refine g_iload F 4 dX2_pairsWith_5 rfl ?_
      refine g_bipush F 16 dX2_pairsWith_7 (by decide) ?_
      refine v_icmp_ge F 48 dX2_pairsWith_9 (by decide) x5_4.toInt 16 rfl rfl (fun c2 => ?_) (fun c2 => ?_)
      · refine g_iload_n F 3 dX2_pairsWith_48 rfl rfl ?_
        exact u_iret F hA hQ hr () (trivial) rfl rfl dX2_pairsWith_49
      · refine g_iload_n F 1 dX2_pairsWith_12 rfl rfl ?_
        refine v_if_lt F 48 dX2_pairsWith_13 (by decide) s0 e0 (fun c3 => ?_) (fun c3 => ?_)
        · refine g_iload_n F 3 dX2_pairsWith_48 rfl rfl ?_
          exact u_iret F hA hQ hr () (trivial) rfl rfl dX2_pairsWith_49
        · refine g_iload_n F 1 dX2_pairsWith_16 rfl rfl ?_
          refine g_bipush F 10 dX2_pairsWith_17 (by decide) ?_
          refine v_icmp_ge F 48 dX2_pairsWith_19 (by decide) s0 10 e0 rfl (fun c4 => ?_) (fun c4 => ?_)
          · refine g_iload_n F 3 dX2_pairsWith_48 rfl rfl ?_
            exact u_iret F hA hQ hr () (trivial) rfl rfl dX2_pairsWith_49
          · refine g_aload_n F 0 dX2_pairsWith_22 rfl rfl ?_
            refine xg_9_3 F i_X2 w_0 dX2_pairsWith_23 ?_
            refine g_iload_n F 1 dX2_pairsWith_26 rfl rfl ?_
            rcases (show s0 = 0 ∨ s0 = 1 ∨ s0 = 2 ∨ s0 = 3 ∨ s0 = 4 ∨ s0 = 5 ∨ s0 = 6 ∨ s0 = 7 ∨ s0 = 8 ∨ s0 = 9 by omega) with c5 | c5 | c5 | c5 | c5 | c5 | c5 | c5 | c5 | c5
            · refine g_aald (b := a 70) F 69 1 xc_69 rfl (ti_in (show Int32.toInt p0 = 0 from (e0.trans c5)) (by decide) (by decide)) (by rw [show Int32.toNatClampNeg p0 = 0 from congrArg Int.toNat (show Int32.toInt p0 = 0 from (e0.trans c5))]; rfl) dX2_pairsWith_27 ?_
              refine g_iload F 4 dX2_pairsWith_28 rfl ?_
              refine u_iald F 70 0 xc_70 rfl x5_4.toInt rfl (by omega) (by omega) dX2_pairsWith_30 (fun _ => True) (fun _ => trivial) (fun y6 by6 => ?_)
              refine g_iload_n F 2 dX2_pairsWith_31 rfl rfl ?_
              have b7 := ti_rng y6
              refine v_icmp_ne F 42 dX2_pairsWith_32 (by decide) y6.toInt s1 rfl e1 (fun c8 => ?_) (fun c8 => ?_)
              · exact J_42 x5_3 (by have h9 := ti_rng p0; omega) (by have h9 := ti_rng x5_4; omega)
              · refine g_iload_n F 3 dX2_pairsWith_35 rfl rfl ?_
                refine g_iconst F 1 dX2_pairsWith_36 (by decide) ?_
                refine g_iload F 4 dX2_pairsWith_37 rfl ?_
                refine u0_ishl F dX2_pairsWith_39 (fun y9 => ?_)
                refine u0_ior F dX2_pairsWith_40 (fun y10 => ?_)
                refine g_istore_n F [(3, .int y10), (0, .ref (a 9)), (1, .int p0), (2, .int p1), (4, .int x5_4)] dX2_pairsWith_41 rfl (by decide) rfl ?_
                refine g_locals [(0, .ref (a 9)), (1, .int p0), (2, .int p1), (3, .int y10), (4, .int x5_4)] [1, 2, 3, 0, 4] rfl ?_
                exact J_42 y10 (by have h9 := ti_rng p0; omega) (by have h9 := ti_rng x5_4; omega)
            · refine g_aald (b := a 71) F 69 1 xc_69 rfl (ti_in (show Int32.toInt p0 = 1 from (e0.trans c5)) (by decide) (by decide)) (by rw [show Int32.toNatClampNeg p0 = 1 from congrArg Int.toNat (show Int32.toInt p0 = 1 from (e0.trans c5))]; rfl) dX2_pairsWith_27 ?_
              refine g_iload F 4 dX2_pairsWith_28 rfl ?_
              refine u_iald F 71 0 xc_71 rfl x5_4.toInt rfl (by omega) (by omega) dX2_pairsWith_30 (fun _ => True) (fun _ => trivial) (fun y11 by11 => ?_)
              refine g_iload_n F 2 dX2_pairsWith_31 rfl rfl ?_
              have b12 := ti_rng y11
              refine v_icmp_ne F 42 dX2_pairsWith_32 (by decide) y11.toInt s1 rfl e1 (fun c13 => ?_) (fun c13 => ?_)
              · exact J_42 x5_3 (by have h9 := ti_rng p0; omega) (by have h9 := ti_rng x5_4; omega)
              · refine g_iload_n F 3 dX2_pairsWith_35 rfl rfl ?_
                refine g_iconst F 1 dX2_pairsWith_36 (by decide) ?_
                refine g_iload F 4 dX2_pairsWith_37 rfl ?_
                refine u0_ishl F dX2_pairsWith_39 (fun y14 => ?_)
                refine u0_ior F dX2_pairsWith_40 (fun y15 => ?_)
                refine g_istore_n F [(3, .int y15), (0, .ref (a 9)), (1, .int p0), (2, .int p1), (4, .int x5_4)] dX2_pairsWith_41 rfl (by decide) rfl ?_
                refine g_locals [(0, .ref (a 9)), (1, .int p0), (2, .int p1), (3, .int y15), (4, .int x5_4)] [1, 2, 3, 0, 4] rfl ?_
                exact J_42 y15 (by have h9 := ti_rng p0; omega) (by have h9 := ti_rng x5_4; omega)
            · refine g_aald (b := a 72) F 69 1 xc_69 rfl (ti_in (show Int32.toInt p0 = 2 from (e0.trans c5)) (by decide) (by decide)) (by rw [show Int32.toNatClampNeg p0 = 2 from congrArg Int.toNat (show Int32.toInt p0 = 2 from (e0.trans c5))]; rfl) dX2_pairsWith_27 ?_
              refine g_iload F 4 dX2_pairsWith_28 rfl ?_
              refine u_iald F 72 0 xc_72 rfl x5_4.toInt rfl (by omega) (by omega) dX2_pairsWith_30 (fun _ => True) (fun _ => trivial) (fun y16 by16 => ?_)
              refine g_iload_n F 2 dX2_pairsWith_31 rfl rfl ?_
              have b17 := ti_rng y16
              refine v_icmp_ne F 42 dX2_pairsWith_32 (by decide) y16.toInt s1 rfl e1 (fun c18 => ?_) (fun c18 => ?_)
              · exact J_42 x5_3 (by have h9 := ti_rng p0; omega) (by have h9 := ti_rng x5_4; omega)
              · refine g_iload_n F 3 dX2_pairsWith_35 rfl rfl ?_
                refine g_iconst F 1 dX2_pairsWith_36 (by decide) ?_
                refine g_iload F 4 dX2_pairsWith_37 rfl ?_
                refine u0_ishl F dX2_pairsWith_39 (fun y19 => ?_)
                refine u0_ior F dX2_pairsWith_40 (fun y20 => ?_)
                refine g_istore_n F [(3, .int y20), (0, .ref (a 9)), (1, .int p0), (2, .int p1), (4, .int x5_4)] dX2_pairsWith_41 rfl (by decide) rfl ?_
                refine g_locals [(0, .ref (a 9)), (1, .int p0), (2, .int p1), (3, .int y20), (4, .int x5_4)] [1, 2, 3, 0, 4] rfl ?_
                exact J_42 y20 (by have h9 := ti_rng p0; omega) (by have h9 := ti_rng x5_4; omega)
            · refine g_aald (b := a 73) F 69 1 xc_69 rfl (ti_in (show Int32.toInt p0 = 3 from (e0.trans c5)) (by decide) (by decide)) (by rw [show Int32.toNatClampNeg p0 = 3 from congrArg Int.toNat (show Int32.toInt p0 = 3 from (e0.trans c5))]; rfl) dX2_pairsWith_27 ?_
              refine g_iload F 4 dX2_pairsWith_28 rfl ?_
              refine u_iald F 73 0 xc_73 rfl x5_4.toInt rfl (by omega) (by omega) dX2_pairsWith_30 (fun _ => True) (fun _ => trivial) (fun y21 by21 => ?_)
              refine g_iload_n F 2 dX2_pairsWith_31 rfl rfl ?_
              have b22 := ti_rng y21
              refine v_icmp_ne F 42 dX2_pairsWith_32 (by decide) y21.toInt s1 rfl e1 (fun c23 => ?_) (fun c23 => ?_)
              · exact J_42 x5_3 (by have h9 := ti_rng p0; omega) (by have h9 := ti_rng x5_4; omega)
              · refine g_iload_n F 3 dX2_pairsWith_35 rfl rfl ?_
                refine g_iconst F 1 dX2_pairsWith_36 (by decide) ?_
                refine g_iload F 4 dX2_pairsWith_37 rfl ?_
                refine u0_ishl F dX2_pairsWith_39 (fun y24 => ?_)
                refine u0_ior F dX2_pairsWith_40 (fun y25 => ?_)
                refine g_istore_n F [(3, .int y25), (0, .ref (a 9)), (1, .int p0), (2, .int p1), (4, .int x5_4)] dX2_pairsWith_41 rfl (by decide) rfl ?_
                refine g_locals [(0, .ref (a 9)), (1, .int p0), (2, .int p1), (3, .int y25), (4, .int x5_4)] [1, 2, 3, 0, 4] rfl ?_
                exact J_42 y25 (by have h9 := ti_rng p0; omega) (by have h9 := ti_rng x5_4; omega)
            · refine g_aald (b := a 74) F 69 1 xc_69 rfl (ti_in (show Int32.toInt p0 = 4 from (e0.trans c5)) (by decide) (by decide)) (by rw [show Int32.toNatClampNeg p0 = 4 from congrArg Int.toNat (show Int32.toInt p0 = 4 from (e0.trans c5))]; rfl) dX2_pairsWith_27 ?_
              refine g_iload F 4 dX2_pairsWith_28 rfl ?_
              refine u_iald F 74 0 xc_74 rfl x5_4.toInt rfl (by omega) (by omega) dX2_pairsWith_30 (fun _ => True) (fun _ => trivial) (fun y26 by26 => ?_)
              refine g_iload_n F 2 dX2_pairsWith_31 rfl rfl ?_
              have b27 := ti_rng y26
              refine v_icmp_ne F 42 dX2_pairsWith_32 (by decide) y26.toInt s1 rfl e1 (fun c28 => ?_) (fun c28 => ?_)
              · exact J_42 x5_3 (by have h9 := ti_rng p0; omega) (by have h9 := ti_rng x5_4; omega)
              · refine g_iload_n F 3 dX2_pairsWith_35 rfl rfl ?_
                refine g_iconst F 1 dX2_pairsWith_36 (by decide) ?_
                refine g_iload F 4 dX2_pairsWith_37 rfl ?_
                refine u0_ishl F dX2_pairsWith_39 (fun y29 => ?_)
                refine u0_ior F dX2_pairsWith_40 (fun y30 => ?_)
                refine g_istore_n F [(3, .int y30), (0, .ref (a 9)), (1, .int p0), (2, .int p1), (4, .int x5_4)] dX2_pairsWith_41 rfl (by decide) rfl ?_
                refine g_locals [(0, .ref (a 9)), (1, .int p0), (2, .int p1), (3, .int y30), (4, .int x5_4)] [1, 2, 3, 0, 4] rfl ?_
                exact J_42 y30 (by have h9 := ti_rng p0; omega) (by have h9 := ti_rng x5_4; omega)
            · refine g_aald (b := a 75) F 69 1 xc_69 rfl (ti_in (show Int32.toInt p0 = 5 from (e0.trans c5)) (by decide) (by decide)) (by rw [show Int32.toNatClampNeg p0 = 5 from congrArg Int.toNat (show Int32.toInt p0 = 5 from (e0.trans c5))]; rfl) dX2_pairsWith_27 ?_
              refine g_iload F 4 dX2_pairsWith_28 rfl ?_
              refine u_iald F 75 0 xc_75 rfl x5_4.toInt rfl (by omega) (by omega) dX2_pairsWith_30 (fun _ => True) (fun _ => trivial) (fun y31 by31 => ?_)
              refine g_iload_n F 2 dX2_pairsWith_31 rfl rfl ?_
              have b32 := ti_rng y31
              refine v_icmp_ne F 42 dX2_pairsWith_32 (by decide) y31.toInt s1 rfl e1 (fun c33 => ?_) (fun c33 => ?_)
              · exact J_42 x5_3 (by have h9 := ti_rng p0; omega) (by have h9 := ti_rng x5_4; omega)
              · refine g_iload_n F 3 dX2_pairsWith_35 rfl rfl ?_
                refine g_iconst F 1 dX2_pairsWith_36 (by decide) ?_
                refine g_iload F 4 dX2_pairsWith_37 rfl ?_
                refine u0_ishl F dX2_pairsWith_39 (fun y34 => ?_)
                refine u0_ior F dX2_pairsWith_40 (fun y35 => ?_)
                refine g_istore_n F [(3, .int y35), (0, .ref (a 9)), (1, .int p0), (2, .int p1), (4, .int x5_4)] dX2_pairsWith_41 rfl (by decide) rfl ?_
                refine g_locals [(0, .ref (a 9)), (1, .int p0), (2, .int p1), (3, .int y35), (4, .int x5_4)] [1, 2, 3, 0, 4] rfl ?_
                exact J_42 y35 (by have h9 := ti_rng p0; omega) (by have h9 := ti_rng x5_4; omega)
            · refine g_aald (b := a 76) F 69 1 xc_69 rfl (ti_in (show Int32.toInt p0 = 6 from (e0.trans c5)) (by decide) (by decide)) (by rw [show Int32.toNatClampNeg p0 = 6 from congrArg Int.toNat (show Int32.toInt p0 = 6 from (e0.trans c5))]; rfl) dX2_pairsWith_27 ?_
              refine g_iload F 4 dX2_pairsWith_28 rfl ?_
              refine u_iald F 76 0 xc_76 rfl x5_4.toInt rfl (by omega) (by omega) dX2_pairsWith_30 (fun _ => True) (fun _ => trivial) (fun y36 by36 => ?_)
              refine g_iload_n F 2 dX2_pairsWith_31 rfl rfl ?_
              have b37 := ti_rng y36
              refine v_icmp_ne F 42 dX2_pairsWith_32 (by decide) y36.toInt s1 rfl e1 (fun c38 => ?_) (fun c38 => ?_)
              · exact J_42 x5_3 (by have h9 := ti_rng p0; omega) (by have h9 := ti_rng x5_4; omega)
              · refine g_iload_n F 3 dX2_pairsWith_35 rfl rfl ?_
                refine g_iconst F 1 dX2_pairsWith_36 (by decide) ?_
                refine g_iload F 4 dX2_pairsWith_37 rfl ?_
                refine u0_ishl F dX2_pairsWith_39 (fun y39 => ?_)
                refine u0_ior F dX2_pairsWith_40 (fun y40 => ?_)
                refine g_istore_n F [(3, .int y40), (0, .ref (a 9)), (1, .int p0), (2, .int p1), (4, .int x5_4)] dX2_pairsWith_41 rfl (by decide) rfl ?_
                refine g_locals [(0, .ref (a 9)), (1, .int p0), (2, .int p1), (3, .int y40), (4, .int x5_4)] [1, 2, 3, 0, 4] rfl ?_
                exact J_42 y40 (by have h9 := ti_rng p0; omega) (by have h9 := ti_rng x5_4; omega)
            · refine g_aald (b := a 77) F 69 1 xc_69 rfl (ti_in (show Int32.toInt p0 = 7 from (e0.trans c5)) (by decide) (by decide)) (by rw [show Int32.toNatClampNeg p0 = 7 from congrArg Int.toNat (show Int32.toInt p0 = 7 from (e0.trans c5))]; rfl) dX2_pairsWith_27 ?_
              refine g_iload F 4 dX2_pairsWith_28 rfl ?_
              refine u_iald F 77 0 xc_77 rfl x5_4.toInt rfl (by omega) (by omega) dX2_pairsWith_30 (fun _ => True) (fun _ => trivial) (fun y41 by41 => ?_)
              refine g_iload_n F 2 dX2_pairsWith_31 rfl rfl ?_
              have b42 := ti_rng y41
              refine v_icmp_ne F 42 dX2_pairsWith_32 (by decide) y41.toInt s1 rfl e1 (fun c43 => ?_) (fun c43 => ?_)
              · exact J_42 x5_3 (by have h9 := ti_rng p0; omega) (by have h9 := ti_rng x5_4; omega)
              · refine g_iload_n F 3 dX2_pairsWith_35 rfl rfl ?_
                refine g_iconst F 1 dX2_pairsWith_36 (by decide) ?_
                refine g_iload F 4 dX2_pairsWith_37 rfl ?_
                refine u0_ishl F dX2_pairsWith_39 (fun y44 => ?_)
                refine u0_ior F dX2_pairsWith_40 (fun y45 => ?_)
                refine g_istore_n F [(3, .int y45), (0, .ref (a 9)), (1, .int p0), (2, .int p1), (4, .int x5_4)] dX2_pairsWith_41 rfl (by decide) rfl ?_
                refine g_locals [(0, .ref (a 9)), (1, .int p0), (2, .int p1), (3, .int y45), (4, .int x5_4)] [1, 2, 3, 0, 4] rfl ?_
                exact J_42 y45 (by have h9 := ti_rng p0; omega) (by have h9 := ti_rng x5_4; omega)
            · refine g_aald (b := a 78) F 69 1 xc_69 rfl (ti_in (show Int32.toInt p0 = 8 from (e0.trans c5)) (by decide) (by decide)) (by rw [show Int32.toNatClampNeg p0 = 8 from congrArg Int.toNat (show Int32.toInt p0 = 8 from (e0.trans c5))]; rfl) dX2_pairsWith_27 ?_
              refine g_iload F 4 dX2_pairsWith_28 rfl ?_
              refine u_iald F 78 0 xc_78 rfl x5_4.toInt rfl (by omega) (by omega) dX2_pairsWith_30 (fun _ => True) (fun _ => trivial) (fun y46 by46 => ?_)
              refine g_iload_n F 2 dX2_pairsWith_31 rfl rfl ?_
              have b47 := ti_rng y46
              refine v_icmp_ne F 42 dX2_pairsWith_32 (by decide) y46.toInt s1 rfl e1 (fun c48 => ?_) (fun c48 => ?_)
              · exact J_42 x5_3 (by have h9 := ti_rng p0; omega) (by have h9 := ti_rng x5_4; omega)
              · refine g_iload_n F 3 dX2_pairsWith_35 rfl rfl ?_
                refine g_iconst F 1 dX2_pairsWith_36 (by decide) ?_
                refine g_iload F 4 dX2_pairsWith_37 rfl ?_
                refine u0_ishl F dX2_pairsWith_39 (fun y49 => ?_)
                refine u0_ior F dX2_pairsWith_40 (fun y50 => ?_)
                refine g_istore_n F [(3, .int y50), (0, .ref (a 9)), (1, .int p0), (2, .int p1), (4, .int x5_4)] dX2_pairsWith_41 rfl (by decide) rfl ?_
                refine g_locals [(0, .ref (a 9)), (1, .int p0), (2, .int p1), (3, .int y50), (4, .int x5_4)] [1, 2, 3, 0, 4] rfl ?_
                exact J_42 y50 (by have h9 := ti_rng p0; omega) (by have h9 := ti_rng x5_4; omega)
            · refine g_aald (b := a 79) F 69 1 xc_69 rfl (ti_in (show Int32.toInt p0 = 9 from (e0.trans c5)) (by decide) (by decide)) (by rw [show Int32.toNatClampNeg p0 = 9 from congrArg Int.toNat (show Int32.toInt p0 = 9 from (e0.trans c5))]; rfl) dX2_pairsWith_27 ?_
              refine g_iload F 4 dX2_pairsWith_28 rfl ?_
              refine u_iald F 79 0 xc_79 rfl x5_4.toInt rfl (by omega) (by omega) dX2_pairsWith_30 (fun _ => True) (fun _ => trivial) (fun y51 by51 => ?_)
              refine g_iload_n F 2 dX2_pairsWith_31 rfl rfl ?_
              have b52 := ti_rng y51
              refine v_icmp_ne F 42 dX2_pairsWith_32 (by decide) y51.toInt s1 rfl e1 (fun c53 => ?_) (fun c53 => ?_)
              · exact J_42 x5_3 (by have h9 := ti_rng p0; omega) (by have h9 := ti_rng x5_4; omega)
              · refine g_iload_n F 3 dX2_pairsWith_35 rfl rfl ?_
                refine g_iconst F 1 dX2_pairsWith_36 (by decide) ?_
                refine g_iload F 4 dX2_pairsWith_37 rfl ?_
                refine u0_ishl F dX2_pairsWith_39 (fun y54 => ?_)
                refine u0_ior F dX2_pairsWith_40 (fun y55 => ?_)
                refine g_istore_n F [(3, .int y55), (0, .ref (a 9)), (1, .int p0), (2, .int p1), (4, .int x5_4)] dX2_pairsWith_41 rfl (by decide) rfl ?_
                refine g_locals [(0, .ref (a 9)), (1, .int p0), (2, .int p1), (3, .int y55), (4, .int x5_4)] [1, 2, 3, 0, 4] rfl ?_
                exact J_42 y55 (by have h9 := ti_rng p0; omega) (by have h9 := ti_rng x5_4; omega)
  refine g_iconst F 0 dX2_pairsWith_0 (by decide) ?_
  refine g_istore_n F [(3, .int 0), (0, .ref (a 9)), (1, .int p0), (2, .int p1)] dX2_pairsWith_1 rfl (by decide) rfl ?_
  refine g_iconst F 0 dX2_pairsWith_2 (by decide) ?_
  refine g_istore F [(4, .int 0), (3, .int 0), (0, .ref (a 9)), (1, .int p0), (2, .int p1)] dX2_pairsWith_3 (by decide) rfl ?_
  refine g_locals [(0, .ref (a 9)), (1, .int p0), (2, .int p1), (3, .int 0), (4, .int 0)] [2, 3, 4, 1, 0] rfl ?_
  exact J_5 _ 0 0 (Nat.lt_succ_self _) (by decide)

theorem dX2_fittingPairs_0 : decode cX2_fittingPairs 0 = .ok (.iconst 0, 1) := by decide +kernel
theorem dX2_fittingPairs_1 : decode cX2_fittingPairs 1 = .ok (.istore_n 2, 1) := by decide +kernel
theorem dX2_fittingPairs_2 : decode cX2_fittingPairs 2 = .ok (.iconst 0, 1) := by decide +kernel
theorem dX2_fittingPairs_3 : decode cX2_fittingPairs 3 = .ok (.istore_n 3, 1) := by decide +kernel
theorem dX2_fittingPairs_4 : decode cX2_fittingPairs 4 = .ok (.iload_n 3, 1) := by decide +kernel
theorem dX2_fittingPairs_5 : decode cX2_fittingPairs 5 = .ok (.bipush 16, 2) := by decide +kernel
theorem dX2_fittingPairs_7 : decode cX2_fittingPairs 7 = .ok (.if_icmp .ge 23, 3) := by decide +kernel
theorem dX2_fittingPairs_10 : decode cX2_fittingPairs 10 = .ok (.aload_n 0, 1) := by decide +kernel
theorem dX2_fittingPairs_11 : decode cX2_fittingPairs 11 = .ok (.iload_n 3, 1) := by decide +kernel
theorem dX2_fittingPairs_12 : decode cX2_fittingPairs 12 = .ok (.invokevirtual 64, 3) := by decide +kernel
theorem dX2_fittingPairs_15 : decode cX2_fittingPairs 15 = .ok (.ifCond .eq 9, 3) := by decide +kernel
theorem dX2_fittingPairs_18 : decode cX2_fittingPairs 18 = .ok (.iload_n 2, 1) := by decide +kernel
theorem dX2_fittingPairs_19 : decode cX2_fittingPairs 19 = .ok (.iconst 1, 1) := by decide +kernel
theorem dX2_fittingPairs_20 : decode cX2_fittingPairs 20 = .ok (.iload_n 3, 1) := by decide +kernel
theorem dX2_fittingPairs_21 : decode cX2_fittingPairs 21 = .ok (.ishl, 1) := by decide +kernel
theorem dX2_fittingPairs_22 : decode cX2_fittingPairs 22 = .ok (.ior, 1) := by decide +kernel
theorem dX2_fittingPairs_23 : decode cX2_fittingPairs 23 = .ok (.istore_n 2, 1) := by decide +kernel
theorem dX2_fittingPairs_24 : decode cX2_fittingPairs 24 = .ok (.iinc 3 1, 3) := by decide +kernel
theorem dX2_fittingPairs_27 : decode cX2_fittingPairs 27 = .ok (.goto (-23), 3) := by decide +kernel
theorem dX2_fittingPairs_30 : decode cX2_fittingPairs 30 = .ok (.iconst 0, 1) := by decide +kernel
theorem dX2_fittingPairs_31 : decode cX2_fittingPairs 31 = .ok (.istore_n 3, 1) := by decide +kernel
theorem dX2_fittingPairs_32 : decode cX2_fittingPairs 32 = .ok (.iload_n 3, 1) := by decide +kernel
theorem dX2_fittingPairs_33 : decode cX2_fittingPairs 33 = .ok (.aload_n 0, 1) := by decide +kernel
theorem dX2_fittingPairs_34 : decode cX2_fittingPairs 34 = .ok (.getfield 44, 3) := by decide +kernel
theorem dX2_fittingPairs_37 : decode cX2_fittingPairs 37 = .ok (.if_icmp .ge 48, 3) := by decide +kernel
theorem dX2_fittingPairs_40 : decode cX2_fittingPairs 40 = .ok (.iload_n 3, 1) := by decide +kernel
theorem dX2_fittingPairs_41 : decode cX2_fittingPairs 41 = .ok (.bipush 30, 2) := by decide +kernel
theorem dX2_fittingPairs_43 : decode cX2_fittingPairs 43 = .ok (.if_icmp .ge 42, 3) := by decide +kernel
theorem dX2_fittingPairs_46 : decode cX2_fittingPairs 46 = .ok (.aload_n 0, 1) := by decide +kernel
theorem dX2_fittingPairs_47 : decode cX2_fittingPairs 47 = .ok (.getfield 20, 3) := by decide +kernel
theorem dX2_fittingPairs_50 : decode cX2_fittingPairs 50 = .ok (.iconst 0, 1) := by decide +kernel
theorem dX2_fittingPairs_51 : decode cX2_fittingPairs 51 = .ok (.aaload, 1) := by decide +kernel
theorem dX2_fittingPairs_52 : decode cX2_fittingPairs 52 = .ok (.iload_n 3, 1) := by decide +kernel
theorem dX2_fittingPairs_53 : decode cX2_fittingPairs 53 = .ok (.iaload, 1) := by decide +kernel
theorem dX2_fittingPairs_54 : decode cX2_fittingPairs 54 = .ok (.iload_n 1, 1) := by decide +kernel
theorem dX2_fittingPairs_55 : decode cX2_fittingPairs 55 = .ok (.if_icmp .gt 24, 3) := by decide +kernel
theorem dX2_fittingPairs_58 : decode cX2_fittingPairs 58 = .ok (.iload_n 2, 1) := by decide +kernel
theorem dX2_fittingPairs_59 : decode cX2_fittingPairs 59 = .ok (.aload_n 0, 1) := by decide +kernel
theorem dX2_fittingPairs_60 : decode cX2_fittingPairs 60 = .ok (.aload_n 0, 1) := by decide +kernel
theorem dX2_fittingPairs_61 : decode cX2_fittingPairs 61 = .ok (.getfield 20, 3) := by decide +kernel
theorem dX2_fittingPairs_64 : decode cX2_fittingPairs 64 = .ok (.iconst 1, 1) := by decide +kernel
theorem dX2_fittingPairs_65 : decode cX2_fittingPairs 65 = .ok (.aaload, 1) := by decide +kernel
theorem dX2_fittingPairs_66 : decode cX2_fittingPairs 66 = .ok (.iload_n 3, 1) := by decide +kernel
theorem dX2_fittingPairs_67 : decode cX2_fittingPairs 67 = .ok (.iaload, 1) := by decide +kernel
theorem dX2_fittingPairs_68 : decode cX2_fittingPairs 68 = .ok (.aload_n 0, 1) := by decide +kernel
theorem dX2_fittingPairs_69 : decode cX2_fittingPairs 69 = .ok (.iload_n 3, 1) := by decide +kernel
theorem dX2_fittingPairs_70 : decode cX2_fittingPairs 70 = .ok (.iload_n 1, 1) := by decide +kernel
theorem dX2_fittingPairs_71 : decode cX2_fittingPairs 71 = .ok (.invokevirtual 76, 3) := by decide +kernel
theorem dX2_fittingPairs_74 : decode cX2_fittingPairs 74 = .ok (.invokevirtual 80, 3) := by decide +kernel
theorem dX2_fittingPairs_77 : decode cX2_fittingPairs 77 = .ok (.iand, 1) := by decide +kernel
theorem dX2_fittingPairs_78 : decode cX2_fittingPairs 78 = .ok (.istore_n 2, 1) := by decide +kernel
theorem dX2_fittingPairs_79 : decode cX2_fittingPairs 79 = .ok (.iinc 3 1, 3) := by decide +kernel
theorem dX2_fittingPairs_82 : decode cX2_fittingPairs 82 = .ok (.goto (-50), 3) := by decide +kernel
theorem dX2_fittingPairs_85 : decode cX2_fittingPairs 85 = .ok (.iload_n 2, 1) := by decide +kernel
theorem dX2_fittingPairs_86 : decode cX2_fittingPairs 86 = .ok (.ireturn, 1) := by decide +kernel
set_option maxRecDepth 20000 in
theorem ggX2_fittingPairs_X2_isInSpans : GoodIn wsX2_fittingPairs wsX2_isInSpans := goodIn_r _ [7, 8, 9, 21, 22, 23, 24, 25, 26, 27, 28, 29, 30, 31, 32, 33, 34] rfl (by decide +kernel)
set_option maxRecDepth 20000 in
theorem gX2_fittingPairs_X2_isInSpans : GoodIn wsX2_fittingPairs (wsV RX2 64 RX2 yX2_isInSpans wsX2_isInSpans) := goodIn_app (goodIn_of _ (by decide +kernel)) ggX2_fittingPairs_X2_isInSpans
set_option maxRecDepth 20000 in
theorem ggX2_fittingPairs_X2_pairsWith : GoodIn wsX2_fittingPairs wsX2_pairsWith := goodIn_r _ [19, 20, 21, 22, 23, 24, 25, 26, 27, 28, 29, 30] rfl (by decide +kernel)
set_option maxRecDepth 20000 in
theorem gX2_fittingPairs_X2_pairsWith : GoodIn wsX2_fittingPairs (wsV RX2 80 RX2 yX2_pairsWith wsX2_pairsWith) := goodIn_app (goodIn_of _ (by decide +kernel)) ggX2_fittingPairs_X2_pairsWith
set_option maxRecDepth 20000 in
theorem ggX2_fittingPairs_X2_verdictKnown : GoodIn wsX2_fittingPairs wsX2_verdictKnown := goodIn_r _ [13, 2, 14, 15, 21, 22, 23, 24, 25, 26, 27, 28, 29, 30] rfl (by decide +kernel)
set_option maxRecDepth 20000 in
theorem gX2_fittingPairs_X2_verdictKnown : GoodIn wsX2_fittingPairs (wsV RX2 76 RX2 yX2_verdictKnown wsX2_verdictKnown) := goodIn_app (goodIn_of _ (by decide +kernel)) ggX2_fittingPairs_X2_verdictKnown
set_option maxHeartbeats 4000000 in
set_option maxRecDepth 100000 in
theorem S_X2_fittingPairs (l : Launch) (D : va_G) (K : Nat → ClassId) (a : Nat → Nat) (G : gS) (p0 : Int32) (s0 : Int) (e0 : p0.toInt = s0) (hI : xI G) (sz : Nat) : Ki l yX2_fittingPairs wsX2_fittingPairs 2 64 0 0 D [.ref (a 9), .int p0] (xW K a G) (tK K) sz (fun (r : Int32) (_ : Unit) => True) (fun (_ : Unit) => (xW K a G)) (fun _ => (tK K)) := by
  unfold Ki
  refine g_ofW (cc := cX2_fittingPairs) (lv := [(0, .ref (a 9)), (1, .int p0)]) (by decide) rfl (Nat.le_of_ble_eq_true rfl) rfl ?_
  intro p e s m args below meth c A Q hA hQ F hr hnm
  have hts := F.2.2.2.2.1
  have w_0 : (Cond.fieldLink RX2 44 "QuietCut$Ear" "heards" "I").before args s = true := hts _ (List.mem_of_getElem? (i := 1) rfl)
  have i_X2 : ∀ w ∈ u_ws RX2 TX2 10, w ∈ wsX2_fittingPairs := fun _ h => List.mem_cons_of_mem _ (List.mem_append_left _ (List.mem_append_right _ h))
  have w_1 : (Cond.fieldLink RX2 20 "QuietCut$Ear" "heardRows" "[[I").before args s = true := hts _ (List.mem_of_getElem? (i := 2) rfl)
  have rg0 : -2147483648 ≤ s0 ∧ s0 ≤ 2147483647 := e0 ▸ ti_rng p0
  have J_32 : ∀ (fuel : Nat) (x32_2 : Int32) (x32_3 : Int32), (2147483647 - x32_3.toInt).toNat < fuel → (0 ≤ x32_3.toInt ∧ x32_3.toInt ≤ 30) → gG p l e (gR 2 0 0 64) s m args below meth c D A 4 Q 0 0 (xW K a G) (tK K) [(0, .ref (a 9)), (1, .int p0), (2, .int x32_2), (3, .int x32_3)] 32 [] := by
    intro fuel
    induction fuel with
    | zero => intro x32_2 x32_3 hm; exact absurd hm (Nat.not_lt_zero _)
    | succ fuel_32 ih_32 =>
      intro x32_2 x32_3 hm_32 h32_3
      have J_79 : ∀  (x79_2 : Int32), (0 ≤ x32_3.toInt ∧ x32_3.toInt ≤ 29) → gG p l e (gR 2 0 0 64) s m args below meth c D A 4 Q 0 0 (xW K a G) (tK K) [(0, .ref (a 9)), (1, .int p0), (2, .int x79_2), (3, .int x32_3)] 79 [] := by
        intro x79_2 k79_3
        refine u_iinc F (fun v_ => [(3, .int v_), (0, .ref (a 9)), (1, .int p0), (2, .int x79_2)]) dX2_fittingPairs_79 (j := 3) rfl x32_3.toInt 1 rfl rfl (by omega) (by omega) (by decide) (fun _ => rfl) (fun y1 ey1 => ?_)
        refine g_goto F 32 dX2_fittingPairs_82 (by decide) ?_
        refine g_locals [(0, .ref (a 9)), (1, .int p0), (2, .int x79_2), (3, .int y1)] [1, 2, 3, 0] rfl ?_
        exact ih_32 x79_2 y1 (by omega) (by have h9 := ti_rng y1; omega)
      refine g_iload_n F 3 dX2_fittingPairs_32 rfl rfl ?_
      refine g_aload_n F 0 dX2_fittingPairs_33 rfl rfl ?_
      refine xg_9_6 F i_X2 w_0 dX2_fittingPairs_34 (G 9 6) (rfl) ?_
      have b2 : (0 : Int) ≤ (G 9 6).toInt ∧ (G 9 6).toInt ≤ 30 := hI 9 6
      refine v_icmp_ge F 85 dX2_fittingPairs_37 (by decide) x32_3.toInt (G 9 6).toInt rfl rfl (fun c3 => ?_) (fun c3 => ?_)
      · refine g_iload_n F 2 dX2_fittingPairs_85 rfl rfl ?_
        exact u_iret F hA hQ hr () (trivial) rfl rfl dX2_fittingPairs_86
      · refine g_iload_n F 3 dX2_fittingPairs_40 rfl rfl ?_
        refine g_bipush F 30 dX2_fittingPairs_41 (by decide) ?_
        refine v_icmp_ge F 85 dX2_fittingPairs_43 (by decide) x32_3.toInt 30 rfl rfl (fun c4 => absurd c4 (by omega)) (fun c4 => ?_)
        refine g_aload_n F 0 dX2_fittingPairs_46 rfl rfl ?_
        refine xg_9_5 F i_X2 w_1 dX2_fittingPairs_47 ?_
        refine g_iconst F 0 dX2_fittingPairs_50 (by decide) ?_
        refine g_aald (b := a 81) F 80 1 xc_80 rfl (ti_in (show Int32.toInt 0 = 0 from rfl) (by decide) (by decide)) (by rw [show Int32.toNatClampNeg 0 = 0 from congrArg Int.toNat (show Int32.toInt 0 = 0 from rfl)]; rfl) dX2_fittingPairs_51 ?_
        refine g_iload_n F 3 dX2_fittingPairs_52 rfl rfl ?_
        refine u_iald F 81 0 xc_81 rfl x32_3.toInt rfl (by omega) (by omega) dX2_fittingPairs_53 (fun _ => True) (fun _ => trivial) (fun y5 by5 => ?_)
        refine g_iload_n F 1 dX2_fittingPairs_54 rfl rfl ?_
        have b6 := ti_rng y5
        refine v_icmp_gt F 79 dX2_fittingPairs_55 (by decide) y5.toInt s0 rfl e0 (fun c7 => ?_) (fun c7 => ?_)
        · exact J_79 x32_2 (by have h9 := ti_rng x32_3; omega)
        · refine g_iload_n F 2 dX2_fittingPairs_58 rfl rfl ?_
          refine g_aload_n F 0 dX2_fittingPairs_59 rfl rfl ?_
          refine g_aload_n F 0 dX2_fittingPairs_60 rfl rfl ?_
          refine xg_9_5 F i_X2 w_1 dX2_fittingPairs_61 ?_
          refine g_iconst F 1 dX2_fittingPairs_64 (by decide) ?_
          refine g_aald (b := a 82) F 80 1 xc_80 rfl (ti_in (show Int32.toInt 1 = 1 from rfl) (by decide) (by decide)) (by rw [show Int32.toNatClampNeg 1 = 1 from congrArg Int.toNat (show Int32.toInt 1 = 1 from rfl)]; rfl) dX2_fittingPairs_65 ?_
          refine g_iload_n F 3 dX2_fittingPairs_66 rfl rfl ?_
          refine u_iald F 82 0 xc_82 rfl x32_3.toInt rfl (by omega) (by omega) dX2_fittingPairs_67 (fun _ => True) (fun _ => trivial) (fun y8 by8 => ?_)
          refine g_aload_n F 0 dX2_fittingPairs_68 rfl rfl ?_
          refine g_iload_n F 3 dX2_fittingPairs_69 rfl rfl ?_
          refine g_iload_n F 1 dX2_fittingPairs_70 rfl rfl ?_
          refine u_callVi (k := 0) (n := 0) (b := a 9) (As := [.int x32_3, .int p0]) (st := [.int y8, .ref (a 9), .int x32_2]) F (fun sz => S_X2_verdictKnown l D K a G x32_3 x32_3.toInt p0 s0 rfl (by omega) e0 hI sz) (cwV 2 hts gX2_fittingPairs_X2_verdictKnown rfl rfl rfl (by decide +kernel) ⟨Nat.le_of_ble_eq_true rfl, Nat.le_of_ble_eq_true rfl⟩) rfl 9 xc_9 rfl (Nat.le_of_ble_eq_true rfl) ⟨Nat.zero_le _, Nat.zero_le _⟩ dX2_fittingPairs_71 (fun r9 _ hw10 => ?_)
          refine u_callVi (k := 0) (n := 0) (b := a 9) (As := [.int y8, .int r9]) (st := [.int x32_2]) F (fun sz => S_X2_pairsWith l D K a G y8 y8.toInt r9 r9.toInt rfl rfl hI sz) (cwV 2 hts gX2_fittingPairs_X2_pairsWith rfl rfl rfl (by decide +kernel) ⟨Nat.le_of_ble_eq_true rfl, Nat.le_of_ble_eq_true rfl⟩) rfl 9 xc_9 rfl (Nat.le_of_ble_eq_true rfl) ⟨Nat.zero_le _, Nat.zero_le _⟩ dX2_fittingPairs_74 (fun r12 _ hw13 => ?_)
          refine u0_iand F dX2_fittingPairs_77 (fun y15 => ?_)
          refine g_istore_n F [(2, .int y15), (0, .ref (a 9)), (1, .int p0), (3, .int x32_3)] dX2_fittingPairs_78 rfl (by decide) rfl ?_
          refine g_locals [(0, .ref (a 9)), (1, .int p0), (2, .int y15), (3, .int x32_3)] [1, 2, 0, 3] rfl ?_
          exact J_79 y15 (by have h9 := ti_rng x32_3; omega)
  have J_4 : ∀ (fuel : Nat) (x4_2 : Int32) (x4_3 : Int32), (2147483647 - x4_3.toInt).toNat < fuel → (0 ≤ x4_3.toInt ∧ x4_3.toInt ≤ 16) → gG p l e (gR 2 0 0 64) s m args below meth c D A 4 Q 0 0 (xW K a G) (tK K) [(0, .ref (a 9)), (1, .int p0), (2, .int x4_2), (3, .int x4_3)] 4 [] := by
    intro fuel
    induction fuel with
    | zero => intro x4_2 x4_3 hm; exact absurd hm (Nat.not_lt_zero _)
    | succ fuel_4 ih_4 =>
      intro x4_2 x4_3 hm_4 h4_3
      have J_24 : ∀  (x24_2 : Int32), (0 ≤ x4_3.toInt ∧ x4_3.toInt ≤ 15) → gG p l e (gR 2 0 0 64) s m args below meth c D A 4 Q 0 0 (xW K a G) (tK K) [(0, .ref (a 9)), (1, .int p0), (2, .int x24_2), (3, .int x4_3)] 24 [] := by
        intro x24_2 k24_3
        refine u_iinc F (fun v_ => [(3, .int v_), (0, .ref (a 9)), (1, .int p0), (2, .int x24_2)]) dX2_fittingPairs_24 (j := 3) rfl x4_3.toInt 1 rfl rfl (by omega) (by omega) (by decide) (fun _ => rfl) (fun y16 ey16 => ?_)
        refine g_goto F 4 dX2_fittingPairs_27 (by decide) ?_
        refine g_locals [(0, .ref (a 9)), (1, .int p0), (2, .int x24_2), (3, .int y16)] [1, 2, 3, 0] rfl ?_
        exact ih_4 x24_2 y16 (by omega) (by have h9 := ti_rng y16; omega)
      refine g_iload_n F 3 dX2_fittingPairs_4 rfl rfl ?_
      refine g_bipush F 16 dX2_fittingPairs_5 (by decide) ?_
      refine v_icmp_ge F 30 dX2_fittingPairs_7 (by decide) x4_3.toInt 16 rfl rfl (fun c17 => ?_) (fun c17 => ?_)
      · refine g_iconst F 0 dX2_fittingPairs_30 (by decide) ?_
        refine g_istore_n F [(3, .int 0), (0, .ref (a 9)), (1, .int p0), (2, .int x4_2)] dX2_fittingPairs_31 rfl (by decide) rfl ?_
        refine g_locals [(0, .ref (a 9)), (1, .int p0), (2, .int x4_2), (3, .int 0)] [1, 2, 3, 0] rfl ?_
        exact J_32 _ x4_2 0 (Nat.lt_succ_self _) (by decide)
      · refine g_aload_n F 0 dX2_fittingPairs_10 rfl rfl ?_
        refine g_iload_n F 3 dX2_fittingPairs_11 rfl rfl ?_
        refine u_callVi (k := 0) (n := 0) (b := a 9) (As := [.int x4_3]) (st := []) F (fun sz => S_X2_isInSpans l D K a G x4_3 x4_3.toInt rfl hI sz) (cwV 1 hts gX2_fittingPairs_X2_isInSpans rfl rfl rfl (by decide +kernel) ⟨Nat.le_of_ble_eq_true rfl, Nat.le_of_ble_eq_true rfl⟩) rfl 9 xc_9 rfl (Nat.le_of_ble_eq_true rfl) ⟨Nat.zero_le _, Nat.zero_le _⟩ dX2_fittingPairs_12 (fun r18 _ hw19 => ?_)
        have rg21 := hw19
        clear hw19
        refine v_if_eq F 24 dX2_fittingPairs_15 (by decide) r18.toInt rfl (fun c22 => ?_) (fun c22 => ?_)
        · exact J_24 x4_2 (by have h9 := ti_rng x4_3; omega)
        · refine g_iload_n F 2 dX2_fittingPairs_18 rfl rfl ?_
          refine g_iconst F 1 dX2_fittingPairs_19 (by decide) ?_
          refine g_iload_n F 3 dX2_fittingPairs_20 rfl rfl ?_
          refine u0_ishl F dX2_fittingPairs_21 (fun y23 => ?_)
          refine u0_ior F dX2_fittingPairs_22 (fun y24 => ?_)
          refine g_istore_n F [(2, .int y24), (0, .ref (a 9)), (1, .int p0), (3, .int x4_3)] dX2_fittingPairs_23 rfl (by decide) rfl ?_
          refine g_locals [(0, .ref (a 9)), (1, .int p0), (2, .int y24), (3, .int x4_3)] [1, 2, 0, 3] rfl ?_
          exact J_24 y24 (by have h9 := ti_rng x4_3; omega)
  refine g_iconst F 0 dX2_fittingPairs_0 (by decide) ?_
  refine g_istore_n F [(2, .int 0), (0, .ref (a 9)), (1, .int p0)] dX2_fittingPairs_1 rfl (by decide) rfl ?_
  refine g_iconst F 0 dX2_fittingPairs_2 (by decide) ?_
  refine g_istore_n F [(3, .int 0), (2, .int 0), (0, .ref (a 9)), (1, .int p0)] dX2_fittingPairs_3 rfl (by decide) rfl ?_
  refine g_locals [(0, .ref (a 9)), (1, .int p0), (2, .int 0), (3, .int 0)] [2, 3, 1, 0] rfl ?_
  exact J_4 _ 0 0 (Nat.lt_succ_self _) (by decide)

theorem dX2_nextOffer_0 : decode cX2_nextOffer 0 = .ok (.aload_n 0, 1) := by decide +kernel
theorem dX2_nextOffer_1 : decode cX2_nextOffer 1 = .ok (.sipush 999, 3) := by decide +kernel
theorem dX2_nextOffer_4 : decode cX2_nextOffer 4 = .ok (.invokevirtual 83, 3) := by decide +kernel
theorem dX2_nextOffer_7 : decode cX2_nextOffer 7 = .ok (.istore_n 1, 1) := by decide +kernel
theorem dX2_nextOffer_8 : decode cX2_nextOffer 8 = .ok (.iconst (-1), 1) := by decide +kernel
theorem dX2_nextOffer_9 : decode cX2_nextOffer 9 = .ok (.istore_n 2, 1) := by decide +kernel
theorem dX2_nextOffer_10 : decode cX2_nextOffer 10 = .ok (.iload_n 1, 1) := by decide +kernel
theorem dX2_nextOffer_11 : decode cX2_nextOffer 11 = .ok (.invokestatic 86, 3) := by decide +kernel
theorem dX2_nextOffer_14 : decode cX2_nextOffer 14 = .ok (.istore_n 3, 1) := by decide +kernel
theorem dX2_nextOffer_15 : decode cX2_nextOffer 15 = .ok (.iconst 0, 1) := by decide +kernel
theorem dX2_nextOffer_16 : decode cX2_nextOffer 16 = .ok (.istore 4, 2) := by decide +kernel
theorem dX2_nextOffer_18 : decode cX2_nextOffer 18 = .ok (.iload 4, 2) := by decide +kernel
theorem dX2_nextOffer_20 : decode cX2_nextOffer 20 = .ok (.aload_n 0, 1) := by decide +kernel
theorem dX2_nextOffer_21 : decode cX2_nextOffer 21 = .ok (.getfield 40, 3) := by decide +kernel
theorem dX2_nextOffer_24 : decode cX2_nextOffer 24 = .ok (.if_icmp .ge 59, 3) := by decide +kernel
theorem dX2_nextOffer_27 : decode cX2_nextOffer 27 = .ok (.iconst 0, 1) := by decide +kernel
theorem dX2_nextOffer_28 : decode cX2_nextOffer 28 = .ok (.istore 5, 2) := by decide +kernel
theorem dX2_nextOffer_30 : decode cX2_nextOffer 30 = .ok (.iconst 0, 1) := by decide +kernel
theorem dX2_nextOffer_31 : decode cX2_nextOffer 31 = .ok (.istore 6, 2) := by decide +kernel
theorem dX2_nextOffer_33 : decode cX2_nextOffer 33 = .ok (.iload 6, 2) := by decide +kernel
theorem dX2_nextOffer_35 : decode cX2_nextOffer 35 = .ok (.iconst 2, 1) := by decide +kernel
theorem dX2_nextOffer_36 : decode cX2_nextOffer 36 = .ok (.if_icmp .gt 29, 3) := by decide +kernel
theorem dX2_nextOffer_39 : decode cX2_nextOffer 39 = .ok (.iload 5, 2) := by decide +kernel
theorem dX2_nextOffer_41 : decode cX2_nextOffer 41 = .ok (.iload_n 1, 1) := by decide +kernel
theorem dX2_nextOffer_42 : decode cX2_nextOffer 42 = .ok (.aload_n 0, 1) := by decide +kernel
theorem dX2_nextOffer_43 : decode cX2_nextOffer 43 = .ok (.iload 4, 2) := by decide +kernel
theorem dX2_nextOffer_45 : decode cX2_nextOffer 45 = .ok (.iload 6, 2) := by decide +kernel
theorem dX2_nextOffer_47 : decode cX2_nextOffer 47 = .ok (.invokevirtual 80, 3) := by decide +kernel
theorem dX2_nextOffer_50 : decode cX2_nextOffer 50 = .ok (.iand, 1) := by decide +kernel
theorem dX2_nextOffer_51 : decode cX2_nextOffer 51 = .ok (.invokestatic 86, 3) := by decide +kernel
theorem dX2_nextOffer_54 : decode cX2_nextOffer 54 = .ok (.invokestatic 91, 3) := by decide +kernel
theorem dX2_nextOffer_57 : decode cX2_nextOffer 57 = .ok (.istore 5, 2) := by decide +kernel
theorem dX2_nextOffer_59 : decode cX2_nextOffer 59 = .ok (.iinc 6 1, 3) := by decide +kernel
theorem dX2_nextOffer_62 : decode cX2_nextOffer 62 = .ok (.goto (-29), 3) := by decide +kernel
theorem dX2_nextOffer_65 : decode cX2_nextOffer 65 = .ok (.iload 5, 2) := by decide +kernel
theorem dX2_nextOffer_67 : decode cX2_nextOffer 67 = .ok (.iload_n 3, 1) := by decide +kernel
theorem dX2_nextOffer_68 : decode cX2_nextOffer 68 = .ok (.if_icmp .ge 9, 3) := by decide +kernel
theorem dX2_nextOffer_71 : decode cX2_nextOffer 71 = .ok (.iload 4, 2) := by decide +kernel
theorem dX2_nextOffer_73 : decode cX2_nextOffer 73 = .ok (.istore_n 2, 1) := by decide +kernel
theorem dX2_nextOffer_74 : decode cX2_nextOffer 74 = .ok (.iload 5, 2) := by decide +kernel
theorem dX2_nextOffer_76 : decode cX2_nextOffer 76 = .ok (.istore_n 3, 1) := by decide +kernel
theorem dX2_nextOffer_77 : decode cX2_nextOffer 77 = .ok (.iinc 4 1, 3) := by decide +kernel
theorem dX2_nextOffer_80 : decode cX2_nextOffer 80 = .ok (.goto (-62), 3) := by decide +kernel
theorem dX2_nextOffer_83 : decode cX2_nextOffer 83 = .ok (.iload_n 2, 1) := by decide +kernel
theorem dX2_nextOffer_84 : decode cX2_nextOffer 84 = .ok (.ireturn, 1) := by decide +kernel
set_option maxRecDepth 20000 in
theorem ggX2_nextOffer_J6_bitCount_0f7a4 : GoodIn wsX2_nextOffer wsJ6_bitCount_0f7a4 := goodIn_r _ [33, 34, 35, 36] rfl (by decide +kernel)
set_option maxRecDepth 20000 in
theorem gX2_nextOffer_J6_bitCount_0f7a4 : GoodIn wsX2_nextOffer (va_wsS RX2 86 yJ6_bitCount_0f7a4 wsJ6_bitCount_0f7a4) := goodIn_app (goodIn_of _ (by decide +kernel)) ggX2_nextOffer_J6_bitCount_0f7a4
set_option maxRecDepth 20000 in
theorem ggX2_nextOffer_X2_fittingPairs : GoodIn wsX2_nextOffer wsX2_fittingPairs := goodIn_r _ [10, 11, 12, 13, 14, 15, 9, 16, 17, 18, 19, 20, 21, 22, 23, 24, 25, 26, 27, 28, 29, 37, 38, 39, 40, 41, 42, 43, 44, 45, 46, 47, 48, 49, 50] rfl (by decide +kernel)
set_option maxRecDepth 20000 in
theorem gX2_nextOffer_X2_fittingPairs : GoodIn wsX2_nextOffer (wsV RX2 83 RX2 yX2_fittingPairs wsX2_fittingPairs) := goodIn_app (goodIn_of _ (by decide +kernel)) ggX2_nextOffer_X2_fittingPairs
set_option maxRecDepth 20000 in
theorem ggX2_nextOffer_X2_pairsWith : GoodIn wsX2_nextOffer wsX2_pairsWith := goodIn_r _ [28, 29, 37, 38, 39, 40, 41, 42, 43, 44, 45, 46] rfl (by decide +kernel)
set_option maxRecDepth 20000 in
theorem gX2_nextOffer_X2_pairsWith : GoodIn wsX2_nextOffer (wsV RX2 80 RX2 yX2_pairsWith wsX2_pairsWith) := goodIn_app (goodIn_of _ (by decide +kernel)) ggX2_nextOffer_X2_pairsWith
set_option maxHeartbeats 4000000 in
set_option maxRecDepth 100000 in
theorem S_X2_nextOffer (l : Launch) (D : va_G) (K : Nat → ClassId) (a : Nat → Nat) (G : gS) (hI : xI G) (sz : Nat) : Ki l yX2_nextOffer wsX2_nextOffer 3 87 0 0 D [.ref (a 9)] (xW K a G) (tK K) sz (fun (r : Int32) (_ : Unit) => ((-1) ≤ r.toInt ∧ r.toInt ≤ 998)) (fun (_ : Unit) => (xW K a G)) (fun _ => (tK K)) := by
  unfold Ki
  refine g_ofW (cc := cX2_nextOffer) (lv := [(0, .ref (a 9))]) (by decide) rfl (Nat.le_of_ble_eq_true rfl) rfl ?_
  intro p e s m args below meth c A Q hA hQ F hr hnm
  have hts := F.2.2.2.2.1
  have w_0 : (Cond.methodLink RX2 91 Lib.Math.max.name).before args s = true := hts _ (List.mem_of_getElem? (i := 2) rfl)
  have w_1 : (Cond.static Lib.Math.max.name).before args s = true := hts _ (List.mem_of_getElem? (i := 3) rfl)
  have w_2 : (Cond.initialized "java/lang/Math").before args s = true := hts _ (List.mem_of_getElem? (i := 4) rfl)
  have w_3 : (Cond.code Lib.Math.max.name Lib.Math.max.code 2 (some .int)).before args s = true := hts _ (List.mem_of_getElem? (i := 5) rfl)
  have w_4 : (Cond.fieldLink RX2 40 "QuietCut$Ear" "offers" "I").before args s = true := hts _ (List.mem_of_getElem? (i := 1) rfl)
  have i_X2 : ∀ w ∈ u_ws RX2 TX2 10, w ∈ wsX2_nextOffer := fun _ h => List.mem_cons_of_mem _ (List.mem_append_left _ (List.mem_append_right _ h))
  have J_18 : ∀ (fuel : Nat) (x18_1 : Int32) (x18_2 : Int32) (x18_3 : Int32) (x18_4 : Int32), (2147483647 - x18_4.toInt).toNat < fuel → ((-1) ≤ x18_2.toInt ∧ x18_2.toInt ≤ 998) → (0 ≤ x18_3.toInt ∧ x18_3.toInt ≤ 63) → (0 ≤ x18_4.toInt ∧ x18_4.toInt ≤ 10) → gG p l e (gR 3 0 0 87) s m args below meth c D A 7 Q 0 0 (xW K a G) (tK K) [(0, .ref (a 9)), (1, .int x18_1), (2, .int x18_2), (3, .int x18_3), (4, .int x18_4)] 18 [] := by
    intro fuel
    induction fuel with
    | zero => intro x18_1 x18_2 x18_3 x18_4 hm; exact absurd hm (Nat.not_lt_zero _)
    | succ fuel_18 ih_18 =>
      intro x18_1 x18_2 x18_3 x18_4 hm_18 h18_2 h18_3 h18_4
      have J_77 : ∀  (x77_2 : Int32) (x77_3 : Int32), ((-1) ≤ x77_2.toInt ∧ x77_2.toInt ≤ 998) → (0 ≤ x77_3.toInt ∧ x77_3.toInt ≤ 63) → (0 ≤ x18_4.toInt ∧ x18_4.toInt ≤ 9) → gG p l e (gR 3 0 0 87) s m args below meth c D A 7 Q 0 0 (xW K a G) (tK K) [(0, .ref (a 9)), (1, .int x18_1), (2, .int x77_2), (3, .int x77_3), (4, .int x18_4)] 77 [] := by
        intro x77_2 x77_3 h77_2 h77_3 k77_4
        refine u_iinc F (fun v_ => [(4, .int v_), (0, .ref (a 9)), (1, .int x18_1), (2, .int x77_2), (3, .int x77_3)]) dX2_nextOffer_77 (j := 4) rfl x18_4.toInt 1 rfl rfl (by omega) (by omega) (by decide) (fun _ => rfl) (fun y1 ey1 => ?_)
        refine g_goto F 18 dX2_nextOffer_80 (by decide) ?_
        refine g_locals [(0, .ref (a 9)), (1, .int x18_1), (2, .int x77_2), (3, .int x77_3), (4, .int y1)] [1, 2, 3, 4, 0] rfl ?_
        exact ih_18 x18_1 x77_2 x77_3 y1 (by omega) (by have h9 := ti_rng x77_2; omega) (by have h9 := ti_rng x77_3; omega) (by have h9 := ti_rng y1; omega)
      have J_33 : ∀ (fuel : Nat) (x33_5 : Int32) (x33_6 : Int32), (2147483647 - x33_6.toInt).toNat < fuel → (0 ≤ x18_4.toInt ∧ x18_4.toInt ≤ 9) → (0 ≤ x33_5.toInt ∧ x33_5.toInt ≤ 63) → (0 ≤ x33_6.toInt ∧ x33_6.toInt ≤ 3) → gG p l e (gR 3 0 0 87) s m args below meth c D A 7 Q 0 0 (xW K a G) (tK K) [(0, .ref (a 9)), (1, .int x18_1), (2, .int x18_2), (3, .int x18_3), (4, .int x18_4), (5, .int x33_5), (6, .int x33_6)] 33 [] := by
        intro fuel
        induction fuel with
        | zero => intro x33_5 x33_6 hm; exact absurd hm (Nat.not_lt_zero _)
        | succ fuel_33 ih_33 =>
          intro x33_5 x33_6 hm_33 k33_4 h33_5 h33_6
          refine g_iload F 6 dX2_nextOffer_33 rfl ?_
          refine g_iconst F 2 dX2_nextOffer_35 (by decide) ?_
          refine v_icmp_gt F 65 dX2_nextOffer_36 (by decide) x33_6.toInt 2 rfl rfl (fun c2 => ?_) (fun c2 => ?_)
          · refine g_iload F 5 dX2_nextOffer_65 rfl ?_
            refine g_iload_n F 3 dX2_nextOffer_67 rfl rfl ?_
            refine v_icmp_ge F 77 dX2_nextOffer_68 (by decide) x33_5.toInt x18_3.toInt rfl rfl (fun c3 => ?_) (fun c3 => ?_)
            · refine g_locals [(0, .ref (a 9)), (1, .int x18_1), (2, .int x18_2), (3, .int x18_3), (4, .int x18_4)] [0, 1, 2, 3, 4] rfl ?_
              exact J_77 x18_2 x18_3 (by have h9 := ti_rng x18_2; omega) (by have h9 := ti_rng x18_3; omega) (by have h9 := ti_rng x18_4; omega)
            · refine g_iload F 4 dX2_nextOffer_71 rfl ?_
              refine g_istore_n F [(2, .int x18_4), (0, .ref (a 9)), (1, .int x18_1), (3, .int x18_3), (4, .int x18_4), (5, .int x33_5), (6, .int x33_6)] dX2_nextOffer_73 rfl (by decide) rfl ?_
              refine g_iload F 5 dX2_nextOffer_74 rfl ?_
              refine g_istore_n F [(3, .int x33_5), (2, .int x18_4), (0, .ref (a 9)), (1, .int x18_1), (4, .int x18_4), (5, .int x33_5), (6, .int x33_6)] dX2_nextOffer_76 rfl (by decide) rfl ?_
              refine g_locals [(0, .ref (a 9)), (1, .int x18_1), (2, .int x18_4), (3, .int x33_5), (4, .int x18_4)] [2, 3, 1, 0, 4] rfl ?_
              exact J_77 x18_4 x33_5 (by have h9 := ti_rng x18_4; omega) (by have h9 := ti_rng x33_5; omega) (by have h9 := ti_rng x18_4; omega)
          · refine g_iload F 5 dX2_nextOffer_39 rfl ?_
            refine g_iload_n F 1 dX2_nextOffer_41 rfl rfl ?_
            refine g_aload_n F 0 dX2_nextOffer_42 rfl rfl ?_
            refine g_iload F 4 dX2_nextOffer_43 rfl ?_
            refine g_iload F 6 dX2_nextOffer_45 rfl ?_
            refine u_callVi (k := 0) (n := 0) (b := a 9) (As := [.int x18_4, .int x33_6]) (st := [.int x18_1, .int x33_5]) F (fun sz => S_X2_pairsWith l D K a G x18_4 x18_4.toInt x33_6 x33_6.toInt rfl rfl hI sz) (cwV 2 hts gX2_nextOffer_X2_pairsWith rfl rfl rfl (by decide +kernel) ⟨Nat.le_of_ble_eq_true rfl, Nat.le_of_ble_eq_true rfl⟩) rfl 9 xc_9 rfl (Nat.le_of_ble_eq_true rfl) ⟨Nat.zero_le _, Nat.zero_le _⟩ dX2_nextOffer_47 (fun r4 _ hw5 => ?_)
            refine u0_iand F dX2_nextOffer_50 (fun y7 => ?_)
            refine u_call0 (k := 0) (n := 0) (As := [.int y7]) (st := [.int x33_5]) F (fun sz => S_J6_bitCount_0f7a4 l D y7 y7.toInt rfl sz) (va_cwS 1 hts gX2_nextOffer_J6_bitCount_0f7a4 rfl rfl rfl (by decide +kernel) ⟨Nat.le_of_ble_eq_true rfl, Nat.le_of_ble_eq_true rfl⟩) rfl (Nat.le_of_ble_eq_true rfl) ⟨Nat.zero_le _, Nat.zero_le _⟩ dX2_nextOffer_51 (fun r8 _ hw9 => ?_)
            have rg11 := hw9
            clear hw9
            refine u_mmax F w_0 w_1 w_2 w_3 (Nat.le_of_ble_eq_true rfl) (Nat.le_of_ble_eq_true rfl) (Nat.le_of_ble_eq_true rfl) (Nat.le_of_ble_eq_true rfl) dX2_nextOffer_54 x33_5.toInt r8.toInt rfl rfl (fun y12 ey12 => ?_)
            refine g_istore F [(5, .int y12), (0, .ref (a 9)), (1, .int x18_1), (2, .int x18_2), (3, .int x18_3), (4, .int x18_4), (6, .int x33_6)] dX2_nextOffer_57 (by decide) rfl ?_
            refine u_iinc F (fun v_ => [(6, .int v_), (5, .int y12), (0, .ref (a 9)), (1, .int x18_1), (2, .int x18_2), (3, .int x18_3), (4, .int x18_4)]) dX2_nextOffer_59 (j := 6) rfl x33_6.toInt 1 rfl rfl (by omega) (by omega) (by decide) (fun _ => rfl) (fun y13 ey13 => ?_)
            refine g_goto F 33 dX2_nextOffer_62 (by decide) ?_
            refine g_locals [(0, .ref (a 9)), (1, .int x18_1), (2, .int x18_2), (3, .int x18_3), (4, .int x18_4), (5, .int y12), (6, .int y13)] [2, 3, 4, 5, 6, 1, 0] rfl ?_
            exact ih_33 y12 y13 (by omega) (by have h9 := ti_rng x18_4; omega) (by have h9 := ti_rng y12; omega) (by have h9 := ti_rng y13; omega)
      refine g_iload F 4 dX2_nextOffer_18 rfl ?_
      refine g_aload_n F 0 dX2_nextOffer_20 rfl rfl ?_
      refine xg_9_4 F i_X2 w_4 dX2_nextOffer_21 (G 9 4) (rfl) ?_
      have b14 : (0 : Int) ≤ (G 9 4).toInt ∧ (G 9 4).toInt ≤ 10 := hI 9 4
      refine v_icmp_ge F 83 dX2_nextOffer_24 (by decide) x18_4.toInt (G 9 4).toInt rfl rfl (fun c15 => ?_) (fun c15 => ?_)
      · refine g_iload_n F 2 dX2_nextOffer_83 rfl rfl ?_
        exact u_iret F hA hQ hr () ((by have h9 := ti_rng x18_2; omega)) rfl rfl dX2_nextOffer_84
      · refine g_iconst F 0 dX2_nextOffer_27 (by decide) ?_
        refine g_istore F [(5, .int 0), (0, .ref (a 9)), (1, .int x18_1), (2, .int x18_2), (3, .int x18_3), (4, .int x18_4)] dX2_nextOffer_28 (by decide) rfl ?_
        refine g_iconst F 0 dX2_nextOffer_30 (by decide) ?_
        refine g_istore F [(6, .int 0), (5, .int 0), (0, .ref (a 9)), (1, .int x18_1), (2, .int x18_2), (3, .int x18_3), (4, .int x18_4)] dX2_nextOffer_31 (by decide) rfl ?_
        refine g_locals [(0, .ref (a 9)), (1, .int x18_1), (2, .int x18_2), (3, .int x18_3), (4, .int x18_4), (5, .int 0), (6, .int 0)] [2, 3, 4, 5, 6, 1, 0] rfl ?_
        exact J_33 _ 0 0 (Nat.lt_succ_self _) (by have h9 := ti_rng x18_4; omega) (by decide) (by decide)
  refine g_aload_n F 0 dX2_nextOffer_0 rfl rfl ?_
  refine g_sipush F 999 dX2_nextOffer_1 (by decide) ?_
  refine u_callVi (k := 0) (n := 0) (b := a 9) (As := [.int 999]) (st := []) F (fun sz => S_X2_fittingPairs l D K a G 999 999 rfl hI sz) (cwV 1 hts gX2_nextOffer_X2_fittingPairs rfl rfl rfl (by decide +kernel) ⟨Nat.le_of_ble_eq_true rfl, Nat.le_of_ble_eq_true rfl⟩) rfl 9 xc_9 rfl (Nat.le_of_ble_eq_true rfl) ⟨Nat.zero_le _, Nat.zero_le _⟩ dX2_nextOffer_4 (fun r16 _ hw17 => ?_)
  refine g_istore_n F [(1, .int r16), (0, .ref (a 9))] dX2_nextOffer_7 rfl (by decide) rfl ?_
  refine g_iconst F (-1) dX2_nextOffer_8 (by decide) ?_
  refine g_istore_n F [(2, .int (-1)), (1, .int r16), (0, .ref (a 9))] dX2_nextOffer_9 rfl (by decide) rfl ?_
  refine g_iload_n F 1 dX2_nextOffer_10 rfl rfl ?_
  refine u_call0 (k := 0) (n := 0) (As := [.int r16]) (st := []) F (fun sz => S_J6_bitCount_0f7a4 l D r16 r16.toInt rfl sz) (va_cwS 1 hts gX2_nextOffer_J6_bitCount_0f7a4 rfl rfl rfl (by decide +kernel) ⟨Nat.le_of_ble_eq_true rfl, Nat.le_of_ble_eq_true rfl⟩) rfl (Nat.le_of_ble_eq_true rfl) ⟨Nat.zero_le _, Nat.zero_le _⟩ dX2_nextOffer_11 (fun r19 _ hw20 => ?_)
  have rg22 := hw20
  clear hw20
  refine g_istore_n F [(3, .int r19), (2, .int (-1)), (1, .int r16), (0, .ref (a 9))] dX2_nextOffer_14 rfl (by decide) rfl ?_
  refine g_iconst F 0 dX2_nextOffer_15 (by decide) ?_
  refine g_istore F [(4, .int 0), (3, .int r19), (2, .int (-1)), (1, .int r16), (0, .ref (a 9))] dX2_nextOffer_16 (by decide) rfl ?_
  refine g_locals [(0, .ref (a 9)), (1, .int r16), (2, .int (-1)), (3, .int r19), (4, .int 0)] [4, 3, 2, 1, 0] rfl ?_
  exact J_18 _ r16 (-1) r19 0 (Nat.lt_succ_self _) (by decide) (by have h9 := ti_rng r19; omega) (by decide)

theorem dX9_keep_0 : decode cX9_keep 0 = .ok (.aload_n 0, 1) := by decide +kernel
theorem dX9_keep_1 : decode cX9_keep 1 = .ok (.iload_n 1, 1) := by decide +kernel
theorem dX9_keep_2 : decode cX9_keep 2 = .ok (.putfield 41, 3) := by decide +kernel
theorem dX9_keep_5 : decode cX9_keep 5 = .ok (.aload_n 0, 1) := by decide +kernel
theorem dX9_keep_6 : decode cX9_keep 6 = .ok (.getfield 15, 3) := by decide +kernel
theorem dX9_keep_9 : decode cX9_keep 9 = .ok (.iconst 0, 1) := by decide +kernel
theorem dX9_keep_10 : decode cX9_keep 10 = .ok (.aload_n 0, 1) := by decide +kernel
theorem dX9_keep_11 : decode cX9_keep 11 = .ok (.getfield 11, 3) := by decide +kernel
theorem dX9_keep_14 : decode cX9_keep 14 = .ok (.iconst 0, 1) := by decide +kernel
theorem dX9_keep_15 : decode cX9_keep 15 = .ok (.sipush 150, 3) := by decide +kernel
theorem dX9_keep_18 : decode cX9_keep 18 = .ok (.invokestatic 44, 3) := by decide +kernel
theorem dX9_keep_21 : decode cX9_keep 21 = .ok (.return_, 1) := by decide +kernel
set_option maxHeartbeats 4000000 in
set_option maxRecDepth 100000 in
theorem S_X9_keep (l : Launch) (D : va_G) (K : Nat → ClassId) (a : Nat → Nat) (G : gS) (p0 : Int32) (s0 : Int) (e0 : p0.toInt = s0) (h0 : 0 ≤ s0 ∧ s0 ≤ 150) (hI : xI G) (sz : Nat) : Kv l yX9_keep wsX9_keep 1 40 0 0 D [.ref (a 10), .int p0] (xW K a G) (tK K) sz (fun (G' : gS) => (xI G') ∧ (gu_un xcd [1003, 8800] G G') ∧ (((G' 10 2).toInt = s0)) ∧ ((∀ i : Nat, (i : Int) < s0 → G' 88 i = (G 89) i))) (fun (G' : gS) => (xW K a G')) (fun _ => (tK K)) := by
  unfold Kv
  refine g_ofW (cc := cX9_keep) (lv := [(0, .ref (a 10)), (1, .int p0)]) (by decide) rfl (Nat.le_of_ble_eq_true rfl) rfl ?_
  intro p e s m args below meth c A Q hA hQ F hr hnm
  have hts := F.2.2.2.2.1
  have w_0 : (Cond.fieldLink RX9 41 "QuietCut$Sound" "many" "I").before args s = true := hts _ (List.mem_of_getElem? (i := 1) rfl)
  have i_X9 : ∀ w ∈ u_ws RX9 TX9 3, w ∈ wsX9_keep := fun _ h => List.mem_cons_of_mem _ (List.mem_append_right _ h)
  have w_1 : (Cond.fieldLink RX9 15 "QuietCut$Sound" "spare" "[I").before args s = true := hts _ (List.mem_of_getElem? (i := 2) rfl)
  have w_2 : (Cond.fieldLink RX9 11 "QuietCut$Sound" "numbers" "[I").before args s = true := hts _ (List.mem_of_getElem? (i := 3) rfl)
  have w_3 : (Cond.methodLink RX9 44 arraycopyName).before args s = true := hts _ (List.mem_of_getElem? (i := 4) rfl)
  have w_4 : (Cond.native arraycopyName).before args s = true := hts _ (List.mem_of_getElem? (i := 5) rfl)
  have w_5 : (Cond.static arraycopyName).before args s = true := hts _ (List.mem_of_getElem? (i := 6) rfl)
  have w_6 : (Cond.initialized "java/lang/System").before args s = true := hts _ (List.mem_of_getElem? (i := 7) rfl)
  refine g_aload_n F 0 dX9_keep_0 rfl rfl ?_
  refine g_iload_n F 1 dX9_keep_1 rfl rfl ?_
  refine xp_10_2 F i_X9 w_0 dX9_keep_2 ?_
  refine g_aload_n F 0 dX9_keep_5 rfl rfl ?_
  refine xg_10_1 F i_X9 w_1 dX9_keep_6 ?_
  refine g_iconst F 0 dX9_keep_9 (by decide) ?_
  refine g_aload_n F 0 dX9_keep_10 rfl rfl ?_
  refine xg_10_0 F i_X9 w_2 dX9_keep_11 ?_
  refine g_iconst F 0 dX9_keep_14 (by decide) ?_
  refine g_sipush F 150 dX9_keep_15 (by decide) ?_
  refine u_copyi F w_3 w_4 w_5 w_6 89 88 0 xc_89 xc_88 rfl 0 0 150 rfl rfl rfl (by decide) (by decide) (by decide) (by decide) (by decide) (Nat.le_of_ble_eq_true rfl) (Nat.le_of_ble_eq_true rfl) (xW K a (gu_st (gu_up G 10 2 p0) 88 (va_cpy ((gu_up G 10 2 p0) 89) ((gu_up G 10 2 p0) 88) 0 0 150))) (xs_88 _) dX9_keep_18 ?_
  exact u_vret F hA hQ hr (gu_st (gu_up G 10 2 p0) 88 (va_cpy ((gu_up G 10 2 p0) 89) ((gu_up G 10 2 p0) 88) 0 0 150)) (⟨(gu_I.cpy (j := 88) (f := (gu_up G 10 2 p0) 89) (sp := 0) (dp := 0) (gu_I.up (j := 10) (k := 2) (v := p0) hI (show (0 : Int) ≤ Int32.toInt p0 by omega) (show Int32.toInt p0 ≤ 150 by omega)) (fun k_ => (gu_I.up (j := 10) (k := 2) (v := p0) hI (show (0 : Int) ≤ Int32.toInt p0 by omega) (show Int32.toInt p0 ≤ 150 by omega)) 89 (0 + k_))), (gu_un.sw (j := 88) (f := (va_cpy ((gu_up G 10 2 p0) 89) ((gu_up G 10 2 p0) 88) 0 0 150)) (gu_un.up (j := 10) (k := 2) (v := p0) gu_un.rf (show (1003 : Nat) ∈ ([1003, 8800] : List Nat) by decide)) (fun _ => show (8800 : Nat) ∈ ([1003, 8800] : List Nat) by decide)), (by show (((gu_st (gu_up G 10 2 p0) 88 (va_cpy ((gu_up G 10 2 p0) 89) ((gu_up G 10 2 p0) 88) 0 0 150)) 10 2).toInt = s0); have e9_10_2 : (gu_st (gu_up G 10 2 p0) 88 (va_cpy ((gu_up G 10 2 p0) 89) ((gu_up G 10 2 p0) 88) 0 0 150)) 10 2 = p0 := rfl; (try simp only [e9_10_2, true_and, and_true]) <;> (first | omega | (simp only [Int32.reduceToInt, true_and, and_true, ne_eq, not_true_eq_false, false_and, or_false, false_or, true_or, or_true, false_implies] <;> omega))), (fun i hi => show va_cpy (G 89) (G 88) 0 0 150 i = G 89 i by unfold va_cpy; rw [if_pos (by omega)]; congr 1; omega)⟩) rfl rfl dX9_keep_21

theorem dX9_changeAt_0 : decode cX9_changeAt 0 = .ok (.iload_n 1, 1) := by decide +kernel
theorem dX9_changeAt_1 : decode cX9_changeAt 1 = .ok (.iload_n 2, 1) := by decide +kernel
theorem dX9_changeAt_2 : decode cX9_changeAt 2 = .ok (.if_icmp .lt 14, 3) := by decide +kernel
theorem dX9_changeAt_5 : decode cX9_changeAt 5 = .ok (.iload_n 1, 1) := by decide +kernel
theorem dX9_changeAt_6 : decode cX9_changeAt 6 = .ok (.sipush 150, 3) := by decide +kernel
theorem dX9_changeAt_9 : decode cX9_changeAt 9 = .ok (.if_icmp .ge 7, 3) := by decide +kernel
theorem dX9_changeAt_12 : decode cX9_changeAt 12 = .ok (.iload_n 2, 1) := by decide +kernel
theorem dX9_changeAt_13 : decode cX9_changeAt 13 = .ok (.ifCond .ge 5, 3) := by decide +kernel
theorem dX9_changeAt_16 : decode cX9_changeAt 16 = .ok (.iconst 0, 1) := by decide +kernel
theorem dX9_changeAt_17 : decode cX9_changeAt 17 = .ok (.ireturn, 1) := by decide +kernel
theorem dX9_changeAt_18 : decode cX9_changeAt 18 = .ok (.aload_n 0, 1) := by decide +kernel
theorem dX9_changeAt_19 : decode cX9_changeAt 19 = .ok (.getfield 11, 3) := by decide +kernel
theorem dX9_changeAt_22 : decode cX9_changeAt 22 = .ok (.iload_n 1, 1) := by decide +kernel
theorem dX9_changeAt_23 : decode cX9_changeAt 23 = .ok (.iaload, 1) := by decide +kernel
theorem dX9_changeAt_24 : decode cX9_changeAt 24 = .ok (.aload_n 0, 1) := by decide +kernel
theorem dX9_changeAt_25 : decode cX9_changeAt 25 = .ok (.getfield 11, 3) := by decide +kernel
theorem dX9_changeAt_28 : decode cX9_changeAt 28 = .ok (.iload_n 1, 1) := by decide +kernel
theorem dX9_changeAt_29 : decode cX9_changeAt 29 = .ok (.iload_n 2, 1) := by decide +kernel
theorem dX9_changeAt_30 : decode cX9_changeAt 30 = .ok (.isub, 1) := by decide +kernel
theorem dX9_changeAt_31 : decode cX9_changeAt 31 = .ok (.iaload, 1) := by decide +kernel
theorem dX9_changeAt_32 : decode cX9_changeAt 32 = .ok (.isub, 1) := by decide +kernel
theorem dX9_changeAt_33 : decode cX9_changeAt 33 = .ok (.invokestatic 50, 3) := by decide +kernel
theorem dX9_changeAt_36 : decode cX9_changeAt 36 = .ok (.ireturn, 1) := by decide +kernel
set_option maxHeartbeats 4000000 in
set_option maxRecDepth 100000 in
theorem S_X9_changeAt (l : Launch) (D : va_G) (K : Nat → ClassId) (a : Nat → Nat) (G : gS) (p0 : Int32) (s0 : Int) (p1 : Int32) (s1 : Int) (e0 : p0.toInt = s0) (e1 : p1.toInt = s1) (hI : xI G) (sz : Nat) : Ki l yX9_changeAt wsX9_changeAt 1 40 0 0 D [.ref (a 10), .int p0, .int p1] (xW K a G) (tK K) sz (fun (r : Int32) (_ : Unit) => (0 ≤ r.toInt ∧ r.toInt ≤ 19998) ∧ ((s1 ≤ s0 ∧ s0 < 150 ∧ 0 ≤ s1 → r.toInt = cCh (G 88) s0 s1))) (fun (_ : Unit) => (xW K a G)) (fun _ => (tK K)) := by
  unfold Ki
  refine g_ofW (cc := cX9_changeAt) (lv := [(0, .ref (a 10)), (1, .int p0), (2, .int p1)]) (by decide) rfl (Nat.le_of_ble_eq_true rfl) rfl ?_
  intro p e s m args below meth c A Q hA hQ F hr hnm
  have hts := F.2.2.2.2.1
  have w_0 : (Cond.fieldLink RX9 11 "QuietCut$Sound" "numbers" "[I").before args s = true := hts _ (List.mem_of_getElem? (i := 1) rfl)
  have i_X9 : ∀ w ∈ u_ws RX9 TX9 3, w ∈ wsX9_changeAt := fun _ h => List.mem_cons_of_mem _ (List.mem_append_right _ h)
  have w_1 : (Cond.methodLink RX9 50 Lib.Math.abs.name).before args s = true := hts _ (List.mem_of_getElem? (i := 2) rfl)
  have w_2 : (Cond.static Lib.Math.abs.name).before args s = true := hts _ (List.mem_of_getElem? (i := 3) rfl)
  have w_3 : (Cond.initialized "java/lang/Math").before args s = true := hts _ (List.mem_of_getElem? (i := 4) rfl)
  have w_4 : (Cond.code Lib.Math.abs.name Lib.Math.abs.code 1 (some .int)).before args s = true := hts _ (List.mem_of_getElem? (i := 5) rfl)
  have rg0 : -2147483648 ≤ s0 ∧ s0 ≤ 2147483647 := e0 ▸ ti_rng p0
  have rg1 : -2147483648 ≤ s1 ∧ s1 ≤ 2147483647 := e1 ▸ ti_rng p1
  refine g_iload_n F 1 dX9_changeAt_0 rfl rfl ?_
  refine g_iload_n F 2 dX9_changeAt_1 rfl rfl ?_
  refine v_icmp_lt F 16 dX9_changeAt_2 (by decide) s0 s1 e0 e1 (fun c1 => ?_) (fun c1 => ?_)
  · refine g_iconst F 0 dX9_changeAt_16 (by decide) ?_
    exact u_iret F hA hQ hr () (⟨(by decide), (fun h9 => absurd h9 (by omega))⟩) rfl rfl dX9_changeAt_17
  · refine g_iload_n F 1 dX9_changeAt_5 rfl rfl ?_
    refine g_sipush F 150 dX9_changeAt_6 (by decide) ?_
    refine v_icmp_ge F 16 dX9_changeAt_9 (by decide) s0 150 e0 rfl (fun c2 => ?_) (fun c2 => ?_)
    · refine g_iconst F 0 dX9_changeAt_16 (by decide) ?_
      exact u_iret F hA hQ hr () (⟨(by decide), (fun h9 => absurd h9 (by omega))⟩) rfl rfl dX9_changeAt_17
    · refine g_iload_n F 2 dX9_changeAt_12 rfl rfl ?_
      refine v_if_ge F 18 dX9_changeAt_13 (by decide) s1 e1 (fun c3 => ?_) (fun c3 => ?_)
      · refine g_aload_n F 0 dX9_changeAt_18 rfl rfl ?_
        refine xg_10_0 F i_X9 w_0 dX9_changeAt_19 ?_
        refine g_iload_n F 1 dX9_changeAt_22 rfl rfl ?_
        refine u1_iald F 88 0 xc_88 rfl s0 e0 (by omega) (by omega) dX9_changeAt_23 ((G 88) (s0).toNat) (rfl) ?_
        have b4 : ((-9999) : Int) ≤ ((G 88) (s0).toNat).toInt ∧ ((G 88) (s0).toNat).toInt ≤ 9999 := hI 88 _
        refine g_aload_n F 0 dX9_changeAt_24 rfl rfl ?_
        refine xg_10_0 F i_X9 w_0 dX9_changeAt_25 ?_
        refine g_iload_n F 1 dX9_changeAt_28 rfl rfl ?_
        refine g_iload_n F 2 dX9_changeAt_29 rfl rfl ?_
        refine u_isubc F dX9_changeAt_30 s0 s1 e0 e1 (fun y5 ey5 => ?_)
        refine u1_iald F 88 0 xc_88 rfl y5.toInt rfl (by omega) (by omega) dX9_changeAt_31 ((G 88) (y5.toInt).toNat) (rfl) ?_
        have b6 : ((-9999) : Int) ≤ ((G 88) (y5.toInt).toNat).toInt ∧ ((G 88) (y5.toInt).toNat).toInt ≤ 9999 := hI 88 _
        refine u_isub F dX9_changeAt_32 ((G 88) (s0).toNat).toInt ((G 88) (y5.toInt).toNat).toInt rfl rfl (by omega) (by omega) (fun y7 ey7 => ?_)
        refine u_mabs F w_1 w_2 w_3 w_4 (Nat.le_of_ble_eq_true rfl) (Nat.le_of_ble_eq_true rfl) (Nat.le_of_ble_eq_true rfl) (Nat.le_of_ble_eq_true rfl) dX9_changeAt_33 y7.toInt rfl (by omega) (fun y8 ey8 => ?_)
        exact u_iret F hA hQ hr () (⟨(by have h9 := ti_rng y8; omega), (fun h9 => by unfold cCh; rw [show s0 - s1 = y5.toInt by omega]; omega)⟩) rfl rfl dX9_changeAt_36
      · refine g_iconst F 0 dX9_changeAt_16 (by decide) ?_
        exact u_iret F hA hQ hr () (⟨(by decide), (fun h9 => absurd h9 (by omega))⟩) rfl rfl dX9_changeAt_17

theorem dX9_firstRinging_0 : decode cX9_firstRinging 0 = .ok (.iconst 0, 1) := by decide +kernel
theorem dX9_firstRinging_1 : decode cX9_firstRinging 1 = .ok (.istore 5, 2) := by decide +kernel
theorem dX9_firstRinging_3 : decode cX9_firstRinging 3 = .ok (.iload_n 1, 1) := by decide +kernel
theorem dX9_firstRinging_4 : decode cX9_firstRinging 4 = .ok (.istore 6, 2) := by decide +kernel
theorem dX9_firstRinging_6 : decode cX9_firstRinging 6 = .ok (.iload 6, 2) := by decide +kernel
theorem dX9_firstRinging_8 : decode cX9_firstRinging 8 = .ok (.aload_n 0, 1) := by decide +kernel
theorem dX9_firstRinging_9 : decode cX9_firstRinging 9 = .ok (.getfield 41, 3) := by decide +kernel
theorem dX9_firstRinging_12 : decode cX9_firstRinging 12 = .ok (.if_icmp .ge 60, 3) := by decide +kernel
theorem dX9_firstRinging_15 : decode cX9_firstRinging 15 = .ok (.aload_n 0, 1) := by decide +kernel
theorem dX9_firstRinging_16 : decode cX9_firstRinging 16 = .ok (.iload 6, 2) := by decide +kernel
theorem dX9_firstRinging_18 : decode cX9_firstRinging 18 = .ok (.iload_n 1, 1) := by decide +kernel
theorem dX9_firstRinging_19 : decode cX9_firstRinging 19 = .ok (.invokevirtual 56, 3) := by decide +kernel
theorem dX9_firstRinging_22 : decode cX9_firstRinging 22 = .ok (.iload 4, 2) := by decide +kernel
theorem dX9_firstRinging_24 : decode cX9_firstRinging 24 = .ok (.if_icmp .le 6, 3) := by decide +kernel
theorem dX9_firstRinging_27 : decode cX9_firstRinging 27 = .ok (.iinc 5 1, 3) := by decide +kernel
theorem dX9_firstRinging_30 : decode cX9_firstRinging 30 = .ok (.iload 6, 2) := by decide +kernel
theorem dX9_firstRinging_32 : decode cX9_firstRinging 32 = .ok (.iload_n 2, 1) := by decide +kernel
theorem dX9_firstRinging_33 : decode cX9_firstRinging 33 = .ok (.isub, 1) := by decide +kernel
theorem dX9_firstRinging_34 : decode cX9_firstRinging 34 = .ok (.istore 7, 2) := by decide +kernel
theorem dX9_firstRinging_36 : decode cX9_firstRinging 36 = .ok (.iload 7, 2) := by decide +kernel
theorem dX9_firstRinging_38 : decode cX9_firstRinging 38 = .ok (.iload_n 1, 1) := by decide +kernel
theorem dX9_firstRinging_39 : decode cX9_firstRinging 39 = .ok (.if_icmp .lt 18, 3) := by decide +kernel
theorem dX9_firstRinging_42 : decode cX9_firstRinging 42 = .ok (.aload_n 0, 1) := by decide +kernel
theorem dX9_firstRinging_43 : decode cX9_firstRinging 43 = .ok (.iload 7, 2) := by decide +kernel
theorem dX9_firstRinging_45 : decode cX9_firstRinging 45 = .ok (.iload_n 1, 1) := by decide +kernel
theorem dX9_firstRinging_46 : decode cX9_firstRinging 46 = .ok (.invokevirtual 56, 3) := by decide +kernel
theorem dX9_firstRinging_49 : decode cX9_firstRinging 49 = .ok (.iload 4, 2) := by decide +kernel
theorem dX9_firstRinging_51 : decode cX9_firstRinging 51 = .ok (.if_icmp .le 6, 3) := by decide +kernel
theorem dX9_firstRinging_54 : decode cX9_firstRinging 54 = .ok (.iinc 5 (-1), 3) := by decide +kernel
theorem dX9_firstRinging_57 : decode cX9_firstRinging 57 = .ok (.iload 5, 2) := by decide +kernel
theorem dX9_firstRinging_59 : decode cX9_firstRinging 59 = .ok (.iload_n 3, 1) := by decide +kernel
theorem dX9_firstRinging_60 : decode cX9_firstRinging 60 = .ok (.if_icmp .lt 6, 3) := by decide +kernel
theorem dX9_firstRinging_63 : decode cX9_firstRinging 63 = .ok (.iload 6, 2) := by decide +kernel
theorem dX9_firstRinging_65 : decode cX9_firstRinging 65 = .ok (.ireturn, 1) := by decide +kernel
theorem dX9_firstRinging_66 : decode cX9_firstRinging 66 = .ok (.iinc 6 1, 3) := by decide +kernel
theorem dX9_firstRinging_69 : decode cX9_firstRinging 69 = .ok (.goto (-63), 3) := by decide +kernel
theorem dX9_firstRinging_72 : decode cX9_firstRinging 72 = .ok (.iconst (-1), 1) := by decide +kernel
theorem dX9_firstRinging_73 : decode cX9_firstRinging 73 = .ok (.ireturn, 1) := by decide +kernel
set_option maxRecDepth 20000 in
theorem ggX9_firstRinging_X9_changeAt : GoodIn wsX9_firstRinging wsX9_changeAt := goodIn_r _ [6, 7, 8, 9, 10, 11, 12, 13, 14] rfl (by decide +kernel)
set_option maxRecDepth 20000 in
theorem gX9_firstRinging_X9_changeAt : GoodIn wsX9_firstRinging (wsV RX9 56 RX9 yX9_changeAt wsX9_changeAt) := goodIn_app (goodIn_of _ (by decide +kernel)) ggX9_firstRinging_X9_changeAt
set_option maxHeartbeats 4000000 in
set_option maxRecDepth 100000 in
theorem S_X9_firstRinging (l : Launch) (D : va_G) (K : Nat → ClassId) (a : Nat → Nat) (G : gS) (p0 : Int32) (s0 : Int) (p1 : Int32) (s1 : Int) (p2 : Int32) (s2 : Int) (p3 : Int32) (s3 : Int) (e0 : p0.toInt = s0) (h0 : 1 ≤ s0 ∧ s0 ≤ 60) (e1 : p1.toInt = s1) (h1 : 1 ≤ s1 ∧ s1 ≤ 60) (e2 : p2.toInt = s2) (e3 : p3.toInt = s3) (hI : xI G) (sz : Nat) : Ki l yX9_firstRinging wsX9_firstRinging 2 62 0 0 D [.ref (a 10), .int p0, .int p1, .int p2, .int p3] (xW K a G) (tK K) sz (fun (r : Int32) (_ : Unit) => ((-1) ≤ r.toInt ∧ r.toInt ≤ 149) ∧ (rO (G 88) (G 10 2).toInt s0 s1 s2 s3 r.toInt)) (fun (_ : Unit) => (xW K a G)) (fun _ => (tK K)) := by
  unfold Ki
  refine g_ofW (cc := cX9_firstRinging) (lv := [(0, .ref (a 10)), (1, .int p0), (2, .int p1), (3, .int p2), (4, .int p3)]) (by decide) rfl (Nat.le_of_ble_eq_true rfl) rfl ?_
  intro p e s m args below meth c A Q hA hQ F hr hnm
  have hts := F.2.2.2.2.1
  have w_0 : (Cond.fieldLink RX9 41 "QuietCut$Sound" "many" "I").before args s = true := hts _ (List.mem_of_getElem? (i := 1) rfl)
  have i_X9 : ∀ w ∈ u_ws RX9 TX9 3, w ∈ wsX9_firstRinging := fun _ h => List.mem_cons_of_mem _ (List.mem_append_right _ h)
  have rg2 : -2147483648 ≤ s2 ∧ s2 ≤ 2147483647 := e2 ▸ ti_rng p2
  have rg3 : -2147483648 ≤ s3 ∧ s3 ≤ 2147483647 := e3 ▸ ti_rng p3
  have b1 : (0 : Int) ≤ (G 10 2).toInt ∧ (G 10 2).toInt ≤ 150 := hI 10 2
  have J_6 : ∀ (fuel : Nat) (x6_5 : Int32) (x6_6 : Int32), (2147483647 - x6_6.toInt).toNat < fuel → (0 ≤ x6_5.toInt ∧ x6_5.toInt ≤ 1000) → (1 ≤ x6_6.toInt ∧ x6_6.toInt ≤ 150) → (x6_5.toInt = wN (G 88) s0 s3 (max s0 (x6_6.toInt - s1)) (x6_6.toInt - max s0 (x6_6.toInt - s1)).toNat) → (∀ i : Int, s0 ≤ i → i < x6_6.toInt → wW (G 88) s0 s3 s1 i < s2) → ((s0 ≤ x6_6.toInt ∧ 0 ≤ x6_5.toInt ∧ x6_5.toInt ≤ x6_6.toInt - s0)) → gG p l e (gR 2 0 0 62) s m args below meth c D A 8 Q 0 0 (xW K a G) (tK K) [(0, .ref (a 10)), (1, .int p0), (2, .int p1), (3, .int p2), (4, .int p3), (5, .int x6_5), (6, .int x6_6)] 6 [] := by
    intro fuel
    induction fuel with
    | zero => intro x6_5 x6_6 hm; exact absurd hm (Nat.not_lt_zero _)
    | succ fuel_6 ih_6 =>
      intro x6_5 x6_6 hm_6 h6_5 h6_6 wr ro it
      refine g_iload F 6 dX9_firstRinging_6 rfl ?_
      refine g_aload_n F 0 dX9_firstRinging_8 rfl rfl ?_
      refine xg_10_2 F i_X9 w_0 dX9_firstRinging_9 (G 10 2) (rfl) ?_
      refine v_icmp_ge F 72 dX9_firstRinging_12 (by decide) x6_6.toInt (G 10 2).toInt rfl rfl (fun c2 => ?_) (fun c2 => ?_)
      · refine g_iconst F (-1) dX9_firstRinging_72 (by decide) ?_
        exact u_iret F hA hQ hr () (⟨(by decide), (Or.inl ⟨by decide, fun i h1 h2 => ro i h1 (by omega)⟩)⟩) rfl rfl dX9_firstRinging_73
      · refine g_aload_n F 0 dX9_firstRinging_15 rfl rfl ?_
        refine g_iload F 6 dX9_firstRinging_16 rfl ?_
        refine g_iload_n F 1 dX9_firstRinging_18 rfl rfl ?_
        refine u_callVi (k := 0) (n := 0) (b := a 10) (As := [.int x6_6, .int p0]) (st := []) F (fun sz => S_X9_changeAt l D K a G x6_6 x6_6.toInt p0 s0 rfl e0 hI sz) (cwV 2 hts gX9_firstRinging_X9_changeAt rfl rfl rfl (by decide +kernel) ⟨Nat.le_of_ble_eq_true rfl, Nat.le_of_ble_eq_true rfl⟩) rfl 10 xc_10 rfl (Nat.le_of_ble_eq_true rfl) ⟨Nat.zero_le _, Nat.zero_le _⟩ dX9_firstRinging_19 (fun r3 _ hw4 => ?_)
        have q6 : (s0 ≤ x6_6.toInt ∧ x6_6.toInt < 150 ∧ 0 ≤ s0 → r3.toInt = cCh (G 88) x6_6.toInt s0) := hw4.2
        have rg7 := hw4.1
        clear hw4
        refine g_iload F 4 dX9_firstRinging_22 rfl ?_
        refine v_icmp_le F 30 dX9_firstRinging_24 (by decide) r3.toInt s3 rfl e3 (fun c8 => ?_) (fun c8 => ?_)
        · refine g_iload F 6 dX9_firstRinging_30 rfl ?_
          refine g_iload_n F 2 dX9_firstRinging_32 rfl rfl ?_
          refine u_isub F dX9_firstRinging_33 x6_6.toInt s1 rfl e1 (by omega) (by omega) (fun y9 ey9 => ?_)
          refine g_istore F [(7, .int y9), (0, .ref (a 10)), (1, .int p0), (2, .int p1), (3, .int p2), (4, .int p3), (5, .int x6_5), (6, .int x6_6)] dX9_firstRinging_34 (by decide) rfl ?_
          refine g_iload F 0 dX9_firstRinging_36 rfl ?_
          refine g_iload_n F 2 dX9_firstRinging_38 rfl rfl ?_
          refine v_icmp_lt F 57 dX9_firstRinging_39 (by decide) y9.toInt s0 rfl e0 (fun c10 => ?_) (fun c10 => ?_)
          · have ww11 : x6_5.toInt = wW (G 88) s0 s3 s1 x6_6.toInt := by have hc0 := q6 (by omega); exact ring_step wr (by omega) (by omega) (rfl : (x6_5.toInt + (if s3 < cCh (G 88) x6_6.toInt s0 then 1 else 0)) = (x6_5.toInt + (if s3 < cCh (G 88) x6_6.toInt s0 then 1 else 0))) (by right; refine ⟨by omega, ?_⟩; rw [← hc0]; (repeat' split) <;> omega)
            have wn := (wN_nn (f := G 88) (t := s0) (a := s3) (lo := max s0 (x6_6.toInt - s1 + 1)) (x6_6.toInt + 1 - max s0 (x6_6.toInt - s1 + 1)).toNat)
            have wn2 : 0 ≤ x6_5.toInt := by rw [ww11]; exact wn.1
            refine g_iload F 6 dX9_firstRinging_57 rfl ?_
            refine g_iload_n F 4 dX9_firstRinging_59 rfl rfl ?_
            refine v_icmp_lt F 66 dX9_firstRinging_60 (by decide) x6_5.toInt s2 rfl e2 (fun c12 => ?_) (fun c12 => ?_)
            · refine u_iinc F (fun v_ => [(6, .int v_), (7, .int y9), (0, .ref (a 10)), (1, .int p0), (2, .int p1), (3, .int p2), (4, .int p3), (5, .int x6_5)]) dX9_firstRinging_66 (j := 7) rfl x6_6.toInt 1 rfl rfl (by omega) (by omega) (by decide) (fun _ => rfl) (fun y13 ey13 => ?_)
              refine g_goto F 6 dX9_firstRinging_69 (by decide) ?_
              refine g_locals [(0, .ref (a 10)), (1, .int p0), (2, .int p1), (3, .int p2), (4, .int p3), (5, .int x6_5), (6, .int y13)] [2, 3, 4, 5, 6, 7, 0] rfl ?_
              exact ih_6 x6_5 y13 (by omega) (by have h9 := ti_rng x6_5; omega) (by have h9 := ti_rng y13; omega) (ring_next ww11 (by omega)) (fun i h1 h2 => by by_cases e : i = x6_6.toInt <;> first | exact ro i h1 (by omega) | (rw [e, ← ww11]; omega)) (by (first | omega | (simp only [Int32.reduceToInt, true_and, and_true, ne_eq, not_true_eq_false, false_and, or_false, false_or, true_or, or_true, false_implies] <;> omega)))
            · refine g_iload F 7 dX9_firstRinging_63 rfl ?_
              exact u_iret F hA hQ hr () (⟨(by have h9 := ti_rng x6_6; omega), (Or.inr ⟨by omega, by omega, by rw [← ww11]; omega, ro⟩)⟩) rfl rfl dX9_firstRinging_65
          · refine g_aload_n F 1 dX9_firstRinging_42 rfl rfl ?_
            refine g_iload F 0 dX9_firstRinging_43 rfl ?_
            refine g_iload_n F 2 dX9_firstRinging_45 rfl rfl ?_
            refine u_callVi (k := 0) (n := 0) (b := a 10) (As := [.int y9, .int p0]) (st := []) F (fun sz => S_X9_changeAt l D K a G y9 y9.toInt p0 s0 rfl e0 hI sz) (cwV 2 hts gX9_firstRinging_X9_changeAt rfl rfl rfl (by decide +kernel) ⟨Nat.le_of_ble_eq_true rfl, Nat.le_of_ble_eq_true rfl⟩) rfl 10 xc_10 rfl (Nat.le_of_ble_eq_true rfl) ⟨Nat.zero_le _, Nat.zero_le _⟩ dX9_firstRinging_46 (fun r14 _ hw15 => ?_)
            have q17 : (s0 ≤ y9.toInt ∧ y9.toInt < 150 ∧ 0 ≤ s0 → r14.toInt = cCh (G 88) y9.toInt s0) := hw15.2
            have rg18 := hw15.1
            clear hw15
            refine g_iload F 5 dX9_firstRinging_49 rfl ?_
            refine v_icmp_le F 57 dX9_firstRinging_51 (by decide) r14.toInt s3 rfl e3 (fun c19 => ?_) (fun c19 => ?_)
            · have ww20 : x6_5.toInt = wW (G 88) s0 s3 s1 x6_6.toInt := by have hc0 := q6 (by omega); have hc1 := q17 (by omega); exact ring_step wr (by omega) (by omega) (rfl : (x6_5.toInt + (if s3 < cCh (G 88) x6_6.toInt s0 then 1 else 0)) = (x6_5.toInt + (if s3 < cCh (G 88) x6_6.toInt s0 then 1 else 0))) (by left; refine ⟨by omega, ?_⟩; rw [← hc0, show x6_6.toInt - s1 = y9.toInt by omega, ← hc1]; (repeat' split) <;> omega)
              have wn := (wN_nn (f := G 88) (t := s0) (a := s3) (lo := max s0 (x6_6.toInt - s1 + 1)) (x6_6.toInt + 1 - max s0 (x6_6.toInt - s1 + 1)).toNat)
              have wn2 : 0 ≤ x6_5.toInt := by rw [ww20]; exact wn.1
              refine g_iload F 6 dX9_firstRinging_57 rfl ?_
              refine g_iload_n F 4 dX9_firstRinging_59 rfl rfl ?_
              refine v_icmp_lt F 66 dX9_firstRinging_60 (by decide) x6_5.toInt s2 rfl e2 (fun c21 => ?_) (fun c21 => ?_)
              · refine u_iinc F (fun v_ => [(6, .int v_), (7, .int y9), (0, .ref (a 10)), (1, .int p0), (2, .int p1), (3, .int p2), (4, .int p3), (5, .int x6_5)]) dX9_firstRinging_66 (j := 7) rfl x6_6.toInt 1 rfl rfl (by omega) (by omega) (by decide) (fun _ => rfl) (fun y22 ey22 => ?_)
                refine g_goto F 6 dX9_firstRinging_69 (by decide) ?_
                refine g_locals [(0, .ref (a 10)), (1, .int p0), (2, .int p1), (3, .int p2), (4, .int p3), (5, .int x6_5), (6, .int y22)] [2, 3, 4, 5, 6, 7, 0] rfl ?_
                exact ih_6 x6_5 y22 (by omega) (by have h9 := ti_rng x6_5; omega) (by have h9 := ti_rng y22; omega) (ring_next ww20 (by omega)) (fun i h1 h2 => by by_cases e : i = x6_6.toInt <;> first | exact ro i h1 (by omega) | (rw [e, ← ww20]; omega)) (by (first | omega | (simp only [Int32.reduceToInt, true_and, and_true, ne_eq, not_true_eq_false, false_and, or_false, false_or, true_or, or_true, false_implies] <;> omega)))
              · refine g_iload F 7 dX9_firstRinging_63 rfl ?_
                exact u_iret F hA hQ hr () (⟨(by have h9 := ti_rng x6_6; omega), (Or.inr ⟨by omega, by omega, by rw [← ww20]; omega, ro⟩)⟩) rfl rfl dX9_firstRinging_65
            · refine u_iinc F (fun v_ => [(5, .int v_), (7, .int y9), (0, .ref (a 10)), (1, .int p0), (2, .int p1), (3, .int p2), (4, .int p3), (6, .int x6_6)]) dX9_firstRinging_54 (j := 6) rfl x6_5.toInt (-1) rfl rfl (by omega) (by omega) (by decide) (fun _ => rfl) (fun y23 ey23 => ?_)
              have ww24 : y23.toInt = wW (G 88) s0 s3 s1 x6_6.toInt := by have hc0 := q6 (by omega); have hc1 := q17 (by omega); exact ring_step wr (by omega) (by omega) (rfl : (x6_5.toInt + (if s3 < cCh (G 88) x6_6.toInt s0 then 1 else 0)) = (x6_5.toInt + (if s3 < cCh (G 88) x6_6.toInt s0 then 1 else 0))) (by left; refine ⟨by omega, ?_⟩; rw [← hc0, show x6_6.toInt - s1 = y9.toInt by omega, ← hc1]; (repeat' split) <;> omega)
              have wn := (wN_nn (f := G 88) (t := s0) (a := s3) (lo := max s0 (x6_6.toInt - s1 + 1)) (x6_6.toInt + 1 - max s0 (x6_6.toInt - s1 + 1)).toNat)
              have wn2 : 0 ≤ y23.toInt := by rw [ww24]; exact wn.1
              refine g_iload F 0 dX9_firstRinging_57 rfl ?_
              refine g_iload_n F 5 dX9_firstRinging_59 rfl rfl ?_
              refine v_icmp_lt F 66 dX9_firstRinging_60 (by decide) y23.toInt s2 rfl e2 (fun c25 => ?_) (fun c25 => ?_)
              · refine u_iinc F (fun v_ => [(6, .int v_), (5, .int y23), (7, .int y9), (0, .ref (a 10)), (1, .int p0), (2, .int p1), (3, .int p2), (4, .int p3)]) dX9_firstRinging_66 (j := 7) rfl x6_6.toInt 1 rfl rfl (by omega) (by omega) (by decide) (fun _ => rfl) (fun y26 ey26 => ?_)
                refine g_goto F 6 dX9_firstRinging_69 (by decide) ?_
                refine g_locals [(0, .ref (a 10)), (1, .int p0), (2, .int p1), (3, .int p2), (4, .int p3), (5, .int y23), (6, .int y26)] [3, 4, 5, 6, 7, 1, 0] rfl ?_
                exact ih_6 y23 y26 (by omega) (by have h9 := ti_rng y23; omega) (by have h9 := ti_rng y26; omega) (ring_next ww24 (by omega)) (fun i h1 h2 => by by_cases e : i = x6_6.toInt <;> first | exact ro i h1 (by omega) | (rw [e, ← ww24]; omega)) (by (first | omega | (simp only [Int32.reduceToInt, true_and, and_true, ne_eq, not_true_eq_false, false_and, or_false, false_or, true_or, or_true, false_implies] <;> omega)))
              · refine g_iload F 7 dX9_firstRinging_63 rfl ?_
                exact u_iret F hA hQ hr () (⟨(by have h9 := ti_rng x6_6; omega), (Or.inr ⟨by omega, by omega, by rw [← ww24]; omega, ro⟩)⟩) rfl rfl dX9_firstRinging_65
        · refine u_iinc F (fun v_ => [(5, .int v_), (0, .ref (a 10)), (1, .int p0), (2, .int p1), (3, .int p2), (4, .int p3), (6, .int x6_6)]) dX9_firstRinging_27 (j := 5) rfl x6_5.toInt 1 rfl rfl (by omega) (by omega) (by decide) (fun _ => rfl) (fun y27 ey27 => ?_)
          refine g_iload F 6 dX9_firstRinging_30 rfl ?_
          refine g_iload_n F 3 dX9_firstRinging_32 rfl rfl ?_
          refine u_isub F dX9_firstRinging_33 x6_6.toInt s1 rfl e1 (by omega) (by omega) (fun y28 ey28 => ?_)
          refine g_istore F [(7, .int y28), (5, .int y27), (0, .ref (a 10)), (1, .int p0), (2, .int p1), (3, .int p2), (4, .int p3), (6, .int x6_6)] dX9_firstRinging_34 (by decide) rfl ?_
          refine g_iload F 0 dX9_firstRinging_36 rfl ?_
          refine g_iload_n F 3 dX9_firstRinging_38 rfl rfl ?_
          refine v_icmp_lt F 57 dX9_firstRinging_39 (by decide) y28.toInt s0 rfl e0 (fun c29 => ?_) (fun c29 => ?_)
          · have ww30 : y27.toInt = wW (G 88) s0 s3 s1 x6_6.toInt := by have hc0 := q6 (by omega); exact ring_step wr (by omega) (by omega) (rfl : (x6_5.toInt + (if s3 < cCh (G 88) x6_6.toInt s0 then 1 else 0)) = (x6_5.toInt + (if s3 < cCh (G 88) x6_6.toInt s0 then 1 else 0))) (by right; refine ⟨by omega, ?_⟩; rw [← hc0]; (repeat' split) <;> omega)
            have wn := (wN_nn (f := G 88) (t := s0) (a := s3) (lo := max s0 (x6_6.toInt - s1 + 1)) (x6_6.toInt + 1 - max s0 (x6_6.toInt - s1 + 1)).toNat)
            have wn2 : 0 ≤ y27.toInt := by rw [ww30]; exact wn.1
            refine g_iload F 1 dX9_firstRinging_57 rfl ?_
            refine g_iload_n F 5 dX9_firstRinging_59 rfl rfl ?_
            refine v_icmp_lt F 66 dX9_firstRinging_60 (by decide) y27.toInt s2 rfl e2 (fun c31 => ?_) (fun c31 => ?_)
            · refine u_iinc F (fun v_ => [(6, .int v_), (7, .int y28), (5, .int y27), (0, .ref (a 10)), (1, .int p0), (2, .int p1), (3, .int p2), (4, .int p3)]) dX9_firstRinging_66 (j := 7) rfl x6_6.toInt 1 rfl rfl (by omega) (by omega) (by decide) (fun _ => rfl) (fun y32 ey32 => ?_)
              refine g_goto F 6 dX9_firstRinging_69 (by decide) ?_
              refine g_locals [(0, .ref (a 10)), (1, .int p0), (2, .int p1), (3, .int p2), (4, .int p3), (5, .int y27), (6, .int y32)] [3, 4, 5, 6, 7, 2, 0] rfl ?_
              exact ih_6 y27 y32 (by omega) (by have h9 := ti_rng y27; omega) (by have h9 := ti_rng y32; omega) (ring_next ww30 (by omega)) (fun i h1 h2 => by by_cases e : i = x6_6.toInt <;> first | exact ro i h1 (by omega) | (rw [e, ← ww30]; omega)) (by (first | omega | (simp only [Int32.reduceToInt, true_and, and_true, ne_eq, not_true_eq_false, false_and, or_false, false_or, true_or, or_true, false_implies] <;> omega)))
            · refine g_iload F 7 dX9_firstRinging_63 rfl ?_
              exact u_iret F hA hQ hr () (⟨(by have h9 := ti_rng x6_6; omega), (Or.inr ⟨by omega, by omega, by rw [← ww30]; omega, ro⟩)⟩) rfl rfl dX9_firstRinging_65
          · refine g_aload_n F 2 dX9_firstRinging_42 rfl rfl ?_
            refine g_iload F 0 dX9_firstRinging_43 rfl ?_
            refine g_iload_n F 3 dX9_firstRinging_45 rfl rfl ?_
            refine u_callVi (k := 0) (n := 0) (b := a 10) (As := [.int y28, .int p0]) (st := []) F (fun sz => S_X9_changeAt l D K a G y28 y28.toInt p0 s0 rfl e0 hI sz) (cwV 2 hts gX9_firstRinging_X9_changeAt rfl rfl rfl (by decide +kernel) ⟨Nat.le_of_ble_eq_true rfl, Nat.le_of_ble_eq_true rfl⟩) rfl 10 xc_10 rfl (Nat.le_of_ble_eq_true rfl) ⟨Nat.zero_le _, Nat.zero_le _⟩ dX9_firstRinging_46 (fun r33 _ hw34 => ?_)
            have q36 : (s0 ≤ y28.toInt ∧ y28.toInt < 150 ∧ 0 ≤ s0 → r33.toInt = cCh (G 88) y28.toInt s0) := hw34.2
            have rg37 := hw34.1
            clear hw34
            refine g_iload F 6 dX9_firstRinging_49 rfl ?_
            refine v_icmp_le F 57 dX9_firstRinging_51 (by decide) r33.toInt s3 rfl e3 (fun c38 => ?_) (fun c38 => ?_)
            · have ww39 : y27.toInt = wW (G 88) s0 s3 s1 x6_6.toInt := by have hc0 := q6 (by omega); have hc1 := q36 (by omega); exact ring_step wr (by omega) (by omega) (rfl : (x6_5.toInt + (if s3 < cCh (G 88) x6_6.toInt s0 then 1 else 0)) = (x6_5.toInt + (if s3 < cCh (G 88) x6_6.toInt s0 then 1 else 0))) (by left; refine ⟨by omega, ?_⟩; rw [← hc0, show x6_6.toInt - s1 = y28.toInt by omega, ← hc1]; (repeat' split) <;> omega)
              have wn := (wN_nn (f := G 88) (t := s0) (a := s3) (lo := max s0 (x6_6.toInt - s1 + 1)) (x6_6.toInt + 1 - max s0 (x6_6.toInt - s1 + 1)).toNat)
              have wn2 : 0 ≤ y27.toInt := by rw [ww39]; exact wn.1
              refine g_iload F 1 dX9_firstRinging_57 rfl ?_
              refine g_iload_n F 5 dX9_firstRinging_59 rfl rfl ?_
              refine v_icmp_lt F 66 dX9_firstRinging_60 (by decide) y27.toInt s2 rfl e2 (fun c40 => ?_) (fun c40 => ?_)
              · refine u_iinc F (fun v_ => [(6, .int v_), (7, .int y28), (5, .int y27), (0, .ref (a 10)), (1, .int p0), (2, .int p1), (3, .int p2), (4, .int p3)]) dX9_firstRinging_66 (j := 7) rfl x6_6.toInt 1 rfl rfl (by omega) (by omega) (by decide) (fun _ => rfl) (fun y41 ey41 => ?_)
                refine g_goto F 6 dX9_firstRinging_69 (by decide) ?_
                refine g_locals [(0, .ref (a 10)), (1, .int p0), (2, .int p1), (3, .int p2), (4, .int p3), (5, .int y27), (6, .int y41)] [3, 4, 5, 6, 7, 2, 0] rfl ?_
                exact ih_6 y27 y41 (by omega) (by have h9 := ti_rng y27; omega) (by have h9 := ti_rng y41; omega) (ring_next ww39 (by omega)) (fun i h1 h2 => by by_cases e : i = x6_6.toInt <;> first | exact ro i h1 (by omega) | (rw [e, ← ww39]; omega)) (by (first | omega | (simp only [Int32.reduceToInt, true_and, and_true, ne_eq, not_true_eq_false, false_and, or_false, false_or, true_or, or_true, false_implies] <;> omega)))
              · refine g_iload F 7 dX9_firstRinging_63 rfl ?_
                exact u_iret F hA hQ hr () (⟨(by have h9 := ti_rng x6_6; omega), (Or.inr ⟨by omega, by omega, by rw [← ww39]; omega, ro⟩)⟩) rfl rfl dX9_firstRinging_65
            · refine u_iinc F (fun v_ => [(5, .int v_), (7, .int y28), (0, .ref (a 10)), (1, .int p0), (2, .int p1), (3, .int p2), (4, .int p3), (6, .int x6_6)]) dX9_firstRinging_54 (j := 1) rfl y27.toInt (-1) rfl rfl (by omega) (by omega) (by decide) (fun _ => rfl) (fun y42 ey42 => ?_)
              have ww43 : y42.toInt = wW (G 88) s0 s3 s1 x6_6.toInt := by have hc0 := q6 (by omega); have hc1 := q36 (by omega); exact ring_step wr (by omega) (by omega) (rfl : (x6_5.toInt + (if s3 < cCh (G 88) x6_6.toInt s0 then 1 else 0)) = (x6_5.toInt + (if s3 < cCh (G 88) x6_6.toInt s0 then 1 else 0))) (by left; refine ⟨by omega, ?_⟩; rw [← hc0, show x6_6.toInt - s1 = y28.toInt by omega, ← hc1]; (repeat' split) <;> omega)
              have wn := (wN_nn (f := G 88) (t := s0) (a := s3) (lo := max s0 (x6_6.toInt - s1 + 1)) (x6_6.toInt + 1 - max s0 (x6_6.toInt - s1 + 1)).toNat)
              have wn2 : 0 ≤ y42.toInt := by rw [ww43]; exact wn.1
              refine g_iload F 0 dX9_firstRinging_57 rfl ?_
              refine g_iload_n F 5 dX9_firstRinging_59 rfl rfl ?_
              refine v_icmp_lt F 66 dX9_firstRinging_60 (by decide) y42.toInt s2 rfl e2 (fun c44 => ?_) (fun c44 => ?_)
              · refine u_iinc F (fun v_ => [(6, .int v_), (5, .int y42), (7, .int y28), (0, .ref (a 10)), (1, .int p0), (2, .int p1), (3, .int p2), (4, .int p3)]) dX9_firstRinging_66 (j := 7) rfl x6_6.toInt 1 rfl rfl (by omega) (by omega) (by decide) (fun _ => rfl) (fun y45 ey45 => ?_)
                refine g_goto F 6 dX9_firstRinging_69 (by decide) ?_
                refine g_locals [(0, .ref (a 10)), (1, .int p0), (2, .int p1), (3, .int p2), (4, .int p3), (5, .int y42), (6, .int y45)] [3, 4, 5, 6, 7, 1, 0] rfl ?_
                exact ih_6 y42 y45 (by omega) (by have h9 := ti_rng y42; omega) (by have h9 := ti_rng y45; omega) (ring_next ww43 (by omega)) (fun i h1 h2 => by by_cases e : i = x6_6.toInt <;> first | exact ro i h1 (by omega) | (rw [e, ← ww43]; omega)) (by (first | omega | (simp only [Int32.reduceToInt, true_and, and_true, ne_eq, not_true_eq_false, false_and, or_false, false_or, true_or, or_true, false_implies] <;> omega)))
              · refine g_iload F 7 dX9_firstRinging_63 rfl ?_
                exact u_iret F hA hQ hr () (⟨(by have h9 := ti_rng x6_6; omega), (Or.inr ⟨by omega, by omega, by rw [← ww43]; omega, ro⟩)⟩) rfl rfl dX9_firstRinging_65
  refine g_iconst F 0 dX9_firstRinging_0 (by decide) ?_
  refine g_istore F [(5, .int 0), (0, .ref (a 10)), (1, .int p0), (2, .int p1), (3, .int p2), (4, .int p3)] dX9_firstRinging_1 (by decide) rfl ?_
  refine g_iload_n F 2 dX9_firstRinging_3 rfl rfl ?_
  refine g_istore F [(6, .int p0), (5, .int 0), (0, .ref (a 10)), (1, .int p0), (2, .int p1), (3, .int p2), (4, .int p3)] dX9_firstRinging_4 (by decide) rfl ?_
  refine g_locals [(0, .ref (a 10)), (1, .int p0), (2, .int p1), (3, .int p2), (4, .int p3), (5, .int 0), (6, .int p0)] [2, 3, 4, 5, 6, 1, 0] rfl ?_
  exact J_6 _ 0 p0 (Nat.lt_succ_self _) (by decide) (by have h9 := ti_rng p0; omega) (by rw [e0, show max s0 (s0 - s1) = s0 by omega, show (s0 - s0).toNat = 0 by omega]; rfl) (fun i h1 h2 => by omega) (by (first | omega | (simp only [Int32.reduceToInt, true_and, and_true, ne_eq, not_true_eq_false, false_and, or_false, false_or, true_or, or_true, false_implies] <;> omega)))

theorem dX9_isForced_0 : decode cX9_isForced 0 = .ok (.aload_n 0, 1) := by decide +kernel
theorem dX9_isForced_1 : decode cX9_isForced 1 = .ok (.getfield 41, 3) := by decide +kernel
theorem dX9_isForced_4 : decode cX9_isForced 4 = .ok (.iload_n 1, 1) := by decide +kernel
theorem dX9_isForced_5 : decode cX9_isForced 5 = .ok (.if_icmp .gt 5, 3) := by decide +kernel
theorem dX9_isForced_8 : decode cX9_isForced 8 = .ok (.iconst (-1), 1) := by decide +kernel
theorem dX9_isForced_9 : decode cX9_isForced 9 = .ok (.ireturn, 1) := by decide +kernel
theorem dX9_isForced_10 : decode cX9_isForced 10 = .ok (.iconst 0, 1) := by decide +kernel
theorem dX9_isForced_11 : decode cX9_isForced 11 = .ok (.istore_n 2, 1) := by decide +kernel
theorem dX9_isForced_12 : decode cX9_isForced 12 = .ok (.iconst 0, 1) := by decide +kernel
theorem dX9_isForced_13 : decode cX9_isForced 13 = .ok (.istore_n 3, 1) := by decide +kernel
theorem dX9_isForced_14 : decode cX9_isForced 14 = .ok (.iload_n 1, 1) := by decide +kernel
theorem dX9_isForced_15 : decode cX9_isForced 15 = .ok (.istore 4, 2) := by decide +kernel
theorem dX9_isForced_17 : decode cX9_isForced 17 = .ok (.iload 4, 2) := by decide +kernel
theorem dX9_isForced_19 : decode cX9_isForced 19 = .ok (.aload_n 0, 1) := by decide +kernel
theorem dX9_isForced_20 : decode cX9_isForced 20 = .ok (.getfield 41, 3) := by decide +kernel
theorem dX9_isForced_23 : decode cX9_isForced 23 = .ok (.if_icmp .ge 45, 3) := by decide +kernel
theorem dX9_isForced_26 : decode cX9_isForced 26 = .ok (.iload 4, 2) := by decide +kernel
theorem dX9_isForced_28 : decode cX9_isForced 28 = .ok (.sipush 150, 3) := by decide +kernel
theorem dX9_isForced_31 : decode cX9_isForced 31 = .ok (.if_icmp .ge 37, 3) := by decide +kernel
theorem dX9_isForced_34 : decode cX9_isForced 34 = .ok (.iload 4, 2) := by decide +kernel
theorem dX9_isForced_36 : decode cX9_isForced 36 = .ok (.ifCond .lt 32, 3) := by decide +kernel
theorem dX9_isForced_39 : decode cX9_isForced 39 = .ok (.iload_n 2, 1) := by decide +kernel
theorem dX9_isForced_40 : decode cX9_isForced 40 = .ok (.aload_n 0, 1) := by decide +kernel
theorem dX9_isForced_41 : decode cX9_isForced 41 = .ok (.iload 4, 2) := by decide +kernel
theorem dX9_isForced_43 : decode cX9_isForced 43 = .ok (.iload_n 1, 1) := by decide +kernel
theorem dX9_isForced_44 : decode cX9_isForced 44 = .ok (.invokevirtual 56, 3) := by decide +kernel
theorem dX9_isForced_47 : decode cX9_isForced 47 = .ok (.iadd, 1) := by decide +kernel
theorem dX9_isForced_48 : decode cX9_isForced 48 = .ok (.istore_n 2, 1) := by decide +kernel
theorem dX9_isForced_49 : decode cX9_isForced 49 = .ok (.iload_n 3, 1) := by decide +kernel
theorem dX9_isForced_50 : decode cX9_isForced 50 = .ok (.aload_n 0, 1) := by decide +kernel
theorem dX9_isForced_51 : decode cX9_isForced 51 = .ok (.getfield 11, 3) := by decide +kernel
theorem dX9_isForced_54 : decode cX9_isForced 54 = .ok (.iload 4, 2) := by decide +kernel
theorem dX9_isForced_56 : decode cX9_isForced 56 = .ok (.iaload, 1) := by decide +kernel
theorem dX9_isForced_57 : decode cX9_isForced 57 = .ok (.invokestatic 50, 3) := by decide +kernel
theorem dX9_isForced_60 : decode cX9_isForced 60 = .ok (.iadd, 1) := by decide +kernel
theorem dX9_isForced_61 : decode cX9_isForced 61 = .ok (.istore_n 3, 1) := by decide +kernel
theorem dX9_isForced_62 : decode cX9_isForced 62 = .ok (.iinc 4 1, 3) := by decide +kernel
theorem dX9_isForced_65 : decode cX9_isForced 65 = .ok (.goto (-48), 3) := by decide +kernel
theorem dX9_isForced_68 : decode cX9_isForced 68 = .ok (.iconst 2, 1) := by decide +kernel
theorem dX9_isForced_69 : decode cX9_isForced 69 = .ok (.iload_n 2, 1) := by decide +kernel
theorem dX9_isForced_70 : decode cX9_isForced 70 = .ok (.imul, 1) := by decide +kernel
theorem dX9_isForced_71 : decode cX9_isForced 71 = .ok (.iload_n 3, 1) := by decide +kernel
theorem dX9_isForced_72 : decode cX9_isForced 72 = .ok (.if_icmp .gt 7, 3) := by decide +kernel
theorem dX9_isForced_75 : decode cX9_isForced 75 = .ok (.iconst 1, 1) := by decide +kernel
theorem dX9_isForced_76 : decode cX9_isForced 76 = .ok (.goto 4, 3) := by decide +kernel
theorem dX9_isForced_79 : decode cX9_isForced 79 = .ok (.iconst 0, 1) := by decide +kernel
theorem dX9_isForced_80 : decode cX9_isForced 80 = .ok (.ireturn, 1) := by decide +kernel
set_option maxRecDepth 20000 in
theorem ggX9_isForced_X9_changeAt : GoodIn wsX9_isForced wsX9_changeAt := goodIn_r _ [11, 2, 3, 4, 5, 6, 12, 13, 14] rfl (by decide +kernel)
set_option maxRecDepth 20000 in
theorem gX9_isForced_X9_changeAt : GoodIn wsX9_isForced (wsV RX9 56 RX9 yX9_changeAt wsX9_changeAt) := goodIn_app (goodIn_of _ (by decide +kernel)) ggX9_isForced_X9_changeAt
set_option maxHeartbeats 4000000 in
set_option maxRecDepth 100000 in
theorem S_X9_isForced (l : Launch) (D : va_G) (K : Nat → ClassId) (a : Nat → Nat) (G : gS) (p0 : Int32) (s0 : Int) (e0 : p0.toInt = s0) (h0 : 1 ≤ s0 ∧ s0 ≤ 60) (hI : xI G) (sz : Nat) : Ki l yX9_isForced wsX9_isForced 2 62 0 0 D [.ref (a 10), .int p0] (xW K a G) (tK K) sz (fun (r : Int32) (_ : Unit) => ((-1) ≤ r.toInt ∧ r.toInt ≤ 1) ∧ (((r.toInt = -1 ∧ (G 10 2).toInt ≤ s0) ∨ (s0 < (G 10 2).toInt ∧ r.toInt = fF (G 88) (G 10 2).toInt s0)))) (fun (_ : Unit) => (xW K a G)) (fun _ => (tK K)) := by
  unfold Ki
  refine g_ofW (cc := cX9_isForced) (lv := [(0, .ref (a 10)), (1, .int p0)]) (by decide) rfl (Nat.le_of_ble_eq_true rfl) rfl ?_
  intro p e s m args below meth c A Q hA hQ F hr hnm
  have hts := F.2.2.2.2.1
  have w_0 : (Cond.fieldLink RX9 41 "QuietCut$Sound" "many" "I").before args s = true := hts _ (List.mem_of_getElem? (i := 1) rfl)
  have i_X9 : ∀ w ∈ u_ws RX9 TX9 3, w ∈ wsX9_isForced := fun _ h => List.mem_cons_of_mem _ (List.mem_append_right _ h)
  have w_1 : (Cond.fieldLink RX9 11 "QuietCut$Sound" "numbers" "[I").before args s = true := hts _ (List.mem_of_getElem? (i := 2) rfl)
  have w_2 : (Cond.methodLink RX9 50 Lib.Math.abs.name).before args s = true := hts _ (List.mem_of_getElem? (i := 3) rfl)
  have w_3 : (Cond.static Lib.Math.abs.name).before args s = true := hts _ (List.mem_of_getElem? (i := 4) rfl)
  have w_4 : (Cond.initialized "java/lang/Math").before args s = true := hts _ (List.mem_of_getElem? (i := 5) rfl)
  have w_5 : (Cond.code Lib.Math.abs.name Lib.Math.abs.code 1 (some .int)).before args s = true := hts _ (List.mem_of_getElem? (i := 6) rfl)
  have b1 : (0 : Int) ≤ (G 10 2).toInt ∧ (G 10 2).toInt ≤ 150 := hI 10 2
  have J_17 : ∀ (fuel : Nat) (x17_2 : Int32) (x17_3 : Int32) (x17_4 : Int32), (2147483647 - x17_4.toInt).toNat < fuel → (0 ≤ x17_2.toInt ∧ x17_2.toInt ≤ 4000000) → (0 ≤ x17_3.toInt ∧ x17_3.toInt ≤ 2000000) → (1 ≤ x17_4.toInt ∧ x17_4.toInt ≤ 150) → ((x17_2.toInt = sS (fun i => cCh (G 88) i s0) s0 (x17_4.toInt - s0).toNat ∧ x17_3.toInt = sS (cAb (G 88)) s0 (x17_4.toInt - s0).toNat)) → ((s0 < (G 10 2).toInt ∧ s0 ≤ x17_4.toInt ∧ 0 ≤ x17_2.toInt ∧ x17_2.toInt ≤ 19998 * (x17_4.toInt - s0) ∧ 0 ≤ x17_3.toInt ∧ x17_3.toInt ≤ 9999 * (x17_4.toInt - s0) ∧ x17_4.toInt ≤ (G 10 2).toInt)) → gG p l e (gR 2 0 0 62) s m args below meth c D A 5 Q 0 0 (xW K a G) (tK K) [(0, .ref (a 10)), (1, .int p0), (2, .int x17_2), (3, .int x17_3), (4, .int x17_4)] 17 [] := by
    intro fuel
    induction fuel with
    | zero => intro x17_2 x17_3 x17_4 hm; exact absurd hm (Nat.not_lt_zero _)
    | succ fuel_17 ih_17 =>
      intro x17_2 x17_3 x17_4 hm_17 h17_2 h17_3 h17_4 fs fb
      refine g_iload F 4 dX9_isForced_17 rfl ?_
      refine g_aload_n F 0 dX9_isForced_19 rfl rfl ?_
      refine xg_10_2 F i_X9 w_0 dX9_isForced_20 (G 10 2) (rfl) ?_
      refine v_icmp_ge F 68 dX9_isForced_23 (by decide) x17_4.toInt (G 10 2).toInt rfl rfl (fun c2 => ?_) (fun c2 => ?_)
      · refine g_iconst F 2 dX9_isForced_68 (by decide) ?_
        refine g_iload_n F 2 dX9_isForced_69 rfl rfl ?_
        refine u_imul F dX9_isForced_70 2 x17_2.toInt rfl rfl (by omega) (by omega) (fun y3 ey3 => ?_)
        refine g_iload_n F 3 dX9_isForced_71 rfl rfl ?_
        refine v_icmp_gt F 79 dX9_isForced_72 (by decide) y3.toInt x17_3.toInt rfl rfl (fun c4 => ?_) (fun c4 => ?_)
        · refine g_iconst F 0 dX9_isForced_79 (by decide) ?_
          exact u_iret F hA hQ hr () (⟨(by decide), (by first | (exfalso; omega) | exact Or.inr ⟨by omega, by unfold fF; have h9 := fs; rw [show x17_4.toInt = (G 10 2).toInt by omega] at h9; rw [← h9.1, ← h9.2]; split <;> first | rfl | (exfalso; omega)⟩)⟩) rfl rfl dX9_isForced_80
        · refine g_iconst F 1 dX9_isForced_75 (by decide) ?_
          refine g_goto F 80 dX9_isForced_76 (by decide) ?_
          exact u_iret F hA hQ hr () (⟨(by decide), (by first | (exfalso; omega) | exact Or.inr ⟨by omega, by unfold fF; have h9 := fs; rw [show x17_4.toInt = (G 10 2).toInt by omega] at h9; rw [← h9.1, ← h9.2]; split <;> first | rfl | (exfalso; omega)⟩)⟩) rfl rfl dX9_isForced_80
      · refine g_iload F 4 dX9_isForced_26 rfl ?_
        refine g_sipush F 150 dX9_isForced_28 (by decide) ?_
        refine v_icmp_ge F 68 dX9_isForced_31 (by decide) x17_4.toInt 150 rfl rfl (fun c5 => absurd c5 (by omega)) (fun c5 => ?_)
        refine g_iload F 4 dX9_isForced_34 rfl ?_
        refine v_if_lt F 68 dX9_isForced_36 (by decide) x17_4.toInt rfl (fun c6 => absurd c6 (by omega)) (fun c6 => ?_)
        refine g_iload_n F 2 dX9_isForced_39 rfl rfl ?_
        refine g_aload_n F 0 dX9_isForced_40 rfl rfl ?_
        refine g_iload F 4 dX9_isForced_41 rfl ?_
        refine g_iload_n F 1 dX9_isForced_43 rfl rfl ?_
        refine u_callVi (k := 0) (n := 0) (b := a 10) (As := [.int x17_4, .int p0]) (st := [.int x17_2]) F (fun sz => S_X9_changeAt l D K a G x17_4 x17_4.toInt p0 s0 rfl e0 hI sz) (cwV 2 hts gX9_isForced_X9_changeAt rfl rfl rfl (by decide +kernel) ⟨Nat.le_of_ble_eq_true rfl, Nat.le_of_ble_eq_true rfl⟩) rfl 10 xc_10 rfl (Nat.le_of_ble_eq_true rfl) ⟨Nat.zero_le _, Nat.zero_le _⟩ dX9_isForced_44 (fun r7 _ hw8 => ?_)
        have q10 : (s0 ≤ x17_4.toInt ∧ x17_4.toInt < 150 ∧ 0 ≤ s0 → r7.toInt = cCh (G 88) x17_4.toInt s0) := hw8.2
        have rg11 := hw8.1
        clear hw8
        refine u_iadd F dX9_isForced_47 x17_2.toInt r7.toInt rfl rfl (by omega) (by omega) (fun y12 ey12 => ?_)
        refine g_istore_n F [(2, .int y12), (0, .ref (a 10)), (1, .int p0), (3, .int x17_3), (4, .int x17_4)] dX9_isForced_48 rfl (by decide) rfl ?_
        refine g_iload_n F 3 dX9_isForced_49 rfl rfl ?_
        refine g_aload_n F 1 dX9_isForced_50 rfl rfl ?_
        refine xg_10_0 F i_X9 w_1 dX9_isForced_51 ?_
        refine g_iload F 4 dX9_isForced_54 rfl ?_
        refine u1_iald F 88 0 xc_88 rfl x17_4.toInt rfl (by omega) (by omega) dX9_isForced_56 ((G 88) (x17_4.toInt).toNat) (rfl) ?_
        have b13 : ((-9999) : Int) ≤ ((G 88) (x17_4.toInt).toNat).toInt ∧ ((G 88) (x17_4.toInt).toNat).toInt ≤ 9999 := hI 88 _
        refine u_mabs F w_2 w_3 w_4 w_5 (Nat.le_of_ble_eq_true rfl) (Nat.le_of_ble_eq_true rfl) (Nat.le_of_ble_eq_true rfl) (Nat.le_of_ble_eq_true rfl) dX9_isForced_57 ((G 88) (x17_4.toInt).toNat).toInt rfl (by omega) (fun y14 ey14 => ?_)
        refine u_iadd F dX9_isForced_60 x17_3.toInt y14.toInt rfl rfl (by omega) (by omega) (fun y15 ey15 => ?_)
        refine g_istore_n F [(3, .int y15), (2, .int y12), (0, .ref (a 10)), (1, .int p0), (4, .int x17_4)] dX9_isForced_61 rfl (by decide) rfl ?_
        refine u_iinc F (fun v_ => [(4, .int v_), (3, .int y15), (2, .int y12), (0, .ref (a 10)), (1, .int p0)]) dX9_isForced_62 (j := 4) rfl x17_4.toInt 1 rfl rfl (by omega) (by omega) (by decide) (fun _ => rfl) (fun y16 ey16 => ?_)
        refine g_goto F 17 dX9_isForced_65 (by decide) ?_
        refine g_locals [(0, .ref (a 10)), (1, .int p0), (2, .int y12), (3, .int y15), (4, .int y16)] [3, 4, 2, 1, 0] rfl ?_
        exact ih_17 y12 y15 y16 (by omega) (by have h9 := ti_rng y12; omega) (by have h9 := ti_rng y15; omega) (by have h9 := ti_rng y16; omega) (⟨sS_1 fs.1 (by omega) (by have h9 := q10 (by omega); show _ = _ + cCh (G 88) x17_4.toInt s0; omega) (by omega), sS_1 fs.2 (by omega) (by show _ = _ + cAb (G 88) x17_4.toInt; unfold cAb; omega) (by omega)⟩) (by (first | omega | (simp only [Int32.reduceToInt, true_and, and_true, ne_eq, not_true_eq_false, false_and, or_false, false_or, true_or, or_true, false_implies] <;> omega)))
  refine g_aload_n F 0 dX9_isForced_0 rfl rfl ?_
  refine xg_10_2 F i_X9 w_0 dX9_isForced_1 (G 10 2) (rfl) ?_
  refine g_iload_n F 1 dX9_isForced_4 rfl rfl ?_
  refine v_icmp_gt F 10 dX9_isForced_5 (by decide) (G 10 2).toInt s0 rfl e0 (fun c17 => ?_) (fun c17 => ?_)
  · refine g_iconst F 0 dX9_isForced_10 (by decide) ?_
    refine g_istore_n F [(2, .int 0), (0, .ref (a 10)), (1, .int p0)] dX9_isForced_11 rfl (by decide) rfl ?_
    refine g_iconst F 0 dX9_isForced_12 (by decide) ?_
    refine g_istore_n F [(3, .int 0), (2, .int 0), (0, .ref (a 10)), (1, .int p0)] dX9_isForced_13 rfl (by decide) rfl ?_
    refine g_iload_n F 3 dX9_isForced_14 rfl rfl ?_
    refine g_istore F [(4, .int p0), (3, .int 0), (2, .int 0), (0, .ref (a 10)), (1, .int p0)] dX9_isForced_15 (by decide) rfl ?_
    refine g_locals [(0, .ref (a 10)), (1, .int p0), (2, .int 0), (3, .int 0), (4, .int p0)] [3, 4, 2, 1, 0] rfl ?_
    exact J_17 _ 0 0 p0 (Nat.lt_succ_self _) (by decide) (by decide) (by have h9 := ti_rng p0; omega) (by rw [e0, show (s0 - s0).toNat = 0 by omega]; exact ⟨rfl, rfl⟩) (by (first | omega | (simp only [Int32.reduceToInt, true_and, and_true, ne_eq, not_true_eq_false, false_and, or_false, false_or, true_or, or_true, false_implies] <;> omega)))
  · refine g_iconst F (-1) dX9_isForced_8 (by decide) ?_
    exact u_iret F hA hQ hr () (⟨(by decide), (Or.inl ⟨by decide, by omega⟩)⟩) rfl rfl dX9_isForced_9
