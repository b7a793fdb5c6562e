theorem dX4_forget_0 : decode cX4_forget 0 = .ok (.aload_n 0, 1) := by decide +kernel
theorem dX4_forget_1 : decode cX4_forget 1 = .ok (.iconst 0, 1) := by decide +kernel
theorem dX4_forget_2 : decode cX4_forget 2 = .ok (.putfield 37, 3) := by decide +kernel
theorem dX4_forget_5 : decode cX4_forget 5 = .ok (.aload_n 0, 1) := by decide +kernel
theorem dX4_forget_6 : decode cX4_forget 6 = .ok (.iconst 0, 1) := by decide +kernel
theorem dX4_forget_7 : decode cX4_forget 7 = .ok (.putfield 41, 3) := by decide +kernel
theorem dX4_forget_10 : decode cX4_forget 10 = .ok (.return_, 1) := by decide +kernel
set_option maxHeartbeats 4000000 in
set_option maxRecDepth 100000 in
theorem S_X4_forget (l : Launch) (D : va_G) (K : Nat → ClassId) (a : Nat → Nat) (G : gS) (hI : xI G) (sz : Nat) : Kv l yX4_forget wsX4_forget 1 40 0 0 D [.ref (a 8)] (xW K a G) (tK K) sz (fun (G' : gS) => (xI G') ∧ (gu_un xcd [804, 809] G G') ∧ (((G' 8 3).toInt = 0))) (fun (G' : gS) => (xW K a G')) (fun _ => (tK K)) := by
  unfold Kv
  refine g_ofW (cc := cX4_forget) (lv := [(0, .ref (a 8))]) (by decide) rfl (Nat.le_of_ble_eq_true rfl) rfl ?_
  intro p e s m args below meth c A Q hA hQ F hr hnm
  have hts := F.2.2.2.2.1
  have w_0 : (Cond.fieldLink RX4 37 "QuietCut$Jobs" "many" "I").before args s = true := hts _ (List.mem_of_getElem? (i := 1) rfl)
  have i_X4 : ∀ w ∈ u_ws RX4 TX4 12, w ∈ wsX4_forget := fun _ h => List.mem_cons_of_mem _ (List.mem_append_right _ h)
  have w_1 : (Cond.fieldLink RX4 41 "QuietCut$Jobs" "bestMany" "I").before args s = true := hts _ (List.mem_of_getElem? (i := 2) rfl)
  refine g_aload_n F 0 dX4_forget_0 rfl rfl ?_
  refine g_iconst F 0 dX4_forget_1 (by decide) ?_
  refine xp_8_3 F i_X4 w_0 dX4_forget_2 ?_
  refine g_aload_n F 0 dX4_forget_5 rfl rfl ?_
  refine g_iconst F 0 dX4_forget_6 (by decide) ?_
  refine xp_8_8 F i_X4 w_1 dX4_forget_7 ?_
  exact u_vret F hA hQ hr (gu_up (gu_up G 8 3 0) 8 8 0) (⟨(gu_I.up (j := 8) (k := 8) (v := 0) (gu_I.up (j := 8) (k := 3) (v := 0) hI (show (0 : Int) ≤ (0 : Int32).toInt by decide) (show (0 : Int32).toInt ≤ 5 by decide)) (show (0 : Int) ≤ (0 : Int32).toInt by decide) (show (0 : Int32).toInt ≤ 5 by decide)), (gu_un.up (j := 8) (k := 8) (v := 0) (gu_un.up (j := 8) (k := 3) (v := 0) gu_un.rf (show (804 : Nat) ∈ ([804, 809] : List Nat) by decide)) (show (809 : Nat) ∈ ([804, 809] : List Nat) by decide)), (by show (((gu_up (gu_up G 8 3 0) 8 8 0) 8 3).toInt = 0); have e9_8_3 : (gu_up (gu_up G 8 3 0) 8 8 0) 8 3 = 0 := rfl; (try simp only [e9_8_3, true_and, and_true]) <;> (first | omega | (simp only [Int32.reduceToInt, true_and, and_true, ne_eq, not_true_eq_false, false_and, or_false, false_or, true_or, or_true, false_implies] <;> omega)))⟩) rfl rfl dX4_forget_10

theorem dX4_add_0 : decode cX4_add 0 = .ok (.aload_n 0, 1) := by decide +kernel
theorem dX4_add_1 : decode cX4_add 1 = .ok (.getfield 37, 3) := by decide +kernel
theorem dX4_add_4 : decode cX4_add 4 = .ok (.iconst 5, 1) := by decide +kernel
theorem dX4_add_5 : decode cX4_add 5 = .ok (.if_icmp .lt 6, 3) := by decide +kernel
theorem dX4_add_8 : decode cX4_add 8 = .ok (.bipush (-3), 2) := by decide +kernel
theorem dX4_add_10 : decode cX4_add 10 = .ok (.ireturn, 1) := by decide +kernel
theorem dX4_add_11 : decode cX4_add 11 = .ok (.aload_n 0, 1) := by decide +kernel
theorem dX4_add_12 : decode cX4_add 12 = .ok (.getfield 13, 3) := by decide +kernel
theorem dX4_add_15 : decode cX4_add 15 = .ok (.iconst 0, 1) := by decide +kernel
theorem dX4_add_16 : decode cX4_add 16 = .ok (.aaload, 1) := by decide +kernel
theorem dX4_add_17 : decode cX4_add 17 = .ok (.aload_n 0, 1) := by decide +kernel
theorem dX4_add_18 : decode cX4_add 18 = .ok (.getfield 37, 3) := by decide +kernel
theorem dX4_add_21 : decode cX4_add 21 = .ok (.iload_n 1, 1) := by decide +kernel
theorem dX4_add_22 : decode cX4_add 22 = .ok (.iastore, 1) := by decide +kernel
theorem dX4_add_23 : decode cX4_add 23 = .ok (.aload_n 0, 1) := by decide +kernel
theorem dX4_add_24 : decode cX4_add 24 = .ok (.getfield 13, 3) := by decide +kernel
theorem dX4_add_27 : decode cX4_add 27 = .ok (.iconst 1, 1) := by decide +kernel
theorem dX4_add_28 : decode cX4_add 28 = .ok (.aaload, 1) := by decide +kernel
theorem dX4_add_29 : decode cX4_add 29 = .ok (.aload_n 0, 1) := by decide +kernel
theorem dX4_add_30 : decode cX4_add 30 = .ok (.getfield 37, 3) := by decide +kernel
theorem dX4_add_33 : decode cX4_add 33 = .ok (.iload_n 2, 1) := by decide +kernel
theorem dX4_add_34 : decode cX4_add 34 = .ok (.iastore, 1) := by decide +kernel
theorem dX4_add_35 : decode cX4_add 35 = .ok (.aload_n 0, 1) := by decide +kernel
theorem dX4_add_36 : decode cX4_add 36 = .ok (.getfield 13, 3) := by decide +kernel
theorem dX4_add_39 : decode cX4_add 39 = .ok (.iconst 2, 1) := by decide +kernel
theorem dX4_add_40 : decode cX4_add 40 = .ok (.aaload, 1) := by decide +kernel
theorem dX4_add_41 : decode cX4_add 41 = .ok (.aload_n 0, 1) := by decide +kernel
theorem dX4_add_42 : decode cX4_add 42 = .ok (.getfield 37, 3) := by decide +kernel
theorem dX4_add_45 : decode cX4_add 45 = .ok (.iload_n 3, 1) := by decide +kernel
theorem dX4_add_46 : decode cX4_add 46 = .ok (.iastore, 1) := by decide +kernel
theorem dX4_add_47 : decode cX4_add 47 = .ok (.aload_n 0, 1) := by decide +kernel
theorem dX4_add_48 : decode cX4_add 48 = .ok (.getfield 13, 3) := by decide +kernel
theorem dX4_add_51 : decode cX4_add 51 = .ok (.iconst 3, 1) := by decide +kernel
theorem dX4_add_52 : decode cX4_add 52 = .ok (.aaload, 1) := by decide +kernel
theorem dX4_add_53 : decode cX4_add 53 = .ok (.aload_n 0, 1) := by decide +kernel
theorem dX4_add_54 : decode cX4_add 54 = .ok (.getfield 37, 3) := by decide +kernel
theorem dX4_add_57 : decode cX4_add 57 = .ok (.iload 4, 2) := by decide +kernel
theorem dX4_add_59 : decode cX4_add 59 = .ok (.iastore, 1) := by decide +kernel
theorem dX4_add_60 : decode cX4_add 60 = .ok (.aload_n 0, 1) := by decide +kernel
theorem dX4_add_61 : decode cX4_add 61 = .ok (.iconst 0, 1) := by decide +kernel
theorem dX4_add_62 : decode cX4_add 62 = .ok (.putfield 41, 3) := by decide +kernel
theorem dX4_add_65 : decode cX4_add 65 = .ok (.aload_n 0, 1) := by decide +kernel
theorem dX4_add_66 : decode cX4_add 66 = .ok (.dup, 1) := by decide +kernel
theorem dX4_add_67 : decode cX4_add 67 = .ok (.getfield 37, 3) := by decide +kernel
theorem dX4_add_70 : decode cX4_add 70 = .ok (.iconst 1, 1) := by decide +kernel
theorem dX4_add_71 : decode cX4_add 71 = .ok (.iadd, 1) := by decide +kernel
theorem dX4_add_72 : decode cX4_add 72 = .ok (.putfield 37, 3) := by decide +kernel
theorem dX4_add_75 : decode cX4_add 75 = .ok (.aload_n 0, 1) := by decide +kernel
theorem dX4_add_76 : decode cX4_add 76 = .ok (.getfield 37, 3) := by decide +kernel
theorem dX4_add_79 : decode cX4_add 79 = .ok (.iconst 1, 1) := by decide +kernel
theorem dX4_add_80 : decode cX4_add 80 = .ok (.isub, 1) := by decide +kernel
theorem dX4_add_81 : decode cX4_add 81 = .ok (.ireturn, 1) := by decide +kernel
set_option maxHeartbeats 4000000 in
set_option maxRecDepth 100000 in
theorem S_X4_add (l : Launch) (D : va_G) (K : Nat → ClassId) (a : Nat → Nat) (G : gS) (p0 : Int32) (s0 : Int) (p1 : Int32) (s1 : Int) (p2 : Int32) (s2 : Int) (p3 : Int32) (s3 : Int) (e0 : p0.toInt = s0) (e1 : p1.toInt = s1) (e2 : p2.toInt = s2) (e3 : p3.toInt = s3) (hI : xI G) (sz : Nat) : Ki l yX4_add wsX4_add 1 40 0 0 D [.ref (a 8), .int p0, .int p1, .int p2, .int p3] (xW K a G) (tK K) sz (fun (r : Int32) (G' : gS) => (xI G') ∧ (gu_un xcd [804, 809, 5400, 5500, 5600, 5700] G G') ∧ ((-3) ≤ r.toInt ∧ r.toInt ≤ 4) ∧ (((5 ≤ (G 8 3).toInt ∧ r.toInt = -3 ∧ (G' 8 3).toInt = (G 8 3).toInt) ∨ ((G 8 3).toInt < 5 ∧ r.toInt = (G 8 3).toInt ∧ (G' 8 3).toInt = (G 8 3).toInt + 1)))) (fun (G' : gS) => (xW K a G')) (fun _ => (tK K)) := by
  unfold Ki
  refine g_ofW (cc := cX4_add) (lv := [(0, .ref (a 8)), (1, .int p0), (2, .int p1), (3, .int p2), (4, .int p3)]) (by decide) rfl (Nat.le_of_ble_eq_true rfl) rfl ?_
  intro p e s m args below meth c A Q hA hQ F hr hnm
  have hts := F.2.2.2.2.1
  have w_0 : (Cond.fieldLink RX4 37 "QuietCut$Jobs" "many" "I").before args s = true := hts _ (List.mem_of_getElem? (i := 1) rfl)
  have i_X4 : ∀ w ∈ u_ws RX4 TX4 12, w ∈ wsX4_add := fun _ h => List.mem_cons_of_mem _ (List.mem_append_right _ h)
  have w_1 : (Cond.fieldLink RX4 13 "QuietCut$Jobs" "jobs" "[[I").before args s = true := hts _ (List.mem_of_getElem? (i := 2) rfl)
  have w_2 : (Cond.fieldLink RX4 41 "QuietCut$Jobs" "bestMany" "I").before args s = true := hts _ (List.mem_of_getElem? (i := 3) rfl)
  have rg0 : -2147483648 ≤ s0 ∧ s0 ≤ 2147483647 := e0 ▸ ti_rng p0
  have rg1 : -2147483648 ≤ s1 ∧ s1 ≤ 2147483647 := e1 ▸ ti_rng p1
  have rg2 : -2147483648 ≤ s2 ∧ s2 ≤ 2147483647 := e2 ▸ ti_rng p2
  have rg3 : -2147483648 ≤ s3 ∧ s3 ≤ 2147483647 := e3 ▸ ti_rng p3
  have b1 : (0 : Int) ≤ (G 8 3).toInt ∧ (G 8 3).toInt ≤ 5 := hI 8 3
  refine g_aload_n F 0 dX4_add_0 rfl rfl ?_
  refine xg_8_3 F i_X4 w_0 dX4_add_1 (G 8 3) (rfl) ?_
  refine g_iconst F 5 dX4_add_4 (by decide) ?_
  refine v_icmp_lt F 11 dX4_add_5 (by decide) (G 8 3).toInt 5 rfl rfl (fun c2 => ?_) (fun c2 => ?_)
  · refine g_aload_n F 0 dX4_add_11 rfl rfl ?_
    refine xg_8_2 F i_X4 w_1 dX4_add_12 ?_
    refine g_iconst F 0 dX4_add_15 (by decide) ?_
    refine g_aald (b := a 54) F 53 1 xc_53 rfl (ti_in (show Int32.toInt 0 = 0 from rfl) (by decide) (by decide)) (by rw [show Int32.toNatClampNeg 0 = 0 from congrArg Int.toNat (show Int32.toInt 0 = 0 from rfl)]; rfl) dX4_add_16 ?_
    refine g_aload_n F 0 dX4_add_17 rfl rfl ?_
    refine xg_8_3 F i_X4 w_0 dX4_add_18 (G 8 3) (rfl) ?_
    refine g_iload_n F 1 dX4_add_21 rfl rfl ?_
    refine u_iast F 54 0 xc_54 rfl (G 8 3).toInt rfl (by omega) (by omega) (xW K a (gu_up G 54 ((G 8 3).toInt).toNat p0)) (xs_54 _) dX4_add_22 ?_
    refine g_aload_n F 0 dX4_add_23 rfl rfl ?_
    refine xg_8_2 F i_X4 w_1 dX4_add_24 ?_
    refine g_iconst F 1 dX4_add_27 (by decide) ?_
    refine g_aald (b := a 55) F 53 1 xc_53 rfl (ti_in (show Int32.toInt 1 = 1 from rfl) (by decide) (by decide)) (by rw [show Int32.toNatClampNeg 1 = 1 from congrArg Int.toNat (show Int32.toInt 1 = 1 from rfl)]; rfl) dX4_add_28 ?_
    refine g_aload_n F 0 dX4_add_29 rfl rfl ?_
    refine xg_8_3 F i_X4 w_0 dX4_add_30 (G 8 3) (rfl) ?_
    refine g_iload_n F 2 dX4_add_33 rfl rfl ?_
    refine u_iast F 55 0 xc_55 rfl (G 8 3).toInt rfl (by omega) (by omega) (xW K a (gu_up (gu_up G 54 ((G 8 3).toInt).toNat p0) 55 ((G 8 3).toInt).toNat p1)) (xs_55 _) dX4_add_34 ?_
    refine g_aload_n F 0 dX4_add_35 rfl rfl ?_
    refine xg_8_2 F i_X4 w_1 dX4_add_36 ?_
    refine g_iconst F 2 dX4_add_39 (by decide) ?_
    refine g_aald (b := a 56) F 53 1 xc_53 rfl (ti_in (show Int32.toInt 2 = 2 from rfl) (by decide) (by decide)) (by rw [show Int32.toNatClampNeg 2 = 2 from congrArg Int.toNat (show Int32.toInt 2 = 2 from rfl)]; rfl) dX4_add_40 ?_
    refine g_aload_n F 0 dX4_add_41 rfl rfl ?_
    refine xg_8_3 F i_X4 w_0 dX4_add_42 (G 8 3) (rfl) ?_
    refine g_iload_n F 3 dX4_add_45 rfl rfl ?_
    refine u_iast F 56 0 xc_56 rfl (G 8 3).toInt rfl (by omega) (by omega) (xW K a (gu_up (gu_up (gu_up G 54 ((G 8 3).toInt).toNat p0) 55 ((G 8 3).toInt).toNat p1) 56 ((G 8 3).toInt).toNat p2)) (xs_56 _) dX4_add_46 ?_
    refine g_aload_n F 0 dX4_add_47 rfl rfl ?_
    refine xg_8_2 F i_X4 w_1 dX4_add_48 ?_
    refine g_iconst F 3 dX4_add_51 (by decide) ?_
    refine g_aald (b := a 57) F 53 1 xc_53 rfl (ti_in (show Int32.toInt 3 = 3 from rfl) (by decide) (by decide)) (by rw [show Int32.toNatClampNeg 3 = 3 from congrArg Int.toNat (show Int32.toInt 3 = 3 from rfl)]; rfl) dX4_add_52 ?_
    refine g_aload_n F 0 dX4_add_53 rfl rfl ?_
    refine xg_8_3 F i_X4 w_0 dX4_add_54 (G 8 3) (rfl) ?_
    refine g_iload F 4 dX4_add_57 rfl ?_
    refine u_iast F 57 0 xc_57 rfl (G 8 3).toInt rfl (by omega) (by omega) (xW K a (gu_up (gu_up (gu_up (gu_up G 54 ((G 8 3).toInt).toNat p0) 55 ((G 8 3).toInt).toNat p1) 56 ((G 8 3).toInt).toNat p2) 57 ((G 8 3).toInt).toNat p3)) (xs_57 _) dX4_add_59 ?_
    refine g_aload_n F 0 dX4_add_60 rfl rfl ?_
    refine g_iconst F 0 dX4_add_61 (by decide) ?_
    refine xp_8_8 F i_X4 w_2 dX4_add_62 ?_
    refine g_aload_n F 0 dX4_add_65 rfl rfl ?_
    refine g_dup F dX4_add_66 rfl ?_
    refine xg_8_3 F i_X4 w_0 dX4_add_67 (G 8 3) (rfl) ?_
    refine g_iconst F 1 dX4_add_70 (by decide) ?_
    refine u_iadd F dX4_add_71 (G 8 3).toInt 1 rfl rfl (by omega) (by omega) (fun y3 ey3 => ?_)
    refine xp_8_3 F i_X4 w_0 dX4_add_72 ?_
    refine g_aload_n F 0 dX4_add_75 rfl rfl ?_
    refine xg_8_3 F i_X4 w_0 dX4_add_76 y3 (rfl) ?_
    refine g_iconst F 1 dX4_add_79 (by decide) ?_
    refine u_isub F dX4_add_80 y3.toInt 1 rfl rfl (by omega) (by omega) (fun y4 ey4 => ?_)
    exact u_iret F hA hQ hr (gu_up (gu_up (gu_up (gu_up (gu_up (gu_up G 54 ((G 8 3).toInt).toNat p0) 55 ((G 8 3).toInt).toNat p1) 56 ((G 8 3).toInt).toNat p2) 57 ((G 8 3).toInt).toNat p3) 8 8 0) 8 3 y3) (⟨(gu_I.up (j := 8) (k := 3) (v := y3) (gu_I.up (j := 8) (k := 8) (v := 0) (gu_I.up (j := 57) (k := ((G 8 3).toInt).toNat) (v := p3) (gu_I.up (j := 56) (k := ((G 8 3).toInt).toNat) (v := p2) (gu_I.up (j := 55) (k := ((G 8 3).toInt).toNat) (v := p1) (gu_I.up (j := 54) (k := ((G 8 3).toInt).toNat) (v := p0) hI (ti_rng _).1 (ti_rng _).2) (ti_rng _).1 (ti_rng _).2) (ti_rng _).1 (ti_rng _).2) (ti_rng _).1 (ti_rng _).2) (show (0 : Int) ≤ (0 : Int32).toInt by decide) (show (0 : Int32).toInt ≤ 5 by decide)) (show (0 : Int) ≤ Int32.toInt y3 by omega) (show Int32.toInt y3 ≤ 5 by omega)), (gu_un.up (j := 8) (k := 3) (v := y3) (gu_un.up (j := 8) (k := 8) (v := 0) (gu_un.up (j := 57) (k := ((G 8 3).toInt).toNat) (v := p3) (gu_un.up (j := 56) (k := ((G 8 3).toInt).toNat) (v := p2) (gu_un.up (j := 55) (k := ((G 8 3).toInt).toNat) (v := p1) (gu_un.up (j := 54) (k := ((G 8 3).toInt).toNat) (v := p0) gu_un.rf (show (5400 : Nat) ∈ ([804, 809, 5400, 5500, 5600, 5700] : List Nat) by decide)) (show (5500 : Nat) ∈ ([804, 809, 5400, 5500, 5600, 5700] : List Nat) by decide)) (show (5600 : Nat) ∈ ([804, 809, 5400, 5500, 5600, 5700] : List Nat) by decide)) (show (5700 : Nat) ∈ ([804, 809, 5400, 5500, 5600, 5700] : List Nat) by decide)) (show (809 : Nat) ∈ ([804, 809, 5400, 5500, 5600, 5700] : List Nat) by decide)) (show (804 : Nat) ∈ ([804, 809, 5400, 5500, 5600, 5700] : List Nat) by decide)), (by have h9 := ti_rng y4; omega), (by show ((5 ≤ (G 8 3).toInt ∧ y4.toInt = -3 ∧ ((gu_up (gu_up (gu_up (gu_up (gu_up (gu_up G 54 ((G 8 3).toInt).toNat p0) 55 ((G 8 3).toInt).toNat p1) 56 ((G 8 3).toInt).toNat p2) 57 ((G 8 3).toInt).toNat p3) 8 8 0) 8 3 y3) 8 3).toInt = (G 8 3).toInt) ∨ ((G 8 3).toInt < 5 ∧ y4.toInt = (G 8 3).toInt ∧ ((gu_up (gu_up (gu_up (gu_up (gu_up (gu_up G 54 ((G 8 3).toInt).toNat p0) 55 ((G 8 3).toInt).toNat p1) 56 ((G 8 3).toInt).toNat p2) 57 ((G 8 3).toInt).toNat p3) 8 8 0) 8 3 y3) 8 3).toInt = (G 8 3).toInt + 1)); have e9_8_3 : (gu_up (gu_up (gu_up (gu_up (gu_up (gu_up G 54 ((G 8 3).toInt).toNat p0) 55 ((G 8 3).toInt).toNat p1) 56 ((G 8 3).toInt).toNat p2) 57 ((G 8 3).toInt).toNat p3) 8 8 0) 8 3 y3) 8 3 = y3 := rfl; (try simp only [e9_8_3, true_and, and_true]) <;> (first | omega | (simp only [Int32.reduceToInt, true_and, and_true, ne_eq, not_true_eq_false, false_and, or_false, false_or, true_or, or_true, false_implies] <;> omega)))⟩) rfl rfl dX4_add_81
  · refine g_bipush F (-3) dX4_add_8 (by decide) ?_
    exact u_iret F hA hQ hr G (⟨hI, gu_un.rf, (by decide), (by show ((5 ≤ (G 8 3).toInt ∧ (-3) = -3 ∧ (G 8 3).toInt = (G 8 3).toInt) ∨ ((G 8 3).toInt < 5 ∧ (-3) = (G 8 3).toInt ∧ (G 8 3).toInt = (G 8 3).toInt + 1)); (first | omega | (simp only [Int32.reduceToInt, true_and, and_true, ne_eq, not_true_eq_false, false_and, or_false, false_or, true_or, or_true, false_implies] <;> omega)))⟩) rfl rfl dX4_add_10

theorem dX4_startFromPiece_0 : decode cX4_startFromPiece 0 = .ok (.aload_n 0, 1) := by decide +kernel
theorem dX4_startFromPiece_1 : decode cX4_startFromPiece 1 = .ok (.getfield 29, 3) := by decide +kernel
theorem dX4_startFromPiece_4 : decode cX4_startFromPiece 4 = .ok (.getfield 60, 3) := by decide +kernel
theorem dX4_startFromPiece_7 : decode cX4_startFromPiece 7 = .ok (.iconst 0, 1) := by decide +kernel
theorem dX4_startFromPiece_8 : decode cX4_startFromPiece 8 = .ok (.aload_n 0, 1) := by decide +kernel
theorem dX4_startFromPiece_9 : decode cX4_startFromPiece 9 = .ok (.getfield 16, 3) := by decide +kernel
theorem dX4_startFromPiece_12 : decode cX4_startFromPiece 12 = .ok (.iconst 0, 1) := by decide +kernel
theorem dX4_startFromPiece_13 : decode cX4_startFromPiece 13 = .ok (.aaload, 1) := by decide +kernel
theorem dX4_startFromPiece_14 : decode cX4_startFromPiece 14 = .ok (.iconst 0, 1) := by decide +kernel
theorem dX4_startFromPiece_15 : decode cX4_startFromPiece 15 = .ok (.bipush 96, 2) := by decide +kernel
theorem dX4_startFromPiece_17 : decode cX4_startFromPiece 17 = .ok (.invokestatic 64, 3) := by decide +kernel
theorem dX4_startFromPiece_20 : decode cX4_startFromPiece 20 = .ok (.aload_n 0, 1) := by decide +kernel
theorem dX4_startFromPiece_21 : decode cX4_startFromPiece 21 = .ok (.getfield 19, 3) := by decide +kernel
theorem dX4_startFromPiece_24 : decode cX4_startFromPiece 24 = .ok (.iconst 0, 1) := by decide +kernel
theorem dX4_startFromPiece_25 : decode cX4_startFromPiece 25 = .ok (.aload_n 0, 1) := by decide +kernel
theorem dX4_startFromPiece_26 : decode cX4_startFromPiece 26 = .ok (.getfield 29, 3) := by decide +kernel
theorem dX4_startFromPiece_29 : decode cX4_startFromPiece 29 = .ok (.getfield 70, 3) := by decide +kernel
theorem dX4_startFromPiece_32 : decode cX4_startFromPiece 32 = .ok (.iastore, 1) := by decide +kernel
theorem dX4_startFromPiece_33 : decode cX4_startFromPiece 33 = .ok (.return_, 1) := by decide +kernel
set_option maxHeartbeats 4000000 in
set_option maxRecDepth 100000 in
theorem S_X4_startFromPiece (l : Launch) (D : va_G) (K : Nat → ClassId) (a : Nat → Nat) (G : gS) (hI : xI G) (sz : Nat) : Kv l yX4_startFromPiece wsX4_startFromPiece 1 40 0 0 D [.ref (a 8)] (xW K a G) (tK K) sz (fun (G' : gS) => (xI G') ∧ (gu_un xcd [5900, 6500] G G')) (fun (G' : gS) => (xW K a G')) (fun _ => (tK K)) := by
  unfold Kv
  refine g_ofW (cc := cX4_startFromPiece) (lv := [(0, .ref (a 8))]) (by decide) rfl (Nat.le_of_ble_eq_true rfl) rfl ?_
  intro p e s m args below meth c A Q hA hQ F hr hnm
  have hts := F.2.2.2.2.1
  have w_0 : (Cond.fieldLink RX4 29 "QuietCut$Jobs" "piece" "LQuietCut$Piece;").before args s = true := hts _ (List.mem_of_getElem? (i := 1) rfl)
  have i_X4 : ∀ w ∈ u_ws RX4 TX4 12, w ∈ wsX4_startFromPiece := fun _ h => List.mem_cons_of_mem _ (List.mem_append_left _ (List.mem_append_right _ h))
  have w_1 : (Cond.fieldLink RX4 60 "QuietCut$Piece" "heights" "[I").before args s = true := hts _ (List.mem_of_getElem? (i := 2) rfl)
  have i_X6 : ∀ w ∈ u_ws RX6 TX6 5, w ∈ wsX4_startFromPiece := fun _ h => List.mem_cons_of_mem _ (List.mem_append_right _ h)
  have w_2 : (Cond.fieldLink RX4 16 "QuietCut$Jobs" "heights" "[[I").before args s = true := hts _ (List.mem_of_getElem? (i := 3) rfl)
  have w_3 : (Cond.methodLink RX4 64 arraycopyName).before args s = true := hts _ (List.mem_of_getElem? (i := 4) rfl)
  have w_4 : (Cond.native arraycopyName).before args s = true := hts _ (List.mem_of_getElem? (i := 5) rfl)
  have w_5 : (Cond.static arraycopyName).before args s = true := hts _ (List.mem_of_getElem? (i := 6) rfl)
  have w_6 : (Cond.initialized "java/lang/System").before args s = true := hts _ (List.mem_of_getElem? (i := 7) rfl)
  have w_7 : (Cond.fieldLink RX4 19 "QuietCut$Jobs" "wears" "[I").before args s = true := hts _ (List.mem_of_getElem? (i := 8) rfl)
  have w_8 : (Cond.fieldLink RX4 70 "QuietCut$Piece" "wear" "I").before args s = true := hts _ (List.mem_of_getElem? (i := 9) rfl)
  refine g_aload_n F 0 dX4_startFromPiece_0 rfl rfl ?_
  refine xg_8_0 F i_X4 w_0 dX4_startFromPiece_1 ?_
  refine xg_5_1 F i_X6 w_1 dX4_startFromPiece_4 ?_
  refine g_iconst F 0 dX4_startFromPiece_7 (by decide) ?_
  refine g_aload_n F 0 dX4_startFromPiece_8 rfl rfl ?_
  refine xg_8_4 F i_X4 w_2 dX4_startFromPiece_9 ?_
  refine g_iconst F 0 dX4_startFromPiece_12 (by decide) ?_
  refine g_aald (b := a 59) F 58 1 xc_58 rfl (ti_in (show Int32.toInt 0 = 0 from rfl) (by decide) (by decide)) (by rw [show Int32.toNatClampNeg 0 = 0 from congrArg Int.toNat (show Int32.toInt 0 = 0 from rfl)]; rfl) dX4_startFromPiece_13 ?_
  refine g_iconst F 0 dX4_startFromPiece_14 (by decide) ?_
  refine g_bipush F 96 dX4_startFromPiece_15 (by decide) ?_
  refine u_copyi F w_3 w_4 w_5 w_6 38 59 0 xc_38 xc_59 rfl 0 0 96 rfl rfl rfl (by decide) (by decide) (by decide) (by decide) (by decide) (Nat.le_of_ble_eq_true rfl) (Nat.le_of_ble_eq_true rfl) (xW K a (gu_st G 59 (va_cpy (G 38) (G 59) 0 0 96))) (xs_59 _) dX4_startFromPiece_17 ?_
  refine g_aload_n F 0 dX4_startFromPiece_20 rfl rfl ?_
  refine xg_8_5 F i_X4 w_7 dX4_startFromPiece_21 ?_
  refine g_iconst F 0 dX4_startFromPiece_24 (by decide) ?_
  refine g_aload_n F 0 dX4_startFromPiece_25 rfl rfl ?_
  refine xg_8_0 F i_X4 w_0 dX4_startFromPiece_26 ?_
  refine xg_5_2 F i_X6 w_8 dX4_startFromPiece_29 (G 5 2) (rfl) ?_
  have b1 : (0 : Int) ≤ (G 5 2).toInt ∧ (G 5 2).toInt ≤ 30000 := hI 5 2
  refine u_iast F 65 0 xc_65 rfl 0 rfl (by decide) (by decide) (xW K a (gu_up (gu_st G 59 (va_cpy (G 38) (G 59) 0 0 96)) 65 0 (G 5 2))) (xs_65 _) dX4_startFromPiece_32 ?_
  exact u_vret F hA hQ hr (gu_up (gu_st G 59 (va_cpy (G 38) (G 59) 0 0 96)) 65 0 (G 5 2)) (⟨(gu_I.up (j := 65) (k := 0) (v := (G 5 2)) (gu_I.cpy (j := 59) (f := G 38) (sp := 0) (dp := 0) hI (fun k_ => hI 38 (0 + k_))) (show (0 : Int) ≤ Int32.toInt (G 5 2) by omega) (show Int32.toInt (G 5 2) ≤ 30000 by omega)), (gu_un.up (j := 65) (k := 0) (v := (G 5 2)) (gu_un.sw (j := 59) (f := (va_cpy (G 38) (G 59) 0 0 96)) gu_un.rf (fun _ => show (5900 : Nat) ∈ ([5900, 6500] : List Nat) by decide)) (show (6500 : Nat) ∈ ([5900, 6500] : List Nat) by decide))⟩) rfl rfl dX4_startFromPiece_33


set_option maxHeartbeats 4000000 in
set_option maxRecDepth 100000 in
theorem S_X5_least_59 (l : Launch) (D : va_G) (K : Nat → ClassId) (a : Nat → Nat) (G : gS) (p1 : Int32) (s1 : Int) (p2 : Int32) (s2 : Int) (e1 : p1.toInt = s1) (h1 : 0 ≤ s1 ∧ s1 ≤ 80) (e2 : p2.toInt = s2) (h2 : 1 ≤ s2 ∧ s2 ≤ 16) (hI : xI G) (sz : Nat) : Ki l yX5_least wsX5_least 1 40 0 0 D [.ref (a 59), .int p1, .int p2] (xW K a G) (tK K) sz (fun (r : Int32) (_ : Unit) => ((-9998) ≤ r.toInt ∧ r.toInt ≤ 1000000) ∧ ((0 ≤ s1 ∧ 1 ≤ s2 ∧ s1 + s2 ≤ 96 → r.toInt = psMn (fun q => (G 59) (s1.toNat + q)) (s2 - 1).toNat))) (fun (_ : Unit) => (xW K a G)) (fun _ => (tK K)) := by
  unfold Ki
  refine g_ofW (cc := cX5_least) (lv := [(0, .ref (a 59)), (1, .int p1), (2, .int p2)]) (by decide) rfl (Nat.le_of_ble_eq_true rfl) rfl ?_
  intro p e s m args below meth c A Q hA hQ F hr hnm
  have hts := F.2.2.2.2.1
  have w_0 : (Cond.methodLink RX5 159 Lib.Math.min.name).before args s = true := hts _ (List.mem_of_getElem? (i := 2) rfl)
  have w_1 : (Cond.static Lib.Math.min.name).before args s = true := hts _ (List.mem_of_getElem? (i := 3) rfl)
  have w_2 : (Cond.initialized "java/lang/Math").before args s = true := hts _ (List.mem_of_getElem? (i := 4) rfl)
  have w_3 : (Cond.code Lib.Math.min.name Lib.Math.min.code 2 (some .int)).before args s = true := hts _ (List.mem_of_getElem? (i := 5) rfl)
  have w_4 : (Cond.constant RX5 163 (1000000)).before args s = true := hts _ (List.mem_of_getElem? (i := 1) rfl)
  have J_6 : ∀ (fuel : Nat) (x6_3 : Int32) (x6_4 : Int32), (2147483647 - x6_4.toInt).toNat < fuel → ((-9998) ≤ x6_3.toInt ∧ x6_3.toInt ≤ 1000000) → (0 ≤ x6_4.toInt ∧ x6_4.toInt ≤ 96) → ((0 ≤ s1 → s1 ≤ x6_4.toInt ∧ ((x6_4.toInt = s1 ∧ x6_3.toInt = 1000000) ∨ (s1 + 1 ≤ x6_4.toInt ∧ x6_3.toInt = psMn (fun q => ((G 59)) (s1.toNat + q)) (x6_4.toInt - 1 - s1).toNat)))) → ((s1 < 0 ∨ s2 < 1 ∨ 96 < s1 + s2 ∨ x6_4.toInt ≤ s1 + s2)) → gG p l e (gR 1 0 0 40) s m args below meth c D A 5 Q 0 0 (xW K a G) (tK K) [(0, .ref (a 59)), (1, .int p1), (2, .int p2), (3, .int x6_3), (4, .int x6_4)] 6 [] := by
    intro fuel
    induction fuel with
    | zero => intro x6_3 x6_4 hm; exact absurd hm (Nat.not_lt_zero _)
    | succ fuel_6 ih_6 =>
      intro x6_3 x6_4 hm_6 h6_3 h6_4 lm ib
      refine g_iload F 4 dX5_least_6 rfl ?_
      refine g_iload_n F 1 dX5_least_8 rfl rfl ?_
      refine g_iload_n F 2 dX5_least_9 rfl rfl ?_
      refine u_iadd F dX5_least_10 s1 s2 e1 e2 (by omega) (by omega) (fun y1 ey1 => ?_)
      refine v_icmp_ge F 41 dX5_least_11 (by decide) x6_4.toInt y1.toInt rfl rfl (fun c2 => ?_) (fun c2 => ?_)
      · refine g_iload_n F 3 dX5_least_41 rfl rfl ?_
        exact u_iret F hA hQ hr () (⟨(by have h9 := ti_rng x6_3; omega), (fun h9 => by rcases (lm h9.1).2 with ⟨g1, g2⟩ | ⟨g1, g2⟩ <;> first | (exfalso; omega) | (rw [g2, show x6_4.toInt - 1 - s1 = s2 - 1 by omega]))⟩) rfl rfl dX5_least_42
      · refine g_iload F 4 dX5_least_14 rfl ?_
        refine v_if_lt F 41 dX5_least_16 (by decide) x6_4.toInt rfl (fun c3 => absurd c3 (by omega)) (fun c3 => ?_)
        refine g_iload F 4 dX5_least_19 rfl ?_
        refine g_aload_n F 0 dX5_least_21 rfl rfl ?_
        refine g_alen F 59 0 xc_59 rfl 96 rfl dX5_least_22 ?_
        refine v_icmp_ge F 41 dX5_least_23 (by decide) x6_4.toInt 96 rfl rfl (fun c4 => absurd c4 (by omega)) (fun c4 => ?_)
        refine g_iload_n F 3 dX5_least_26 rfl rfl ?_
        refine g_aload_n F 0 dX5_least_27 rfl rfl ?_
        refine g_iload F 4 dX5_least_28 rfl ?_
        refine u1_iald F 59 0 xc_59 rfl x6_4.toInt rfl (by omega) (by omega) dX5_least_30 ((G 59) (x6_4.toInt).toNat) (rfl) ?_
        have b5 : ((-9998) : Int) ≤ ((G 59) (x6_4.toInt).toNat).toInt ∧ ((G 59) (x6_4.toInt).toNat).toInt ≤ 5000 := hI 59 _
        refine u_mmin F w_0 w_1 w_2 w_3 (Nat.le_of_ble_eq_true rfl) (Nat.le_of_ble_eq_true rfl) (Nat.le_of_ble_eq_true rfl) (Nat.le_of_ble_eq_true rfl) dX5_least_31 x6_3.toInt ((G 59) (x6_4.toInt).toNat).toInt rfl rfl (fun y6 ey6 => ?_)
        refine g_istore_n F [(3, .int y6), (0, .ref (a 59)), (1, .int p1), (2, .int p2), (4, .int x6_4)] dX5_least_34 rfl (by decide) rfl ?_
        refine u_iinc F (fun v_ => [(4, .int v_), (3, .int y6), (0, .ref (a 59)), (1, .int p1), (2, .int p2)]) dX5_least_35 (j := 4) rfl x6_4.toInt 1 rfl rfl (by omega) (by omega) (by decide) (fun _ => rfl) (fun y7 ey7 => ?_)
        refine g_goto F 6 dX5_least_38 (by decide) ?_
        refine g_locals [(0, .ref (a 59)), (1, .int p1), (2, .int p2), (3, .int y6), (4, .int y7)] [2, 3, 4, 1, 0] rfl ?_
        exact ih_6 y6 y7 (by omega) (by have h9 := ti_rng y6; omega) (by have h9 := ti_rng y7; omega) (fun h0 => ⟨by have h9 := (lm h0).1; omega, psMn_go (i := x6_4.toInt) (m := x6_3.toInt) h0 (lm h0).1 (by omega) (lm h0).2 (by omega) (by omega)⟩) (by first | omega | (simp only [Int32.reduceToInt, true_and, and_true, ne_eq, not_true_eq_false, false_and, or_false, false_or, true_or, or_true, false_implies] <;> omega))
  refine g_ldc F w_4 dX5_least_0 ?_
  refine g_istore_n F [(3, .int 1000000), (0, .ref (a 59)), (1, .int p1), (2, .int p2)] dX5_least_2 rfl (by decide) rfl ?_
  refine g_iload_n F 2 dX5_least_3 rfl rfl ?_
  refine g_istore F [(4, .int p1), (3, .int 1000000), (0, .ref (a 59)), (1, .int p1), (2, .int p2)] dX5_least_4 (by decide) rfl ?_
  refine g_locals [(0, .ref (a 59)), (1, .int p1), (2, .int p2), (3, .int 1000000), (4, .int p1)] [2, 3, 4, 1, 0] rfl ?_
  exact J_6 _ 1000000 p1 (Nat.lt_succ_self _) (by decide) (by have h9 := ti_rng p1; omega) (fun h0 => ⟨by omega, Or.inl ⟨by omega, by decide⟩⟩) (by first | omega | (simp only [Int32.reduceToInt, true_and, and_true, ne_eq, not_true_eq_false, false_and, or_false, false_or, true_or, or_true, false_implies] <;> omega))


set_option maxHeartbeats 4000000 in
set_option maxRecDepth 100000 in
theorem S_X5_gapIn_59 (l : Launch) (D : va_G) (K : Nat → ClassId) (a : Nat → Nat) (G : gS) (p1 : Int32) (s1 : Int) (e1 : p1.toInt = s1) (h1 : (-9998) ≤ s1 ∧ s1 ≤ 5000) (hrg : (0 ≤ (G 6 1).toInt ∧ (G 6 1).toInt ≤ 5)) (rgn : ((G 6 1).toInt < (G 18 1).toInt)) (hI : xI G) (sz : Nat) : Ki l yX5_gapIn wsX5_gapIn 2 64 0 0 D [.ref (a 6), .ref (a 59), .int p1] (xW K a G) (tK K) sz (fun (r : Int32) (_ : Unit) => ((-9998) ≤ r.toInt ∧ r.toInt ≤ 1000000) ∧ ((r.toInt = psGa (G 59) (G 6 1).toInt (G 18 1).toInt (G 18 0).toInt s1))) (fun (_ : Unit) => (xW K a G)) (fun _ => (tK K)) := by
  unfold Ki
  refine g_ofW (cc := cX5_gapIn) (lv := [(0, .ref (a 6)), (1, .ref (a 59)), (2, .int p1)]) (by decide) rfl (Nat.le_of_ble_eq_true rfl) rfl ?_
  intro p e s m args below meth c A Q hA hQ F hr hnm
  have hts := F.2.2.2.2.1
  have w_0 : (Cond.fieldLink RX5 29 "QuietCut$Lathe" "shop" "LQuietCut$Shop;").before args s = true := hts _ (List.mem_of_getElem? (i := 1) rfl)
  have i_X5 : ∀ w ∈ u_ws RX5 TX5 20, w ∈ wsX5_gapIn := fun _ h => List.mem_cons_of_mem _ (List.mem_append_left _ (List.mem_append_right _ h))
  have w_1 : (Cond.fieldLink RX5 56 "QuietCut$Shop" "numbers" "[I").before args s = true := hts _ (List.mem_of_getElem? (i := 2) rfl)
  have i_X7 : ∀ w ∈ u_ws RX7 TX7 4, w ∈ wsX5_gapIn := fun _ h => List.mem_cons_of_mem _ (List.mem_append_right _ h)
  have w_2 : (Cond.fieldLink RX5 33 "QuietCut$Lathe" "ring" "I").before args s = true := hts _ (List.mem_of_getElem? (i := 3) rfl)
  have w_3 : (Cond.methodLink RX5 159 Lib.Math.min.name).before args s = true := hts _ (List.mem_of_getElem? (i := 4) rfl)
  have w_4 : (Cond.static Lib.Math.min.name).before args s = true := hts _ (List.mem_of_getElem? (i := 5) rfl)
  have w_5 : (Cond.initialized "java/lang/Math").before args s = true := hts _ (List.mem_of_getElem? (i := 6) rfl)
  have w_6 : (Cond.code Lib.Math.min.name Lib.Math.min.code 2 (some .int)).before args s = true := hts _ (List.mem_of_getElem? (i := 7) rfl)
  have b1 : (4 : Int) ≤ (G 18 0).toInt ∧ (G 18 0).toInt ≤ 16 := hI 18 0
  have b2 : (1 : Int) ≤ (G 18 1).toInt ∧ (G 18 1).toInt ≤ 6 := hI 18 1
  refine g_aload_n F 0 dX5_gapIn_0 rfl rfl ?_
  refine xg_6_0 F i_X5 w_0 dX5_gapIn_1 ?_
  refine xg_2_0 F i_X7 w_1 dX5_gapIn_4 ?_
  refine g_iconst F 0 dX5_gapIn_7 (by decide) ?_
  refine u1_iald F 18 0 xc_18 rfl 0 rfl (by decide) (by decide) dX5_gapIn_8 (G 18 0) (rfl) ?_
  refine g_istore_n F [(3, .int (G 18 0)), (0, .ref (a 6)), (1, .ref (a 59)), (2, .int p1)] dX5_gapIn_9 rfl (by decide) rfl ?_
  refine g_aload_n F 1 dX5_gapIn_10 rfl rfl ?_
  refine xg_6_0 F i_X5 w_0 dX5_gapIn_11 ?_
  refine g_aload_n F 1 dX5_gapIn_14 rfl rfl ?_
  refine xg_6_1 F i_X5 w_2 dX5_gapIn_15 (G 6 1) (rfl) ?_
  refine g_iconst F 1 dX5_gapIn_18 (by decide) ?_
  refine u_isub F dX5_gapIn_19 (G 6 1).toInt 1 rfl rfl (by omega) (by omega) (fun y3 ey3 => ?_)
  refine u_callVi (k := 0) (n := 0) (b := a 2) (As := [.int y3]) (st := []) F (fun sz => S_X7_hasRing_2 l D K a G y3 y3.toInt rfl hI sz) (cwV 1 hts gX5_gapIn_X7_hasRing rfl rfl rfl (by decide +kernel) ⟨Nat.le_of_ble_eq_true rfl, Nat.le_of_ble_eq_true rfl⟩) rfl 2 xc_2 rfl (Nat.le_of_ble_eq_true rfl) ⟨Nat.zero_le _, Nat.zero_le _⟩ dX5_gapIn_20 (fun r4 _ hw5 => ?_)
  rcases hw5 with ⟨rfl, q7⟩ | ⟨rfl, q8⟩
  · have q7 : (0 ≤ y3.toInt ∧ y3.toInt < (G 18 1).toInt) := q7
    refine g_istore F [(4, .int 1), (3, .int (G 18 0)), (0, .ref (a 6)), (1, .ref (a 59)), (2, .int p1)] dX5_gapIn_23 (by decide) rfl ?_
    refine g_aload_n F 2 dX5_gapIn_25 rfl rfl ?_
    refine xg_6_0 F i_X5 w_0 dX5_gapIn_26 ?_
    refine g_aload_n F 2 dX5_gapIn_29 rfl rfl ?_
    refine xg_6_1 F i_X5 w_2 dX5_gapIn_30 (G 6 1) (rfl) ?_
    refine g_iconst F 1 dX5_gapIn_33 (by decide) ?_
    refine u_iadd F dX5_gapIn_34 (G 6 1).toInt 1 rfl rfl (by omega) (by omega) (fun y9 ey9 => ?_)
    refine u_callVi (k := 0) (n := 0) (b := a 2) (As := [.int y9]) (st := []) F (fun sz => S_X7_hasRing_2 l D K a G y9 y9.toInt rfl hI sz) (cwV 1 hts gX5_gapIn_X7_hasRing rfl rfl rfl (by decide +kernel) ⟨Nat.le_of_ble_eq_true rfl, Nat.le_of_ble_eq_true rfl⟩) rfl 2 xc_2 rfl (Nat.le_of_ble_eq_true rfl) ⟨Nat.zero_le _, Nat.zero_le _⟩ dX5_gapIn_35 (fun r10 _ hw11 => ?_)
    rcases hw11 with ⟨rfl, q13⟩ | ⟨rfl, q14⟩
    · have q13 : (0 ≤ y9.toInt ∧ y9.toInt < (G 18 1).toInt) := q13
      refine g_istore F [(5, .int 1), (4, .int 1), (3, .int (G 18 0)), (0, .ref (a 6)), (1, .ref (a 59)), (2, .int p1)] dX5_gapIn_38 (by decide) rfl ?_
      refine g_iload F 1 dX5_gapIn_40 rfl ?_
      refine v_if_eq F 63 dX5_gapIn_42 (by decide) 1 rfl (fun c15 => absurd c15 (by decide)) (fun c15 => ?_)
      refine g_aload_n F 4 dX5_gapIn_45 rfl rfl ?_
      refine g_aload_n F 3 dX5_gapIn_46 rfl rfl ?_
      refine xg_6_1 F i_X5 w_2 dX5_gapIn_47 (G 6 1) (rfl) ?_
      refine g_iconst F 1 dX5_gapIn_50 (by decide) ?_
      refine u_isub F dX5_gapIn_51 (G 6 1).toInt 1 rfl rfl (by omega) (by omega) (fun y16 ey16 => ?_)
      refine g_iconst F 0 dX5_gapIn_52 (by decide) ?_
      refine u_call0 (k := 0) (n := 0) (As := [.int y16, .int 0]) (st := [.ref (a 59)]) F (fun sz => S_X6_placeOf_b6_b15 l D y16 y16.toInt 0 0 rfl (by omega) rfl (by decide) sz) (va_cwS 2 hts gX5_gapIn_X6_placeOf rfl rfl rfl (by decide +kernel) ⟨Nat.le_of_ble_eq_true rfl, Nat.le_of_ble_eq_true rfl⟩) rfl (Nat.le_of_ble_eq_true rfl) ⟨Nat.zero_le _, Nat.zero_le _⟩ dX5_gapIn_53 (fun r17 _ hw18 => ?_)
      have rg20 := hw18.1
      have rg21 := hw18.2
      clear hw18
      refine g_iload_n F 2 dX5_gapIn_56 rfl rfl ?_
      refine u_callSi (k := 0) (n := 0) (As := [.ref (a 59), .int r17, .int (G 18 0)]) (st := []) F (fun sz => S_X5_least_59 l D K a G r17 r17.toInt (G 18 0) (G 18 0).toInt rfl (by omega) rfl (by omega) hI sz) (va_cwS 3 hts gX5_gapIn_X5_least rfl rfl rfl (by decide +kernel) ⟨Nat.le_of_ble_eq_true rfl, Nat.le_of_ble_eq_true rfl⟩) rfl (Nat.le_of_ble_eq_true rfl) ⟨Nat.zero_le _, Nat.zero_le _⟩ dX5_gapIn_57 (fun r22 _ hw23 => ?_)
      have q25 : (0 ≤ r17.toInt ∧ 1 ≤ (G 18 0).toInt ∧ r17.toInt + (G 18 0).toInt ≤ 96 → r22.toInt = psMn (fun q => (G 59) (r17.toInt.toNat + q)) ((G 18 0).toInt - 1).toNat) := hw23.2
      have rg26 := hw23.1
      clear hw23
      refine g_goto F 64 dX5_gapIn_60 (by decide) ?_
      refine g_istore F [(6, .int r22), (5, .int 1), (4, .int 1), (3, .int (G 18 0)), (0, .ref (a 6)), (1, .ref (a 59)), (2, .int p1)] dX5_gapIn_64 (by decide) rfl ?_
      refine g_iload F 1 dX5_gapIn_66 rfl ?_
      refine v_if_eq F 89 dX5_gapIn_68 (by decide) 1 rfl (fun c27 => absurd c27 (by decide)) (fun c27 => ?_)
      refine g_aload_n F 5 dX5_gapIn_71 rfl rfl ?_
      refine g_aload_n F 4 dX5_gapIn_72 rfl rfl ?_
      refine xg_6_1 F i_X5 w_2 dX5_gapIn_73 (G 6 1) (rfl) ?_
      refine g_iconst F 1 dX5_gapIn_76 (by decide) ?_
      refine u_iadd F dX5_gapIn_77 (G 6 1).toInt 1 rfl rfl (by omega) (by omega) (fun y28 ey28 => ?_)
      refine g_iconst F 0 dX5_gapIn_78 (by decide) ?_
      refine u_call0 (k := 0) (n := 0) (As := [.int y28, .int 0]) (st := [.ref (a 59)]) F (fun sz => S_X6_placeOf_b6_b15 l D y28 y28.toInt 0 0 rfl (by omega) rfl (by decide) sz) (va_cwS 2 hts gX5_gapIn_X6_placeOf rfl rfl rfl (by decide +kernel) ⟨Nat.le_of_ble_eq_true rfl, Nat.le_of_ble_eq_true rfl⟩) rfl (Nat.le_of_ble_eq_true rfl) ⟨Nat.zero_le _, Nat.zero_le _⟩ dX5_gapIn_79 (fun r29 _ hw30 => ?_)
      have rg32 := hw30.1
      have rg33 := hw30.2
      clear hw30
      refine g_iload_n F 3 dX5_gapIn_82 rfl rfl ?_
      refine u_callSi (k := 0) (n := 0) (As := [.ref (a 59), .int r29, .int (G 18 0)]) (st := []) F (fun sz => S_X5_least_59 l D K a G r29 r29.toInt (G 18 0) (G 18 0).toInt rfl (by omega) rfl (by omega) hI sz) (va_cwS 3 hts gX5_gapIn_X5_least rfl rfl rfl (by decide +kernel) ⟨Nat.le_of_ble_eq_true rfl, Nat.le_of_ble_eq_true rfl⟩) rfl (Nat.le_of_ble_eq_true rfl) ⟨Nat.zero_le _, Nat.zero_le _⟩ dX5_gapIn_83 (fun r34 _ hw35 => ?_)
      have q37 : (0 ≤ r29.toInt ∧ 1 ≤ (G 18 0).toInt ∧ r29.toInt + (G 18 0).toInt ≤ 96 → r34.toInt = psMn (fun q => (G 59) (r29.toInt.toNat + q)) ((G 18 0).toInt - 1).toNat) := hw35.2
      have rg38 := hw35.1
      clear hw35
      refine g_goto F 90 dX5_gapIn_86 (by decide) ?_
      refine g_istore F [(7, .int r34), (6, .int r22), (5, .int 1), (4, .int 1), (3, .int (G 18 0)), (0, .ref (a 6)), (1, .ref (a 59)), (2, .int p1)] dX5_gapIn_90 (by decide) rfl ?_
      refine g_iload F 3 dX5_gapIn_92 rfl ?_
      refine v_if_eq F 110 dX5_gapIn_94 (by decide) 1 rfl (fun c39 => absurd c39 (by decide)) (fun c39 => ?_)
      refine g_iload F 2 dX5_gapIn_97 rfl ?_
      refine v_if_eq F 110 dX5_gapIn_99 (by decide) 1 rfl (fun c40 => absurd c40 (by decide)) (fun c40 => ?_)
      refine g_iload F 1 dX5_gapIn_102 rfl ?_
      refine g_iload F 0 dX5_gapIn_104 rfl ?_
      refine u_mmin F w_3 w_4 w_5 w_6 (Nat.le_of_ble_eq_true rfl) (Nat.le_of_ble_eq_true rfl) (Nat.le_of_ble_eq_true rfl) (Nat.le_of_ble_eq_true rfl) dX5_gapIn_106 r22.toInt r34.toInt rfl rfl (fun y41 ey41 => ?_)
      exact u_iret F hA hQ hr () (⟨(by have h9 := ti_rng y41; omega), (by have h1 := q25 ⟨by omega, by omega, by omega⟩; rw [show r17.toInt = 16 * ((G 6 1).toInt - 1) by omega] at h1; have h2 := q37 ⟨by omega, by omega, by omega⟩; rw [show r29.toInt = 16 * ((G 6 1).toInt + 1) by omega] at h2; unfold psGa; rw [if_pos (by omega), if_pos (by omega), ← h1, ← h2]; omega)⟩) rfl rfl dX5_gapIn_109
    · have q14 : (y9.toInt < 0 ∨ (G 18 1).toInt ≤ y9.toInt) := q14
      refine g_istore F [(5, .int 0), (4, .int 1), (3, .int (G 18 0)), (0, .ref (a 6)), (1, .ref (a 59)), (2, .int p1)] dX5_gapIn_38 (by decide) rfl ?_
      refine g_iload F 1 dX5_gapIn_40 rfl ?_
      refine v_if_eq F 63 dX5_gapIn_42 (by decide) 1 rfl (fun c42 => absurd c42 (by decide)) (fun c42 => ?_)
      refine g_aload_n F 4 dX5_gapIn_45 rfl rfl ?_
      refine g_aload_n F 3 dX5_gapIn_46 rfl rfl ?_
      refine xg_6_1 F i_X5 w_2 dX5_gapIn_47 (G 6 1) (rfl) ?_
      refine g_iconst F 1 dX5_gapIn_50 (by decide) ?_
      refine u_isub F dX5_gapIn_51 (G 6 1).toInt 1 rfl rfl (by omega) (by omega) (fun y43 ey43 => ?_)
      refine g_iconst F 0 dX5_gapIn_52 (by decide) ?_
      refine u_call0 (k := 0) (n := 0) (As := [.int y43, .int 0]) (st := [.ref (a 59)]) F (fun sz => S_X6_placeOf_b6_b15 l D y43 y43.toInt 0 0 rfl (by omega) rfl (by decide) sz) (va_cwS 2 hts gX5_gapIn_X6_placeOf rfl rfl rfl (by decide +kernel) ⟨Nat.le_of_ble_eq_true rfl, Nat.le_of_ble_eq_true rfl⟩) rfl (Nat.le_of_ble_eq_true rfl) ⟨Nat.zero_le _, Nat.zero_le _⟩ dX5_gapIn_53 (fun r44 _ hw45 => ?_)
      have rg47 := hw45.1
      have rg48 := hw45.2
      clear hw45
      refine g_iload_n F 2 dX5_gapIn_56 rfl rfl ?_
      refine u_callSi (k := 0) (n := 0) (As := [.ref (a 59), .int r44, .int (G 18 0)]) (st := []) F (fun sz => S_X5_least_59 l D K a G r44 r44.toInt (G 18 0) (G 18 0).toInt rfl (by omega) rfl (by omega) hI sz) (va_cwS 3 hts gX5_gapIn_X5_least rfl rfl rfl (by decide +kernel) ⟨Nat.le_of_ble_eq_true rfl, Nat.le_of_ble_eq_true rfl⟩) rfl (Nat.le_of_ble_eq_true rfl) ⟨Nat.zero_le _, Nat.zero_le _⟩ dX5_gapIn_57 (fun r49 _ hw50 => ?_)
      have q52 : (0 ≤ r44.toInt ∧ 1 ≤ (G 18 0).toInt ∧ r44.toInt + (G 18 0).toInt ≤ 96 → r49.toInt = psMn (fun q => (G 59) (r44.toInt.toNat + q)) ((G 18 0).toInt - 1).toNat) := hw50.2
      have rg53 := hw50.1
      clear hw50
      refine g_goto F 64 dX5_gapIn_60 (by decide) ?_
      refine g_istore F [(6, .int r49), (5, .int 0), (4, .int 1), (3, .int (G 18 0)), (0, .ref (a 6)), (1, .ref (a 59)), (2, .int p1)] dX5_gapIn_64 (by decide) rfl ?_
      refine g_iload F 1 dX5_gapIn_66 rfl ?_
      refine v_if_eq F 89 dX5_gapIn_68 (by decide) 0 rfl (fun c54 => ?_) (fun c54 => absurd c54 (by decide))
      refine g_iload_n F 6 dX5_gapIn_89 rfl rfl ?_
      refine g_istore F [(7, .int p1), (6, .int r49), (5, .int 0), (4, .int 1), (3, .int (G 18 0)), (0, .ref (a 6)), (1, .ref (a 59)), (2, .int p1)] dX5_gapIn_90 (by decide) rfl ?_
      refine g_iload F 3 dX5_gapIn_92 rfl ?_
      refine v_if_eq F 110 dX5_gapIn_94 (by decide) 1 rfl (fun c55 => absurd c55 (by decide)) (fun c55 => ?_)
      refine g_iload F 2 dX5_gapIn_97 rfl ?_
      refine v_if_eq F 110 dX5_gapIn_99 (by decide) 0 rfl (fun c56 => ?_) (fun c56 => absurd c56 (by decide))
      refine g_iload F 3 dX5_gapIn_110 rfl ?_
      refine v_if_eq F 120 dX5_gapIn_112 (by decide) 1 rfl (fun c57 => absurd c57 (by decide)) (fun c57 => ?_)
      refine g_iload F 1 dX5_gapIn_115 rfl ?_
      refine g_goto F 122 dX5_gapIn_117 (by decide) ?_
      exact u_iret F hA hQ hr () (⟨(by have h9 := ti_rng r49; omega), (by first | (have h1 := q52 ⟨by omega, by omega, by omega⟩; rw [show r44.toInt = 16 * ((G 6 1).toInt - 1) by omega] at h1; unfold psGa; rw [if_pos (by omega), if_neg (by omega), ← h1]; done) | (have h1 := q52 ⟨by omega, by omega, by omega⟩; rw [show r44.toInt = 16 * ((G 6 1).toInt + 1) by omega] at h1; unfold psGa; rw [if_neg (by omega), if_pos (by omega), ← h1]; done))⟩) rfl rfl dX5_gapIn_122
  · have q8 : (y3.toInt < 0 ∨ (G 18 1).toInt ≤ y3.toInt) := q8
    refine g_istore F [(4, .int 0), (3, .int (G 18 0)), (0, .ref (a 6)), (1, .ref (a 59)), (2, .int p1)] dX5_gapIn_23 (by decide) rfl ?_
    refine g_aload_n F 2 dX5_gapIn_25 rfl rfl ?_
    refine xg_6_0 F i_X5 w_0 dX5_gapIn_26 ?_
    refine g_aload_n F 2 dX5_gapIn_29 rfl rfl ?_
    refine xg_6_1 F i_X5 w_2 dX5_gapIn_30 (G 6 1) (rfl) ?_
    refine g_iconst F 1 dX5_gapIn_33 (by decide) ?_
    refine u_iadd F dX5_gapIn_34 (G 6 1).toInt 1 rfl rfl (by omega) (by omega) (fun y58 ey58 => ?_)
    refine u_callVi (k := 0) (n := 0) (b := a 2) (As := [.int y58]) (st := []) F (fun sz => S_X7_hasRing_2 l D K a G y58 y58.toInt rfl hI sz) (cwV 1 hts gX5_gapIn_X7_hasRing rfl rfl rfl (by decide +kernel) ⟨Nat.le_of_ble_eq_true rfl, Nat.le_of_ble_eq_true rfl⟩) rfl 2 xc_2 rfl (Nat.le_of_ble_eq_true rfl) ⟨Nat.zero_le _, Nat.zero_le _⟩ dX5_gapIn_35 (fun r59 _ hw60 => ?_)
    rcases hw60 with ⟨rfl, q62⟩ | ⟨rfl, q63⟩
    · have q62 : (0 ≤ y58.toInt ∧ y58.toInt < (G 18 1).toInt) := q62
      refine g_istore F [(5, .int 1), (4, .int 0), (3, .int (G 18 0)), (0, .ref (a 6)), (1, .ref (a 59)), (2, .int p1)] dX5_gapIn_38 (by decide) rfl ?_
      refine g_iload F 1 dX5_gapIn_40 rfl ?_
      refine v_if_eq F 63 dX5_gapIn_42 (by decide) 0 rfl (fun c64 => ?_) (fun c64 => absurd c64 (by decide))
      refine g_iload_n F 5 dX5_gapIn_63 rfl rfl ?_
      refine g_istore F [(6, .int p1), (5, .int 1), (4, .int 0), (3, .int (G 18 0)), (0, .ref (a 6)), (1, .ref (a 59)), (2, .int p1)] dX5_gapIn_64 (by decide) rfl ?_
      refine g_iload F 1 dX5_gapIn_66 rfl ?_
      refine v_if_eq F 89 dX5_gapIn_68 (by decide) 1 rfl (fun c65 => absurd c65 (by decide)) (fun c65 => ?_)
      refine g_aload_n F 5 dX5_gapIn_71 rfl rfl ?_
      refine g_aload_n F 4 dX5_gapIn_72 rfl rfl ?_
      refine xg_6_1 F i_X5 w_2 dX5_gapIn_73 (G 6 1) (rfl) ?_
      refine g_iconst F 1 dX5_gapIn_76 (by decide) ?_
      refine u_iadd F dX5_gapIn_77 (G 6 1).toInt 1 rfl rfl (by omega) (by omega) (fun y66 ey66 => ?_)
      refine g_iconst F 0 dX5_gapIn_78 (by decide) ?_
      refine u_call0 (k := 0) (n := 0) (As := [.int y66, .int 0]) (st := [.ref (a 59)]) F (fun sz => S_X6_placeOf_b6_b15 l D y66 y66.toInt 0 0 rfl (by omega) rfl (by decide) sz) (va_cwS 2 hts gX5_gapIn_X6_placeOf rfl rfl rfl (by decide +kernel) ⟨Nat.le_of_ble_eq_true rfl, Nat.le_of_ble_eq_true rfl⟩) rfl (Nat.le_of_ble_eq_true rfl) ⟨Nat.zero_le _, Nat.zero_le _⟩ dX5_gapIn_79 (fun r67 _ hw68 => ?_)
      have rg70 := hw68.1
      have rg71 := hw68.2
      clear hw68
      refine g_iload_n F 3 dX5_gapIn_82 rfl rfl ?_
      refine u_callSi (k := 0) (n := 0) (As := [.ref (a 59), .int r67, .int (G 18 0)]) (st := []) F (fun sz => S_X5_least_59 l D K a G r67 r67.toInt (G 18 0) (G 18 0).toInt rfl (by omega) rfl (by omega) hI sz) (va_cwS 3 hts gX5_gapIn_X5_least rfl rfl rfl (by decide +kernel) ⟨Nat.le_of_ble_eq_true rfl, Nat.le_of_ble_eq_true rfl⟩) rfl (Nat.le_of_ble_eq_true rfl) ⟨Nat.zero_le _, Nat.zero_le _⟩ dX5_gapIn_83 (fun r72 _ hw73 => ?_)
      have q75 : (0 ≤ r67.toInt ∧ 1 ≤ (G 18 0).toInt ∧ r67.toInt + (G 18 0).toInt ≤ 96 → r72.toInt = psMn (fun q => (G 59) (r67.toInt.toNat + q)) ((G 18 0).toInt - 1).toNat) := hw73.2
      have rg76 := hw73.1
      clear hw73
      refine g_goto F 90 dX5_gapIn_86 (by decide) ?_
      refine g_istore F [(7, .int r72), (6, .int p1), (5, .int 1), (4, .int 0), (3, .int (G 18 0)), (0, .ref (a 6)), (1, .ref (a 59)), (2, .int p1)] dX5_gapIn_90 (by decide) rfl ?_
      refine g_iload F 3 dX5_gapIn_92 rfl ?_
      refine v_if_eq F 110 dX5_gapIn_94 (by decide) 0 rfl (fun c77 => ?_) (fun c77 => absurd c77 (by decide))
      refine g_iload F 3 dX5_gapIn_110 rfl ?_
      refine v_if_eq F 120 dX5_gapIn_112 (by decide) 0 rfl (fun c78 => ?_) (fun c78 => absurd c78 (by decide))
      refine g_iload F 0 dX5_gapIn_120 rfl ?_
      exact u_iret F hA hQ hr () (⟨(by have h9 := ti_rng r72; omega), (by first | (have h1 := q75 ⟨by omega, by omega, by omega⟩; rw [show r67.toInt = 16 * ((G 6 1).toInt - 1) by omega] at h1; unfold psGa; rw [if_pos (by omega), if_neg (by omega), ← h1]; done) | (have h1 := q75 ⟨by omega, by omega, by omega⟩; rw [show r67.toInt = 16 * ((G 6 1).toInt + 1) by omega] at h1; unfold psGa; rw [if_neg (by omega), if_pos (by omega), ← h1]; done))⟩) rfl rfl dX5_gapIn_122
    · have q63 : (y58.toInt < 0 ∨ (G 18 1).toInt ≤ y58.toInt) := q63
      refine g_istore F [(5, .int 0), (4, .int 0), (3, .int (G 18 0)), (0, .ref (a 6)), (1, .ref (a 59)), (2, .int p1)] dX5_gapIn_38 (by decide) rfl ?_
      refine g_iload F 1 dX5_gapIn_40 rfl ?_
      refine v_if_eq F 63 dX5_gapIn_42 (by decide) 0 rfl (fun c79 => ?_) (fun c79 => absurd c79 (by decide))
      refine g_iload_n F 5 dX5_gapIn_63 rfl rfl ?_
      refine g_istore F [(6, .int p1), (5, .int 0), (4, .int 0), (3, .int (G 18 0)), (0, .ref (a 6)), (1, .ref (a 59)), (2, .int p1)] dX5_gapIn_64 (by decide) rfl ?_
      refine g_iload F 1 dX5_gapIn_66 rfl ?_
      refine v_if_eq F 89 dX5_gapIn_68 (by decide) 0 rfl (fun c80 => ?_) (fun c80 => absurd c80 (by decide))
      refine g_iload_n F 6 dX5_gapIn_89 rfl rfl ?_
      refine g_istore F [(7, .int p1), (6, .int p1), (5, .int 0), (4, .int 0), (3, .int (G 18 0)), (0, .ref (a 6)), (1, .ref (a 59)), (2, .int p1)] dX5_gapIn_90 (by decide) rfl ?_
      refine g_iload F 3 dX5_gapIn_92 rfl ?_
      refine v_if_eq F 110 dX5_gapIn_94 (by decide) 0 rfl (fun c81 => ?_) (fun c81 => absurd c81 (by decide))
      refine g_iload F 3 dX5_gapIn_110 rfl ?_
      refine v_if_eq F 120 dX5_gapIn_112 (by decide) 0 rfl (fun c82 => ?_) (fun c82 => absurd c82 (by decide))
      refine g_iload F 0 dX5_gapIn_120 rfl ?_
      exact u_iret F hA hQ hr () (⟨(by have h9 := ti_rng p1; omega), (by unfold psGa; rw [if_neg (by omega), if_neg (by omega)]; exact e1)⟩) rfl rfl dX5_gapIn_122


set_option maxHeartbeats 4000000 in
set_option maxRecDepth 100000 in
theorem S_X5_run_59 (l : Launch) (D : va_G) (K : Nat → ClassId) (a : Nat → Nat) (G : gS) (p1 : Int32) (s1 : Int) (p2 : Int32) (s2 : Int) (p3 : Int32) (s3 : Int) (e1 : p1.toInt = s1) (h1 : 0 ≤ s1 ∧ s1 ≤ 30000) (e2 : p2.toInt = s2) (h2 : 0 ≤ s2 ∧ s2 ≤ 300) (e3 : p3.toInt = s3) (h3 : 0 ≤ s3 ∧ s3 ≤ 300) (fr : (0 ≤ (G 6 1).toInt ∧ (G 6 1).toInt < (G 18 1).toInt ∧ 1 ≤ (G 6 2).toInt ∧ (G 6 2).toInt ≤ 9 ∧ 1 ≤ (G 6 3).toInt ∧ (G 6 3).toInt ≤ 20 ∧ 1 ≤ (G 6 4).toInt ∧ (G 6 4).toInt ≤ 12)) (hI : xI G) (sz : Nat) : Ki l yX5_run wsX5_run 4 115 0 0 D [.ref (a 6), .ref (a 59), .int p1, .int p2, .int p3] (xW K a G) (tK K) sz (fun (r : Int32) (G' : gS) => (xI G') ∧ (gu_un xcd [608, 613, 614, 615, 616, 617, 618, 619, 620, 2100, 2400, 2700, 4400, 4500, 4600, 4700, 4800] G G') ∧ ((-4) ≤ r.toInt ∧ r.toInt ≤ 2) ∧ ((r.toInt = -4 ∨ (0 ≤ r.toInt ∧ r.toInt ≤ 2))) ∧ (((xTok G ∧ r.toInt ≠ -4) → xOut G (G 59) p1 p2 p3 G' r.toInt)) ∧ (((r.toInt = -4 ∧ psMx (psHr (G 59) (G 6 1).toInt (G 18 0).toInt) ((G 18 0).toInt - 1).toNat - (G 6 3).toInt * (G 6 4).toInt < 1) ∨ (r.toInt ≠ -4 ∧ 1 ≤ psMx (psHr (G 59) (G 6 1).toInt (G 18 0).toInt) ((G 18 0).toInt - 1).toNat - (G 6 3).toInt * (G 6 4).toInt)))) (fun (G' : gS) => (xW K a G')) (fun _ => (tK K)) := by
  unfold Ki
  refine g_ofW (cc := cX5_run) (lv := [(0, .ref (a 6)), (1, .ref (a 59)), (2, .int p1), (3, .int p2), (4, .int p3)]) (by decide) rfl (Nat.le_of_ble_eq_true rfl) rfl ?_
  intro p e s m args below meth c A Q hA hQ F hr hnm
  have hts := F.2.2.2.2.1
  have w_0 : (Cond.fieldLink RX5 40 "QuietCut$Lathe" "feed" "I").before args s = true := hts _ (List.mem_of_getElem? (i := 9) rfl)
  have i_X5 : ∀ w ∈ u_ws RX5 TX5 20, w ∈ wsX5_run := fun _ h => List.mem_cons_of_mem _ (List.mem_append_left _ (List.mem_append_left _ (List.mem_append_right _ h)))
  have w_1 : (Cond.fieldLink RX5 29 "QuietCut$Lathe" "shop" "LQuietCut$Shop;").before args s = true := hts _ (List.mem_of_getElem? (i := 1) rfl)
  have w_2 : (Cond.fieldLink RX5 90 "QuietCut$Shop" "wall" "LQuietCut$Formula;").before args s = true := hts _ (List.mem_of_getElem? (i := 12) rfl)
  have i_X7 : ∀ w ∈ u_ws RX7 TX7 4, w ∈ wsX5_run := fun _ h => List.mem_cons_of_mem _ (List.mem_append_left _ (List.mem_append_right _ h))
  have w_3 : (Cond.fieldLink RX5 17 "QuietCut$Lathe" "heights" "[I").before args s = true := hts _ (List.mem_of_getElem? (i := 4) rfl)
  have w_4 : (Cond.fieldLink RX5 37 "QuietCut$Lathe" "speed" "I").before args s = true := hts _ (List.mem_of_getElem? (i := 13) rfl)
  have w_5 : (Cond.fieldLink RX5 43 "QuietCut$Lathe" "turns" "I").before args s = true := hts _ (List.mem_of_getElem? (i := 10) rfl)
  have w_6 : (Cond.fieldLink RX5 116 "QuietCut$Lathe" "wave" "I").before args s = true := hts _ (List.mem_of_getElem? (i := 14) rfl)
  have w_7 : (Cond.fieldLink RX5 56 "QuietCut$Shop" "numbers" "[I").before args s = true := hts _ (List.mem_of_getElem? (i := 2) rfl)
  have w_8 : (Cond.fieldLink RX5 83 "QuietCut$Lathe" "begun" "I").before args s = true := hts _ (List.mem_of_getElem? (i := 11) rfl)
  have w_9 : (Cond.fieldLink RX5 33 "QuietCut$Lathe" "ring" "I").before args s = true := hts _ (List.mem_of_getElem? (i := 3) rfl)
  have w_10 : (Cond.methodLink RX5 65 arraycopyName).before args s = true := hts _ (List.mem_of_getElem? (i := 5) rfl)
  have w_11 : (Cond.native arraycopyName).before args s = true := hts _ (List.mem_of_getElem? (i := 6) rfl)
  have w_12 : (Cond.static arraycopyName).before args s = true := hts _ (List.mem_of_getElem? (i := 7) rfl)
  have w_13 : (Cond.initialized "java/lang/System").before args s = true := hts _ (List.mem_of_getElem? (i := 8) rfl)
  have b1 : (4 : Int) ≤ (G 18 0).toInt ∧ (G 18 0).toInt ≤ 16 := hI 18 0
  have b2 : (1 : Int) ≤ (G 18 1).toInt ∧ (G 18 1).toInt ≤ 6 := hI 18 1
  have b3 : (0 : Int) ≤ (G 18 8).toInt ∧ (G 18 8).toInt ≤ 9999 := hI 18 8
  have b4 : (1 : Int) ≤ (G 18 10).toInt ∧ (G 18 10).toInt ≤ 4 := hI 18 10
  have b5 : (1 : Int) ≤ (G 18 11).toInt ∧ (G 18 11).toInt ≤ 6 := hI 18 11
  have J_121 : ∀ (fuel : Nat) (x121_6 : Int32) (x121_7 : Int32) (x121_8 : Int32) (x121_9 : Int32) (x121_10 : Int32) (Gj121 : gS), (2147483647 - x121_10.toInt).toNat < fuel → ((-1000000) ≤ x121_6.toInt ∧ x121_6.toInt ≤ 5000) → ((-9998) ≤ x121_7.toInt ∧ x121_7.toInt ≤ 1000000) → (0 ≤ x121_8.toInt ∧ x121_8.toInt ≤ 1) → (0 ≤ x121_9.toInt ∧ x121_9.toInt ≤ 5) → (0 ≤ x121_10.toInt ∧ x121_10.toInt ≤ 12) → (xI Gj121) → (gu_un xcd [608, 613, 614, 615, 617, 618, 619, 620, 2100, 2400, 2700, 4400, 4500, 4600, 4700, 4800] G Gj121) → (∃ n9 : Nat, (n9 : Int) ≤ x121_10.toInt * (G 18 0).toInt ∧ (x121_8.toInt = 0 → (n9 : Int) = x121_10.toInt * (G 18 0).toInt ∧ x121_9.toInt = (n9 : Int) % (G 18 11).toInt) ∧ (xTok G → xRl G (G 59) p1 x121_6 x121_7 p2 p3 Gj121 n9 x121_8.toInt ∧ xBg G (G 59) p1 x121_6 x121_7 p2 p3 Gj121 n9)) → (x121_6.toInt = psMx (psHr (G 59) (G 6 1).toInt (G 18 0).toInt) ((G 18 0).toInt - 1).toNat ∧ x121_7.toInt = psGa (G 59) (G 6 1).toInt (G 18 1).toInt (G 18 0).toInt x121_6.toInt) → (xMt G Gj121) → ((x121_8.toInt ≠ 0 ∨ (-9999 ≤ (Gj121 6 13).toInt ∧ (Gj121 6 13).toInt ≤ 9999 ∧ -19998 ≤ (Gj121 6 14).toInt ∧ (Gj121 6 14).toInt ≤ 19998))) → (((Gj121 6 19).toInt = x121_10.toInt)) → ((x121_10.toInt ≤ (G 6 4).toInt)) → ((x121_6.toInt - (G 6 3).toInt * (G 6 4).toInt ≥ 1)) → gG p l e (gR 4 0 0 115) s m args below meth c D A 14 Q 0 0 (xW K a Gj121) (tK K) [(0, .ref (a 6)), (3, .int p2), (4, .int p3), (5, .int (G 18 0)), (6, .int x121_6), (7, .int x121_7), (8, .int x121_8), (9, .int x121_9), (10, .int x121_10)] 121 [] := by
    intro fuel
    induction fuel with
    | zero => intro x121_6 x121_7 x121_8 x121_9 x121_10 Gj121 hm; exact absurd hm (Nat.not_lt_zero _)
    | succ fuel_121 ih_121 =>
      intro x121_6 x121_7 x121_8 x121_9 x121_10 Gj121 hm_121 h121_6 h121_7 h121_8 h121_9 h121_10 jI121 jU121 r1 lv mt_121 xb1 bg1 tl1 lc1
      have J_148 : ∀ (fuel : Nat) (x148_8 : Int32) (x148_9 : Int32) (x148_11 : Int32) (Gj148 : gS), (2147483647 - x148_11.toInt).toNat < fuel → (0 ≤ x148_8.toInt ∧ x148_8.toInt ≤ 1) → (0 ≤ x148_9.toInt ∧ x148_9.toInt ≤ 5) → (0 ≤ x121_10.toInt ∧ x121_10.toInt ≤ 11) → (0 ≤ x148_11.toInt ∧ x148_11.toInt ≤ 16) → (xI Gj148) → (gu_un xcd [613, 614, 615, 617, 618, 619, 620, 2100, 2400, 2700, 4500, 4600, 4700, 4800] Gj121 Gj148) → ((xTok G → xRl G (G 59) p1 x121_6 x121_7 p2 p3 Gj148 (x121_10.toInt * (G 18 0).toInt + x148_11.toInt).toNat x148_8.toInt ∧ (0 < x148_11.toInt → xBg G (G 59) p1 x121_6 x121_7 p2 p3 Gj148 (x121_10.toInt * (G 18 0).toInt + x148_11.toInt).toNat))) → (x148_9.toInt = (x121_10.toInt * (G 18 0).toInt + x148_11.toInt) % (G 18 11).toInt) → (xMt G Gj148) → ((x148_8.toInt ≠ 0 ∨ (-9999 ≤ (Gj148 6 13).toInt ∧ (Gj148 6 13).toInt ≤ 9999 ∧ -19998 ≤ (Gj148 6 14).toInt ∧ (Gj148 6 14).toInt ≤ 19998))) → (((Gj148 6 19).toInt = x121_10.toInt + 1)) → ((x121_10.toInt + 1 ≤ (G 6 4).toInt)) → ((x148_8.toInt = 0 ∨ 0 < x148_11.toInt)) → ((x148_11.toInt ≤ (G 18 0).toInt)) → gG p l e (gR 4 0 0 115) s m args below meth c D A 14 Q 0 0 (xW K a Gj148) (tK K) [(0, .ref (a 6)), (3, .int p2), (4, .int p3), (5, .int (G 18 0)), (6, .int x121_6), (7, .int x121_7), (8, .int x148_8), (9, .int x148_9), (10, .int x121_10), (11, .int x148_11)] 148 [] := by
        intro fuel
        induction fuel with
        | zero => intro x148_8 x148_9 x148_11 Gj148 hm; exact absurd hm (Nat.not_lt_zero _)
        | succ fuel_148 ih_148 =>
          intro x148_8 x148_9 x148_11 Gj148 hm_148 h148_8 h148_9 k148_10 h148_11 jI148 jU148 r2 r3 mt xb2 bg2 tl2 sh2 il2
          refine g_iload F 9 dX5_run_148 rfl ?_
          refine g_iload F 3 dX5_run_150 rfl ?_
          refine v_icmp_ge F 255 dX5_run_152 (by decide) x148_11.toInt (G 18 0).toInt rfl rfl (fun c6 => ?_) (fun c6 => ?_)
          · refine u_iinc F (fun v_ => [(10, .int v_), (0, .ref (a 6)), (3, .int p2), (4, .int p3), (5, .int (G 18 0)), (6, .int x121_6), (7, .int x121_7), (8, .int x148_8), (9, .int x148_9), (11, .int x148_11)]) dX5_run_255 (j := 8) rfl x121_10.toInt 1 rfl rfl (by omega) (by omega) (by decide) (fun _ => rfl) (fun y7 ey7 => ?_)
            refine g_goto F 121 dX5_run_258 (by decide) ?_
            refine g_locals [(0, .ref (a 6)), (3, .int p2), (4, .int p3), (5, .int (G 18 0)), (6, .int x121_6), (7, .int x121_7), (8, .int x148_8), (9, .int x148_9), (10, .int y7)] [1, 2, 3, 4, 5, 6, 7, 8, 0] rfl ?_
            exact ih_121 x121_6 x121_7 x148_8 x148_9 y7 Gj148 (by omega) (by have h9 := ti_rng x121_6; omega) (by have h9 := ti_rng x121_7; omega) (by have h9 := ti_rng x148_8; omega) (by have h9 := ti_rng x148_9; omega) (by have h9 := ti_rng y7; omega) jI148 (gu_un.tr (gu_un.tr gu_un.rf (gu_un.su jU121 rfl)) (gu_un.su jU148 rfl)) (⟨(x121_10.toInt * (G 18 0).toInt + x148_11.toInt).toNat, by rw [show y7.toInt = x121_10.toInt + 1 by omega, Int.add_mul, Int.one_mul]; omega, fun h0 => ⟨by rw [show y7.toInt = x121_10.toInt + 1 by omega, Int.add_mul, Int.one_mul]; omega, by rw [Int.toNat_of_nonneg (by omega)]; exact r3⟩, fun hz => ⟨(r2 hz).1, (r2 hz).2 (by omega)⟩⟩) (lv) (mt) (by (first | omega | (simp only [Int32.reduceToInt, true_and, and_true, ne_eq, not_true_eq_false, false_and, or_false, false_or, true_or, or_true, false_implies] <;> omega))) (by (first | omega | (simp only [Int32.reduceToInt, true_and, and_true, ne_eq, not_true_eq_false, false_and, or_false, false_or, true_or, or_true, false_implies] <;> omega))) (by have e9_6_4 : Gj148 6 4 = (G 6 4) := (jU148 6 4 (by decide)).trans (jU121 6 4 (by decide)); (try simp only [e9_6_4, true_and, and_true]) <;> (first | omega | (simp only [Int32.reduceToInt, true_and, and_true, ne_eq, not_true_eq_false, false_and, or_false, false_or, true_or, or_true, false_implies] <;> omega))) (by omega)
          · refine g_iload F 6 dX5_run_155 rfl ?_
            refine v_if_ne F 255 dX5_run_157 (by decide) x148_8.toInt rfl (fun c8 => ?_) (fun c8 => ?_)
            · refine u_iinc F (fun v_ => [(10, .int v_), (0, .ref (a 6)), (3, .int p2), (4, .int p3), (5, .int (G 18 0)), (6, .int x121_6), (7, .int x121_7), (8, .int x148_8), (9, .int x148_9), (11, .int x148_11)]) dX5_run_255 (j := 8) rfl x121_10.toInt 1 rfl rfl (by omega) (by omega) (by decide) (fun _ => rfl) (fun y9 ey9 => ?_)
              refine g_goto F 121 dX5_run_258 (by decide) ?_
              refine g_locals [(0, .ref (a 6)), (3, .int p2), (4, .int p3), (5, .int (G 18 0)), (6, .int x121_6), (7, .int x121_7), (8, .int x148_8), (9, .int x148_9), (10, .int y9)] [1, 2, 3, 4, 5, 6, 7, 8, 0] rfl ?_
              exact ih_121 x121_6 x121_7 x148_8 x148_9 y9 Gj148 (by omega) (by have h9 := ti_rng x121_6; omega) (by have h9 := ti_rng x121_7; omega) (by have h9 := ti_rng x148_8; omega) (by have h9 := ti_rng x148_9; omega) (by have h9 := ti_rng y9; omega) jI148 (gu_un.tr (gu_un.tr gu_un.rf (gu_un.su jU121 rfl)) (gu_un.su jU148 rfl)) (⟨(x121_10.toInt * (G 18 0).toInt + x148_11.toInt).toNat, by rw [show y9.toInt = x121_10.toInt + 1 by omega, Int.add_mul, Int.one_mul]; omega, fun h0 => ⟨by rw [show y9.toInt = x121_10.toInt + 1 by omega, Int.add_mul, Int.one_mul]; omega, by rw [Int.toNat_of_nonneg (by omega)]; exact r3⟩, fun hz => ⟨(r2 hz).1, (r2 hz).2 (by omega)⟩⟩) (lv) (mt) (by (first | omega | (simp only [Int32.reduceToInt, true_and, and_true, ne_eq, not_true_eq_false, false_and, or_false, false_or, true_or, or_true, false_implies] <;> omega))) (by (first | omega | (simp only [Int32.reduceToInt, true_and, and_true, ne_eq, not_true_eq_false, false_and, or_false, false_or, true_or, or_true, false_implies] <;> omega))) (by have e9_6_4 : Gj148 6 4 = (G 6 4) := (jU148 6 4 (by decide)).trans (jU121 6 4 (by decide)); (try simp only [e9_6_4, true_and, and_true]) <;> (first | omega | (simp only [Int32.reduceToInt, true_and, and_true, ne_eq, not_true_eq_false, false_and, or_false, false_or, true_or, or_true, false_implies] <;> omega))) (by omega)
            · have ts0 : 0 ≤ x121_10.toInt * (G 18 0).toInt := Int.mul_nonneg (by omega) (by omega)
              have m1 : (x121_10 + 1).toInt = x121_10.toInt + 1 := ti_add rfl rfl (by omega) (by omega)
              refine g_aload_n F 0 dX5_run_160 rfl rfl ?_
              refine g_iload F 9 dX5_run_161 rfl ?_
              refine g_iload F 8 dX5_run_163 rfl ?_
              refine g_iload F 4 dX5_run_165 rfl ?_
              refine g_aload_n F 0 dX5_run_167 rfl rfl ?_
              refine xg_6_3 F i_X5 w_0 dX5_run_168 (G 6 3) ((jU148 6 3 (by decide)).trans (jU121 6 3 (by decide))) ?_
              refine g_iload F 8 dX5_run_171 rfl ?_
              refine g_iconst F 1 dX5_run_173 (by decide) ?_
              refine g_iadd F dX5_run_174 ?_
              refine g_imul F dX5_run_175 ?_
              refine g_isub F dX5_run_176 ?_
              have m2 : (G 6 3).toInt * (x121_10.toInt + 1) ≤ (G 6 3).toInt * (G 6 4).toInt := Int.mul_le_mul_of_nonneg_left (by omega) (by omega)
              have m3 := Int.mul_nonneg (show (0 : Int) ≤ (G 6 3).toInt by omega) (show (0 : Int) ≤ x121_10.toInt + 1 by omega)
              have m4 : ((G 6 3) * (x121_10 + 1)).toInt = (G 6 3).toInt * (x121_10.toInt + 1) := ti_mul rfl m1 (by omega) (by omega)
              have m5 : ((x121_6 - ((G 6 3) * (x121_10 + 1))) : Int32).toInt = x121_6.toInt - (G 6 3).toInt * (x121_10.toInt + 1) := ti_sub rfl m4 (by omega) (by omega)
              refine u_callVi (k := 0) (n := 0) (b := a 6) (As := [.int x148_11, .int x121_10, .int (x121_6 - ((G 6 3) * (x121_10 + 1)))]) (st := []) F (fun sz => S_X5_bite l D K a Gj148 x148_11 x148_11.toInt x121_10 x121_10.toInt (x121_6 - ((G 6 3) * (x121_10 + 1))) ((x121_6 - ((G 6 3) * (x121_10 + 1))) : Int32).toInt rfl (by omega) rfl rfl (by omega) (by (first | omega | (simp only [Int32.reduceToInt, true_and, and_true, ne_eq, not_true_eq_false, false_and, or_false, false_or, true_or, or_true, false_implies] <;> omega))) jI148 sz) (cwV 3 hts gX5_run_X5_bite rfl rfl rfl (by decide +kernel) ⟨Nat.le_of_ble_eq_true rfl, Nat.le_of_ble_eq_true rfl⟩) rfl 6 xc_6 rfl (Nat.le_of_ble_eq_true rfl) ⟨Nat.zero_le _, Nat.zero_le _⟩ dX5_run_177 (fun r10 G12 hw11 => ?_)
              have hI13 : xI G12 := hw11.1
              have hU14 : gu_un xcd [613, 618, 2100, 2700, 4500, 4600, 4700, 4800] Gj148 G12 := hw11.2.1
              have hp15 := hw11.2.2
              have b16 : (0 : Int) ≤ (Gj121 6 7).toInt ∧ (Gj121 6 7).toInt ≤ 4 := jI121 6 7
              have q17 : (∀ (Q S : gS) (C : Nat → List Int), xBq Gj148 Q C x121_10 (x121_6 - ((G 6 3) * (x121_10 + 1))) → (pR (G 18 0).toInt S (Gj148 45) (Gj148 6 12) (Gj148 6 13) (Gj148 6 14) (Gj148 6 17) (Gj148 6 18) (Gj148 6 16) 0 ∧ pL (G 18 0).toInt S (Gj148 46) (Gj148 47) (Gj148 48)) → (pR (G 18 0).toInt (psT Q C x148_11.toInt x121_10 ((Gj121 6 7).toInt).toNat S) (G12 45) (G12 6 12) (Gj148 6 13) (Gj148 6 14) (G12 6 17) (Gj148 6 18) (Gj148 6 16) (Int32.ofInt r10.toInt) ∧ pL (G 18 0).toInt (psT Q C x148_11.toInt x121_10 ((Gj121 6 7).toInt).toNat S) (G12 46) (G12 47) (G12 48))) := by have h9 := hp15.2.1; (try simp only [(show Gj148 18 0 = (G 18 0) from (jU148 18 0 (by decide)).trans (jU121 18 0 (by decide))), (show Gj148 18 0 = (G 18 0) from (jU148 18 0 (by decide)).trans (jU121 18 0 (by decide))), (show Gj148 18 0 = (G 18 0) from (jU148 18 0 (by decide)).trans (jU121 18 0 (by decide))), (show Gj148 6 7 = (Gj121 6 7) from jU148 6 7 (by decide)), (show Gj148 18 0 = (G 18 0) from (jU148 18 0 (by decide)).trans (jU121 18 0 (by decide))), (show Gj148 6 7 = (Gj121 6 7) from jU148 6 7 (by decide))] at h9); first | exact h9 | omega
              have q18 : (-39996 ≤ r10.toInt ∧ r10.toInt ≤ 39996) := hp15.2.2
              have rg19 := hp15.1
              clear hp15 hw11
              refine g_istore F [(12, .int r10), (0, .ref (a 6)), (3, .int p2), (4, .int p3), (5, .int (G 18 0)), (6, .int x121_6), (7, .int x121_7), (8, .int x148_8), (9, .int x148_9), (10, .int x121_10), (11, .int x148_11)] dX5_run_180 (by decide) rfl ?_
              refine g_iload_n F 2 dX5_run_182 rfl rfl ?_
              refine g_aload_n F 1 dX5_run_183 rfl rfl ?_
              refine xg_6_0 F i_X5 w_1 dX5_run_184 ?_
              refine xg_2_2 F i_X7 w_2 dX5_run_187 ?_
              refine g_aload_n F 1 dX5_run_190 rfl rfl ?_
              refine xg_6_8 F i_X5 w_3 dX5_run_191 ?_
              refine g_iload F 10 dX5_run_194 rfl ?_
              refine u1_iald F 45 0 xc_45 rfl x148_11.toInt rfl (by omega) (by omega) dX5_run_196 ((G12 45) (x148_11.toInt).toNat) (rfl) ?_
              have b20 : ((-9998) : Int) ≤ ((G12 45) (x148_11.toInt).toNat).toInt ∧ ((G12 45) (x148_11.toInt).toNat).toInt ≤ 5000 := hI13 45 _
              refine g_iload F 6 dX5_run_197 rfl ?_
              refine u_callVi (k := 0) (n := 0) (b := a 12) (As := [.int ((G12 45) (x148_11.toInt).toNat), .int x121_7]) (st := [.int p2]) F (fun sz => S_X3_value_12 l D K a G12 ((G12 45) (x148_11.toInt).toNat) ((G12 45) (x148_11.toInt).toNat).toInt x121_7 x121_7.toInt rfl rfl hI13 sz) (cwV 2 hts gX5_run_X3_value rfl rfl rfl (by decide +kernel) ⟨Nat.le_of_ble_eq_true rfl, Nat.le_of_ble_eq_true rfl⟩) rfl 12 xc_12 rfl (Nat.le_of_ble_eq_true rfl) ⟨Nat.zero_le _, Nat.zero_le _⟩ dX5_run_199 (fun r21 G23 hw22 => ?_)
              have hI24 : xI G23 := hw22.1
              have hU25 : gu_un xcd [2400] G12 G23 := hw22.2.1
              have hp26 := hw22.2.2
              have b27 : (0 : Int) ≤ (G 12 1).toInt ∧ (G 12 1).toInt ≤ 80 := hI 12 1
              have q28 : (gcOK (tkr (G 23) ((G 12 1).toInt).toNat) → r21.toInt = (eV ((G12 45) (x148_11.toInt).toNat) x121_7 (tkr (G 23) ((G 12 1).toInt).toNat)).toInt) := by have h9 := hp26; (try simp only [(show G12 12 1 = (G 12 1) from (hU14 12 1 (by decide)).trans ((jU148 12 1 (by decide)).trans (jU121 12 1 (by decide)))), (show G12 12 1 = (G 12 1) from (hU14 12 1 (by decide)).trans ((jU148 12 1 (by decide)).trans (jU121 12 1 (by decide)))), (show G12 23 = (G 23) from (show G12 23 = Gj148 23 from funext fun k_ => hU14 23 k_ (show (2300 : Nat) ∉ ([613, 618, 2100, 2700, 4500, 4600, 4700, 4800] : List Nat) by decide)).trans ((show Gj148 23 = Gj121 23 from funext fun k_ => jU148 23 k_ (show (2300 : Nat) ∉ ([613, 614, 615, 617, 618, 619, 620, 2100, 2400, 2700, 4500, 4600, 4700, 4800] : List Nat) by decide)).trans ((show Gj121 23 = G 23 from funext fun k_ => jU121 23 k_ (show (2300 : Nat) ∉ ([608, 613, 614, 615, 617, 618, 619, 620, 2100, 2400, 2700, 4400, 4500, 4600, 4700, 4800] : List Nat) by decide))))), (show G12 23 = (G 23) from (show G12 23 = Gj148 23 from funext fun k_ => hU14 23 k_ (show (2300 : Nat) ∉ ([613, 618, 2100, 2700, 4500, 4600, 4700, 4800] : List Nat) by decide)).trans ((show Gj148 23 = Gj121 23 from funext fun k_ => jU148 23 k_ (show (2300 : Nat) ∉ ([613, 614, 615, 617, 618, 619, 620, 2100, 2400, 2700, 4500, 4600, 4700, 4800] : List Nat) by decide)).trans ((show Gj121 23 = G 23 from funext fun k_ => jU121 23 k_ (show (2300 : Nat) ∉ ([608, 613, 614, 615, 617, 618, 619, 620, 2100, 2400, 2700, 4400, 4500, 4600, 4700, 4800] : List Nat) by decide)))))] at h9); first | exact h9 | omega
              clear hp26 hw22
              refine g_iconst F 0 dX5_run_202 (by decide) ?_
              refine g_sipush F 999 dX5_run_203 (by decide) ?_
              refine u_call0 (k := 0) (n := 0) (As := [.int r21, .int 0, .int 999]) (st := [.int p2]) F (fun sz => S_X5_within l D r21 r21.toInt 0 0 999 999 rfl rfl rfl sz) (va_cwS 3 hts gX5_run_X5_within rfl rfl rfl (by decide +kernel) ⟨Nat.le_of_ble_eq_true rfl, Nat.le_of_ble_eq_true rfl⟩) rfl (Nat.le_of_ble_eq_true rfl) ⟨Nat.zero_le _, Nat.zero_le _⟩ dX5_run_206 (fun r29 _ hw30 => ?_)
              have q32 : (r29.toInt = max (0 : Int) (min (999 : Int) r21.toInt)) := hw30
              clear hw30
              refine g_iadd F dX5_run_209 ?_
              have hs9 : ((p2 + r29) : Int32).toInt = _ + _ := ti_add rfl rfl (by omega) (by omega)
              refine g_istore F [(13, .int (p2 + r29)), (12, .int r10), (0, .ref (a 6)), (3, .int p2), (4, .int p3), (5, .int (G 18 0)), (6, .int x121_6), (7, .int x121_7), (8, .int x148_8), (9, .int x148_9), (10, .int x121_10), (11, .int x148_11)] dX5_run_210 (by decide) rfl ?_
              refine g_aload_n F 2 dX5_run_212 rfl rfl ?_
              refine g_aload_n F 2 dX5_run_213 rfl rfl ?_
              refine xg_6_2 F i_X5 w_4 dX5_run_214 (G 6 2) ((hU25 6 2 (by decide)).trans ((hU14 6 2 (by decide)).trans ((jU148 6 2 (by decide)).trans (jU121 6 2 (by decide))))) ?_
              refine g_aload_n F 2 dX5_run_217 rfl rfl ?_
              refine xg_6_0 F i_X5 w_1 dX5_run_218 ?_
              refine g_iload F 9 dX5_run_221 rfl ?_
              refine u_callVi (k := 0) (n := 0) (b := a 2) (As := [.int x148_9]) (st := [.int (G 6 2), .ref (a 6)]) F (fun sz => S_X7_swayAt_2 l D K a G23 x148_9 x148_9.toInt rfl (by omega) hI24 sz) (cwV 1 hts gX5_run_X7_swayAt rfl rfl rfl (by decide +kernel) ⟨Nat.le_of_ble_eq_true rfl, Nat.le_of_ble_eq_true rfl⟩) rfl 2 xc_2 rfl (Nat.le_of_ble_eq_true rfl) ⟨Nat.zero_le _, Nat.zero_le _⟩ dX5_run_223 (fun r33 _ hw34 => ?_)
              have q36 : (r33.toInt = ((G 18) (30 + (x148_9.toInt).toNat)).toInt) := by have h9 := hw34.2; (try simp only [(show G23 18 = (G 18) from (show G23 18 = G12 18 from funext fun k_ => hU25 18 k_ (show (1800 : Nat) ∉ ([2400] : List Nat) by decide)).trans ((show G12 18 = Gj148 18 from funext fun k_ => hU14 18 k_ (show (1800 : Nat) ∉ ([613, 618, 2100, 2700, 4500, 4600, 4700, 4800] : List Nat) by decide)).trans ((show Gj148 18 = Gj121 18 from funext fun k_ => jU148 18 k_ (show (1800 : Nat) ∉ ([613, 614, 615, 617, 618, 619, 620, 2100, 2400, 2700, 4500, 4600, 4700, 4800] : List Nat) by decide)).trans ((show Gj121 18 = G 18 from funext fun k_ => jU121 18 k_ (show (1800 : Nat) ∉ ([608, 613, 614, 615, 617, 618, 619, 620, 2100, 2400, 2700, 4400, 4500, 4600, 4700, 4800] : List Nat) by decide))))))] at h9); first | exact h9 | omega
              have rg37 := hw34.1
              clear hw34
              refine g_iadd F dX5_run_226 ?_
              have ss9 : (((G 6 2) + r33) : Int32).toInt = _ + _ := ti_add rfl rfl (by omega) (by omega)
              refine g_iload F 1 dX5_run_227 rfl ?_
              refine g_iload F 0 dX5_run_229 rfl ?_
              refine g_iload F 4 dX5_run_231 rfl ?_
              refine u_callVi (k := 0) (n := 0) (b := a 6) (As := [.int ((G 6 2) + r33), .int r10, .int (p2 + r29), .int p3]) (st := []) F (fun sz => S_X5_swingsTooFar l D K a G23 ((G 6 2) + r33) (((G 6 2) + r33) : Int32).toInt r10 r10.toInt (p2 + r29) ((p2 + r29) : Int32).toInt p3 s3 rfl rfl (by omega) rfl (by omega) e3 (by omega) (by have e9_6_13 : G23 6 13 = (Gj148 6 13) := (hU25 6 13 (by decide)).trans (hU14 6 13 (by decide)); have e9_6_14 : G23 6 14 = (Gj148 6 14) := (hU25 6 14 (by decide)).trans (hU14 6 14 (by decide)); (try simp only [e9_6_13, e9_6_14, true_and, and_true]) <;> (first | omega | (simp only [Int32.reduceToInt, true_and, and_true, ne_eq, not_true_eq_false, false_and, or_false, false_or, true_or, or_true, false_implies] <;> omega))) hI24 sz) (cwV 4 hts gX5_run_X5_swingsTooFar rfl rfl rfl (by decide +kernel) ⟨Nat.le_of_ble_eq_true rfl, Nat.le_of_ble_eq_true rfl⟩) rfl 6 xc_6 rfl (Nat.le_of_ble_eq_true rfl) ⟨Nat.zero_le _, Nat.zero_le _⟩ dX5_run_233 (fun r38 G40 hw39 => ?_)
              have hI41 : xI G40 := hw39.1
              have hU42 : gu_un xcd [614, 615, 617, 619] G23 G40 := hw39.2.1
              have hp43 := hw39.2.2
              have q44 : (∀ Q S : gS, (Q 0 2 = (G 18) 2 ∧ Q 0 7 = (G 18) 7 ∧ Q 3 5 = p3) → swR S (G23 6 13) (G23 6 14) (G23 6 18) (G23 6 16) 0 → swR (psJ Q r10 (p2 + r29) ((((G 6 2) + r33) : Int32).toInt).toNat S) (G40 6 13) (G40 6 14) (G40 6 18) (G40 6 16) (Int32.ofInt r38.toInt)) := by have h9 := hp43.2.1; (try simp only [(show G23 18 = (G 18) from (show G23 18 = G12 18 from funext fun k_ => hU25 18 k_ (show (1800 : Nat) ∉ ([2400] : List Nat) by decide)).trans ((show G12 18 = Gj148 18 from funext fun k_ => hU14 18 k_ (show (1800 : Nat) ∉ ([613, 618, 2100, 2700, 4500, 4600, 4700, 4800] : List Nat) by decide)).trans ((show Gj148 18 = Gj121 18 from funext fun k_ => jU148 18 k_ (show (1800 : Nat) ∉ ([613, 614, 615, 617, 618, 619, 620, 2100, 2400, 2700, 4500, 4600, 4700, 4800] : List Nat) by decide)).trans ((show Gj121 18 = G 18 from funext fun k_ => jU121 18 k_ (show (1800 : Nat) ∉ ([608, 613, 614, 615, 617, 618, 619, 620, 2100, 2400, 2700, 4400, 4500, 4600, 4700, 4800] : List Nat) by decide)))))), (show G23 18 = (G 18) from (show G23 18 = G12 18 from funext fun k_ => hU25 18 k_ (show (1800 : Nat) ∉ ([2400] : List Nat) by decide)).trans ((show G12 18 = Gj148 18 from funext fun k_ => hU14 18 k_ (show (1800 : Nat) ∉ ([613, 618, 2100, 2700, 4500, 4600, 4700, 4800] : List Nat) by decide)).trans ((show Gj148 18 = Gj121 18 from funext fun k_ => jU148 18 k_ (show (1800 : Nat) ∉ ([613, 614, 615, 617, 618, 619, 620, 2100, 2400, 2700, 4500, 4600, 4700, 4800] : List Nat) by decide)).trans ((show Gj121 18 = G 18 from funext fun k_ => jU121 18 k_ (show (1800 : Nat) ∉ ([608, 613, 614, 615, 617, 618, 619, 620, 2100, 2400, 2700, 4400, 4500, 4600, 4700, 4800] : List Nat) by decide))))))] at h9); first | exact h9 | omega
              have q45 : (r38.toInt ≠ 0 ∨ (-9999 ≤ (G40 6 13).toInt ∧ (G40 6 13).toInt ≤ 9999 ∧ -19998 ≤ (G40 6 14).toInt ∧ (G40 6 14).toInt ≤ 19998)) := hp43.2.2
              have rg46 := hp43.1
              clear hp43 hw39
              refine g_istore F [(8, .int r38), (13, .int (p2 + r29)), (12, .int r10), (0, .ref (a 6)), (3, .int p2), (4, .int p3), (5, .int (G 18 0)), (6, .int x121_6), (7, .int x121_7), (9, .int x148_9), (10, .int x121_10), (11, .int x148_11)] dX5_run_236 (by decide) rfl ?_
              refine g_aload_n F 3 dX5_run_238 rfl rfl ?_
              refine xg_6_0 F i_X5 w_1 dX5_run_239 ?_
              refine g_iload F 9 dX5_run_242 rfl ?_
              refine u_callVi (k := 0) (n := 0) (b := a 2) (As := [.int x148_9]) (st := []) F (fun sz => S_X7_swayBehind_2 l D K a G40 x148_9 x148_9.toInt rfl (by omega) hI41 sz) (cwV 1 hts gX5_run_X7_swayBehind rfl rfl rfl (by decide +kernel) ⟨Nat.le_of_ble_eq_true rfl, Nat.le_of_ble_eq_true rfl⟩) rfl 2 xc_2 rfl (Nat.le_of_ble_eq_true rfl) ⟨Nat.zero_le _, Nat.zero_le _⟩ dX5_run_244 (fun r47 _ hw48 => ?_)
              have q50 : (r47.toInt = if x148_9.toInt + 1 < (G 18 11).toInt then x148_9.toInt + 1 else 0) := by have h9 := hw48.2; (try simp only [(show G40 18 11 = (G 18 11) from (hU42 18 11 (by decide)).trans ((hU25 18 11 (by decide)).trans ((hU14 18 11 (by decide)).trans ((jU148 18 11 (by decide)).trans (jU121 18 11 (by decide))))))] at h9); first | exact h9 | omega
              have rg51 := hw48.1
              clear hw48
              refine g_istore F [(9, .int r47), (8, .int r38), (13, .int (p2 + r29)), (12, .int r10), (0, .ref (a 6)), (3, .int p2), (4, .int p3), (5, .int (G 18 0)), (6, .int x121_6), (7, .int x121_7), (10, .int x121_10), (11, .int x148_11)] dX5_run_247 (by decide) rfl ?_
              refine u_iinc F (fun v_ => [(11, .int v_), (9, .int r47), (8, .int r38), (13, .int (p2 + r29)), (12, .int r10), (0, .ref (a 6)), (3, .int p2), (4, .int p3), (5, .int (G 18 0)), (6, .int x121_6), (7, .int x121_7), (10, .int x121_10)]) dX5_run_249 (j := 11) rfl x148_11.toInt 1 rfl rfl (by omega) (by omega) (by decide) (fun _ => rfl) (fun y52 ey52 => ?_)
              refine g_goto F 148 dX5_run_252 (by decide) ?_
              refine g_locals [(0, .ref (a 6)), (3, .int p2), (4, .int p3), (5, .int (G 18 0)), (6, .int x121_6), (7, .int x121_7), (8, .int r38), (9, .int r47), (10, .int x121_10), (11, .int y52)] [5, 6, 7, 8, 9, 10, 2, 1, 11, 0] rfl ?_
              exact ih_148 r38 r47 y52 G40 (by omega) (by have h9 := ti_rng r38; omega) (by have h9 := ti_rng r47; omega) (by have h9 := ti_rng x121_10; omega) (by have h9 := ti_rng y52; omega) hI41 (gu_un.tr (gu_un.tr (gu_un.tr (gu_un.tr gu_un.rf (gu_un.su jU148 rfl)) (gu_un.su hU14 rfl)) (gu_un.su hU25 rfl)) (gu_un.su hU42 rfl)) (fun hz => by have h9 := xRl.go (n := (x121_10.toInt * (G 18 0).toInt + x148_11.toInt).toNat) (y := (x121_10.toInt * (G 18 0).toInt + y52.toInt).toNat) (T := x121_10.toInt) (i := x148_11.toInt) (s := (G 18 0).toInt) (t := x121_10) (fo := r10) (ho := (p2 + r29)) (m := ((Gj121 6 7).toInt).toNat) (rd := x148_9.toInt) (k := ((((G 6 2) + r33) : Int32).toInt).toNat) (sh := r38) ((r2 hz).1.sh (by omega)) (by omega) rfl (by omega) (by omega) rfl (fun Q C hq => xBq_of hq (show Gj148 18 = (G 18) from ((show Gj148 18 = Gj121 18 from funext fun k_ => jU148 18 k_ (by simp [xcd])).trans (show Gj121 18 = (G 18) from ((show Gj121 18 = G 18 from funext fun k_ => jU121 18 k_ (by simp [xcd])).trans (show G 18 = (G 18) from rfl))))) (show Gj148 20 = (G 20) from ((show Gj148 20 = Gj121 20 from funext fun k_ => jU148 20 k_ (by simp [xcd])).trans (show Gj121 20 = (G 20) from ((show Gj121 20 = G 20 from funext fun k_ => jU121 20 k_ (by simp [xcd])).trans (show G 20 = (G 20) from rfl))))) (show Gj148 26 = (G 26) from ((show Gj148 26 = Gj121 26 from funext fun k_ => jU148 26 k_ (by simp [xcd])).trans (show Gj121 26 = (G 26) from ((show Gj121 26 = G 26 from funext fun k_ => jU121 26 k_ (by simp [xcd])).trans (show G 26 = (G 26) from rfl))))) (show Gj148 11 1 = (G 11 1) from (jU148 11 1 (by decide)).trans (jU121 11 1 (by decide))) (show Gj148 13 1 = (G 13 1) from (jU148 13 1 (by decide)).trans (jU121 13 1 (by decide))) (mt hz) rfl) (by have h6 := (mt hz).1; rw [show Gj148 6 7 = (Gj121 6 7) from jU148 6 7 (by decide)] at h6; rw [h6]) (Int32.toInt_inj.mp (by omega)) (by have h := q17; simp only [Int32.ofInt_toInt] at h; exact h) (fun gc => congrArg (p2 + ·) (psC_of q32 (q28 gc))) (by rw [Int.toNat_of_nonneg (by omega)]; exact r3) (by omega) (by rw [← Int32.toInt_inj.mp q36]) (by have h := q44; rw [Int32.ofInt_toInt, show G23 6 13 = Gj148 6 13 from (show G23 6 13 = Gj148 6 13 from (show gu_un xcd [613, 618, 2100, 2400, 2700, 4500, 4600, 4700, 4800] Gj148 G23 from (gu_un.tr (gu_un.tr gu_un.rf (gu_un.su hU14 rfl)) (gu_un.su hU25 rfl))) 6 13 (by decide)), show G23 6 14 = Gj148 6 14 from (show G23 6 14 = Gj148 6 14 from (show gu_un xcd [613, 618, 2100, 2400, 2700, 4500, 4600, 4700, 4800] Gj148 G23 from (gu_un.tr (gu_un.tr gu_un.rf (gu_un.su hU14 rfl)) (gu_un.su hU25 rfl))) 6 14 (by decide)), show G23 6 18 = Gj148 6 18 from (show G23 6 18 = Gj148 6 18 from (show gu_un xcd [613, 618, 2100, 2400, 2700, 4500, 4600, 4700, 4800] Gj148 G23 from (gu_un.tr (gu_un.tr gu_un.rf (gu_un.su hU14 rfl)) (gu_un.su hU25 rfl))) 6 18 (by decide)), show G23 6 16 = Gj148 6 16 from (show G23 6 16 = Gj148 6 16 from (show gu_un xcd [613, 618, 2100, 2400, 2700, 4500, 4600, 4700, 4800] Gj148 G23 from (gu_un.tr (gu_un.tr gu_un.rf (gu_un.su hU14 rfl)) (gu_un.su hU25 rfl))) 6 16 (by decide))] at h; exact h) (show G40 45 = G12 45 from funext fun k_ => (show gu_un xcd [614, 615, 617, 619, 2400] G12 G40 from (gu_un.tr (gu_un.tr gu_un.rf (gu_un.su hU25 rfl)) (gu_un.su hU42 rfl))) 45 k_ (by simp [xcd])) (show G40 46 = G12 46 from funext fun k_ => (show gu_un xcd [614, 615, 617, 619, 2400] G12 G40 from (gu_un.tr (gu_un.tr gu_un.rf (gu_un.su hU25 rfl)) (gu_un.su hU42 rfl))) 46 k_ (by simp [xcd])) (show G40 47 = G12 47 from funext fun k_ => (show gu_un xcd [614, 615, 617, 619, 2400] G12 G40 from (gu_un.tr (gu_un.tr gu_un.rf (gu_un.su hU25 rfl)) (gu_un.su hU42 rfl))) 47 k_ (by simp [xcd])) (show G40 48 = G12 48 from funext fun k_ => (show gu_un xcd [614, 615, 617, 619, 2400] G12 G40 from (gu_un.tr (gu_un.tr gu_un.rf (gu_un.su hU25 rfl)) (gu_un.su hU42 rfl))) 48 k_ (by simp [xcd])) (show G40 6 12 = G12 6 12 from (show gu_un xcd [614, 615, 617, 619, 2400] G12 G40 from (gu_un.tr (gu_un.tr gu_un.rf (gu_un.su hU25 rfl)) (gu_un.su hU42 rfl))) 6 12 (by decide)) (show G40 6 17 = G12 6 17 from (show gu_un xcd [614, 615, 617, 619, 2400] G12 G40 from (gu_un.tr (gu_un.tr gu_un.rf (gu_un.su hU25 rfl)) (gu_un.su hU42 rfl))) 6 17 (by decide)) (show G40 6 19 = Gj148 6 19 from (show gu_un xcd [613, 614, 615, 617, 618, 619, 2100, 2400, 2700, 4500, 4600, 4700, 4800] Gj148 G40 from (gu_un.tr (gu_un.tr (gu_un.tr gu_un.rf (gu_un.su hU14 rfl)) (gu_un.su hU25 rfl)) (gu_un.su hU42 rfl))) 6 19 (by decide)) (by omega) rfl; exact ⟨h9.1, fun _ => h9.2⟩) (by rw [show x121_10.toInt * (G 18 0).toInt + y52.toInt = (x121_10.toInt * (G 18 0).toInt + x148_11.toInt) + 1 by omega]; exact rnd_1 r3 (by omega) (by omega) q50) (xMt.tr mt (show G40 6 7 = Gj148 6 7 from (show gu_un xcd [613, 614, 615, 617, 618, 619, 2100, 2400, 2700, 4500, 4600, 4700, 4800] Gj148 G40 from (gu_un.tr (gu_un.tr (gu_un.tr gu_un.rf (gu_un.su hU14 rfl)) (gu_un.su hU25 rfl)) (gu_un.su hU42 rfl))) 6 7 (by decide)) (show G40 44 = Gj148 44 from funext fun k_ => (show gu_un xcd [613, 614, 615, 617, 618, 619, 2100, 2400, 2700, 4500, 4600, 4700, 4800] Gj148 G40 from (gu_un.tr (gu_un.tr (gu_un.tr gu_un.rf (gu_un.su hU14 rfl)) (gu_un.su hU25 rfl)) (gu_un.su hU42 rfl))) 44 k_ (by simp [xcd]))) (by (first | omega | (simp only [Int32.reduceToInt, true_and, and_true, ne_eq, not_true_eq_false, false_and, or_false, false_or, true_or, or_true, false_implies] <;> omega))) (by have e9_6_19 : G40 6 19 = (Gj148 6 19) := (hU42 6 19 (by decide)).trans ((hU25 6 19 (by decide)).trans (hU14 6 19 (by decide))); (try simp only [e9_6_19, true_and, and_true]) <;> (first | omega | (simp only [Int32.reduceToInt, true_and, and_true, ne_eq, not_true_eq_false, false_and, or_false, false_or, true_or, or_true, false_implies] <;> omega))) (by have e9_6_4 : G40 6 4 = (G 6 4) := (hU42 6 4 (by decide)).trans ((hU25 6 4 (by decide)).trans ((hU14 6 4 (by decide)).trans ((jU148 6 4 (by decide)).trans (jU121 6 4 (by decide))))); (try simp only [e9_6_4, true_and, and_true]) <;> (first | omega | (simp only [Int32.reduceToInt, true_and, and_true, ne_eq, not_true_eq_false, false_and, or_false, false_or, true_or, or_true, false_implies] <;> omega))) (by (first | omega | (simp only [Int32.reduceToInt, true_and, and_true, ne_eq, not_true_eq_false, false_and, or_false, false_or, true_or, or_true, false_implies] <;> omega))) (by have e9_18_0 : G40 18 0 = (G 18 0) := (hU42 18 0 (by decide)).trans ((hU25 18 0 (by decide)).trans ((hU14 18 0 (by decide)).trans ((jU148 18 0 (by decide)).trans (jU121 18 0 (by decide))))); (try simp only [e9_18_0, true_and, and_true]) <;> (first | omega | (simp only [Int32.reduceToInt, true_and, and_true, ne_eq, not_true_eq_false, false_and, or_false, false_or, true_or, or_true, false_implies] <;> omega)))
      refine g_iload F 8 dX5_run_121 rfl ?_
      refine g_aload_n F 0 dX5_run_123 rfl rfl ?_
      refine xg_6_4 F i_X5 w_5 dX5_run_124 (G 6 4) (jU121 6 4 (by decide)) ?_
      have b53 := ti_rng (G 6 4)
      refine v_icmp_ge F 261 dX5_run_127 (by decide) x121_10.toInt (G 6 4).toInt rfl rfl (fun c54 => ?_) (fun c54 => ?_)
      · refine g_aload_n F 0 dX5_run_261 rfl rfl ?_
        refine g_aload_n F 0 dX5_run_262 rfl rfl ?_
        refine xg_6_8 F i_X5 w_3 dX5_run_263 ?_
        refine g_iconst F 0 dX5_run_266 (by decide) ?_
        refine g_iload F 3 dX5_run_267 rfl ?_
        refine u_callSi (k := 0) (n := 0) (As := [.ref (a 45), .int 0, .int (G 18 0)]) (st := [.ref (a 6)]) F (fun sz => S_X5_greatest_45 l D K a Gj121 0 0 (G 18 0) (G 18 0).toInt rfl (by decide) rfl (by omega) jI121 sz) (va_cwS 3 hts gX5_run_X5_greatest rfl rfl rfl (by decide +kernel) ⟨Nat.le_of_ble_eq_true rfl, Nat.le_of_ble_eq_true rfl⟩) rfl (Nat.le_of_ble_eq_true rfl) ⟨Nat.zero_le _, Nat.zero_le _⟩ dX5_run_269 (fun r55 _ hw56 => ?_)
        have q58 : ((0 : Int) = 0 ∧ 1 ≤ (G 18 0).toInt ∧ (G 18 0).toInt ≤ 16 → r55.toInt = psMx (Gj121 45) ((G 18 0).toInt - 1).toNat) := hw56.2
        have rg59 := hw56.1
        clear hw56
        refine g_aload_n F 0 dX5_run_272 rfl rfl ?_
        refine xg_6_8 F i_X5 w_3 dX5_run_273 ?_
        refine g_iconst F 0 dX5_run_276 (by decide) ?_
        refine g_iload F 3 dX5_run_277 rfl ?_
        refine u_callSi (k := 0) (n := 0) (As := [.ref (a 45), .int 0, .int (G 18 0)]) (st := [.int r55, .ref (a 6)]) F (fun sz => S_X5_least_45 l D K a Gj121 0 0 (G 18 0) (G 18 0).toInt rfl (by decide) rfl (by omega) jI121 sz) (va_cwS 3 hts gX5_run_X5_least rfl rfl rfl (by decide +kernel) ⟨Nat.le_of_ble_eq_true rfl, Nat.le_of_ble_eq_true rfl⟩) rfl (Nat.le_of_ble_eq_true rfl) ⟨Nat.zero_le _, Nat.zero_le _⟩ dX5_run_279 (fun r60 _ hw61 => ?_)
        have q63 : (0 ≤ (0 : Int) ∧ 1 ≤ (G 18 0).toInt ∧ (0 : Int) + (G 18 0).toInt ≤ 16 → r60.toInt = psMn (fun q => (Gj121 45) ((0 : Int).toNat + q)) ((G 18 0).toInt - 1).toNat) := hw61.2
        have rg64 := hw61.1
        clear hw61
        refine u_isub F dX5_run_282 r55.toInt r60.toInt rfl rfl (by omega) (by omega) (fun y65 ey65 => ?_)
        refine xp_6_15 F i_X5 w_6 dX5_run_283 ?_
        refine g_iload F 6 dX5_run_286 rfl ?_
        refine v_if_eq F 293 dX5_run_288 (by decide) x121_8.toInt rfl (fun c66 => ?_) (fun c66 => ?_)
        · refine g_aload_n F 0 dX5_run_293 rfl rfl ?_
          refine xg_6_15 F i_X5 w_6 dX5_run_294 y65 (rfl) ?_
          refine g_aload_n F 0 dX5_run_297 rfl rfl ?_
          refine xg_6_0 F i_X5 w_1 dX5_run_298 ?_
          refine xg_2_0 F i_X7 w_7 dX5_run_301 ?_
          refine g_bipush F 8 dX5_run_304 (by decide) ?_
          refine u1_iald F 18 0 xc_18 rfl 8 rfl (by decide) (by decide) dX5_run_306 (G 18 8) (jU121 18 8 (by decide)) ?_
          refine v_icmp_le F 314 dX5_run_307 (by decide) y65.toInt (G 18 8).toInt rfl rfl (fun c67 => ?_) (fun c67 => ?_)
          · refine g_iconst F 0 dX5_run_314 (by decide) ?_
            exact u_iret F hA hQ hr (gu_up Gj121 6 15 y65) (⟨(gu_I.up (j := 6) (k := 15) (v := y65) jI121 (ti_rng _).1 (ti_rng _).2), (gu_un.up (j := 6) (k := 15) (v := y65) (gu_un.tr gu_un.rf (gu_un.su jU121 rfl)) (show (616 : Nat) ∈ ([608, 613, 614, 615, 616, 617, 618, 619, 620, 2100, 2400, 2700, 4400, 4500, 4600, 4700, 4800] : List Nat) by decide)), (by decide), (by show (0 = -4 ∨ (0 ≤ 0 ∧ 0 ≤ 2)); (first | omega | (simp only [Int32.reduceToInt, true_and, and_true, ne_eq, not_true_eq_false, false_and, or_false, false_or, true_or, or_true, false_implies] <;> omega))), (fun h9 => by obtain ⟨n9, a1, a2, a3⟩ := r1; have tm := Int.mul_le_mul_of_nonneg_right (show x121_10.toInt ≤ (G 6 4).toInt by omega) (show (0 : Int) ≤ (G 18 0).toInt by omega); have hf := xRl.fin (m := ((G 6 4).toInt * (G 18 0).toInt).toNat) (a3 h9.1).1 (a3 h9.1).2 (by omega) (by by_cases e : x121_8.toInt = 0 <;> first | exact Or.inl e | (right; have a4 := a2 e; rw [show x121_10.toInt = (G 6 4).toInt by omega] at a4; omega)); exact ⟨_, _, lv.1, lv.2, hf.1.sh (by first | (rw [if_pos (by decide)]; omega) | (rw [if_neg (by decide)]; omega)), hf.2, by have g1 := q58 ⟨rfl, by omega, by omega⟩; have g2 := q63 ⟨by omega, by omega, by omega⟩; have g3 : psMn (fun q => (Gj121 45) ((0 : Int).toNat + q)) ((G 18 0).toInt - 1).toNat = psMn (Gj121 45) ((G 18 0).toInt - 1).toNat := psMn_eq (fun i _ => by rw [show (0 : Int).toNat + i = i by omega]); show y65.toInt = psMx (Gj121 45) _ - psMn (Gj121 45) _; omega, by first | exact Or.inl (by decide) | exact Or.inr (Or.inl ⟨by decide, by show (G 18 8).toInt < y65.toInt; omega⟩) | exact Or.inr (Or.inr ⟨by decide, by show y65.toInt ≤ (G 18 8).toInt; omega⟩)⟩), (by have h7 := lv.1; exact Or.inr ⟨by decide, by omega⟩)⟩) rfl rfl dX5_run_315
          · refine g_iconst F 1 dX5_run_310 (by decide) ?_
            refine g_goto F 315 dX5_run_311 (by decide) ?_
            exact u_iret F hA hQ hr (gu_up Gj121 6 15 y65) (⟨(gu_I.up (j := 6) (k := 15) (v := y65) jI121 (ti_rng _).1 (ti_rng _).2), (gu_un.up (j := 6) (k := 15) (v := y65) (gu_un.tr gu_un.rf (gu_un.su jU121 rfl)) (show (616 : Nat) ∈ ([608, 613, 614, 615, 616, 617, 618, 619, 620, 2100, 2400, 2700, 4400, 4500, 4600, 4700, 4800] : List Nat) by decide)), (by decide), (by show (1 = -4 ∨ (0 ≤ 1 ∧ 1 ≤ 2)); (first | omega | (simp only [Int32.reduceToInt, true_and, and_true, ne_eq, not_true_eq_false, false_and, or_false, false_or, true_or, or_true, false_implies] <;> omega))), (fun h9 => by obtain ⟨n9, a1, a2, a3⟩ := r1; have tm := Int.mul_le_mul_of_nonneg_right (show x121_10.toInt ≤ (G 6 4).toInt by omega) (show (0 : Int) ≤ (G 18 0).toInt by omega); have hf := xRl.fin (m := ((G 6 4).toInt * (G 18 0).toInt).toNat) (a3 h9.1).1 (a3 h9.1).2 (by omega) (by by_cases e : x121_8.toInt = 0 <;> first | exact Or.inl e | (right; have a4 := a2 e; rw [show x121_10.toInt = (G 6 4).toInt by omega] at a4; omega)); exact ⟨_, _, lv.1, lv.2, hf.1.sh (by first | (rw [if_pos (by decide)]; omega) | (rw [if_neg (by decide)]; omega)), hf.2, by have g1 := q58 ⟨rfl, by omega, by omega⟩; have g2 := q63 ⟨by omega, by omega, by omega⟩; have g3 : psMn (fun q => (Gj121 45) ((0 : Int).toNat + q)) ((G 18 0).toInt - 1).toNat = psMn (Gj121 45) ((G 18 0).toInt - 1).toNat := psMn_eq (fun i _ => by rw [show (0 : Int).toNat + i = i by omega]); show y65.toInt = psMx (Gj121 45) _ - psMn (Gj121 45) _; omega, by first | exact Or.inl (by decide) | exact Or.inr (Or.inl ⟨by decide, by show (G 18 8).toInt < y65.toInt; omega⟩) | exact Or.inr (Or.inr ⟨by decide, by show y65.toInt ≤ (G 18 8).toInt; omega⟩)⟩), (by have h7 := lv.1; exact Or.inr ⟨by decide, by omega⟩)⟩) rfl rfl dX5_run_315
        · refine g_iconst F 2 dX5_run_291 (by decide) ?_
          exact u_iret F hA hQ hr (gu_up Gj121 6 15 y65) (⟨(gu_I.up (j := 6) (k := 15) (v := y65) jI121 (ti_rng _).1 (ti_rng _).2), (gu_un.up (j := 6) (k := 15) (v := y65) (gu_un.tr gu_un.rf (gu_un.su jU121 rfl)) (show (616 : Nat) ∈ ([608, 613, 614, 615, 616, 617, 618, 619, 620, 2100, 2400, 2700, 4400, 4500, 4600, 4700, 4800] : List Nat) by decide)), (by decide), (by show (2 = -4 ∨ (0 ≤ 2 ∧ 2 ≤ 2)); (first | omega | (simp only [Int32.reduceToInt, true_and, and_true, ne_eq, not_true_eq_false, false_and, or_false, false_or, true_or, or_true, false_implies] <;> omega))), (fun h9 => by obtain ⟨n9, a1, a2, a3⟩ := r1; have tm := Int.mul_le_mul_of_nonneg_right (show x121_10.toInt ≤ (G 6 4).toInt by omega) (show (0 : Int) ≤ (G 18 0).toInt by omega); have hf := xRl.fin (m := ((G 6 4).toInt * (G 18 0).toInt).toNat) (a3 h9.1).1 (a3 h9.1).2 (by omega) (by by_cases e : x121_8.toInt = 0 <;> first | exact Or.inl e | (right; have a4 := a2 e; rw [show x121_10.toInt = (G 6 4).toInt by omega] at a4; omega)); exact ⟨_, _, lv.1, lv.2, hf.1.sh (by first | (rw [if_pos (by decide)]; omega) | (rw [if_neg (by decide)]; omega)), hf.2, by have g1 := q58 ⟨rfl, by omega, by omega⟩; have g2 := q63 ⟨by omega, by omega, by omega⟩; have g3 : psMn (fun q => (Gj121 45) ((0 : Int).toNat + q)) ((G 18 0).toInt - 1).toNat = psMn (Gj121 45) ((G 18 0).toInt - 1).toNat := psMn_eq (fun i _ => by rw [show (0 : Int).toNat + i = i by omega]); show y65.toInt = psMx (Gj121 45) _ - psMn (Gj121 45) _; omega, by first | exact Or.inl (by decide) | exact Or.inr (Or.inl ⟨by decide, by show (G 18 8).toInt < y65.toInt; omega⟩) | exact Or.inr (Or.inr ⟨by decide, by show y65.toInt ≤ (G 18 8).toInt; omega⟩)⟩), (by have h7 := lv.1; exact Or.inr ⟨by decide, by omega⟩)⟩) rfl rfl dX5_run_292
      · refine g_iload F 6 dX5_run_130 rfl ?_
        refine v_if_ne F 261 dX5_run_132 (by decide) x121_8.toInt rfl (fun c68 => ?_) (fun c68 => ?_)
        · refine g_aload_n F 0 dX5_run_261 rfl rfl ?_
          refine g_aload_n F 0 dX5_run_262 rfl rfl ?_
          refine xg_6_8 F i_X5 w_3 dX5_run_263 ?_
          refine g_iconst F 0 dX5_run_266 (by decide) ?_
          refine g_iload F 3 dX5_run_267 rfl ?_
          refine u_callSi (k := 0) (n := 0) (As := [.ref (a 45), .int 0, .int (G 18 0)]) (st := [.ref (a 6)]) F (fun sz => S_X5_greatest_45 l D K a Gj121 0 0 (G 18 0) (G 18 0).toInt rfl (by decide) rfl (by omega) jI121 sz) (va_cwS 3 hts gX5_run_X5_greatest rfl rfl rfl (by decide +kernel) ⟨Nat.le_of_ble_eq_true rfl, Nat.le_of_ble_eq_true rfl⟩) rfl (Nat.le_of_ble_eq_true rfl) ⟨Nat.zero_le _, Nat.zero_le _⟩ dX5_run_269 (fun r69 _ hw70 => ?_)
          have q72 : ((0 : Int) = 0 ∧ 1 ≤ (G 18 0).toInt ∧ (G 18 0).toInt ≤ 16 → r69.toInt = psMx (Gj121 45) ((G 18 0).toInt - 1).toNat) := hw70.2
          have rg73 := hw70.1
          clear hw70
          refine g_aload_n F 0 dX5_run_272 rfl rfl ?_
          refine xg_6_8 F i_X5 w_3 dX5_run_273 ?_
          refine g_iconst F 0 dX5_run_276 (by decide) ?_
          refine g_iload F 3 dX5_run_277 rfl ?_
          refine u_callSi (k := 0) (n := 0) (As := [.ref (a 45), .int 0, .int (G 18 0)]) (st := [.int r69, .ref (a 6)]) F (fun sz => S_X5_least_45 l D K a Gj121 0 0 (G 18 0) (G 18 0).toInt rfl (by decide) rfl (by omega) jI121 sz) (va_cwS 3 hts gX5_run_X5_least rfl rfl rfl (by decide +kernel) ⟨Nat.le_of_ble_eq_true rfl, Nat.le_of_ble_eq_true rfl⟩) rfl (Nat.le_of_ble_eq_true rfl) ⟨Nat.zero_le _, Nat.zero_le _⟩ dX5_run_279 (fun r74 _ hw75 => ?_)
          have q77 : (0 ≤ (0 : Int) ∧ 1 ≤ (G 18 0).toInt ∧ (0 : Int) + (G 18 0).toInt ≤ 16 → r74.toInt = psMn (fun q => (Gj121 45) ((0 : Int).toNat + q)) ((G 18 0).toInt - 1).toNat) := hw75.2
          have rg78 := hw75.1
          clear hw75
          refine u_isub F dX5_run_282 r69.toInt r74.toInt rfl rfl (by omega) (by omega) (fun y79 ey79 => ?_)
          refine xp_6_15 F i_X5 w_6 dX5_run_283 ?_
          refine g_iload F 6 dX5_run_286 rfl ?_
          refine v_if_eq F 293 dX5_run_288 (by decide) x121_8.toInt rfl (fun c80 => absurd c80 (by omega)) (fun c80 => ?_)
          refine g_iconst F 2 dX5_run_291 (by decide) ?_
          exact u_iret F hA hQ hr (gu_up Gj121 6 15 y79) (⟨(gu_I.up (j := 6) (k := 15) (v := y79) jI121 (ti_rng _).1 (ti_rng _).2), (gu_un.up (j := 6) (k := 15) (v := y79) (gu_un.tr gu_un.rf (gu_un.su jU121 rfl)) (show (616 : Nat) ∈ ([608, 613, 614, 615, 616, 617, 618, 619, 620, 2100, 2400, 2700, 4400, 4500, 4600, 4700, 4800] : List Nat) by decide)), (by decide), (by show (2 = -4 ∨ (0 ≤ 2 ∧ 2 ≤ 2)); (first | omega | (simp only [Int32.reduceToInt, true_and, and_true, ne_eq, not_true_eq_false, false_and, or_false, false_or, true_or, or_true, false_implies] <;> omega))), (fun h9 => by obtain ⟨n9, a1, a2, a3⟩ := r1; have tm := Int.mul_le_mul_of_nonneg_right (show x121_10.toInt ≤ (G 6 4).toInt by omega) (show (0 : Int) ≤ (G 18 0).toInt by omega); have hf := xRl.fin (m := ((G 6 4).toInt * (G 18 0).toInt).toNat) (a3 h9.1).1 (a3 h9.1).2 (by omega) (by by_cases e : x121_8.toInt = 0 <;> first | exact Or.inl e | (right; have a4 := a2 e; rw [show x121_10.toInt = (G 6 4).toInt by omega] at a4; omega)); exact ⟨_, _, lv.1, lv.2, hf.1.sh (by first | (rw [if_pos (by decide)]; omega) | (rw [if_neg (by decide)]; omega)), hf.2, by have g1 := q72 ⟨rfl, by omega, by omega⟩; have g2 := q77 ⟨by omega, by omega, by omega⟩; have g3 : psMn (fun q => (Gj121 45) ((0 : Int).toNat + q)) ((G 18 0).toInt - 1).toNat = psMn (Gj121 45) ((G 18 0).toInt - 1).toNat := psMn_eq (fun i _ => by rw [show (0 : Int).toNat + i = i by omega]); show y79.toInt = psMx (Gj121 45) _ - psMn (Gj121 45) _; omega, by first | exact Or.inl (by decide) | exact Or.inr (Or.inl ⟨by decide, by show (G 18 8).toInt < y79.toInt; omega⟩) | exact Or.inr (Or.inr ⟨by decide, by show y79.toInt ≤ (G 18 8).toInt; omega⟩)⟩), (by have h7 := lv.1; exact Or.inr ⟨by decide, by omega⟩)⟩) rfl rfl dX5_run_292
        · refine g_aload_n F 0 dX5_run_135 rfl rfl ?_
          refine g_dup F dX5_run_136 rfl ?_
          refine xg_6_19 F i_X5 w_8 dX5_run_137 (Gj121 6 19) (rfl) ?_
          refine g_iconst F 1 dX5_run_140 (by decide) ?_
          refine u_iaddc F dX5_run_141 (Gj121 6 19).toInt 1 rfl rfl (fun y81 ey81 => ?_)
          refine xp_6_19 F i_X5 w_8 dX5_run_142 ?_
          refine g_iconst F 0 dX5_run_145 (by decide) ?_
          refine g_istore F [(11, .int 0), (0, .ref (a 6)), (3, .int p2), (4, .int p3), (5, .int (G 18 0)), (6, .int x121_6), (7, .int x121_7), (8, .int x121_8), (9, .int x121_9), (10, .int x121_10)] dX5_run_146 (by decide) rfl ?_
          refine g_locals [(0, .ref (a 6)), (3, .int p2), (4, .int p3), (5, .int (G 18 0)), (6, .int x121_6), (7, .int x121_7), (8, .int x121_8), (9, .int x121_9), (10, .int x121_10), (11, .int 0)] [1, 2, 3, 4, 5, 6, 7, 8, 9, 0] rfl ?_
          exact J_148 _ x121_8 x121_9 0 (gu_up Gj121 6 19 y81) (Nat.lt_succ_self _) (by have h9 := ti_rng x121_8; omega) (by have h9 := ti_rng x121_9; omega) (by have h9 := ti_rng x121_10; omega) (by decide) (gu_I.up (j := 6) (k := 19) (v := y81) jI121 (ti_rng _).1 (ti_rng _).2) (gu_un.up (j := 6) (k := 19) (v := y81) gu_un.rf (show (620 : Nat) ∈ ([613, 614, 615, 617, 618, 619, 620, 2100, 2400, 2700, 4500, 4600, 4700, 4800] : List Nat) by decide)) (fun hz => by obtain ⟨n9, a1, a2, a3⟩ := r1; rw [show (x121_10.toInt * (G 18 0).toInt + Int32.toInt 0).toNat = n9 by (rw [show Int32.toInt 0 = 0 from rfl]; have a4 := a2 (by omega); omega)]; exact ⟨(a3 hz).1, fun h9 => absurd h9 (by decide)⟩) (by obtain ⟨n9, a1, a2, a3⟩ := r1; have a4 := a2 (by omega); rw [show Int32.toInt 0 = 0 from rfl, Int.add_zero, ← a4.1]; exact a4.2) (xMt.tr mt_121 (show (gu_up Gj121 6 19 y81) 6 7 = Gj121 6 7 from (show gu_un xcd [620] Gj121 (gu_up Gj121 6 19 y81) from (gu_un.up (j := 6) (k := 19) (v := y81) gu_un.rf (show (620 : Nat) ∈ ([620] : List Nat) by decide))) 6 7 (by decide)) (show (gu_up Gj121 6 19 y81) 44 = Gj121 44 from funext fun k_ => (show gu_un xcd [620] Gj121 (gu_up Gj121 6 19 y81) from (gu_un.up (j := 6) (k := 19) (v := y81) gu_un.rf (show (620 : Nat) ∈ ([620] : List Nat) by decide))) 44 k_ (by simp [xcd]))) (by have e9_6_13 : (gu_up Gj121 6 19 y81) 6 13 = (Gj121 6 13) := rfl; have e9_6_14 : (gu_up Gj121 6 19 y81) 6 14 = (Gj121 6 14) := rfl; (try simp only [e9_6_13, e9_6_14, true_and, and_true]) <;> (first | omega | (simp only [Int32.reduceToInt, true_and, and_true, ne_eq, not_true_eq_false, false_and, or_false, false_or, true_or, or_true, false_implies] <;> omega))) (by have e9_6_19 : (gu_up Gj121 6 19 y81) 6 19 = y81 := rfl; (try simp only [e9_6_19, true_and, and_true]) <;> (first | omega | (simp only [Int32.reduceToInt, true_and, and_true, ne_eq, not_true_eq_false, false_and, or_false, false_or, true_or, or_true, false_implies] <;> omega))) (by have e9_6_4 : (gu_up Gj121 6 19 y81) 6 4 = (G 6 4) := jU121 6 4 (by decide); (try simp only [e9_6_4, true_and, and_true]) <;> (first | omega | (simp only [Int32.reduceToInt, true_and, and_true, ne_eq, not_true_eq_false, false_and, or_false, false_or, true_or, or_true, false_implies] <;> omega))) (by (first | omega | (simp only [Int32.reduceToInt, true_and, and_true, ne_eq, not_true_eq_false, false_and, or_false, false_or, true_or, or_true, false_implies] <;> omega))) (by have e9_18_0 : (gu_up Gj121 6 19 y81) 18 0 = (G 18 0) := jU121 18 0 (by decide); (try simp only [e9_18_0, true_and, and_true]) <;> (first | omega | (simp only [Int32.reduceToInt, true_and, and_true, ne_eq, not_true_eq_false, false_and, or_false, false_or, true_or, or_true, false_implies] <;> omega)))
  refine g_aload_n F 0 dX5_run_0 rfl rfl ?_
  refine xg_6_0 F i_X5 w_1 dX5_run_1 ?_
  refine xg_2_0 F i_X7 w_7 dX5_run_4 ?_
  refine g_iconst F 0 dX5_run_7 (by decide) ?_
  refine u1_iald F 18 0 xc_18 rfl 0 rfl (by decide) (by decide) dX5_run_8 (G 18 0) (rfl) ?_
  refine g_istore F [(5, .int (G 18 0)), (0, .ref (a 6)), (1, .ref (a 59)), (2, .int p1), (3, .int p2), (4, .int p3)] dX5_run_9 (by decide) rfl ?_
  refine g_aload_n F 1 dX5_run_11 rfl rfl ?_
  refine xg_6_0 F i_X5 w_1 dX5_run_12 ?_
  refine g_aload_n F 1 dX5_run_15 rfl rfl ?_
  refine xg_6_1 F i_X5 w_9 dX5_run_16 (G 6 1) (rfl) ?_
  refine u_callVi (k := 0) (n := 0) (b := a 2) (As := [.int (G 6 1)]) (st := []) F (fun sz => S_X7_hasRing_2 l D K a G (G 6 1) (G 6 1).toInt rfl hI sz) (cwV 1 hts gX5_run_X7_hasRing rfl rfl rfl (by decide +kernel) ⟨Nat.le_of_ble_eq_true rfl, Nat.le_of_ble_eq_true rfl⟩) rfl 2 xc_2 rfl (Nat.le_of_ble_eq_true rfl) ⟨Nat.zero_le _, Nat.zero_le _⟩ dX5_run_19 (fun r82 _ hw83 => ?_)
  rcases hw83 with ⟨rfl, q85⟩ | ⟨rfl, q86⟩
  · have q85 : (0 ≤ (G 6 1).toInt ∧ (G 6 1).toInt < (G 18 1).toInt) := q85
    refine v_if_eq F 45 dX5_run_22 (by decide) 1 rfl (fun c87 => absurd c87 (by decide)) (fun c87 => ?_)
    refine g_iload F 0 dX5_run_25 rfl ?_
    refine g_iconst F 1 dX5_run_27 (by decide) ?_
    refine v_icmp_lt F 45 dX5_run_28 (by decide) (G 18 0).toInt 1 rfl rfl (fun c88 => absurd c88 (by omega)) (fun c88 => ?_)
    refine g_iload F 0 dX5_run_31 rfl ?_
    refine g_bipush F 16 dX5_run_33 (by decide) ?_
    refine v_icmp_gt F 45 dX5_run_35 (by decide) (G 18 0).toInt 16 rfl rfl (fun c89 => absurd c89 (by omega)) (fun c89 => ?_)
    refine g_aload_n F 2 dX5_run_38 rfl rfl ?_
    refine g_alen F 59 0 xc_59 rfl 96 rfl dX5_run_39 ?_
    refine g_bipush F 96 dX5_run_40 (by decide) ?_
    refine v_icmp_ge F 48 dX5_run_42 (by decide) 96 96 rfl rfl (fun c90 => ?_) (fun c90 => absurd c90 (by decide))
    refine g_aload_n F 2 dX5_run_48 rfl rfl ?_
    refine g_aload_n F 1 dX5_run_49 rfl rfl ?_
    refine xg_6_1 F i_X5 w_9 dX5_run_50 (G 6 1) (rfl) ?_
    refine g_iconst F 0 dX5_run_53 (by decide) ?_
    refine u_call0 (k := 0) (n := 0) (As := [.int (G 6 1), .int 0]) (st := [.ref (a 59)]) F (fun sz => S_X6_placeOf_b5_b15 l D (G 6 1) (G 6 1).toInt 0 0 rfl (by omega) rfl (by decide) sz) (va_cwS 2 hts gX5_run_X6_placeOf rfl rfl rfl (by decide +kernel) ⟨Nat.le_of_ble_eq_true rfl, Nat.le_of_ble_eq_true rfl⟩) rfl (Nat.le_of_ble_eq_true rfl) ⟨Nat.zero_le _, Nat.zero_le _⟩ dX5_run_54 (fun r91 _ hw92 => ?_)
    have rg94 := hw92.1
    have rg95 := hw92.2
    clear hw92
    refine g_aload_n F 1 dX5_run_57 rfl rfl ?_
    refine xg_6_8 F i_X5 w_3 dX5_run_58 ?_
    refine g_iconst F 0 dX5_run_61 (by decide) ?_
    refine g_iload F 0 dX5_run_62 rfl ?_
    refine u_copyi F w_10 w_11 w_12 w_13 59 45 0 xc_59 xc_45 rfl r91.toInt 0 (G 18 0).toInt rfl rfl rfl (by omega) (by decide) (by omega) (by omega) (by omega) (Nat.le_of_ble_eq_true rfl) (Nat.le_of_ble_eq_true rfl) (xW K a (gu_st G 45 (va_cpy (G 59) (G 45) (r91.toInt).toNat 0 ((G 18 0).toInt).toNat))) (xs_45 _) dX5_run_64 ?_
    refine g_aload_n F 1 dX5_run_67 rfl rfl ?_
    refine xg_6_8 F i_X5 w_3 dX5_run_68 ?_
    refine g_iconst F 0 dX5_run_71 (by decide) ?_
    refine g_iload F 0 dX5_run_72 rfl ?_
    refine u_callSi (k := 0) (n := 0) (As := [.ref (a 45), .int 0, .int (G 18 0)]) (st := []) F (fun sz => S_X5_greatest_45 l D K a (gu_st G 45 (va_cpy (G 59) (G 45) (r91.toInt).toNat 0 ((G 18 0).toInt).toNat)) 0 0 (G 18 0) (G 18 0).toInt rfl (by decide) rfl (by omega) (gu_I.cpy (j := 45) (f := G 59) (sp := (r91.toInt).toNat) (dp := 0) hI (fun k_ => (show ((-9998) : Int) ≤ (G 59 ((r91.toInt).toNat + k_)).toInt ∧ (G 59 ((r91.toInt).toNat + k_)).toInt ≤ 5000 from ⟨Int.le_trans (show ((-9998) : Int) ≤ (-9998) by decide) (hI 59 _).1, Int.le_trans (hI 59 _).2 (show (5000 : Int) ≤ 5000 by decide)⟩))) sz) (va_cwS 3 hts gX5_run_X5_greatest rfl rfl rfl (by decide +kernel) ⟨Nat.le_of_ble_eq_true rfl, Nat.le_of_ble_eq_true rfl⟩) rfl (Nat.le_of_ble_eq_true rfl) ⟨Nat.zero_le _, Nat.zero_le _⟩ dX5_run_74 (fun r96 _ hw97 => ?_)
    have q99 : ((0 : Int) = 0 ∧ 1 ≤ (G 18 0).toInt ∧ (G 18 0).toInt ≤ 16 → r96.toInt = psMx ((gu_st G 45 (va_cpy (G 59) (G 45) (r91.toInt).toNat 0 ((G 18 0).toInt).toNat)) 45) ((G 18 0).toInt - 1).toNat) := hw97.2
    have rg100 := hw97.1
    clear hw97
    refine g_istore F [(6, .int r96), (5, .int (G 18 0)), (0, .ref (a 6)), (1, .ref (a 59)), (2, .int p1), (3, .int p2), (4, .int p3)] dX5_run_77 (by decide) rfl ?_
    refine g_iload F 0 dX5_run_79 rfl ?_
    refine g_aload_n F 2 dX5_run_81 rfl rfl ?_
    refine xg_6_3 F i_X5 w_0 dX5_run_82 (G 6 3) (rfl) ?_
    refine g_aload_n F 2 dX5_run_85 rfl rfl ?_
    refine xg_6_4 F i_X5 w_5 dX5_run_86 (G 6 4) (rfl) ?_
    refine g_imul F dX5_run_89 ?_
    have mp0 := Int.mul_nonneg (show (0 : Int) ≤ (G 6 3).toInt by omega) (show (0 : Int) ≤ (G 6 4).toInt by omega)
    have mp1 : (G 6 3).toInt * (G 6 4).toInt ≤ 20 * 12 := Int.mul_le_mul (by omega) (by omega) (by omega) (by omega)
    have mp : (((G 6 3) * (G 6 4)) : Int32).toInt = (G 6 3).toInt * (G 6 4).toInt := ti_mul rfl rfl (by omega) (by omega)
    refine u_isub F dX5_run_90 r96.toInt (((G 6 3) * (G 6 4)) : Int32).toInt rfl rfl (by omega) (by omega) (fun y101 ey101 => ?_)
    refine g_iconst F 1 dX5_run_91 (by decide) ?_
    refine v_icmp_ge F 98 dX5_run_92 (by decide) y101.toInt 1 rfl rfl (fun c102 => ?_) (fun c102 => ?_)
    · refine g_aload_n F 2 dX5_run_98 rfl rfl ?_
      refine g_aload_n F 3 dX5_run_99 rfl rfl ?_
      refine g_iload F 0 dX5_run_100 rfl ?_
      refine u_callVi (k := 0) (n := 0) (b := a 6) (As := [.ref (a 59), .int r96]) (st := []) F (fun sz => S_X5_gapIn_59 l D K a (gu_st G 45 (va_cpy (G 59) (G 45) (r91.toInt).toNat 0 ((G 18 0).toInt).toNat)) r96 r96.toInt rfl (by omega) (by have e9_6_1 : (gu_st G 45 (va_cpy (G 59) (G 45) (r91.toInt).toNat 0 ((G 18 0).toInt).toNat)) 6 1 = (G 6 1) := rfl; (try simp only [e9_6_1, true_and, and_true]) <;> (first | omega | (simp only [Int32.reduceToInt, true_and, and_true, ne_eq, not_true_eq_false, false_and, or_false, false_or, true_or, or_true, false_implies] <;> omega))) (by have e9_6_1 : (gu_st G 45 (va_cpy (G 59) (G 45) (r91.toInt).toNat 0 ((G 18 0).toInt).toNat)) 6 1 = (G 6 1) := rfl; have e9_18_1 : (gu_st G 45 (va_cpy (G 59) (G 45) (r91.toInt).toNat 0 ((G 18 0).toInt).toNat)) 18 1 = (G 18 1) := rfl; (try simp only [e9_6_1, e9_18_1, true_and, and_true]) <;> (first | omega | (simp only [Int32.reduceToInt, true_and, and_true, ne_eq, not_true_eq_false, false_and, or_false, false_or, true_or, or_true, false_implies] <;> omega))) (gu_I.cpy (j := 45) (f := G 59) (sp := (r91.toInt).toNat) (dp := 0) hI (fun k_ => (show ((-9998) : Int) ≤ (G 59 ((r91.toInt).toNat + k_)).toInt ∧ (G 59 ((r91.toInt).toNat + k_)).toInt ≤ 5000 from ⟨Int.le_trans (show ((-9998) : Int) ≤ (-9998) by decide) (hI 59 _).1, Int.le_trans (hI 59 _).2 (show (5000 : Int) ≤ 5000 by decide)⟩))) sz) (cwV 2 hts gX5_run_X5_gapIn rfl rfl rfl (by decide +kernel) ⟨Nat.le_of_ble_eq_true rfl, Nat.le_of_ble_eq_true rfl⟩) rfl 6 xc_6 rfl (Nat.le_of_ble_eq_true rfl) ⟨Nat.zero_le _, Nat.zero_le _⟩ dX5_run_102 (fun r103 _ hw104 => ?_)
      have q106 : (r103.toInt = psGa (G 59) (G 6 1).toInt (G 18 1).toInt (G 18 0).toInt r96.toInt) := hw104.2
      have rg107 := hw104.1
      clear hw104
      refine g_istore F [(7, .int r103), (6, .int r96), (5, .int (G 18 0)), (0, .ref (a 6)), (1, .ref (a 59)), (2, .int p1), (3, .int p2), (4, .int p3)] dX5_run_105 (by decide) rfl ?_
      refine g_aload_n F 3 dX5_run_107 rfl rfl ?_
      refine g_iload_n F 5 dX5_run_108 rfl rfl ?_
      refine u_callVv (k := 0) (n := 0) (b := a 6) (As := [.int p1]) (st := []) F (fun sz => S_X5_begin l D K a (gu_st G 45 (va_cpy (G 59) (G 45) (r91.toInt).toNat 0 ((G 18 0).toInt).toNat)) p1 s1 e1 (by omega) (gu_I.cpy (j := 45) (f := G 59) (sp := (r91.toInt).toNat) (dp := 0) hI (fun k_ => (show ((-9998) : Int) ≤ (G 59 ((r91.toInt).toNat + k_)).toInt ∧ (G 59 ((r91.toInt).toNat + k_)).toInt ≤ 5000 from ⟨Int.le_trans (show ((-9998) : Int) ≤ (-9998) by decide) (hI 59 _).1, Int.le_trans (hI 59 _).2 (show (5000 : Int) ≤ 5000 by decide)⟩))) sz) (cwV 1 hts gX5_run_X5_begin rfl rfl rfl (by decide +kernel) ⟨Nat.le_of_ble_eq_true rfl, Nat.le_of_ble_eq_true rfl⟩) rfl 6 xc_6 rfl (Nat.le_of_ble_eq_true rfl) ⟨Nat.zero_le _, Nat.zero_le _⟩ dX5_run_109 (fun G110 hw109 => ?_)
      have hI111 : xI G110 := hw109.1
      have hU112 : gu_un xcd [608, 613, 614, 615, 617, 618, 619, 620, 4400, 4600] (gu_st G 45 (va_cpy (G 59) (G 45) (r91.toInt).toNat 0 ((G 18 0).toInt).toNat)) G110 := hw109.2.1
      have hp113 := hw109.2.2
      have q114 : xMt (gu_st G 45 (va_cpy (G 59) (G 45) (r91.toInt).toNat 0 ((G 18 0).toInt).toNat)) G110 := hp113.1
      have q115 : (∀ q : Nat, q < 16 → G110 46 q = -1) := hp113.2.1
      have q116 : (G110 6 12 = p1 ∧ G110 6 13 = 0 ∧ G110 6 14 = 0 ∧ G110 6 16 = 0 ∧ G110 6 17 = 0 ∧ G110 6 18 = 0 ∧ G110 6 19 = 0) := hp113.2.2
      have bz13 : (G110 6 13).toInt = 0 := by rw [q116.2.1]; rfl
      have bz14 : (G110 6 14).toInt = 0 := by rw [q116.2.2.1]; rfl
      have bz19 : (G110 6 19).toInt = 0 := by rw [q116.2.2.2.2.2.2]; rfl
      clear hp113 hw109
      refine g_iconst F 0 dX5_run_112 (by decide) ?_
      refine g_istore F [(8, .int 0), (7, .int r103), (6, .int r96), (5, .int (G 18 0)), (0, .ref (a 6)), (1, .ref (a 59)), (2, .int p1), (3, .int p2), (4, .int p3)] dX5_run_113 (by decide) rfl ?_
      refine g_iconst F 0 dX5_run_115 (by decide) ?_
      refine g_istore F [(9, .int 0), (8, .int 0), (7, .int r103), (6, .int r96), (5, .int (G 18 0)), (0, .ref (a 6)), (1, .ref (a 59)), (2, .int p1), (3, .int p2), (4, .int p3)] dX5_run_116 (by decide) rfl ?_
      refine g_iconst F 0 dX5_run_118 (by decide) ?_
      refine g_istore F [(10, .int 0), (9, .int 0), (8, .int 0), (7, .int r103), (6, .int r96), (5, .int (G 18 0)), (0, .ref (a 6)), (1, .ref (a 59)), (2, .int p1), (3, .int p2), (4, .int p3)] dX5_run_119 (by decide) rfl ?_
      refine g_locals [(0, .ref (a 6)), (3, .int p2), (4, .int p3), (5, .int (G 18 0)), (6, .int r96), (7, .int r103), (8, .int 0), (9, .int 0), (10, .int 0)] [6, 9, 10, 5, 4, 3, 2, 1, 0] rfl ?_
      exact J_121 _ r96 r103 0 0 0 G110 (Nat.lt_succ_self _) (by have h9 := ti_rng r96; omega) (by have h9 := ti_rng r103; omega) (by decide) (by decide) (by decide) hI111 (gu_un.tr (gu_un.sw (j := 45) (f := (va_cpy (G 59) (G 45) (r91.toInt).toNat 0 ((G 18 0).toInt).toNat)) gu_un.rf (fun _ => show (4500 : Nat) ∈ ([608, 613, 614, 615, 617, 618, 619, 620, 2100, 2400, 2700, 4400, 4500, 4600, 4700, 4800] : List Nat) by decide)) (gu_un.su hU112 rfl)) (⟨0, by rw [show Int32.toInt 0 = 0 from rfl, Int.zero_mul]; exact Int.le_refl 0, fun _ => ⟨by rw [show Int32.toInt 0 = 0 from rfl, Int.zero_mul]; rfl, by show (0 : Int) = 0 % _; rw [Int.zero_emod]⟩, fun hz => ⟨(xRl.at0 (fun q hq => by rw [(show G110 45 = (va_cpy (G 59) (G 45) (r91.toInt).toNat 0 ((G 18 0).toInt).toNat) from ((show G110 45 = (gu_st G 45 (va_cpy (G 59) (G 45) (r91.toInt).toNat 0 ((G 18 0).toInt).toNat)) 45 from funext fun k_ => hU112 45 k_ (by simp [xcd])).trans (show (gu_st G 45 (va_cpy (G 59) (G 45) (r91.toInt).toNat 0 ((G 18 0).toInt).toNat)) 45 = (va_cpy (G 59) (G 45) (r91.toInt).toNat 0 ((G 18 0).toInt).toNat) from rfl)))]; unfold va_cpy; rw [if_pos (by omega)]; congr 1; omega) q115 (by omega) q116).sh rfl, fun Q C _ h9 => absurd rfl h9⟩⟩) (⟨by rw [q99 ⟨rfl, by omega, by omega⟩]; exact psMx_eq (h := (gu_st G 45 (va_cpy (G 59) (G 45) (r91.toInt).toNat 0 ((G 18 0).toInt).toNat)) 45) (g := psHr (G 59) (G 6 1).toInt (G 18 0).toInt) (n := ((G 18 0).toInt - 1).toNat) (fun q hq => by show va_cpy _ _ _ _ _ q = psHr _ _ _ q; unfold va_cpy psHr; rw [if_pos (by omega), if_pos (by omega)]; congr 1; omega), q106⟩) (xMt.tr q114 (show G110 6 7 = G110 6 7 from (show gu_un xcd [] G110 G110 from gu_un.rf) 6 7 (by decide)) (show G110 44 = G110 44 from funext fun k_ => (show gu_un xcd [] G110 G110 from gu_un.rf) 44 k_ (by simp [xcd]))) (by (first | omega | (simp only [Int32.reduceToInt, true_and, and_true, ne_eq, not_true_eq_false, false_and, or_false, false_or, true_or, or_true, false_implies] <;> omega))) (by (first | omega | (simp only [Int32.reduceToInt, true_and, and_true, ne_eq, not_true_eq_false, false_and, or_false, false_or, true_or, or_true, false_implies] <;> omega))) (by have e9_6_4 : G110 6 4 = (G 6 4) := hU112 6 4 (by decide); (try simp only [e9_6_4, true_and, and_true]) <;> (first | omega | (simp only [Int32.reduceToInt, true_and, and_true, ne_eq, not_true_eq_false, false_and, or_false, false_or, true_or, or_true, false_implies] <;> omega))) (by omega)
    · refine g_bipush F (-4) dX5_run_95 (by decide) ?_
      exact u_iret F hA hQ hr (gu_st G 45 (va_cpy (G 59) (G 45) (r91.toInt).toNat 0 ((G 18 0).toInt).toNat)) (⟨(gu_I.cpy (j := 45) (f := G 59) (sp := (r91.toInt).toNat) (dp := 0) hI (fun k_ => (show ((-9998) : Int) ≤ (G 59 ((r91.toInt).toNat + k_)).toInt ∧ (G 59 ((r91.toInt).toNat + k_)).toInt ≤ 5000 from ⟨Int.le_trans (show ((-9998) : Int) ≤ (-9998) by decide) (hI 59 _).1, Int.le_trans (hI 59 _).2 (show (5000 : Int) ≤ 5000 by decide)⟩))), (gu_un.sw (j := 45) (f := (va_cpy (G 59) (G 45) (r91.toInt).toNat 0 ((G 18 0).toInt).toNat)) gu_un.rf (fun _ => show (4500 : Nat) ∈ ([608, 613, 614, 615, 616, 617, 618, 619, 620, 2100, 2400, 2700, 4400, 4500, 4600, 4700, 4800] : List Nat) by decide)), (by decide), (by show ((-4) = -4 ∨ (0 ≤ (-4) ∧ (-4) ≤ 2)); (first | omega | (simp only [Int32.reduceToInt, true_and, and_true, ne_eq, not_true_eq_false, false_and, or_false, false_or, true_or, or_true, false_implies] <;> omega))), (fun h9 => absurd rfl h9.2), (by have h7 := q99 ⟨rfl, by omega, by omega⟩; have h6 := psMx_eq (h := (gu_st G 45 (va_cpy (G 59) (G 45) (r91.toInt).toNat 0 ((G 18 0).toInt).toNat)) 45) (g := psHr (G 59) (G 6 1).toInt (G 18 0).toInt) (n := ((G 18 0).toInt - 1).toNat) (fun q hq => by show va_cpy _ _ _ _ _ q = psHr _ _ _ q; unfold va_cpy psHr; rw [if_pos (by omega), if_pos (by omega)]; congr 1; omega); rw [h6] at h7; exact Or.inl ⟨by decide, by omega⟩)⟩) rfl rfl dX5_run_97
  · have q86 : ((G 6 1).toInt < 0 ∨ (G 18 1).toInt ≤ (G 6 1).toInt) := q86
    refine v_if_eq F 45 dX5_run_22 (by decide) 0 rfl (fun c117 => ?_) (fun c117 => absurd c117 (by decide))
    refine g_bipush F (-4) dX5_run_45 (by decide) ?_
    exact u_iret F hA hQ hr G (⟨hI, gu_un.rf, (by decide), (by show ((-4) = -4 ∨ (0 ≤ (-4) ∧ (-4) ≤ 2)); (first | omega | (simp only [Int32.reduceToInt, true_and, and_true, ne_eq, not_true_eq_false, false_and, or_false, false_or, true_or, or_true, false_implies] <;> omega))), (fun h9 => absurd rfl h9.2), (by exfalso; omega)⟩) rfl rfl dX5_run_47


set_option maxHeartbeats 4000000 in
set_option maxRecDepth 100000 in
theorem S_X5_storeHeights_60 (l : Launch) (D : va_G) (K : Nat → ClassId) (a : Nat → Nat) (G : gS) (hrg : (0 ≤ (G 6 1).toInt ∧ (G 6 1).toInt ≤ 5)) (hI : xI G) (sz : Nat) : Kv l yX5_storeHeights wsX5_storeHeights 2 61 0 0 D [.ref (a 6), .ref (a 60)] (xW K a G) (tK K) sz (fun (G' : gS) => (xI G') ∧ (gu_un xcd [6000] G G') ∧ ((∀ q : Nat, G' 60 q = sHr (G 60) (G 45) (G 6 1).toInt (G 18 0).toInt q))) (fun (G' : gS) => (xW K a G')) (fun _ => (tK K)) := by
  unfold Kv
  refine g_ofW (cc := cX5_storeHeights) (lv := [(0, .ref (a 6)), (1, .ref (a 60))]) (by decide) rfl (Nat.le_of_ble_eq_true rfl) rfl ?_
  intro p e s m args below meth c A Q hA hQ F hr hnm
  have hts := F.2.2.2.2.1
  have w_0 : (Cond.fieldLink RX5 17 "QuietCut$Lathe" "heights" "[I").before args s = true := hts _ (List.mem_of_getElem? (i := 4) rfl)
  have i_X5 : ∀ w ∈ u_ws RX5 TX5 20, w ∈ wsX5_storeHeights := fun _ h => List.mem_cons_of_mem _ (List.mem_append_left _ (List.mem_append_right _ h))
  have w_1 : (Cond.fieldLink RX5 29 "QuietCut$Lathe" "shop" "LQuietCut$Shop;").before args s = true := hts _ (List.mem_of_getElem? (i := 1) rfl)
  have w_2 : (Cond.fieldLink RX5 56 "QuietCut$Shop" "numbers" "[I").before args s = true := hts _ (List.mem_of_getElem? (i := 2) rfl)
  have i_X7 : ∀ w ∈ u_ws RX7 TX7 4, w ∈ wsX5_storeHeights := fun _ h => List.mem_cons_of_mem _ (List.mem_append_right _ h)
  have w_3 : (Cond.fieldLink RX5 33 "QuietCut$Lathe" "ring" "I").before args s = true := hts _ (List.mem_of_getElem? (i := 3) rfl)
  have b1 : (4 : Int) ≤ (G 18 0).toInt ∧ (G 18 0).toInt ≤ 16 := hI 18 0
  have J_22 : ∀ (fuel : Nat) (x22_3 : Int32) (x22_4 : Int32) (Gj22 : gS), (2147483647 - x22_4.toInt).toNat < fuel → (0 ≤ x22_3.toInt ∧ x22_3.toInt ≤ 95) → (0 ≤ x22_4.toInt ∧ x22_4.toInt ≤ 16) → (xI Gj22) → (gu_un xcd [6000] G Gj22) → (∀ q : Nat, Gj22 60 q = sHr (G 60) (G 45) (G 6 1).toInt x22_4.toInt q) → ((x22_3.toInt = (G 6 1).toInt * 16)) → ((x22_4.toInt ≤ (G 18 0).toInt)) → gG p l e (gR 2 0 0 61) s m args below meth c D A 5 Q 0 0 (xW K a Gj22) (tK K) [(0, .ref (a 6)), (1, .ref (a 60)), (2, .int (G 18 0)), (3, .int x22_3), (4, .int x22_4)] 22 [] := by
    intro fuel
    induction fuel with
    | zero => intro x22_3 x22_4 Gj22 hm; exact absurd hm (Nat.not_lt_zero _)
    | succ fuel_22 ih_22 =>
      intro x22_3 x22_4 Gj22 hm_22 h22_3 h22_4 jI22 jU22 sh s3 il
      refine g_iload F 4 dX5_storeHeights_22 rfl ?_
      refine g_iload_n F 2 dX5_storeHeights_24 rfl rfl ?_
      refine v_icmp_ge F 67 dX5_storeHeights_25 (by decide) x22_4.toInt (G 18 0).toInt rfl rfl (fun c2 => ?_) (fun c2 => ?_)
      · exact u_vret F hA hQ hr Gj22 (⟨jI22, (gu_un.tr gu_un.rf (gu_un.su jU22 rfl)), (fun q => by have h9 := sh q; rw [show x22_4.toInt = (G 18 0).toInt by omega] at h9; exact h9)⟩) rfl rfl dX5_storeHeights_67
      · refine g_iload F 4 dX5_storeHeights_28 rfl ?_
        refine g_bipush F 16 dX5_storeHeights_30 (by decide) ?_
        refine v_icmp_ge F 67 dX5_storeHeights_32 (by decide) x22_4.toInt 16 rfl rfl (fun c3 => absurd c3 (by omega)) (fun c3 => ?_)
        refine g_iload_n F 3 dX5_storeHeights_35 rfl rfl ?_
        refine v_if_lt F 61 dX5_storeHeights_36 (by decide) x22_3.toInt rfl (fun c4 => absurd c4 (by omega)) (fun c4 => ?_)
        refine g_iload_n F 3 dX5_storeHeights_39 rfl rfl ?_
        refine g_iload F 4 dX5_storeHeights_40 rfl ?_
        refine u_iadd F dX5_storeHeights_42 x22_3.toInt x22_4.toInt rfl rfl (by omega) (by omega) (fun y5 ey5 => ?_)
        refine g_aload_n F 1 dX5_storeHeights_43 rfl rfl ?_
        refine g_alen F 60 0 xc_60 rfl 96 rfl dX5_storeHeights_44 ?_
        refine v_icmp_ge F 61 dX5_storeHeights_45 (by decide) y5.toInt 96 rfl rfl (fun c6 => ?_) (fun c6 => ?_)
        · refine u_iinc F (fun v_ => [(4, .int v_), (0, .ref (a 6)), (1, .ref (a 60)), (2, .int (G 18 0)), (3, .int x22_3)]) dX5_storeHeights_61 (j := 4) rfl x22_4.toInt 1 rfl rfl (by omega) (by omega) (by decide) (fun _ => rfl) (fun y7 ey7 => ?_)
          refine g_goto F 22 dX5_storeHeights_64 (by decide) ?_
          refine g_locals [(0, .ref (a 6)), (1, .ref (a 60)), (2, .int (G 18 0)), (3, .int x22_3), (4, .int y7)] [1, 2, 3, 4, 0] rfl ?_
          exact ih_22 x22_3 y7 Gj22 (by omega) (by have h9 := ti_rng x22_3; omega) (by have h9 := ti_rng y7; omega) jI22 (gu_un.tr gu_un.rf (gu_un.su jU22 rfl)) (by exfalso; omega) (by have e9_6_1 : Gj22 6 1 = (G 6 1) := jU22 6 1 (by decide); (try simp only [e9_6_1, true_and, and_true]) <;> (first | omega | (simp only [Int32.reduceToInt, true_and, and_true, ne_eq, not_true_eq_false, false_and, or_false, false_or, true_or, or_true, false_implies] <;> omega))) (by have e9_18_0 : Gj22 18 0 = (G 18 0) := jU22 18 0 (by decide); (try simp only [e9_18_0, true_and, and_true]) <;> (first | omega | (simp only [Int32.reduceToInt, true_and, and_true, ne_eq, not_true_eq_false, false_and, or_false, false_or, true_or, or_true, false_implies] <;> omega)))
        · refine g_aload_n F 1 dX5_storeHeights_48 rfl rfl ?_
          refine g_iload_n F 3 dX5_storeHeights_49 rfl rfl ?_
          refine g_iload F 4 dX5_storeHeights_50 rfl ?_
          refine u_iadd F dX5_storeHeights_52 x22_3.toInt x22_4.toInt rfl rfl (by omega) (by omega) (fun y8 ey8 => ?_)
          refine g_aload_n F 0 dX5_storeHeights_53 rfl rfl ?_
          refine xg_6_8 F i_X5 w_0 dX5_storeHeights_54 ?_
          refine g_iload F 4 dX5_storeHeights_57 rfl ?_
          refine u1_iald F 45 0 xc_45 rfl x22_4.toInt rfl (by omega) (by omega) dX5_storeHeights_59 ((G 45) (x22_4.toInt).toNat) (congrFun ((show Gj22 45 = G 45 from funext fun k_ => jU22 45 k_ (show (4500 : Nat) ∉ ([6000] : List Nat) by decide))) _) ?_
          have b9 : ((-9998) : Int) ≤ ((G 45) (x22_4.toInt).toNat).toInt ∧ ((G 45) (x22_4.toInt).toNat).toInt ≤ 5000 := hI 45 _
          refine u_iast F 60 0 xc_60 rfl y8.toInt rfl (by omega) (by omega) (xW K a (gu_up Gj22 60 (y8.toInt).toNat ((G 45) (x22_4.toInt).toNat))) (xs_60 _) dX5_storeHeights_60 ?_
          refine u_iinc F (fun v_ => [(4, .int v_), (0, .ref (a 6)), (1, .ref (a 60)), (2, .int (G 18 0)), (3, .int x22_3)]) dX5_storeHeights_61 (j := 4) rfl x22_4.toInt 1 rfl rfl (by omega) (by omega) (by decide) (fun _ => rfl) (fun y10 ey10 => ?_)
          refine g_goto F 22 dX5_storeHeights_64 (by decide) ?_
          refine g_locals [(0, .ref (a 6)), (1, .ref (a 60)), (2, .int (G 18 0)), (3, .int x22_3), (4, .int y10)] [1, 2, 3, 4, 0] rfl ?_
          exact ih_22 x22_3 y10 (gu_up Gj22 60 (y8.toInt).toNat ((G 45) (x22_4.toInt).toNat)) (by omega) (by have h9 := ti_rng x22_3; omega) (by have h9 := ti_rng y10; omega) (gu_I.up (j := 60) (k := (y8.toInt).toNat) (v := ((G 45) (x22_4.toInt).toNat)) jI22 (show ((-9998) : Int) ≤ Int32.toInt ((G 45) (x22_4.toInt).toNat) by omega) (show Int32.toInt ((G 45) (x22_4.toInt).toNat) ≤ 5000 by omega)) (gu_un.up (j := 60) (k := (y8.toInt).toNat) (v := ((G 45) (x22_4.toInt).toNat)) (gu_un.tr gu_un.rf (gu_un.su jU22 rfl)) (show (6000 : Nat) ∈ ([6000] : List Nat) by decide)) (sHr_1 (i := x22_4.toInt) (k := y8.toInt) sh (by omega) (by omega) (by omega) rfl (by omega)) (by have e9_6_1 : (gu_up Gj22 60 (y8.toInt).toNat ((G 45) (x22_4.toInt).toNat)) 6 1 = (G 6 1) := jU22 6 1 (by decide); (try simp only [e9_6_1, true_and, and_true]) <;> (first | omega | (simp only [Int32.reduceToInt, true_and, and_true, ne_eq, not_true_eq_false, false_and, or_false, false_or, true_or, or_true, false_implies] <;> omega))) (by have e9_18_0 : (gu_up Gj22 60 (y8.toInt).toNat ((G 45) (x22_4.toInt).toNat)) 18 0 = (G 18 0) := jU22 18 0 (by decide); (try simp only [e9_18_0, true_and, and_true]) <;> (first | omega | (simp only [Int32.reduceToInt, true_and, and_true, ne_eq, not_true_eq_false, false_and, or_false, false_or, true_or, or_true, false_implies] <;> omega)))
  refine g_aload_n F 0 dX5_storeHeights_0 rfl rfl ?_
  refine xg_6_0 F i_X5 w_1 dX5_storeHeights_1 ?_
  refine xg_2_0 F i_X7 w_2 dX5_storeHeights_4 ?_
  refine g_iconst F 0 dX5_storeHeights_7 (by decide) ?_
  refine u1_iald F 18 0 xc_18 rfl 0 rfl (by decide) (by decide) dX5_storeHeights_8 (G 18 0) (rfl) ?_
  refine g_istore_n F [(2, .int (G 18 0)), (0, .ref (a 6)), (1, .ref (a 60))] dX5_storeHeights_9 rfl (by decide) rfl ?_
  refine g_aload_n F 1 dX5_storeHeights_10 rfl rfl ?_
  refine xg_6_1 F i_X5 w_3 dX5_storeHeights_11 (G 6 1) (rfl) ?_
  refine g_iconst F 0 dX5_storeHeights_14 (by decide) ?_
  refine u_call0 (k := 0) (n := 0) (As := [.int (G 6 1), .int 0]) (st := []) F (fun sz => S_X6_placeOf_b5_b15 l D (G 6 1) (G 6 1).toInt 0 0 rfl (by omega) rfl (by decide) sz) (va_cwS 2 hts gX5_storeHeights_X6_placeOf rfl rfl rfl (by decide +kernel) ⟨Nat.le_of_ble_eq_true rfl, Nat.le_of_ble_eq_true rfl⟩) rfl (Nat.le_of_ble_eq_true rfl) ⟨Nat.zero_le _, Nat.zero_le _⟩ dX5_storeHeights_15 (fun r11 _ hw12 => ?_)
  have rg14 := hw12.1
  have rg15 := hw12.2
  clear hw12
  refine g_istore_n F [(3, .int r11), (2, .int (G 18 0)), (0, .ref (a 6)), (1, .ref (a 60))] dX5_storeHeights_18 rfl (by decide) rfl ?_
  refine g_iconst F 0 dX5_storeHeights_19 (by decide) ?_
  refine g_istore F [(4, .int 0), (3, .int r11), (2, .int (G 18 0)), (0, .ref (a 6)), (1, .ref (a 60))] dX5_storeHeights_20 (by decide) rfl ?_
  refine g_locals [(0, .ref (a 6)), (1, .ref (a 60)), (2, .int (G 18 0)), (3, .int r11), (4, .int 0)] [3, 4, 2, 1, 0] rfl ?_
  exact J_22 _ r11 0 G (Nat.lt_succ_self _) (by have h9 := ti_rng r11; omega) (by decide) hI gu_un.rf (sHr_0 rfl) (by (first | omega | (simp only [Int32.reduceToInt, true_and, and_true, ne_eq, not_true_eq_false, false_and, or_false, false_or, true_or, or_true, false_implies] <;> omega))) (by (first | omega | (simp only [Int32.reduceToInt, true_and, and_true, ne_eq, not_true_eq_false, false_and, or_false, false_or, true_or, or_true, false_implies] <;> omega)))

theorem dX4_staysQuiet_0 : decode cX4_staysQuiet 0 = .ok (.aload_n 0, 1) := by decide +kernel
theorem dX4_staysQuiet_1 : decode cX4_staysQuiet 1 = .ok (.getfield 33, 3) := by decide +kernel
theorem dX4_staysQuiet_4 : decode cX4_staysQuiet 4 = .ok (.aload_n 0, 1) := by decide +kernel
theorem dX4_staysQuiet_5 : decode cX4_staysQuiet 5 = .ok (.getfield 13, 3) := by decide +kernel
theorem dX4_staysQuiet_8 : decode cX4_staysQuiet 8 = .ok (.iconst 0, 1) := by decide +kernel
theorem dX4_staysQuiet_9 : decode cX4_staysQuiet 9 = .ok (.aaload, 1) := by decide +kernel
theorem dX4_staysQuiet_10 : decode cX4_staysQuiet 10 = .ok (.iload_n 1, 1) := by decide +kernel
theorem dX4_staysQuiet_11 : decode cX4_staysQuiet 11 = .ok (.iaload, 1) := by decide +kernel
theorem dX4_staysQuiet_12 : decode cX4_staysQuiet 12 = .ok (.aload_n 0, 1) := by decide +kernel
theorem dX4_staysQuiet_13 : decode cX4_staysQuiet 13 = .ok (.getfield 13, 3) := by decide +kernel
theorem dX4_staysQuiet_16 : decode cX4_staysQuiet 16 = .ok (.iconst 1, 1) := by decide +kernel
theorem dX4_staysQuiet_17 : decode cX4_staysQuiet 17 = .ok (.aaload, 1) := by decide +kernel
theorem dX4_staysQuiet_18 : decode cX4_staysQuiet 18 = .ok (.iload_n 1, 1) := by decide +kernel
theorem dX4_staysQuiet_19 : decode cX4_staysQuiet 19 = .ok (.iaload, 1) := by decide +kernel
theorem dX4_staysQuiet_20 : decode cX4_staysQuiet 20 = .ok (.aload_n 0, 1) := by decide +kernel
theorem dX4_staysQuiet_21 : decode cX4_staysQuiet 21 = .ok (.getfield 13, 3) := by decide +kernel
theorem dX4_staysQuiet_24 : decode cX4_staysQuiet 24 = .ok (.iconst 2, 1) := by decide +kernel
theorem dX4_staysQuiet_25 : decode cX4_staysQuiet 25 = .ok (.aaload, 1) := by decide +kernel
theorem dX4_staysQuiet_26 : decode cX4_staysQuiet 26 = .ok (.iload_n 1, 1) := by decide +kernel
theorem dX4_staysQuiet_27 : decode cX4_staysQuiet 27 = .ok (.iaload, 1) := by decide +kernel
theorem dX4_staysQuiet_28 : decode cX4_staysQuiet 28 = .ok (.aload_n 0, 1) := by decide +kernel
theorem dX4_staysQuiet_29 : decode cX4_staysQuiet 29 = .ok (.getfield 13, 3) := by decide +kernel
theorem dX4_staysQuiet_32 : decode cX4_staysQuiet 32 = .ok (.iconst 3, 1) := by decide +kernel
theorem dX4_staysQuiet_33 : decode cX4_staysQuiet 33 = .ok (.aaload, 1) := by decide +kernel
theorem dX4_staysQuiet_34 : decode cX4_staysQuiet 34 = .ok (.iload_n 1, 1) := by decide +kernel
theorem dX4_staysQuiet_35 : decode cX4_staysQuiet 35 = .ok (.iaload, 1) := by decide +kernel
theorem dX4_staysQuiet_36 : decode cX4_staysQuiet 36 = .ok (.invokevirtual 82, 3) := by decide +kernel
theorem dX4_staysQuiet_39 : decode cX4_staysQuiet 39 = .ok (.ifCond .ne 5, 3) := by decide +kernel
theorem dX4_staysQuiet_42 : decode cX4_staysQuiet 42 = .ok (.iconst 0, 1) := by decide +kernel
theorem dX4_staysQuiet_43 : decode cX4_staysQuiet 43 = .ok (.ireturn, 1) := by decide +kernel
theorem dX4_staysQuiet_44 : decode cX4_staysQuiet 44 = .ok (.aload_n 0, 1) := by decide +kernel
theorem dX4_staysQuiet_45 : decode cX4_staysQuiet 45 = .ok (.getfield 33, 3) := by decide +kernel
theorem dX4_staysQuiet_48 : decode cX4_staysQuiet 48 = .ok (.aload_n 0, 1) := by decide +kernel
theorem dX4_staysQuiet_49 : decode cX4_staysQuiet 49 = .ok (.getfield 16, 3) := by decide +kernel
theorem dX4_staysQuiet_52 : decode cX4_staysQuiet 52 = .ok (.iload_n 2, 1) := by decide +kernel
theorem dX4_staysQuiet_53 : decode cX4_staysQuiet 53 = .ok (.aaload, 1) := by decide +kernel
theorem dX4_staysQuiet_54 : decode cX4_staysQuiet 54 = .ok (.aload_n 0, 1) := by decide +kernel
theorem dX4_staysQuiet_55 : decode cX4_staysQuiet 55 = .ok (.getfield 19, 3) := by decide +kernel
theorem dX4_staysQuiet_58 : decode cX4_staysQuiet 58 = .ok (.iload_n 2, 1) := by decide +kernel
theorem dX4_staysQuiet_59 : decode cX4_staysQuiet 59 = .ok (.iaload, 1) := by decide +kernel
theorem dX4_staysQuiet_60 : decode cX4_staysQuiet 60 = .ok (.aload_n 0, 1) := by decide +kernel
theorem dX4_staysQuiet_61 : decode cX4_staysQuiet 61 = .ok (.getfield 44, 3) := by decide +kernel
theorem dX4_staysQuiet_64 : decode cX4_staysQuiet 64 = .ok (.aload_n 0, 1) := by decide +kernel
theorem dX4_staysQuiet_65 : decode cX4_staysQuiet 65 = .ok (.getfield 47, 3) := by decide +kernel
theorem dX4_staysQuiet_68 : decode cX4_staysQuiet 68 = .ok (.invokevirtual 86, 3) := by decide +kernel
theorem dX4_staysQuiet_71 : decode cX4_staysQuiet 71 = .ok (.ifCond .eq 5, 3) := by decide +kernel
theorem dX4_staysQuiet_74 : decode cX4_staysQuiet 74 = .ok (.iconst 0, 1) := by decide +kernel
theorem dX4_staysQuiet_75 : decode cX4_staysQuiet 75 = .ok (.ireturn, 1) := by decide +kernel
theorem dX4_staysQuiet_76 : decode cX4_staysQuiet 76 = .ok (.aload_n 0, 1) := by decide +kernel
theorem dX4_staysQuiet_77 : decode cX4_staysQuiet 77 = .ok (.getfield 16, 3) := by decide +kernel
theorem dX4_staysQuiet_80 : decode cX4_staysQuiet 80 = .ok (.iload_n 2, 1) := by decide +kernel
theorem dX4_staysQuiet_81 : decode cX4_staysQuiet 81 = .ok (.aaload, 1) := by decide +kernel
theorem dX4_staysQuiet_82 : decode cX4_staysQuiet 82 = .ok (.iconst 0, 1) := by decide +kernel
theorem dX4_staysQuiet_83 : decode cX4_staysQuiet 83 = .ok (.aload_n 0, 1) := by decide +kernel
theorem dX4_staysQuiet_84 : decode cX4_staysQuiet 84 = .ok (.getfield 16, 3) := by decide +kernel
theorem dX4_staysQuiet_87 : decode cX4_staysQuiet 87 = .ok (.iload_n 2, 1) := by decide +kernel
theorem dX4_staysQuiet_88 : decode cX4_staysQuiet 88 = .ok (.iconst 1, 1) := by decide +kernel
theorem dX4_staysQuiet_89 : decode cX4_staysQuiet 89 = .ok (.iadd, 1) := by decide +kernel
theorem dX4_staysQuiet_90 : decode cX4_staysQuiet 90 = .ok (.aaload, 1) := by decide +kernel
theorem dX4_staysQuiet_91 : decode cX4_staysQuiet 91 = .ok (.iconst 0, 1) := by decide +kernel
theorem dX4_staysQuiet_92 : decode cX4_staysQuiet 92 = .ok (.bipush 96, 2) := by decide +kernel
theorem dX4_staysQuiet_94 : decode cX4_staysQuiet 94 = .ok (.invokestatic 64, 3) := by decide +kernel
theorem dX4_staysQuiet_97 : decode cX4_staysQuiet 97 = .ok (.aload_n 0, 1) := by decide +kernel
theorem dX4_staysQuiet_98 : decode cX4_staysQuiet 98 = .ok (.getfield 33, 3) := by decide +kernel
theorem dX4_staysQuiet_101 : decode cX4_staysQuiet 101 = .ok (.aload_n 0, 1) := by decide +kernel
theorem dX4_staysQuiet_102 : decode cX4_staysQuiet 102 = .ok (.getfield 16, 3) := by decide +kernel
theorem dX4_staysQuiet_105 : decode cX4_staysQuiet 105 = .ok (.iload_n 2, 1) := by decide +kernel
theorem dX4_staysQuiet_106 : decode cX4_staysQuiet 106 = .ok (.iconst 1, 1) := by decide +kernel
theorem dX4_staysQuiet_107 : decode cX4_staysQuiet 107 = .ok (.iadd, 1) := by decide +kernel
theorem dX4_staysQuiet_108 : decode cX4_staysQuiet 108 = .ok (.aaload, 1) := by decide +kernel
theorem dX4_staysQuiet_109 : decode cX4_staysQuiet 109 = .ok (.invokevirtual 90, 3) := by decide +kernel
theorem dX4_staysQuiet_112 : decode cX4_staysQuiet 112 = .ok (.aload_n 0, 1) := by decide +kernel
theorem dX4_staysQuiet_113 : decode cX4_staysQuiet 113 = .ok (.getfield 19, 3) := by decide +kernel
theorem dX4_staysQuiet_116 : decode cX4_staysQuiet 116 = .ok (.iload_n 2, 1) := by decide +kernel
theorem dX4_staysQuiet_117 : decode cX4_staysQuiet 117 = .ok (.iconst 1, 1) := by decide +kernel
theorem dX4_staysQuiet_118 : decode cX4_staysQuiet 118 = .ok (.iadd, 1) := by decide +kernel
theorem dX4_staysQuiet_119 : decode cX4_staysQuiet 119 = .ok (.aload_n 0, 1) := by decide +kernel
theorem dX4_staysQuiet_120 : decode cX4_staysQuiet 120 = .ok (.getfield 33, 3) := by decide +kernel
theorem dX4_staysQuiet_123 : decode cX4_staysQuiet 123 = .ok (.getfield 94, 3) := by decide +kernel
theorem dX4_staysQuiet_126 : decode cX4_staysQuiet 126 = .ok (.iastore, 1) := by decide +kernel
theorem dX4_staysQuiet_127 : decode cX4_staysQuiet 127 = .ok (.iconst 1, 1) := by decide +kernel
theorem dX4_staysQuiet_128 : decode cX4_staysQuiet 128 = .ok (.ireturn, 1) := by decide +kernel
set_option maxRecDepth 20000 in
theorem ggX4_staysQuiet_X5_run : GoodIn wsX4_staysQuiet wsX5_run := goodIn_r _ [31, 21, 32, 17, 33, 34, 8, 9, 10, 19, 20, 35, 36, 18, 37, 22, 23, 24, 25, 26, 27, 38, 39, 40, 41, 42, 43, 15, 44, 45, 46, 47, 48, 49, 50, 51, 52, 53, 54, 55, 56, 57, 58, 59, 60, 61, 62, 63, 64, 65, 66, 67, 68, 69, 70, 71, 72, 73, 74, 75, 76, 77, 78, 79, 80, 81, 82, 83, 84, 85, 86, 87, 88, 89, 90, 91, 92, 93, 94, 95, 96, 97, 98, 99, 100, 101, 102, 103, 104, 105, 106, 107, 108, 109, 110, 111, 112, 113, 114, 115, 116, 117, 118, 119, 120, 137, 138, 139, 140, 141, 142, 143, 144, 145, 146, 147, 148, 149, 150, 151, 152, 153, 154, 155, 156, 157, 158, 159, 160, 161, 162, 163, 164, 165, 166, 167, 168, 169] rfl (by decide +kernel)
set_option maxRecDepth 20000 in
theorem gX4_staysQuiet_X5_run : GoodIn wsX4_staysQuiet (wsV RX4 86 RX5 yX5_run wsX5_run) := goodIn_app (goodIn_of _ (by decide +kernel)) ggX4_staysQuiet_X5_run
set_option maxRecDepth 20000 in
theorem ggX4_staysQuiet_X5_storeHeights : GoodIn wsX4_staysQuiet wsX5_storeHeights := goodIn_r _ [124, 21, 32, 17, 33, 38, 39, 40, 41, 137, 138, 139, 140, 141, 142, 143, 144, 145, 146, 147, 148, 149, 150, 151, 152, 153, 154, 155, 156, 157, 158, 159, 160] rfl (by decide +kernel)
set_option maxRecDepth 20000 in
theorem gX4_staysQuiet_X5_storeHeights : GoodIn wsX4_staysQuiet (wsV RX4 90 RX5 yX5_storeHeights wsX5_storeHeights) := goodIn_app (goodIn_of _ (by decide +kernel)) ggX4_staysQuiet_X5_storeHeights
set_option maxRecDepth 20000 in
theorem ggX4_staysQuiet_X5_takes : GoodIn wsX4_staysQuiet wsX5_takes := goodIn_r _ [16, 17, 18, 19, 20, 21, 22, 23, 24, 25, 26, 27, 137, 138, 139, 140, 141, 142, 143, 144, 145, 146, 147, 148, 149, 150, 151, 152, 153, 154, 155, 156, 157, 158, 159, 160] rfl (by decide +kernel)
set_option maxRecDepth 20000 in
theorem gX4_staysQuiet_X5_takes : GoodIn wsX4_staysQuiet (wsV RX4 82 RX5 yX5_takes wsX5_takes) := goodIn_app (goodIn_of _ (by decide +kernel)) ggX4_staysQuiet_X5_takes
set_option maxHeartbeats 4000000 in
set_option maxRecDepth 100000 in
theorem S_X4_staysQuiet_v0 (l : Launch) (D : va_G) (K : Nat → ClassId) (a : Nat → Nat) (G : gS) (p0 : Int32) (s0 : Int) (e0 : p0.toInt = s0) (h0 : 0 ≤ s0 ∧ s0 ≤ 4) (hI : xI G) (sz : Nat) : Ki l yX4_staysQuiet wsX4_staysQuiet 5 148 0 0 D [.ref (a 8), .int p0, .int 0] (xW K a G) (tK K) sz (fun (r : Int32) (G' : gS) => (xI G') ∧ (gu_un xcd [602, 603, 604, 605, 608, 613, 614, 615, 616, 617, 618, 619, 620, 2100, 2400, 2700, 4400, 4500, 4600, 4700, 4800, 6000, 6500] G G') ∧ (0 ≤ r.toInt ∧ r.toInt ≤ 1)) (fun (G' : gS) => (xW K a G')) (fun _ => (tK K)) := by
  unfold Ki
  refine g_ofW (cc := cX4_staysQuiet) (lv := [(0, .ref (a 8)), (1, .int p0), (2, .int 0)]) (by decide) rfl (Nat.le_of_ble_eq_true rfl) rfl ?_
  intro p e s m args below meth c A Q hA hQ F hr hnm
  have hts := F.2.2.2.2.1
  have w_0 : (Cond.fieldLink RX4 33 "QuietCut$Jobs" "lathe" "LQuietCut$Lathe;").before args s = true := hts _ (List.mem_of_getElem? (i := 1) rfl)
  have i_X4 : ∀ w ∈ u_ws RX4 TX4 12, w ∈ wsX4_staysQuiet := fun _ h => List.mem_cons_of_mem _ (List.mem_append_left _ (List.mem_append_left _ (List.mem_append_left _ (List.mem_append_right _ h))))
  have w_1 : (Cond.fieldLink RX4 13 "QuietCut$Jobs" "jobs" "[[I").before args s = true := hts _ (List.mem_of_getElem? (i := 2) rfl)
  have w_2 : (Cond.fieldLink RX4 16 "QuietCut$Jobs" "heights" "[[I").before args s = true := hts _ (List.mem_of_getElem? (i := 3) rfl)
  have w_3 : (Cond.fieldLink RX4 19 "QuietCut$Jobs" "wears" "[I").before args s = true := hts _ (List.mem_of_getElem? (i := 4) rfl)
  have w_4 : (Cond.fieldLink RX4 44 "QuietCut$Jobs" "stiff" "I").before args s = true := hts _ (List.mem_of_getElem? (i := 5) rfl)
  have w_5 : (Cond.fieldLink RX4 47 "QuietCut$Jobs" "damp" "I").before args s = true := hts _ (List.mem_of_getElem? (i := 6) rfl)
  have w_6 : (Cond.methodLink RX4 64 arraycopyName).before args s = true := hts _ (List.mem_of_getElem? (i := 7) rfl)
  have w_7 : (Cond.native arraycopyName).before args s = true := hts _ (List.mem_of_getElem? (i := 8) rfl)
  have w_8 : (Cond.static arraycopyName).before args s = true := hts _ (List.mem_of_getElem? (i := 9) rfl)
  have w_9 : (Cond.initialized "java/lang/System").before args s = true := hts _ (List.mem_of_getElem? (i := 10) rfl)
  have w_10 : (Cond.fieldLink RX4 94 "QuietCut$Lathe" "wear" "I").before args s = true := hts _ (List.mem_of_getElem? (i := 11) rfl)
  have i_X5 : ∀ w ∈ u_ws RX5 TX5 20, w ∈ wsX4_staysQuiet := fun _ h => List.mem_cons_of_mem _ (List.mem_append_left _ (List.mem_append_left _ (List.mem_append_right _ h)))
  refine g_aload_n F 0 dX4_staysQuiet_0 rfl rfl ?_
  refine xg_8_1 F i_X4 w_0 dX4_staysQuiet_1 ?_
  refine g_aload_n F 0 dX4_staysQuiet_4 rfl rfl ?_
  refine xg_8_2 F i_X4 w_1 dX4_staysQuiet_5 ?_
  refine g_iconst F 0 dX4_staysQuiet_8 (by decide) ?_
  refine g_aald (b := a 54) F 53 1 xc_53 rfl (ti_in (show Int32.toInt 0 = 0 from rfl) (by decide) (by decide)) (by rw [show Int32.toNatClampNeg 0 = 0 from congrArg Int.toNat (show Int32.toInt 0 = 0 from rfl)]; rfl) dX4_staysQuiet_9 ?_
  refine g_iload_n F 1 dX4_staysQuiet_10 rfl rfl ?_
  refine u_iald F 54 0 xc_54 rfl s0 e0 (by omega) (by omega) dX4_staysQuiet_11 (fun _ => True) (fun _ => trivial) (fun y1 by1 => ?_)
  refine g_aload_n F 0 dX4_staysQuiet_12 rfl rfl ?_
  refine xg_8_2 F i_X4 w_1 dX4_staysQuiet_13 ?_
  refine g_iconst F 1 dX4_staysQuiet_16 (by decide) ?_
  refine g_aald (b := a 55) F 53 1 xc_53 rfl (ti_in (show Int32.toInt 1 = 1 from rfl) (by decide) (by decide)) (by rw [show Int32.toNatClampNeg 1 = 1 from congrArg Int.toNat (show Int32.toInt 1 = 1 from rfl)]; rfl) dX4_staysQuiet_17 ?_
  refine g_iload_n F 1 dX4_staysQuiet_18 rfl rfl ?_
  refine u_iald F 55 0 xc_55 rfl s0 e0 (by omega) (by omega) dX4_staysQuiet_19 (fun _ => True) (fun _ => trivial) (fun y2 by2 => ?_)
  refine g_aload_n F 0 dX4_staysQuiet_20 rfl rfl ?_
  refine xg_8_2 F i_X4 w_1 dX4_staysQuiet_21 ?_
  refine g_iconst F 2 dX4_staysQuiet_24 (by decide) ?_
  refine g_aald (b := a 56) F 53 1 xc_53 rfl (ti_in (show Int32.toInt 2 = 2 from rfl) (by decide) (by decide)) (by rw [show Int32.toNatClampNeg 2 = 2 from congrArg Int.toNat (show Int32.toInt 2 = 2 from rfl)]; rfl) dX4_staysQuiet_25 ?_
  refine g_iload_n F 1 dX4_staysQuiet_26 rfl rfl ?_
  refine u_iald F 56 0 xc_56 rfl s0 e0 (by omega) (by omega) dX4_staysQuiet_27 (fun _ => True) (fun _ => trivial) (fun y3 by3 => ?_)
  refine g_aload_n F 0 dX4_staysQuiet_28 rfl rfl ?_
  refine xg_8_2 F i_X4 w_1 dX4_staysQuiet_29 ?_
  refine g_iconst F 3 dX4_staysQuiet_32 (by decide) ?_
  refine g_aald (b := a 57) F 53 1 xc_53 rfl (ti_in (show Int32.toInt 3 = 3 from rfl) (by decide) (by decide)) (by rw [show Int32.toNatClampNeg 3 = 3 from congrArg Int.toNat (show Int32.toInt 3 = 3 from rfl)]; rfl) dX4_staysQuiet_33 ?_
  refine g_iload_n F 1 dX4_staysQuiet_34 rfl rfl ?_
  refine u_iald F 57 0 xc_57 rfl s0 e0 (by omega) (by omega) dX4_staysQuiet_35 (fun _ => True) (fun _ => trivial) (fun y4 by4 => ?_)
  refine u_callVi (k := 0) (n := 0) (b := a 6) (As := [.int y1, .int y2, .int y3, .int y4]) (st := []) F (fun sz => S_X5_takes l D K a G y1 y1.toInt y2 y2.toInt y3 y3.toInt y4 y4.toInt rfl rfl rfl rfl hI sz) (cwV 4 hts gX4_staysQuiet_X5_takes rfl rfl rfl (by decide +kernel) ⟨Nat.le_of_ble_eq_true rfl, Nat.le_of_ble_eq_true rfl⟩) rfl 6 xc_6 rfl (Nat.le_of_ble_eq_true rfl) ⟨Nat.zero_le _, Nat.zero_le _⟩ dX4_staysQuiet_36 (fun r5 G7 hw6 => ?_)
  have hI8 : xI G7 := hw6.1
  have hU9 : gu_un xcd [602, 603, 604, 605] G G7 := hw6.2.1
  have hp10 := hw6.2.2
  have q11 : ((G7 6 1).toInt = y1.toInt ∧ (G7 6 2).toInt = y2.toInt ∧ (G7 6 3).toInt = y3.toInt ∧ (G7 6 4).toInt = y4.toInt) := hp10.2
  rcases hp10.1 with ⟨rfl, q12⟩ | ⟨rfl, q13⟩
  · have b14 : (1 : Int) ≤ (G 18 1).toInt ∧ (G 18 1).toInt ≤ 6 := hI 18 1
    have q12 : (0 ≤ y1.toInt ∧ y1.toInt < (G 18 1).toInt ∧ 1 ≤ y2.toInt ∧ y2.toInt ≤ 9 ∧ 1 ≤ y3.toInt ∧ y3.toInt ≤ 20 ∧ 1 ≤ y4.toInt ∧ y4.toInt ≤ 12) := by have h9 := q12; (try simp only [(show G7 18 1 = (G 18 1) from hU9 18 1 (by decide))] at h9); exact h9
    refine v_if_ne F 44 dX4_staysQuiet_39 (by decide) 1 rfl (fun c15 => ?_) (fun c15 => absurd c15 (by decide))
    refine g_aload_n F 0 dX4_staysQuiet_44 rfl rfl ?_
    refine xg_8_1 F i_X4 w_0 dX4_staysQuiet_45 ?_
    refine g_aload_n F 0 dX4_staysQuiet_48 rfl rfl ?_
    refine xg_8_4 F i_X4 w_2 dX4_staysQuiet_49 ?_
    refine g_iload_n F 2 dX4_staysQuiet_52 rfl rfl ?_
    refine g_aald (b := a 59) F 58 1 xc_58 rfl (ti_in (show Int32.toInt 0 = 0 from rfl) (by decide) (by decide)) (by rw [show Int32.toNatClampNeg 0 = 0 from congrArg Int.toNat (show Int32.toInt 0 = 0 from rfl)]; rfl) dX4_staysQuiet_53 ?_
    refine g_aload_n F 0 dX4_staysQuiet_54 rfl rfl ?_
    refine xg_8_5 F i_X4 w_3 dX4_staysQuiet_55 ?_
    refine g_iload_n F 2 dX4_staysQuiet_58 rfl rfl ?_
    refine u1_iald F 65 0 xc_65 rfl 0 rfl (by decide) (by decide) dX4_staysQuiet_59 (G 65 0) (hU9 65 0 (by decide)) ?_
    refine g_aload_n F 0 dX4_staysQuiet_60 rfl rfl ?_
    refine xg_8_10 F i_X4 w_4 dX4_staysQuiet_61 (G 8 10) (hU9 8 10 (by decide)) ?_
    refine g_aload_n F 0 dX4_staysQuiet_64 rfl rfl ?_
    refine xg_8_11 F i_X4 w_5 dX4_staysQuiet_65 (G 8 11) (hU9 8 11 (by decide)) ?_
    have b16 : (0 : Int) ≤ (G 65 0).toInt ∧ (G 65 0).toInt ≤ 30000 := hI 65 0
    have b17 : (0 : Int) ≤ (G 8 10).toInt ∧ (G 8 10).toInt ≤ 300 := hI 8 10
    have b18 : (0 : Int) ≤ (G 8 11).toInt ∧ (G 8 11).toInt ≤ 300 := hI 8 11
    refine u_callVi (k := 0) (n := 0) (b := a 6) (As := [.ref (a 59), .int (G 65 0), .int (G 8 10), .int (G 8 11)]) (st := []) F (fun sz => S_X5_run_59 l D K a G7 (G 65 0) (G 65 0).toInt (G 8 10) (G 8 10).toInt (G 8 11) (G 8 11).toInt rfl (by omega) rfl (by omega) rfl (by omega) (by have e9_18_1 : G7 18 1 = (G 18 1) := hU9 18 1 (by decide); (try simp only [e9_18_1, true_and, and_true]) <;> (first | omega | (simp only [Int32.reduceToInt, true_and, and_true, ne_eq, not_true_eq_false, false_and, or_false, false_or, true_or, or_true, false_implies] <;> omega))) hI8 sz) (cwV 4 hts gX4_staysQuiet_X5_run rfl rfl rfl (by decide +kernel) ⟨Nat.le_of_ble_eq_true rfl, Nat.le_of_ble_eq_true rfl⟩) rfl 6 xc_6 rfl (Nat.le_of_ble_eq_true rfl) ⟨Nat.zero_le _, Nat.zero_le _⟩ dX4_staysQuiet_68 (fun r19 G21 hw20 => ?_)
    have hI22 : xI G21 := hw20.1
    have hU23 : gu_un xcd [608, 613, 614, 615, 616, 617, 618, 619, 620, 2100, 2400, 2700, 4400, 4500, 4600, 4700, 4800] G7 G21 := hw20.2.1
    have hp24 := hw20.2.2
    have q25 : (r19.toInt = -4 ∨ (0 ≤ r19.toInt ∧ r19.toInt ≤ 2)) := hp24.2.1
    have q26 : ((xTok G7 ∧ r19.toInt ≠ -4) → xOut G7 (G7 59) (G 65 0) (G 8 10) (G 8 11) G21 r19.toInt) := hp24.2.2.1
    have b27 : (4 : Int) ≤ (G 18 0).toInt ∧ (G 18 0).toInt ≤ 16 := hI 18 0
    have q28 : ((r19.toInt = -4 ∧ psMx (psHr (G 59) (G7 6 1).toInt (G 18 0).toInt) ((G 18 0).toInt - 1).toNat - (G7 6 3).toInt * (G7 6 4).toInt < 1) ∨ (r19.toInt ≠ -4 ∧ 1 ≤ psMx (psHr (G 59) (G7 6 1).toInt (G 18 0).toInt) ((G 18 0).toInt - 1).toNat - (G7 6 3).toInt * (G7 6 4).toInt)) := by have h9 := hp24.2.2.2; (try simp only [(show G7 18 0 = (G 18 0) from hU9 18 0 (by decide)), (show G7 18 0 = (G 18 0) from hU9 18 0 (by decide)), (show G7 18 0 = (G 18 0) from hU9 18 0 (by decide)), (show G7 18 0 = (G 18 0) from hU9 18 0 (by decide)), (show G7 59 = (G 59) from (show G7 59 = G 59 from funext fun k_ => hU9 59 k_ (show (5900 : Nat) ∉ ([602, 603, 604, 605] : List Nat) by decide))), (show G7 59 = (G 59) from (show G7 59 = G 59 from funext fun k_ => hU9 59 k_ (show (5900 : Nat) ∉ ([602, 603, 604, 605] : List Nat) by decide)))] at h9); first | exact h9 | omega
    have rg29 := hp24.1
    clear hp24 hw20
    refine v_if_eq F 76 dX4_staysQuiet_71 (by decide) r19.toInt rfl (fun c30 => ?_) (fun c30 => ?_)
    · refine g_aload_n F 0 dX4_staysQuiet_76 rfl rfl ?_
      refine xg_8_4 F i_X4 w_2 dX4_staysQuiet_77 ?_
      refine g_iload_n F 2 dX4_staysQuiet_80 rfl rfl ?_
      refine g_aald (b := a 59) F 58 1 xc_58 rfl (ti_in (show Int32.toInt 0 = 0 from rfl) (by decide) (by decide)) (by rw [show Int32.toNatClampNeg 0 = 0 from congrArg Int.toNat (show Int32.toInt 0 = 0 from rfl)]; rfl) dX4_staysQuiet_81 ?_
      refine g_iconst F 0 dX4_staysQuiet_82 (by decide) ?_
      refine g_aload_n F 0 dX4_staysQuiet_83 rfl rfl ?_
      refine xg_8_4 F i_X4 w_2 dX4_staysQuiet_84 ?_
      refine g_iload_n F 2 dX4_staysQuiet_87 rfl rfl ?_
      refine g_iconst F 1 dX4_staysQuiet_88 (by decide) ?_
      refine g_iadd F dX4_staysQuiet_89 ?_
      refine g_fold 1 (by decide) ?_
      refine g_aald (b := a 60) F 58 1 xc_58 rfl (ti_in (show Int32.toInt 1 = 1 from rfl) (by decide) (by decide)) (by rw [show Int32.toNatClampNeg 1 = 1 from congrArg Int.toNat (show Int32.toInt 1 = 1 from rfl)]; rfl) dX4_staysQuiet_90 ?_
      refine g_iconst F 0 dX4_staysQuiet_91 (by decide) ?_
      refine g_bipush F 96 dX4_staysQuiet_92 (by decide) ?_
      refine u_copyi F w_6 w_7 w_8 w_9 59 60 0 xc_59 xc_60 rfl 0 0 96 rfl rfl rfl (by decide) (by decide) (by decide) (by decide) (by decide) (Nat.le_of_ble_eq_true rfl) (Nat.le_of_ble_eq_true rfl) (xW K a (gu_st G21 60 (va_cpy (G21 59) (G21 60) 0 0 96))) (xs_60 _) dX4_staysQuiet_94 ?_
      refine g_aload_n F 0 dX4_staysQuiet_97 rfl rfl ?_
      refine xg_8_1 F i_X4 w_0 dX4_staysQuiet_98 ?_
      refine g_aload_n F 0 dX4_staysQuiet_101 rfl rfl ?_
      refine xg_8_4 F i_X4 w_2 dX4_staysQuiet_102 ?_
      refine g_iload_n F 2 dX4_staysQuiet_105 rfl rfl ?_
      refine g_iconst F 1 dX4_staysQuiet_106 (by decide) ?_
      refine g_iadd F dX4_staysQuiet_107 ?_
      refine g_fold 1 (by decide) ?_
      refine g_aald (b := a 60) F 58 1 xc_58 rfl (ti_in (show Int32.toInt 1 = 1 from rfl) (by decide) (by decide)) (by rw [show Int32.toNatClampNeg 1 = 1 from congrArg Int.toNat (show Int32.toInt 1 = 1 from rfl)]; rfl) dX4_staysQuiet_108 ?_
      refine u_callVv (k := 0) (n := 0) (b := a 6) (As := [.ref (a 60)]) (st := []) F (fun sz => S_X5_storeHeights_60 l D K a (gu_st G21 60 (va_cpy (G21 59) (G21 60) 0 0 96))  (by have e9_6_1 : (gu_st G21 60 (va_cpy (G21 59) (G21 60) 0 0 96)) 6 1 = (G7 6 1) := hU23 6 1 (by decide); (try simp only [e9_6_1, true_and, and_true]) <;> (first | omega | (simp only [Int32.reduceToInt, true_and, and_true, ne_eq, not_true_eq_false, false_and, or_false, false_or, true_or, or_true, false_implies] <;> omega))) (gu_I.cpy (j := 60) (f := G21 59) (sp := 0) (dp := 0) hI22 (fun k_ => hI22 59 (0 + k_))) sz) (cwV 1 hts gX4_staysQuiet_X5_storeHeights rfl rfl rfl (by decide +kernel) ⟨Nat.le_of_ble_eq_true rfl, Nat.le_of_ble_eq_true rfl⟩) rfl 6 xc_6 rfl (Nat.le_of_ble_eq_true rfl) ⟨Nat.zero_le _, Nat.zero_le _⟩ dX4_staysQuiet_109 (fun G33 hw32 => ?_)
      have hI34 : xI G33 := hw32.1
      have hU35 : gu_un xcd [6000] (gu_st G21 60 (va_cpy (G21 59) (G21 60) 0 0 96)) G33 := hw32.2.1
      have hp36 := hw32.2.2
      have q37 : (∀ q : Nat, G33 60 q = sHr ((gu_st G21 60 (va_cpy (G21 59) (G21 60) 0 0 96)) 60) (G21 45) (G7 6 1).toInt (G 18 0).toInt q) := by have h9 := hp36; (try simp only [(show (gu_st G21 60 (va_cpy (G21 59) (G21 60) 0 0 96)) 6 1 = (G7 6 1) from hU23 6 1 (by decide)), (show (gu_st G21 60 (va_cpy (G21 59) (G21 60) 0 0 96)) 18 0 = (G 18 0) from (hU23 18 0 (by decide)).trans (hU9 18 0 (by decide)))] at h9); first | exact h9 | omega
      clear hp36 hw32
      refine g_aload_n F 0 dX4_staysQuiet_112 rfl rfl ?_
      refine xg_8_5 F i_X4 w_3 dX4_staysQuiet_113 ?_
      refine g_iload_n F 2 dX4_staysQuiet_116 rfl rfl ?_
      refine g_iconst F 1 dX4_staysQuiet_117 (by decide) ?_
      refine g_iadd F dX4_staysQuiet_118 ?_
      refine g_fold 1 (by decide) ?_
      refine g_aload_n F 0 dX4_staysQuiet_119 rfl rfl ?_
      refine xg_8_1 F i_X4 w_0 dX4_staysQuiet_120 ?_
      refine xg_6_12 F i_X5 w_10 dX4_staysQuiet_123 (G21 6 12) (hU35 6 12 (by decide)) ?_
      have b38 : (0 : Int) ≤ (G21 6 12).toInt ∧ (G21 6 12).toInt ≤ 30000 := hI22 6 12
      refine u_iast F 65 0 xc_65 rfl 1 rfl (by decide) (by decide) (xW K a (gu_up G33 65 1 (G21 6 12))) (xs_65 _) dX4_staysQuiet_126 ?_
      refine g_iconst F 1 dX4_staysQuiet_127 (by decide) ?_
      exact u_zret F hA hQ hr rfl (gu_up G33 65 1 (G21 6 12)) (⟨(gu_I.up (j := 65) (k := 1) (v := (G21 6 12)) hI34 (show (0 : Int) ≤ Int32.toInt (G21 6 12) by omega) (show Int32.toInt (G21 6 12) ≤ 30000 by omega)), (gu_un.up (j := 65) (k := 1) (v := (G21 6 12)) (gu_un.tr (gu_un.sw (j := 60) (f := (va_cpy (G21 59) (G21 60) 0 0 96)) (gu_un.tr (gu_un.tr gu_un.rf (gu_un.su hU9 rfl)) (gu_un.su hU23 rfl)) (fun _ => show (6000 : Nat) ∈ ([602, 603, 604, 605, 608, 613, 614, 615, 616, 617, 618, 619, 620, 2100, 2400, 2700, 4400, 4500, 4600, 4700, 4800, 6000, 6500] : List Nat) by decide)) (gu_un.su hU35 rfl)) (show (6500 : Nat) ∈ ([602, 603, 604, 605, 608, 613, 614, 615, 616, 617, 618, 619, 620, 2100, 2400, 2700, 4400, 4500, 4600, 4700, 4800, 6000, 6500] : List Nat) by decide)), (by decide)⟩) rfl rfl dX4_staysQuiet_128
    · refine g_iconst F 0 dX4_staysQuiet_74 (by decide) ?_
      exact u_zret F hA hQ hr rfl G21 (⟨hI22, (gu_un.tr (gu_un.tr gu_un.rf (gu_un.su hU9 rfl)) (gu_un.su hU23 rfl)), (by decide)⟩) rfl rfl dX4_staysQuiet_75
  · have b39 : (1 : Int) ≤ (G 18 1).toInt ∧ (G 18 1).toInt ≤ 6 := hI 18 1
    have q13 : ¬ (0 ≤ y1.toInt ∧ y1.toInt < (G 18 1).toInt ∧ 1 ≤ y2.toInt ∧ y2.toInt ≤ 9 ∧ 1 ≤ y3.toInt ∧ y3.toInt ≤ 20 ∧ 1 ≤ y4.toInt ∧ y4.toInt ≤ 12) := by have h9 := q13; (try simp only [(show G7 18 1 = (G 18 1) from hU9 18 1 (by decide))] at h9); exact h9
    refine v_if_ne F 44 dX4_staysQuiet_39 (by decide) 0 rfl (fun c40 => absurd c40 (by decide)) (fun c40 => ?_)
    refine g_iconst F 0 dX4_staysQuiet_42 (by decide) ?_
    exact u_zret F hA hQ hr rfl G7 (⟨hI8, (gu_un.tr gu_un.rf (gu_un.su hU9 rfl)), (by decide)⟩) rfl rfl dX4_staysQuiet_43


set_option maxHeartbeats 4000000 in
set_option maxRecDepth 100000 in
theorem S_X5_least_60 (l : Launch) (D : va_G) (K : Nat → ClassId) (a : Nat → Nat) (G : gS) (p1 : Int32) (s1 : Int) (p2 : Int32) (s2 : Int) (e1 : p1.toInt = s1) (h1 : 0 ≤ s1 ∧ s1 ≤ 80) (e2 : p2.toInt = s2) (h2 : 1 ≤ s2 ∧ s2 ≤ 16) (hI : xI G) (sz : Nat) : Ki l yX5_least wsX5_least 1 40 0 0 D [.ref (a 60), .int p1, .int p2] (xW K a G) (tK K) sz (fun (r : Int32) (_ : Unit) => ((-9998) ≤ r.toInt ∧ r.toInt ≤ 1000000) ∧ ((0 ≤ s1 ∧ 1 ≤ s2 ∧ s1 + s2 ≤ 96 → r.toInt = psMn (fun q => (G 60) (s1.toNat + q)) (s2 - 1).toNat))) (fun (_ : Unit) => (xW K a G)) (fun _ => (tK K)) := by
  unfold Ki
  refine g_ofW (cc := cX5_least) (lv := [(0, .ref (a 60)), (1, .int p1), (2, .int p2)]) (by decide) rfl (Nat.le_of_ble_eq_true rfl) rfl ?_
  intro p e s m args below meth c A Q hA hQ F hr hnm
  have hts := F.2.2.2.2.1
  have w_0 : (Cond.methodLink RX5 159 Lib.Math.min.name).before args s = true := hts _ (List.mem_of_getElem? (i := 2) rfl)
  have w_1 : (Cond.static Lib.Math.min.name).before args s = true := hts _ (List.mem_of_getElem? (i := 3) rfl)
  have w_2 : (Cond.initialized "java/lang/Math").before args s = true := hts _ (List.mem_of_getElem? (i := 4) rfl)
  have w_3 : (Cond.code Lib.Math.min.name Lib.Math.min.code 2 (some .int)).before args s = true := hts _ (List.mem_of_getElem? (i := 5) rfl)
  have w_4 : (Cond.constant RX5 163 (1000000)).before args s = true := hts _ (List.mem_of_getElem? (i := 1) rfl)
  have J_6 : ∀ (fuel : Nat) (x6_3 : Int32) (x6_4 : Int32), (2147483647 - x6_4.toInt).toNat < fuel → ((-9998) ≤ x6_3.toInt ∧ x6_3.toInt ≤ 1000000) → (0 ≤ x6_4.toInt ∧ x6_4.toInt ≤ 96) → ((0 ≤ s1 → s1 ≤ x6_4.toInt ∧ ((x6_4.toInt = s1 ∧ x6_3.toInt = 1000000) ∨ (s1 + 1 ≤ x6_4.toInt ∧ x6_3.toInt = psMn (fun q => ((G 60)) (s1.toNat + q)) (x6_4.toInt - 1 - s1).toNat)))) → ((s1 < 0 ∨ s2 < 1 ∨ 96 < s1 + s2 ∨ x6_4.toInt ≤ s1 + s2)) → gG p l e (gR 1 0 0 40) s m args below meth c D A 5 Q 0 0 (xW K a G) (tK K) [(0, .ref (a 60)), (1, .int p1), (2, .int p2), (3, .int x6_3), (4, .int x6_4)] 6 [] := by
    intro fuel
    induction fuel with
    | zero => intro x6_3 x6_4 hm; exact absurd hm (Nat.not_lt_zero _)
    | succ fuel_6 ih_6 =>
      intro x6_3 x6_4 hm_6 h6_3 h6_4 lm ib
      refine g_iload F 4 dX5_least_6 rfl ?_
      refine g_iload_n F 1 dX5_least_8 rfl rfl ?_
      refine g_iload_n F 2 dX5_least_9 rfl rfl ?_
      refine u_iadd F dX5_least_10 s1 s2 e1 e2 (by omega) (by omega) (fun y1 ey1 => ?_)
      refine v_icmp_ge F 41 dX5_least_11 (by decide) x6_4.toInt y1.toInt rfl rfl (fun c2 => ?_) (fun c2 => ?_)
      · refine g_iload_n F 3 dX5_least_41 rfl rfl ?_
        exact u_iret F hA hQ hr () (⟨(by have h9 := ti_rng x6_3; omega), (fun h9 => by rcases (lm h9.1).2 with ⟨g1, g2⟩ | ⟨g1, g2⟩ <;> first | (exfalso; omega) | (rw [g2, show x6_4.toInt - 1 - s1 = s2 - 1 by omega]))⟩) rfl rfl dX5_least_42
      · refine g_iload F 4 dX5_least_14 rfl ?_
        refine v_if_lt F 41 dX5_least_16 (by decide) x6_4.toInt rfl (fun c3 => absurd c3 (by omega)) (fun c3 => ?_)
        refine g_iload F 4 dX5_least_19 rfl ?_
        refine g_aload_n F 0 dX5_least_21 rfl rfl ?_
        refine g_alen F 60 0 xc_60 rfl 96 rfl dX5_least_22 ?_
        refine v_icmp_ge F 41 dX5_least_23 (by decide) x6_4.toInt 96 rfl rfl (fun c4 => absurd c4 (by omega)) (fun c4 => ?_)
        refine g_iload_n F 3 dX5_least_26 rfl rfl ?_
        refine g_aload_n F 0 dX5_least_27 rfl rfl ?_
        refine g_iload F 4 dX5_least_28 rfl ?_
        refine u1_iald F 60 0 xc_60 rfl x6_4.toInt rfl (by omega) (by omega) dX5_least_30 ((G 60) (x6_4.toInt).toNat) (rfl) ?_
        have b5 : ((-9998) : Int) ≤ ((G 60) (x6_4.toInt).toNat).toInt ∧ ((G 60) (x6_4.toInt).toNat).toInt ≤ 5000 := hI 60 _
        refine u_mmin F w_0 w_1 w_2 w_3 (Nat.le_of_ble_eq_true rfl) (Nat.le_of_ble_eq_true rfl) (Nat.le_of_ble_eq_true rfl) (Nat.le_of_ble_eq_true rfl) dX5_least_31 x6_3.toInt ((G 60) (x6_4.toInt).toNat).toInt rfl rfl (fun y6 ey6 => ?_)
        refine g_istore_n F [(3, .int y6), (0, .ref (a 60)), (1, .int p1), (2, .int p2), (4, .int x6_4)] dX5_least_34 rfl (by decide) rfl ?_
        refine u_iinc F (fun v_ => [(4, .int v_), (3, .int y6), (0, .ref (a 60)), (1, .int p1), (2, .int p2)]) dX5_least_35 (j := 4) rfl x6_4.toInt 1 rfl rfl (by omega) (by omega) (by decide) (fun _ => rfl) (fun y7 ey7 => ?_)
        refine g_goto F 6 dX5_least_38 (by decide) ?_
        refine g_locals [(0, .ref (a 60)), (1, .int p1), (2, .int p2), (3, .int y6), (4, .int y7)] [2, 3, 4, 1, 0] rfl ?_
        exact ih_6 y6 y7 (by omega) (by have h9 := ti_rng y6; omega) (by have h9 := ti_rng y7; omega) (fun h0 => ⟨by have h9 := (lm h0).1; omega, psMn_go (i := x6_4.toInt) (m := x6_3.toInt) h0 (lm h0).1 (by omega) (lm h0).2 (by omega) (by omega)⟩) (by first | omega | (simp only [Int32.reduceToInt, true_and, and_true, ne_eq, not_true_eq_false, false_and, or_false, false_or, true_or, or_true, false_implies] <;> omega))
  refine g_ldc F w_4 dX5_least_0 ?_
  refine g_istore_n F [(3, .int 1000000), (0, .ref (a 60)), (1, .int p1), (2, .int p2)] dX5_least_2 rfl (by decide) rfl ?_
  refine g_iload_n F 2 dX5_least_3 rfl rfl ?_
  refine g_istore F [(4, .int p1), (3, .int 1000000), (0, .ref (a 60)), (1, .int p1), (2, .int p2)] dX5_least_4 (by decide) rfl ?_
  refine g_locals [(0, .ref (a 60)), (1, .int p1), (2, .int p2), (3, .int 1000000), (4, .int p1)] [2, 3, 4, 1, 0] rfl ?_
  exact J_6 _ 1000000 p1 (Nat.lt_succ_self _) (by decide) (by have h9 := ti_rng p1; omega) (fun h0 => ⟨by omega, Or.inl ⟨by omega, by decide⟩⟩) (by first | omega | (simp only [Int32.reduceToInt, true_and, and_true, ne_eq, not_true_eq_false, false_and, or_false, false_or, true_or, or_true, false_implies] <;> omega))


set_option maxHeartbeats 4000000 in
set_option maxRecDepth 100000 in
theorem S_X5_gapIn_60 (l : Launch) (D : va_G) (K : Nat → ClassId) (a : Nat → Nat) (G : gS) (p1 : Int32) (s1 : Int) (e1 : p1.toInt = s1) (h1 : (-9998) ≤ s1 ∧ s1 ≤ 5000) (hrg : (0 ≤ (G 6 1).toInt ∧ (G 6 1).toInt ≤ 5)) (rgn : ((G 6 1).toInt < (G 18 1).toInt)) (hI : xI G) (sz : Nat) : Ki l yX5_gapIn wsX5_gapIn 2 64 0 0 D [.ref (a 6), .ref (a 60), .int p1] (xW K a G) (tK K) sz (fun (r : Int32) (_ : Unit) => ((-9998) ≤ r.toInt ∧ r.toInt ≤ 1000000) ∧ ((r.toInt = psGa (G 60) (G 6 1).toInt (G 18 1).toInt (G 18 0).toInt s1))) (fun (_ : Unit) => (xW K a G)) (fun _ => (tK K)) := by
  unfold Ki
  refine g_ofW (cc := cX5_gapIn) (lv := [(0, .ref (a 6)), (1, .ref (a 60)), (2, .int p1)]) (by decide) rfl (Nat.le_of_ble_eq_true rfl) rfl ?_
  intro p e s m args below meth c A Q hA hQ F hr hnm
  have hts := F.2.2.2.2.1
  have w_0 : (Cond.fieldLink RX5 29 "QuietCut$Lathe" "shop" "LQuietCut$Shop;").before args s = true := hts _ (List.mem_of_getElem? (i := 1) rfl)
  have i_X5 : ∀ w ∈ u_ws RX5 TX5 20, w ∈ wsX5_gapIn := fun _ h => List.mem_cons_of_mem _ (List.mem_append_left _ (List.mem_append_right _ h))
  have w_1 : (Cond.fieldLink RX5 56 "QuietCut$Shop" "numbers" "[I").before args s = true := hts _ (List.mem_of_getElem? (i := 2) rfl)
  have i_X7 : ∀ w ∈ u_ws RX7 TX7 4, w ∈ wsX5_gapIn := fun _ h => List.mem_cons_of_mem _ (List.mem_append_right _ h)
  have w_2 : (Cond.fieldLink RX5 33 "QuietCut$Lathe" "ring" "I").before args s = true := hts _ (List.mem_of_getElem? (i := 3) rfl)
  have w_3 : (Cond.methodLink RX5 159 Lib.Math.min.name).before args s = true := hts _ (List.mem_of_getElem? (i := 4) rfl)
  have w_4 : (Cond.static Lib.Math.min.name).before args s = true := hts _ (List.mem_of_getElem? (i := 5) rfl)
  have w_5 : (Cond.initialized "java/lang/Math").before args s = true := hts _ (List.mem_of_getElem? (i := 6) rfl)
  have w_6 : (Cond.code Lib.Math.min.name Lib.Math.min.code 2 (some .int)).before args s = true := hts _ (List.mem_of_getElem? (i := 7) rfl)
  have b1 : (4 : Int) ≤ (G 18 0).toInt ∧ (G 18 0).toInt ≤ 16 := hI 18 0
  have b2 : (1 : Int) ≤ (G 18 1).toInt ∧ (G 18 1).toInt ≤ 6 := hI 18 1
  refine g_aload_n F 0 dX5_gapIn_0 rfl rfl ?_
  refine xg_6_0 F i_X5 w_0 dX5_gapIn_1 ?_
  refine xg_2_0 F i_X7 w_1 dX5_gapIn_4 ?_
  refine g_iconst F 0 dX5_gapIn_7 (by decide) ?_
  refine u1_iald F 18 0 xc_18 rfl 0 rfl (by decide) (by decide) dX5_gapIn_8 (G 18 0) (rfl) ?_
  refine g_istore_n F [(3, .int (G 18 0)), (0, .ref (a 6)), (1, .ref (a 60)), (2, .int p1)] dX5_gapIn_9 rfl (by decide) rfl ?_
  refine g_aload_n F 1 dX5_gapIn_10 rfl rfl ?_
  refine xg_6_0 F i_X5 w_0 dX5_gapIn_11 ?_
  refine g_aload_n F 1 dX5_gapIn_14 rfl rfl ?_
  refine xg_6_1 F i_X5 w_2 dX5_gapIn_15 (G 6 1) (rfl) ?_
  refine g_iconst F 1 dX5_gapIn_18 (by decide) ?_
  refine u_isub F dX5_gapIn_19 (G 6 1).toInt 1 rfl rfl (by omega) (by omega) (fun y3 ey3 => ?_)
  refine u_callVi (k := 0) (n := 0) (b := a 2) (As := [.int y3]) (st := []) F (fun sz => S_X7_hasRing_2 l D K a G y3 y3.toInt rfl hI sz) (cwV 1 hts gX5_gapIn_X7_hasRing rfl rfl rfl (by decide +kernel) ⟨Nat.le_of_ble_eq_true rfl, Nat.le_of_ble_eq_true rfl⟩) rfl 2 xc_2 rfl (Nat.le_of_ble_eq_true rfl) ⟨Nat.zero_le _, Nat.zero_le _⟩ dX5_gapIn_20 (fun r4 _ hw5 => ?_)
  rcases hw5 with ⟨rfl, q7⟩ | ⟨rfl, q8⟩
  · have q7 : (0 ≤ y3.toInt ∧ y3.toInt < (G 18 1).toInt) := q7
    refine g_istore F [(4, .int 1), (3, .int (G 18 0)), (0, .ref (a 6)), (1, .ref (a 60)), (2, .int p1)] dX5_gapIn_23 (by decide) rfl ?_
    refine g_aload_n F 2 dX5_gapIn_25 rfl rfl ?_
    refine xg_6_0 F i_X5 w_0 dX5_gapIn_26 ?_
    refine g_aload_n F 2 dX5_gapIn_29 rfl rfl ?_
    refine xg_6_1 F i_X5 w_2 dX5_gapIn_30 (G 6 1) (rfl) ?_
    refine g_iconst F 1 dX5_gapIn_33 (by decide) ?_
    refine u_iadd F dX5_gapIn_34 (G 6 1).toInt 1 rfl rfl (by omega) (by omega) (fun y9 ey9 => ?_)
    refine u_callVi (k := 0) (n := 0) (b := a 2) (As := [.int y9]) (st := []) F (fun sz => S_X7_hasRing_2 l D K a G y9 y9.toInt rfl hI sz) (cwV 1 hts gX5_gapIn_X7_hasRing rfl rfl rfl (by decide +kernel) ⟨Nat.le_of_ble_eq_true rfl, Nat.le_of_ble_eq_true rfl⟩) rfl 2 xc_2 rfl (Nat.le_of_ble_eq_true rfl) ⟨Nat.zero_le _, Nat.zero_le _⟩ dX5_gapIn_35 (fun r10 _ hw11 => ?_)
    rcases hw11 with ⟨rfl, q13⟩ | ⟨rfl, q14⟩
    · have q13 : (0 ≤ y9.toInt ∧ y9.toInt < (G 18 1).toInt) := q13
      refine g_istore F [(5, .int 1), (4, .int 1), (3, .int (G 18 0)), (0, .ref (a 6)), (1, .ref (a 60)), (2, .int p1)] dX5_gapIn_38 (by decide) rfl ?_
      refine g_iload F 1 dX5_gapIn_40 rfl ?_
      refine v_if_eq F 63 dX5_gapIn_42 (by decide) 1 rfl (fun c15 => absurd c15 (by decide)) (fun c15 => ?_)
      refine g_aload_n F 4 dX5_gapIn_45 rfl rfl ?_
      refine g_aload_n F 3 dX5_gapIn_46 rfl rfl ?_
      refine xg_6_1 F i_X5 w_2 dX5_gapIn_47 (G 6 1) (rfl) ?_
      refine g_iconst F 1 dX5_gapIn_50 (by decide) ?_
      refine u_isub F dX5_gapIn_51 (G 6 1).toInt 1 rfl rfl (by omega) (by omega) (fun y16 ey16 => ?_)
      refine g_iconst F 0 dX5_gapIn_52 (by decide) ?_
      refine u_call0 (k := 0) (n := 0) (As := [.int y16, .int 0]) (st := [.ref (a 60)]) F (fun sz => S_X6_placeOf_b6_b15 l D y16 y16.toInt 0 0 rfl (by omega) rfl (by decide) sz) (va_cwS 2 hts gX5_gapIn_X6_placeOf rfl rfl rfl (by decide +kernel) ⟨Nat.le_of_ble_eq_true rfl, Nat.le_of_ble_eq_true rfl⟩) rfl (Nat.le_of_ble_eq_true rfl) ⟨Nat.zero_le _, Nat.zero_le _⟩ dX5_gapIn_53 (fun r17 _ hw18 => ?_)
      have rg20 := hw18.1
      have rg21 := hw18.2
      clear hw18
      refine g_iload_n F 2 dX5_gapIn_56 rfl rfl ?_
      refine u_callSi (k := 0) (n := 0) (As := [.ref (a 60), .int r17, .int (G 18 0)]) (st := []) F (fun sz => S_X5_least_60 l D K a G r17 r17.toInt (G 18 0) (G 18 0).toInt rfl (by omega) rfl (by omega) hI sz) (va_cwS 3 hts gX5_gapIn_X5_least rfl rfl rfl (by decide +kernel) ⟨Nat.le_of_ble_eq_true rfl, Nat.le_of_ble_eq_true rfl⟩) rfl (Nat.le_of_ble_eq_true rfl) ⟨Nat.zero_le _, Nat.zero_le _⟩ dX5_gapIn_57 (fun r22 _ hw23 => ?_)
      have q25 : (0 ≤ r17.toInt ∧ 1 ≤ (G 18 0).toInt ∧ r17.toInt + (G 18 0).toInt ≤ 96 → r22.toInt = psMn (fun q => (G 60) (r17.toInt.toNat + q)) ((G 18 0).toInt - 1).toNat) := hw23.2
      have rg26 := hw23.1
      clear hw23
      refine g_goto F 64 dX5_gapIn_60 (by decide) ?_
      refine g_istore F [(6, .int r22), (5, .int 1), (4, .int 1), (3, .int (G 18 0)), (0, .ref (a 6)), (1, .ref (a 60)), (2, .int p1)] dX5_gapIn_64 (by decide) rfl ?_
      refine g_iload F 1 dX5_gapIn_66 rfl ?_
      refine v_if_eq F 89 dX5_gapIn_68 (by decide) 1 rfl (fun c27 => absurd c27 (by decide)) (fun c27 => ?_)
      refine g_aload_n F 5 dX5_gapIn_71 rfl rfl ?_
      refine g_aload_n F 4 dX5_gapIn_72 rfl rfl ?_
      refine xg_6_1 F i_X5 w_2 dX5_gapIn_73 (G 6 1) (rfl) ?_
      refine g_iconst F 1 dX5_gapIn_76 (by decide) ?_
      refine u_iadd F dX5_gapIn_77 (G 6 1).toInt 1 rfl rfl (by omega) (by omega) (fun y28 ey28 => ?_)
      refine g_iconst F 0 dX5_gapIn_78 (by decide) ?_
      refine u_call0 (k := 0) (n := 0) (As := [.int y28, .int 0]) (st := [.ref (a 60)]) F (fun sz => S_X6_placeOf_b6_b15 l D y28 y28.toInt 0 0 rfl (by omega) rfl (by decide) sz) (va_cwS 2 hts gX5_gapIn_X6_placeOf rfl rfl rfl (by decide +kernel) ⟨Nat.le_of_ble_eq_true rfl, Nat.le_of_ble_eq_true rfl⟩) rfl (Nat.le_of_ble_eq_true rfl) ⟨Nat.zero_le _, Nat.zero_le _⟩ dX5_gapIn_79 (fun r29 _ hw30 => ?_)
      have rg32 := hw30.1
      have rg33 := hw30.2
      clear hw30
      refine g_iload_n F 3 dX5_gapIn_82 rfl rfl ?_
      refine u_callSi (k := 0) (n := 0) (As := [.ref (a 60), .int r29, .int (G 18 0)]) (st := []) F (fun sz => S_X5_least_60 l D K a G r29 r29.toInt (G 18 0) (G 18 0).toInt rfl (by omega) rfl (by omega) hI sz) (va_cwS 3 hts gX5_gapIn_X5_least rfl rfl rfl (by decide +kernel) ⟨Nat.le_of_ble_eq_true rfl, Nat.le_of_ble_eq_true rfl⟩) rfl (Nat.le_of_ble_eq_true rfl) ⟨Nat.zero_le _, Nat.zero_le _⟩ dX5_gapIn_83 (fun r34 _ hw35 => ?_)
      have q37 : (0 ≤ r29.toInt ∧ 1 ≤ (G 18 0).toInt ∧ r29.toInt + (G 18 0).toInt ≤ 96 → r34.toInt = psMn (fun q => (G 60) (r29.toInt.toNat + q)) ((G 18 0).toInt - 1).toNat) := hw35.2
      have rg38 := hw35.1
      clear hw35
      refine g_goto F 90 dX5_gapIn_86 (by decide) ?_
      refine g_istore F [(7, .int r34), (6, .int r22), (5, .int 1), (4, .int 1), (3, .int (G 18 0)), (0, .ref (a 6)), (1, .ref (a 60)), (2, .int p1)] dX5_gapIn_90 (by decide) rfl ?_
      refine g_iload F 3 dX5_gapIn_92 rfl ?_
      refine v_if_eq F 110 dX5_gapIn_94 (by decide) 1 rfl (fun c39 => absurd c39 (by decide)) (fun c39 => ?_)
      refine g_iload F 2 dX5_gapIn_97 rfl ?_
      refine v_if_eq F 110 dX5_gapIn_99 (by decide) 1 rfl (fun c40 => absurd c40 (by decide)) (fun c40 => ?_)
      refine g_iload F 1 dX5_gapIn_102 rfl ?_
      refine g_iload F 0 dX5_gapIn_104 rfl ?_
      refine u_mmin F w_3 w_4 w_5 w_6 (Nat.le_of_ble_eq_true rfl) (Nat.le_of_ble_eq_true rfl) (Nat.le_of_ble_eq_true rfl) (Nat.le_of_ble_eq_true rfl) dX5_gapIn_106 r22.toInt r34.toInt rfl rfl (fun y41 ey41 => ?_)
      exact u_iret F hA hQ hr () (⟨(by have h9 := ti_rng y41; omega), (by have h1 := q25 ⟨by omega, by omega, by omega⟩; rw [show r17.toInt = 16 * ((G 6 1).toInt - 1) by omega] at h1; have h2 := q37 ⟨by omega, by omega, by omega⟩; rw [show r29.toInt = 16 * ((G 6 1).toInt + 1) by omega] at h2; unfold psGa; rw [if_pos (by omega), if_pos (by omega), ← h1, ← h2]; omega)⟩) rfl rfl dX5_gapIn_109
    · have q14 : (y9.toInt < 0 ∨ (G 18 1).toInt ≤ y9.toInt) := q14
      refine g_istore F [(5, .int 0), (4, .int 1), (3, .int (G 18 0)), (0, .ref (a 6)), (1, .ref (a 60)), (2, .int p1)] dX5_gapIn_38 (by decide) rfl ?_
      refine g_iload F 1 dX5_gapIn_40 rfl ?_
      refine v_if_eq F 63 dX5_gapIn_42 (by decide) 1 rfl (fun c42 => absurd c42 (by decide)) (fun c42 => ?_)
      refine g_aload_n F 4 dX5_gapIn_45 rfl rfl ?_
      refine g_aload_n F 3 dX5_gapIn_46 rfl rfl ?_
      refine xg_6_1 F i_X5 w_2 dX5_gapIn_47 (G 6 1) (rfl) ?_
      refine g_iconst F 1 dX5_gapIn_50 (by decide) ?_
      refine u_isub F dX5_gapIn_51 (G 6 1).toInt 1 rfl rfl (by omega) (by omega) (fun y43 ey43 => ?_)
      refine g_iconst F 0 dX5_gapIn_52 (by decide) ?_
      refine u_call0 (k := 0) (n := 0) (As := [.int y43, .int 0]) (st := [.ref (a 60)]) F (fun sz => S_X6_placeOf_b6_b15 l D y43 y43.toInt 0 0 rfl (by omega) rfl (by decide) sz) (va_cwS 2 hts gX5_gapIn_X6_placeOf rfl rfl rfl (by decide +kernel) ⟨Nat.le_of_ble_eq_true rfl, Nat.le_of_ble_eq_true rfl⟩) rfl (Nat.le_of_ble_eq_true rfl) ⟨Nat.zero_le _, Nat.zero_le _⟩ dX5_gapIn_53 (fun r44 _ hw45 => ?_)
      have rg47 := hw45.1
      have rg48 := hw45.2
      clear hw45
      refine g_iload_n F 2 dX5_gapIn_56 rfl rfl ?_
      refine u_callSi (k := 0) (n := 0) (As := [.ref (a 60), .int r44, .int (G 18 0)]) (st := []) F (fun sz => S_X5_least_60 l D K a G r44 r44.toInt (G 18 0) (G 18 0).toInt rfl (by omega) rfl (by omega) hI sz) (va_cwS 3 hts gX5_gapIn_X5_least rfl rfl rfl (by decide +kernel) ⟨Nat.le_of_ble_eq_true rfl, Nat.le_of_ble_eq_true rfl⟩) rfl (Nat.le_of_ble_eq_true rfl) ⟨Nat.zero_le _, Nat.zero_le _⟩ dX5_gapIn_57 (fun r49 _ hw50 => ?_)
      have q52 : (0 ≤ r44.toInt ∧ 1 ≤ (G 18 0).toInt ∧ r44.toInt + (G 18 0).toInt ≤ 96 → r49.toInt = psMn (fun q => (G 60) (r44.toInt.toNat + q)) ((G 18 0).toInt - 1).toNat) := hw50.2
      have rg53 := hw50.1
      clear hw50
      refine g_goto F 64 dX5_gapIn_60 (by decide) ?_
      refine g_istore F [(6, .int r49), (5, .int 0), (4, .int 1), (3, .int (G 18 0)), (0, .ref (a 6)), (1, .ref (a 60)), (2, .int p1)] dX5_gapIn_64 (by decide) rfl ?_
      refine g_iload F 1 dX5_gapIn_66 rfl ?_
      refine v_if_eq F 89 dX5_gapIn_68 (by decide) 0 rfl (fun c54 => ?_) (fun c54 => absurd c54 (by decide))
      refine g_iload_n F 6 dX5_gapIn_89 rfl rfl ?_
      refine g_istore F [(7, .int p1), (6, .int r49), (5, .int 0), (4, .int 1), (3, .int (G 18 0)), (0, .ref (a 6)), (1, .ref (a 60)), (2, .int p1)] dX5_gapIn_90 (by decide) rfl ?_
      refine g_iload F 3 dX5_gapIn_92 rfl ?_
      refine v_if_eq F 110 dX5_gapIn_94 (by decide) 1 rfl (fun c55 => absurd c55 (by decide)) (fun c55 => ?_)
      refine g_iload F 2 dX5_gapIn_97 rfl ?_
      refine v_if_eq F 110 dX5_gapIn_99 (by decide) 0 rfl (fun c56 => ?_) (fun c56 => absurd c56 (by decide))
      refine g_iload F 3 dX5_gapIn_110 rfl ?_
      refine v_if_eq F 120 dX5_gapIn_112 (by decide) 1 rfl (fun c57 => absurd c57 (by decide)) (fun c57 => ?_)
      refine g_iload F 1 dX5_gapIn_115 rfl ?_
      refine g_goto F 122 dX5_gapIn_117 (by decide) ?_
      exact u_iret F hA hQ hr () (⟨(by have h9 := ti_rng r49; omega), (by first | (have h1 := q52 ⟨by omega, by omega, by omega⟩; rw [show r44.toInt = 16 * ((G 6 1).toInt - 1) by omega] at h1; unfold psGa; rw [if_pos (by omega), if_neg (by omega), ← h1]; done) | (have h1 := q52 ⟨by omega, by omega, by omega⟩; rw [show r44.toInt = 16 * ((G 6 1).toInt + 1) by omega] at h1; unfold psGa; rw [if_neg (by omega), if_pos (by omega), ← h1]; done))⟩) rfl rfl dX5_gapIn_122
  · have q8 : (y3.toInt < 0 ∨ (G 18 1).toInt ≤ y3.toInt) := q8
    refine g_istore F [(4, .int 0), (3, .int (G 18 0)), (0, .ref (a 6)), (1, .ref (a 60)), (2, .int p1)] dX5_gapIn_23 (by decide) rfl ?_
    refine g_aload_n F 2 dX5_gapIn_25 rfl rfl ?_
    refine xg_6_0 F i_X5 w_0 dX5_gapIn_26 ?_
    refine g_aload_n F 2 dX5_gapIn_29 rfl rfl ?_
    refine xg_6_1 F i_X5 w_2 dX5_gapIn_30 (G 6 1) (rfl) ?_
    refine g_iconst F 1 dX5_gapIn_33 (by decide) ?_
    refine u_iadd F dX5_gapIn_34 (G 6 1).toInt 1 rfl rfl (by omega) (by omega) (fun y58 ey58 => ?_)
    refine u_callVi (k := 0) (n := 0) (b := a 2) (As := [.int y58]) (st := []) F (fun sz => S_X7_hasRing_2 l D K a G y58 y58.toInt rfl hI sz) (cwV 1 hts gX5_gapIn_X7_hasRing rfl rfl rfl (by decide +kernel) ⟨Nat.le_of_ble_eq_true rfl, Nat.le_of_ble_eq_true rfl⟩) rfl 2 xc_2 rfl (Nat.le_of_ble_eq_true rfl) ⟨Nat.zero_le _, Nat.zero_le _⟩ dX5_gapIn_35 (fun r59 _ hw60 => ?_)
    rcases hw60 with ⟨rfl, q62⟩ | ⟨rfl, q63⟩
    · have q62 : (0 ≤ y58.toInt ∧ y58.toInt < (G 18 1).toInt) := q62
      refine g_istore F [(5, .int 1), (4, .int 0), (3, .int (G 18 0)), (0, .ref (a 6)), (1, .ref (a 60)), (2, .int p1)] dX5_gapIn_38 (by decide) rfl ?_
      refine g_iload F 1 dX5_gapIn_40 rfl ?_
      refine v_if_eq F 63 dX5_gapIn_42 (by decide) 0 rfl (fun c64 => ?_) (fun c64 => absurd c64 (by decide))
      refine g_iload_n F 5 dX5_gapIn_63 rfl rfl ?_
      refine g_istore F [(6, .int p1), (5, .int 1), (4, .int 0), (3, .int (G 18 0)), (0, .ref (a 6)), (1, .ref (a 60)), (2, .int p1)] dX5_gapIn_64 (by decide) rfl ?_
      refine g_iload F 1 dX5_gapIn_66 rfl ?_
      refine v_if_eq F 89 dX5_gapIn_68 (by decide) 1 rfl (fun c65 => absurd c65 (by decide)) (fun c65 => ?_)
      refine g_aload_n F 5 dX5_gapIn_71 rfl rfl ?_
      refine g_aload_n F 4 dX5_gapIn_72 rfl rfl ?_
      refine xg_6_1 F i_X5 w_2 dX5_gapIn_73 (G 6 1) (rfl) ?_
      refine g_iconst F 1 dX5_gapIn_76 (by decide) ?_
      refine u_iadd F dX5_gapIn_77 (G 6 1).toInt 1 rfl rfl (by omega) (by omega) (fun y66 ey66 => ?_)
      refine g_iconst F 0 dX5_gapIn_78 (by decide) ?_
      refine u_call0 (k := 0) (n := 0) (As := [.int y66, .int 0]) (st := [.ref (a 60)]) F (fun sz => S_X6_placeOf_b6_b15 l D y66 y66.toInt 0 0 rfl (by omega) rfl (by decide) sz) (va_cwS 2 hts gX5_gapIn_X6_placeOf rfl rfl rfl (by decide +kernel) ⟨Nat.le_of_ble_eq_true rfl, Nat.le_of_ble_eq_true rfl⟩) rfl (Nat.le_of_ble_eq_true rfl) ⟨Nat.zero_le _, Nat.zero_le _⟩ dX5_gapIn_79 (fun r67 _ hw68 => ?_)
      have rg70 := hw68.1
      have rg71 := hw68.2
      clear hw68
      refine g_iload_n F 3 dX5_gapIn_82 rfl rfl ?_
      refine u_callSi (k := 0) (n := 0) (As := [.ref (a 60), .int r67, .int (G 18 0)]) (st := []) F (fun sz => S_X5_least_60 l D K a G r67 r67.toInt (G 18 0) (G 18 0).toInt rfl (by omega) rfl (by omega) hI sz) (va_cwS 3 hts gX5_gapIn_X5_least rfl rfl rfl (by decide +kernel) ⟨Nat.le_of_ble_eq_true rfl, Nat.le_of_ble_eq_true rfl⟩) rfl (Nat.le_of_ble_eq_true rfl) ⟨Nat.zero_le _, Nat.zero_le _⟩ dX5_gapIn_83 (fun r72 _ hw73 => ?_)
      have q75 : (0 ≤ r67.toInt ∧ 1 ≤ (G 18 0).toInt ∧ r67.toInt + (G 18 0).toInt ≤ 96 → r72.toInt = psMn (fun q => (G 60) (r67.toInt.toNat + q)) ((G 18 0).toInt - 1).toNat) := hw73.2
      have rg76 := hw73.1
      clear hw73
      refine g_goto F 90 dX5_gapIn_86 (by decide) ?_
      refine g_istore F [(7, .int r72), (6, .int p1), (5, .int 1), (4, .int 0), (3, .int (G 18 0)), (0, .ref (a 6)), (1, .ref (a 60)), (2, .int p1)] dX5_gapIn_90 (by decide) rfl ?_
      refine g_iload F 3 dX5_gapIn_92 rfl ?_
      refine v_if_eq F 110 dX5_gapIn_94 (by decide) 0 rfl (fun c77 => ?_) (fun c77 => absurd c77 (by decide))
      refine g_iload F 3 dX5_gapIn_110 rfl ?_
      refine v_if_eq F 120 dX5_gapIn_112 (by decide) 0 rfl (fun c78 => ?_) (fun c78 => absurd c78 (by decide))
      refine g_iload F 0 dX5_gapIn_120 rfl ?_
      exact u_iret F hA hQ hr () (⟨(by have h9 := ti_rng r72; omega), (by first | (have h1 := q75 ⟨by omega, by omega, by omega⟩; rw [show r67.toInt = 16 * ((G 6 1).toInt - 1) by omega] at h1; unfold psGa; rw [if_pos (by omega), if_neg (by omega), ← h1]; done) | (have h1 := q75 ⟨by omega, by omega, by omega⟩; rw [show r67.toInt = 16 * ((G 6 1).toInt + 1) by omega] at h1; unfold psGa; rw [if_neg (by omega), if_pos (by omega), ← h1]; done))⟩) rfl rfl dX5_gapIn_122
    · have q63 : (y58.toInt < 0 ∨ (G 18 1).toInt ≤ y58.toInt) := q63
      refine g_istore F [(5, .int 0), (4, .int 0), (3, .int (G 18 0)), (0, .ref (a 6)), (1, .ref (a 60)), (2, .int p1)] dX5_gapIn_38 (by decide) rfl ?_
      refine g_iload F 1 dX5_gapIn_40 rfl ?_
      refine v_if_eq F 63 dX5_gapIn_42 (by decide) 0 rfl (fun c79 => ?_) (fun c79 => absurd c79 (by decide))
      refine g_iload_n F 5 dX5_gapIn_63 rfl rfl ?_
      refine g_istore F [(6, .int p1), (5, .int 0), (4, .int 0), (3, .int (G 18 0)), (0, .ref (a 6)), (1, .ref (a 60)), (2, .int p1)] dX5_gapIn_64 (by decide) rfl ?_
      refine g_iload F 1 dX5_gapIn_66 rfl ?_
      refine v_if_eq F 89 dX5_gapIn_68 (by decide) 0 rfl (fun c80 => ?_) (fun c80 => absurd c80 (by decide))
      refine g_iload_n F 6 dX5_gapIn_89 rfl rfl ?_
      refine g_istore F [(7, .int p1), (6, .int p1), (5, .int 0), (4, .int 0), (3, .int (G 18 0)), (0, .ref (a 6)), (1, .ref (a 60)), (2, .int p1)] dX5_gapIn_90 (by decide) rfl ?_
      refine g_iload F 3 dX5_gapIn_92 rfl ?_
      refine v_if_eq F 110 dX5_gapIn_94 (by decide) 0 rfl (fun c81 => ?_) (fun c81 => absurd c81 (by decide))
      refine g_iload F 3 dX5_gapIn_110 rfl ?_
      refine v_if_eq F 120 dX5_gapIn_112 (by decide) 0 rfl (fun c82 => ?_) (fun c82 => absurd c82 (by decide))
      refine g_iload F 0 dX5_gapIn_120 rfl ?_
      exact u_iret F hA hQ hr () (⟨(by have h9 := ti_rng p1; omega), (by unfold psGa; rw [if_neg (by omega), if_neg (by omega)]; exact e1)⟩) rfl rfl dX5_gapIn_122


set_option maxHeartbeats 4000000 in
set_option maxRecDepth 100000 in
theorem S_X5_run_60 (l : Launch) (D : va_G) (K : Nat → ClassId) (a : Nat → Nat) (G : gS) (p1 : Int32) (s1 : Int) (p2 : Int32) (s2 : Int) (p3 : Int32) (s3 : Int) (e1 : p1.toInt = s1) (h1 : 0 ≤ s1 ∧ s1 ≤ 30000) (e2 : p2.toInt = s2) (h2 : 0 ≤ s2 ∧ s2 ≤ 300) (e3 : p3.toInt = s3) (h3 : 0 ≤ s3 ∧ s3 ≤ 300) (fr : (0 ≤ (G 6 1).toInt ∧ (G 6 1).toInt < (G 18 1).toInt ∧ 1 ≤ (G 6 2).toInt ∧ (G 6 2).toInt ≤ 9 ∧ 1 ≤ (G 6 3).toInt ∧ (G 6 3).toInt ≤ 20 ∧ 1 ≤ (G 6 4).toInt ∧ (G 6 4).toInt ≤ 12)) (hI : xI G) (sz : Nat) : Ki l yX5_run wsX5_run 4 115 0 0 D [.ref (a 6), .ref (a 60), .int p1, .int p2, .int p3] (xW K a G) (tK K) sz (fun (r : Int32) (G' : gS) => (xI G') ∧ (gu_un xcd [608, 613, 614, 615, 616, 617, 618, 619, 620, 2100, 2400, 2700, 4400, 4500, 4600, 4700, 4800] G G') ∧ ((-4) ≤ r.toInt ∧ r.toInt ≤ 2) ∧ ((r.toInt = -4 ∨ (0 ≤ r.toInt ∧ r.toInt ≤ 2))) ∧ (((xTok G ∧ r.toInt ≠ -4) → xOut G (G 60) p1 p2 p3 G' r.toInt)) ∧ (((r.toInt = -4 ∧ psMx (psHr (G 60) (G 6 1).toInt (G 18 0).toInt) ((G 18 0).toInt - 1).toNat - (G 6 3).toInt * (G 6 4).toInt < 1) ∨ (r.toInt ≠ -4 ∧ 1 ≤ psMx (psHr (G 60) (G 6 1).toInt (G 18 0).toInt) ((G 18 0).toInt - 1).toNat - (G 6 3).toInt * (G 6 4).toInt)))) (fun (G' : gS) => (xW K a G')) (fun _ => (tK K)) := by
  unfold Ki
  refine g_ofW (cc := cX5_run) (lv := [(0, .ref (a 6)), (1, .ref (a 60)), (2, .int p1), (3, .int p2), (4, .int p3)]) (by decide) rfl (Nat.le_of_ble_eq_true rfl) rfl ?_
  intro p e s m args below meth c A Q hA hQ F hr hnm
  have hts := F.2.2.2.2.1
  have w_0 : (Cond.fieldLink RX5 40 "QuietCut$Lathe" "feed" "I").before args s = true := hts _ (List.mem_of_getElem? (i := 9) rfl)
  have i_X5 : ∀ w ∈ u_ws RX5 TX5 20, w ∈ wsX5_run := fun _ h => List.mem_cons_of_mem _ (List.mem_append_left _ (List.mem_append_left _ (List.mem_append_right _ h)))
  have w_1 : (Cond.fieldLink RX5 29 "QuietCut$Lathe" "shop" "LQuietCut$Shop;").before args s = true := hts _ (List.mem_of_getElem? (i := 1) rfl)
  have w_2 : (Cond.fieldLink RX5 90 "QuietCut$Shop" "wall" "LQuietCut$Formula;").before args s = true := hts _ (List.mem_of_getElem? (i := 12) rfl)
  have i_X7 : ∀ w ∈ u_ws RX7 TX7 4, w ∈ wsX5_run := fun _ h => List.mem_cons_of_mem _ (List.mem_append_left _ (List.mem_append_right _ h))
  have w_3 : (Cond.fieldLink RX5 17 "QuietCut$Lathe" "heights" "[I").before args s = true := hts _ (List.mem_of_getElem? (i := 4) rfl)
  have w_4 : (Cond.fieldLink RX5 37 "QuietCut$Lathe" "speed" "I").before args s = true := hts _ (List.mem_of_getElem? (i := 13) rfl)
  have w_5 : (Cond.fieldLink RX5 43 "QuietCut$Lathe" "turns" "I").before args s = true := hts _ (List.mem_of_getElem? (i := 10) rfl)
  have w_6 : (Cond.fieldLink RX5 116 "QuietCut$Lathe" "wave" "I").before args s = true := hts _ (List.mem_of_getElem? (i := 14) rfl)
  have w_7 : (Cond.fieldLink RX5 56 "QuietCut$Shop" "numbers" "[I").before args s = true := hts _ (List.mem_of_getElem? (i := 2) rfl)
  have w_8 : (Cond.fieldLink RX5 83 "QuietCut$Lathe" "begun" "I").before args s = true := hts _ (List.mem_of_getElem? (i := 11) rfl)
  have w_9 : (Cond.fieldLink RX5 33 "QuietCut$Lathe" "ring" "I").before args s = true := hts _ (List.mem_of_getElem? (i := 3) rfl)
  have w_10 : (Cond.methodLink RX5 65 arraycopyName).before args s = true := hts _ (List.mem_of_getElem? (i := 5) rfl)
  have w_11 : (Cond.native arraycopyName).before args s = true := hts _ (List.mem_of_getElem? (i := 6) rfl)
  have w_12 : (Cond.static arraycopyName).before args s = true := hts _ (List.mem_of_getElem? (i := 7) rfl)
  have w_13 : (Cond.initialized "java/lang/System").before args s = true := hts _ (List.mem_of_getElem? (i := 8) rfl)
  have b1 : (4 : Int) ≤ (G 18 0).toInt ∧ (G 18 0).toInt ≤ 16 := hI 18 0
  have b2 : (1 : Int) ≤ (G 18 1).toInt ∧ (G 18 1).toInt ≤ 6 := hI 18 1
  have b3 : (0 : Int) ≤ (G 18 8).toInt ∧ (G 18 8).toInt ≤ 9999 := hI 18 8
  have b4 : (1 : Int) ≤ (G 18 10).toInt ∧ (G 18 10).toInt ≤ 4 := hI 18 10
  have b5 : (1 : Int) ≤ (G 18 11).toInt ∧ (G 18 11).toInt ≤ 6 := hI 18 11
  have J_121 : ∀ (fuel : Nat) (x121_6 : Int32) (x121_7 : Int32) (x121_8 : Int32) (x121_9 : Int32) (x121_10 : Int32) (Gj121 : gS), (2147483647 - x121_10.toInt).toNat < fuel → ((-1000000) ≤ x121_6.toInt ∧ x121_6.toInt ≤ 5000) → ((-9998) ≤ x121_7.toInt ∧ x121_7.toInt ≤ 1000000) → (0 ≤ x121_8.toInt ∧ x121_8.toInt ≤ 1) → (0 ≤ x121_9.toInt ∧ x121_9.toInt ≤ 5) → (0 ≤ x121_10.toInt ∧ x121_10.toInt ≤ 12) → (xI Gj121) → (gu_un xcd [608, 613, 614, 615, 617, 618, 619, 620, 2100, 2400, 2700, 4400, 4500, 4600, 4700, 4800] G Gj121) → (∃ n9 : Nat, (n9 : Int) ≤ x121_10.toInt * (G 18 0).toInt ∧ (x121_8.toInt = 0 → (n9 : Int) = x121_10.toInt * (G 18 0).toInt ∧ x121_9.toInt = (n9 : Int) % (G 18 11).toInt) ∧ (xTok G → xRl G (G 60) p1 x121_6 x121_7 p2 p3 Gj121 n9 x121_8.toInt ∧ xBg G (G 60) p1 x121_6 x121_7 p2 p3 Gj121 n9)) → (x121_6.toInt = psMx (psHr (G 60) (G 6 1).toInt (G 18 0).toInt) ((G 18 0).toInt - 1).toNat ∧ x121_7.toInt = psGa (G 60) (G 6 1).toInt (G 18 1).toInt (G 18 0).toInt x121_6.toInt) → (xMt G Gj121) → ((x121_8.toInt ≠ 0 ∨ (-9999 ≤ (Gj121 6 13).toInt ∧ (Gj121 6 13).toInt ≤ 9999 ∧ -19998 ≤ (Gj121 6 14).toInt ∧ (Gj121 6 14).toInt ≤ 19998))) → (((Gj121 6 19).toInt = x121_10.toInt)) → ((x121_10.toInt ≤ (G 6 4).toInt)) → ((x121_6.toInt - (G 6 3).toInt * (G 6 4).toInt ≥ 1)) → gG p l e (gR 4 0 0 115) s m args below meth c D A 14 Q 0 0 (xW K a Gj121) (tK K) [(0, .ref (a 6)), (3, .int p2), (4, .int p3), (5, .int (G 18 0)), (6, .int x121_6), (7, .int x121_7), (8, .int x121_8), (9, .int x121_9), (10, .int x121_10)] 121 [] := by
    intro fuel
    induction fuel with
    | zero => intro x121_6 x121_7 x121_8 x121_9 x121_10 Gj121 hm; exact absurd hm (Nat.not_lt_zero _)
    | succ fuel_121 ih_121 =>
      intro x121_6 x121_7 x121_8 x121_9 x121_10 Gj121 hm_121 h121_6 h121_7 h121_8 h121_9 h121_10 jI121 jU121 r1 lv mt_121 xb1 bg1 tl1 lc1
      have J_148 : ∀ (fuel : Nat) (x148_8 : Int32) (x148_9 : Int32) (x148_11 : Int32) (Gj148 : gS), (2147483647 - x148_11.toInt).toNat < fuel → (0 ≤ x148_8.toInt ∧ x148_8.toInt ≤ 1) → (0 ≤ x148_9.toInt ∧ x148_9.toInt ≤ 5) → (0 ≤ x121_10.toInt ∧ x121_10.toInt ≤ 11) → (0 ≤ x148_11.toInt ∧ x148_11.toInt ≤ 16) → (xI Gj148) → (gu_un xcd [613, 614, 615, 617, 618, 619, 620, 2100, 2400, 2700, 4500, 4600, 4700, 4800] Gj121 Gj148) → ((xTok G → xRl G (G 60) p1 x121_6 x121_7 p2 p3 Gj148 (x121_10.toInt * (G 18 0).toInt + x148_11.toInt).toNat x148_8.toInt ∧ (0 < x148_11.toInt → xBg G (G 60) p1 x121_6 x121_7 p2 p3 Gj148 (x121_10.toInt * (G 18 0).toInt + x148_11.toInt).toNat))) → (x148_9.toInt = (x121_10.toInt * (G 18 0).toInt + x148_11.toInt) % (G 18 11).toInt) → (xMt G Gj148) → ((x148_8.toInt ≠ 0 ∨ (-9999 ≤ (Gj148 6 13).toInt ∧ (Gj148 6 13).toInt ≤ 9999 ∧ -19998 ≤ (Gj148 6 14).toInt ∧ (Gj148 6 14).toInt ≤ 19998))) → (((Gj148 6 19).toInt = x121_10.toInt + 1)) → ((x121_10.toInt + 1 ≤ (G 6 4).toInt)) → ((x148_8.toInt = 0 ∨ 0 < x148_11.toInt)) → ((x148_11.toInt ≤ (G 18 0).toInt)) → gG p l e (gR 4 0 0 115) s m args below meth c D A 14 Q 0 0 (xW K a Gj148) (tK K) [(0, .ref (a 6)), (3, .int p2), (4, .int p3), (5, .int (G 18 0)), (6, .int x121_6), (7, .int x121_7), (8, .int x148_8), (9, .int x148_9), (10, .int x121_10), (11, .int x148_11)] 148 [] := by
        intro fuel
        induction fuel with
        | zero => intro x148_8 x148_9 x148_11 Gj148 hm; exact absurd hm (Nat.not_lt_zero _)
        | succ fuel_148 ih_148 =>
          intro x148_8 x148_9 x148_11 Gj148 hm_148 h148_8 h148_9 k148_10 h148_11 jI148 jU148 r2 r3 mt xb2 bg2 tl2 sh2 il2
          refine g_iload F 9 dX5_run_148 rfl ?_
          refine g_iload F 3 dX5_run_150 rfl ?_
          refine v_icmp_ge F 255 dX5_run_152 (by decide) x148_11.toInt (G 18 0).toInt rfl rfl (fun c6 => ?_) (fun c6 => ?_)
          · refine u_iinc F (fun v_ => [(10, .int v_), (0, .ref (a 6)), (3, .int p2), (4, .int p3), (5, .int (G 18 0)), (6, .int x121_6), (7, .int x121_7), (8, .int x148_8), (9, .int x148_9), (11, .int x148_11)]) dX5_run_255 (j := 8) rfl x121_10.toInt 1 rfl rfl (by omega) (by omega) (by decide) (fun _ => rfl) (fun y7 ey7 => ?_)
            refine g_goto F 121 dX5_run_258 (by decide) ?_
            refine g_locals [(0, .ref (a 6)), (3, .int p2), (4, .int p3), (5, .int (G 18 0)), (6, .int x121_6), (7, .int x121_7), (8, .int x148_8), (9, .int x148_9), (10, .int y7)] [1, 2, 3, 4, 5, 6, 7, 8, 0] rfl ?_
            exact ih_121 x121_6 x121_7 x148_8 x148_9 y7 Gj148 (by omega) (by have h9 := ti_rng x121_6; omega) (by have h9 := ti_rng x121_7; omega) (by have h9 := ti_rng x148_8; omega) (by have h9 := ti_rng x148_9; omega) (by have h9 := ti_rng y7; omega) jI148 (gu_un.tr (gu_un.tr gu_un.rf (gu_un.su jU121 rfl)) (gu_un.su jU148 rfl)) (⟨(x121_10.toInt * (G 18 0).toInt + x148_11.toInt).toNat, by rw [show y7.toInt = x121_10.toInt + 1 by omega, Int.add_mul, Int.one_mul]; omega, fun h0 => ⟨by rw [show y7.toInt = x121_10.toInt + 1 by omega, Int.add_mul, Int.one_mul]; omega, by rw [Int.toNat_of_nonneg (by omega)]; exact r3⟩, fun hz => ⟨(r2 hz).1, (r2 hz).2 (by omega)⟩⟩) (lv) (mt) (by (first | omega | (simp only [Int32.reduceToInt, true_and, and_true, ne_eq, not_true_eq_false, false_and, or_false, false_or, true_or, or_true, false_implies] <;> omega))) (by (first | omega | (simp only [Int32.reduceToInt, true_and, and_true, ne_eq, not_true_eq_false, false_and, or_false, false_or, true_or, or_true, false_implies] <;> omega))) (by have e9_6_4 : Gj148 6 4 = (G 6 4) := (jU148 6 4 (by decide)).trans (jU121 6 4 (by decide)); (try simp only [e9_6_4, true_and, and_true]) <;> (first | omega | (simp only [Int32.reduceToInt, true_and, and_true, ne_eq, not_true_eq_false, false_and, or_false, false_or, true_or, or_true, false_implies] <;> omega))) (by omega)
          · refine g_iload F 6 dX5_run_155 rfl ?_
            refine v_if_ne F 255 dX5_run_157 (by decide) x148_8.toInt rfl (fun c8 => ?_) (fun c8 => ?_)
            · refine u_iinc F (fun v_ => [(10, .int v_), (0, .ref (a 6)), (3, .int p2), (4, .int p3), (5, .int (G 18 0)), (6, .int x121_6), (7, .int x121_7), (8, .int x148_8), (9, .int x148_9), (11, .int x148_11)]) dX5_run_255 (j := 8) rfl x121_10.toInt 1 rfl rfl (by omega) (by omega) (by decide) (fun _ => rfl) (fun y9 ey9 => ?_)
              refine g_goto F 121 dX5_run_258 (by decide) ?_
              refine g_locals [(0, .ref (a 6)), (3, .int p2), (4, .int p3), (5, .int (G 18 0)), (6, .int x121_6), (7, .int x121_7), (8, .int x148_8), (9, .int x148_9), (10, .int y9)] [1, 2, 3, 4, 5, 6, 7, 8, 0] rfl ?_
              exact ih_121 x121_6 x121_7 x148_8 x148_9 y9 Gj148 (by omega) (by have h9 := ti_rng x121_6; omega) (by have h9 := ti_rng x121_7; omega) (by have h9 := ti_rng x148_8; omega) (by have h9 := ti_rng x148_9; omega) (by have h9 := ti_rng y9; omega) jI148 (gu_un.tr (gu_un.tr gu_un.rf (gu_un.su jU121 rfl)) (gu_un.su jU148 rfl)) (⟨(x121_10.toInt * (G 18 0).toInt + x148_11.toInt).toNat, by rw [show y9.toInt = x121_10.toInt + 1 by omega, Int.add_mul, Int.one_mul]; omega, fun h0 => ⟨by rw [show y9.toInt = x121_10.toInt + 1 by omega, Int.add_mul, Int.one_mul]; omega, by rw [Int.toNat_of_nonneg (by omega)]; exact r3⟩, fun hz => ⟨(r2 hz).1, (r2 hz).2 (by omega)⟩⟩) (lv) (mt) (by (first | omega | (simp only [Int32.reduceToInt, true_and, and_true, ne_eq, not_true_eq_false, false_and, or_false, false_or, true_or, or_true, false_implies] <;> omega))) (by (first | omega | (simp only [Int32.reduceToInt, true_and, and_true, ne_eq, not_true_eq_false, false_and, or_false, false_or, true_or, or_true, false_implies] <;> omega))) (by have e9_6_4 : Gj148 6 4 = (G 6 4) := (jU148 6 4 (by decide)).trans (jU121 6 4 (by decide)); (try simp only [e9_6_4, true_and, and_true]) <;> (first | omega | (simp only [Int32.reduceToInt, true_and, and_true, ne_eq, not_true_eq_false, false_and, or_false, false_or, true_or, or_true, false_implies] <;> omega))) (by omega)
            · have ts0 : 0 ≤ x121_10.toInt * (G 18 0).toInt := Int.mul_nonneg (by omega) (by omega)
              have m1 : (x121_10 + 1).toInt = x121_10.toInt + 1 := ti_add rfl rfl (by omega) (by omega)
              refine g_aload_n F 0 dX5_run_160 rfl rfl ?_
              refine g_iload F 9 dX5_run_161 rfl ?_
              refine g_iload F 8 dX5_run_163 rfl ?_
              refine g_iload F 4 dX5_run_165 rfl ?_
              refine g_aload_n F 0 dX5_run_167 rfl rfl ?_
              refine xg_6_3 F i_X5 w_0 dX5_run_168 (G 6 3) ((jU148 6 3 (by decide)).trans (jU121 6 3 (by decide))) ?_
              refine g_iload F 8 dX5_run_171 rfl ?_
              refine g_iconst F 1 dX5_run_173 (by decide) ?_
              refine g_iadd F dX5_run_174 ?_
              refine g_imul F dX5_run_175 ?_
              refine g_isub F dX5_run_176 ?_
              have m2 : (G 6 3).toInt * (x121_10.toInt + 1) ≤ (G 6 3).toInt * (G 6 4).toInt := Int.mul_le_mul_of_nonneg_left (by omega) (by omega)
              have m3 := Int.mul_nonneg (show (0 : Int) ≤ (G 6 3).toInt by omega) (show (0 : Int) ≤ x121_10.toInt + 1 by omega)
              have m4 : ((G 6 3) * (x121_10 + 1)).toInt = (G 6 3).toInt * (x121_10.toInt + 1) := ti_mul rfl m1 (by omega) (by omega)
              have m5 : ((x121_6 - ((G 6 3) * (x121_10 + 1))) : Int32).toInt = x121_6.toInt - (G 6 3).toInt * (x121_10.toInt + 1) := ti_sub rfl m4 (by omega) (by omega)
              refine u_callVi (k := 0) (n := 0) (b := a 6) (As := [.int x148_11, .int x121_10, .int (x121_6 - ((G 6 3) * (x121_10 + 1)))]) (st := []) F (fun sz => S_X5_bite l D K a Gj148 x148_11 x148_11.toInt x121_10 x121_10.toInt (x121_6 - ((G 6 3) * (x121_10 + 1))) ((x121_6 - ((G 6 3) * (x121_10 + 1))) : Int32).toInt rfl (by omega) rfl rfl (by omega) (by (first | omega | (simp only [Int32.reduceToInt, true_and, and_true, ne_eq, not_true_eq_false, false_and, or_false, false_or, true_or, or_true, false_implies] <;> omega))) jI148 sz) (cwV 3 hts gX5_run_X5_bite rfl rfl rfl (by decide +kernel) ⟨Nat.le_of_ble_eq_true rfl, Nat.le_of_ble_eq_true rfl⟩) rfl 6 xc_6 rfl (Nat.le_of_ble_eq_true rfl) ⟨Nat.zero_le _, Nat.zero_le _⟩ dX5_run_177 (fun r10 G12 hw11 => ?_)
              have hI13 : xI G12 := hw11.1
              have hU14 : gu_un xcd [613, 618, 2100, 2700, 4500, 4600, 4700, 4800] Gj148 G12 := hw11.2.1
              have hp15 := hw11.2.2
              have b16 : (0 : Int) ≤ (Gj121 6 7).toInt ∧ (Gj121 6 7).toInt ≤ 4 := jI121 6 7
              have q17 : (∀ (Q S : gS) (C : Nat → List Int), xBq Gj148 Q C x121_10 (x121_6 - ((G 6 3) * (x121_10 + 1))) → (pR (G 18 0).toInt S (Gj148 45) (Gj148 6 12) (Gj148 6 13) (Gj148 6 14) (Gj148 6 17) (Gj148 6 18) (Gj148 6 16) 0 ∧ pL (G 18 0).toInt S (Gj148 46) (Gj148 47) (Gj148 48)) → (pR (G 18 0).toInt (psT Q C x148_11.toInt x121_10 ((Gj121 6 7).toInt).toNat S) (G12 45) (G12 6 12) (Gj148 6 13) (Gj148 6 14) (G12 6 17) (Gj148 6 18) (Gj148 6 16) (Int32.ofInt r10.toInt) ∧ pL (G 18 0).toInt (psT Q C x148_11.toInt x121_10 ((Gj121 6 7).toInt).toNat S) (G12 46) (G12 47) (G12 48))) := by have h9 := hp15.2.1; (try simp only [(show Gj148 18 0 = (G 18 0) from (jU148 18 0 (by decide)).trans (jU121 18 0 (by decide))), (show Gj148 18 0 = (G 18 0) from (jU148 18 0 (by decide)).trans (jU121 18 0 (by decide))), (show Gj148 18 0 = (G 18 0) from (jU148 18 0 (by decide)).trans (jU121 18 0 (by decide))), (show Gj148 6 7 = (Gj121 6 7) from jU148 6 7 (by decide)), (show Gj148 18 0 = (G 18 0) from (jU148 18 0 (by decide)).trans (jU121 18 0 (by decide))), (show Gj148 6 7 = (Gj121 6 7) from jU148 6 7 (by decide))] at h9); first | exact h9 | omega
              have q18 : (-39996 ≤ r10.toInt ∧ r10.toInt ≤ 39996) := hp15.2.2
              have rg19 := hp15.1
              clear hp15 hw11
              refine g_istore F [(12, .int r10), (0, .ref (a 6)), (3, .int p2), (4, .int p3), (5, .int (G 18 0)), (6, .int x121_6), (7, .int x121_7), (8, .int x148_8), (9, .int x148_9), (10, .int x121_10), (11, .int x148_11)] dX5_run_180 (by decide) rfl ?_
              refine g_iload_n F 2 dX5_run_182 rfl rfl ?_
              refine g_aload_n F 1 dX5_run_183 rfl rfl ?_
              refine xg_6_0 F i_X5 w_1 dX5_run_184 ?_
              refine xg_2_2 F i_X7 w_2 dX5_run_187 ?_
              refine g_aload_n F 1 dX5_run_190 rfl rfl ?_
              refine xg_6_8 F i_X5 w_3 dX5_run_191 ?_
              refine g_iload F 10 dX5_run_194 rfl ?_
              refine u1_iald F 45 0 xc_45 rfl x148_11.toInt rfl (by omega) (by omega) dX5_run_196 ((G12 45) (x148_11.toInt).toNat) (rfl) ?_
              have b20 : ((-9998) : Int) ≤ ((G12 45) (x148_11.toInt).toNat).toInt ∧ ((G12 45) (x148_11.toInt).toNat).toInt ≤ 5000 := hI13 45 _
              refine g_iload F 6 dX5_run_197 rfl ?_
              refine u_callVi (k := 0) (n := 0) (b := a 12) (As := [.int ((G12 45) (x148_11.toInt).toNat), .int x121_7]) (st := [.int p2]) F (fun sz => S_X3_value_12 l D K a G12 ((G12 45) (x148_11.toInt).toNat) ((G12 45) (x148_11.toInt).toNat).toInt x121_7 x121_7.toInt rfl rfl hI13 sz) (cwV 2 hts gX5_run_X3_value rfl rfl rfl (by decide +kernel) ⟨Nat.le_of_ble_eq_true rfl, Nat.le_of_ble_eq_true rfl⟩) rfl 12 xc_12 rfl (Nat.le_of_ble_eq_true rfl) ⟨Nat.zero_le _, Nat.zero_le _⟩ dX5_run_199 (fun r21 G23 hw22 => ?_)
              have hI24 : xI G23 := hw22.1
              have hU25 : gu_un xcd [2400] G12 G23 := hw22.2.1
              have hp26 := hw22.2.2
              have b27 : (0 : Int) ≤ (G 12 1).toInt ∧ (G 12 1).toInt ≤ 80 := hI 12 1
              have q28 : (gcOK (tkr (G 23) ((G 12 1).toInt).toNat) → r21.toInt = (eV ((G12 45) (x148_11.toInt).toNat) x121_7 (tkr (G 23) ((G 12 1).toInt).toNat)).toInt) := by have h9 := hp26; (try simp only [(show G12 12 1 = (G 12 1) from (hU14 12 1 (by decide)).trans ((jU148 12 1 (by decide)).trans (jU121 12 1 (by decide)))), (show G12 12 1 = (G 12 1) from (hU14 12 1 (by decide)).trans ((jU148 12 1 (by decide)).trans (jU121 12 1 (by decide)))), (show G12 23 = (G 23) from (show G12 23 = Gj148 23 from funext fun k_ => hU14 23 k_ (show (2300 : Nat) ∉ ([613, 618, 2100, 2700, 4500, 4600, 4700, 4800] : List Nat) by decide)).trans ((show Gj148 23 = Gj121 23 from funext fun k_ => jU148 23 k_ (show (2300 : Nat) ∉ ([613, 614, 615, 617, 618, 619, 620, 2100, 2400, 2700, 4500, 4600, 4700, 4800] : List Nat) by decide)).trans ((show Gj121 23 = G 23 from funext fun k_ => jU121 23 k_ (show (2300 : Nat) ∉ ([608, 613, 614, 615, 617, 618, 619, 620, 2100, 2400, 2700, 4400, 4500, 4600, 4700, 4800] : List Nat) by decide))))), (show G12 23 = (G 23) from (show G12 23 = Gj148 23 from funext fun k_ => hU14 23 k_ (show (2300 : Nat) ∉ ([613, 618, 2100, 2700, 4500, 4600, 4700, 4800] : List Nat) by decide)).trans ((show Gj148 23 = Gj121 23 from funext fun k_ => jU148 23 k_ (show (2300 : Nat) ∉ ([613, 614, 615, 617, 618, 619, 620, 2100, 2400, 2700, 4500, 4600, 4700, 4800] : List Nat) by decide)).trans ((show Gj121 23 = G 23 from funext fun k_ => jU121 23 k_ (show (2300 : Nat) ∉ ([608, 613, 614, 615, 617, 618, 619, 620, 2100, 2400, 2700, 4400, 4500, 4600, 4700, 4800] : List Nat) by decide)))))] at h9); first | exact h9 | omega
              clear hp26 hw22
              refine g_iconst F 0 dX5_run_202 (by decide) ?_
              refine g_sipush F 999 dX5_run_203 (by decide) ?_
              refine u_call0 (k := 0) (n := 0) (As := [.int r21, .int 0, .int 999]) (st := [.int p2]) F (fun sz => S_X5_within l D r21 r21.toInt 0 0 999 999 rfl rfl rfl sz) (va_cwS 3 hts gX5_run_X5_within rfl rfl rfl (by decide +kernel) ⟨Nat.le_of_ble_eq_true rfl, Nat.le_of_ble_eq_true rfl⟩) rfl (Nat.le_of_ble_eq_true rfl) ⟨Nat.zero_le _, Nat.zero_le _⟩ dX5_run_206 (fun r29 _ hw30 => ?_)
              have q32 : (r29.toInt = max (0 : Int) (min (999 : Int) r21.toInt)) := hw30
              clear hw30
              refine g_iadd F dX5_run_209 ?_
              have hs9 : ((p2 + r29) : Int32).toInt = _ + _ := ti_add rfl rfl (by omega) (by omega)
              refine g_istore F [(13, .int (p2 + r29)), (12, .int r10), (0, .ref (a 6)), (3, .int p2), (4, .int p3), (5, .int (G 18 0)), (6, .int x121_6), (7, .int x121_7), (8, .int x148_8), (9, .int x148_9), (10, .int x121_10), (11, .int x148_11)] dX5_run_210 (by decide) rfl ?_
              refine g_aload_n F 2 dX5_run_212 rfl rfl ?_
              refine g_aload_n F 2 dX5_run_213 rfl rfl ?_
              refine xg_6_2 F i_X5 w_4 dX5_run_214 (G 6 2) ((hU25 6 2 (by decide)).trans ((hU14 6 2 (by decide)).trans ((jU148 6 2 (by decide)).trans (jU121 6 2 (by decide))))) ?_
              refine g_aload_n F 2 dX5_run_217 rfl rfl ?_
              refine xg_6_0 F i_X5 w_1 dX5_run_218 ?_
              refine g_iload F 9 dX5_run_221 rfl ?_
              refine u_callVi (k := 0) (n := 0) (b := a 2) (As := [.int x148_9]) (st := [.int (G 6 2), .ref (a 6)]) F (fun sz => S_X7_swayAt_2 l D K a G23 x148_9 x148_9.toInt rfl (by omega) hI24 sz) (cwV 1 hts gX5_run_X7_swayAt rfl rfl rfl (by decide +kernel) ⟨Nat.le_of_ble_eq_true rfl, Nat.le_of_ble_eq_true rfl⟩) rfl 2 xc_2 rfl (Nat.le_of_ble_eq_true rfl) ⟨Nat.zero_le _, Nat.zero_le _⟩ dX5_run_223 (fun r33 _ hw34 => ?_)
              have q36 : (r33.toInt = ((G 18) (30 + (x148_9.toInt).toNat)).toInt) := by have h9 := hw34.2; (try simp only [(show G23 18 = (G 18) from (show G23 18 = G12 18 from funext fun k_ => hU25 18 k_ (show (1800 : Nat) ∉ ([2400] : List Nat) by decide)).trans ((show G12 18 = Gj148 18 from funext fun k_ => hU14 18 k_ (show (1800 : Nat) ∉ ([613, 618, 2100, 2700, 4500, 4600, 4700, 4800] : List Nat) by decide)).trans ((show Gj148 18 = Gj121 18 from funext fun k_ => jU148 18 k_ (show (1800 : Nat) ∉ ([613, 614, 615, 617, 618, 619, 620, 2100, 2400, 2700, 4500, 4600, 4700, 4800] : List Nat) by decide)).trans ((show Gj121 18 = G 18 from funext fun k_ => jU121 18 k_ (show (1800 : Nat) ∉ ([608, 613, 614, 615, 617, 618, 619, 620, 2100, 2400, 2700, 4400, 4500, 4600, 4700, 4800] : List Nat) by decide))))))] at h9); first | exact h9 | omega
              have rg37 := hw34.1
              clear hw34
              refine g_iadd F dX5_run_226 ?_
              have ss9 : (((G 6 2) + r33) : Int32).toInt = _ + _ := ti_add rfl rfl (by omega) (by omega)
              refine g_iload F 1 dX5_run_227 rfl ?_
              refine g_iload F 0 dX5_run_229 rfl ?_
              refine g_iload F 4 dX5_run_231 rfl ?_
              refine u_callVi (k := 0) (n := 0) (b := a 6) (As := [.int ((G 6 2) + r33), .int r10, .int (p2 + r29), .int p3]) (st := []) F (fun sz => S_X5_swingsTooFar l D K a G23 ((G 6 2) + r33) (((G 6 2) + r33) : Int32).toInt r10 r10.toInt (p2 + r29) ((p2 + r29) : Int32).toInt p3 s3 rfl rfl (by omega) rfl (by omega) e3 (by omega) (by have e9_6_13 : G23 6 13 = (Gj148 6 13) := (hU25 6 13 (by decide)).trans (hU14 6 13 (by decide)); have e9_6_14 : G23 6 14 = (Gj148 6 14) := (hU25 6 14 (by decide)).trans (hU14 6 14 (by decide)); (try simp only [e9_6_13, e9_6_14, true_and, and_true]) <;> (first | omega | (simp only [Int32.reduceToInt, true_and, and_true, ne_eq, not_true_eq_false, false_and, or_false, false_or, true_or, or_true, false_implies] <;> omega))) hI24 sz) (cwV 4 hts gX5_run_X5_swingsTooFar rfl rfl rfl (by decide +kernel) ⟨Nat.le_of_ble_eq_true rfl, Nat.le_of_ble_eq_true rfl⟩) rfl 6 xc_6 rfl (Nat.le_of_ble_eq_true rfl) ⟨Nat.zero_le _, Nat.zero_le _⟩ dX5_run_233 (fun r38 G40 hw39 => ?_)
              have hI41 : xI G40 := hw39.1
              have hU42 : gu_un xcd [614, 615, 617, 619] G23 G40 := hw39.2.1
              have hp43 := hw39.2.2
              have q44 : (∀ Q S : gS, (Q 0 2 = (G 18) 2 ∧ Q 0 7 = (G 18) 7 ∧ Q 3 5 = p3) → swR S (G23 6 13) (G23 6 14) (G23 6 18) (G23 6 16) 0 → swR (psJ Q r10 (p2 + r29) ((((G 6 2) + r33) : Int32).toInt).toNat S) (G40 6 13) (G40 6 14) (G40 6 18) (G40 6 16) (Int32.ofInt r38.toInt)) := by have h9 := hp43.2.1; (try simp only [(show G23 18 = (G 18) from (show G23 18 = G12 18 from funext fun k_ => hU25 18 k_ (show (1800 : Nat) ∉ ([2400] : List Nat) by decide)).trans ((show G12 18 = Gj148 18 from funext fun k_ => hU14 18 k_ (show (1800 : Nat) ∉ ([613, 618, 2100, 2700, 4500, 4600, 4700, 4800] : List Nat) by decide)).trans ((show Gj148 18 = Gj121 18 from funext fun k_ => jU148 18 k_ (show (1800 : Nat) ∉ ([613, 614, 615, 617, 618, 619, 620, 2100, 2400, 2700, 4500, 4600, 4700, 4800] : List Nat) by decide)).trans ((show Gj121 18 = G 18 from funext fun k_ => jU121 18 k_ (show (1800 : Nat) ∉ ([608, 613, 614, 615, 617, 618, 619, 620, 2100, 2400, 2700, 4400, 4500, 4600, 4700, 4800] : List Nat) by decide)))))), (show G23 18 = (G 18) from (show G23 18 = G12 18 from funext fun k_ => hU25 18 k_ (show (1800 : Nat) ∉ ([2400] : List Nat) by decide)).trans ((show G12 18 = Gj148 18 from funext fun k_ => hU14 18 k_ (show (1800 : Nat) ∉ ([613, 618, 2100, 2700, 4500, 4600, 4700, 4800] : List Nat) by decide)).trans ((show Gj148 18 = Gj121 18 from funext fun k_ => jU148 18 k_ (show (1800 : Nat) ∉ ([613, 614, 615, 617, 618, 619, 620, 2100, 2400, 2700, 4500, 4600, 4700, 4800] : List Nat) by decide)).trans ((show Gj121 18 = G 18 from funext fun k_ => jU121 18 k_ (show (1800 : Nat) ∉ ([608, 613, 614, 615, 617, 618, 619, 620, 2100, 2400, 2700, 4400, 4500, 4600, 4700, 4800] : List Nat) by decide))))))] at h9); first | exact h9 | omega
              have q45 : (r38.toInt ≠ 0 ∨ (-9999 ≤ (G40 6 13).toInt ∧ (G40 6 13).toInt ≤ 9999 ∧ -19998 ≤ (G40 6 14).toInt ∧ (G40 6 14).toInt ≤ 19998)) := hp43.2.2
              have rg46 := hp43.1
              clear hp43 hw39
              refine g_istore F [(8, .int r38), (13, .int (p2 + r29)), (12, .int r10), (0, .ref (a 6)), (3, .int p2), (4, .int p3), (5, .int (G 18 0)), (6, .int x121_6), (7, .int x121_7), (9, .int x148_9), (10, .int x121_10), (11, .int x148_11)] dX5_run_236 (by decide) rfl ?_
              refine g_aload_n F 3 dX5_run_238 rfl rfl ?_
              refine xg_6_0 F i_X5 w_1 dX5_run_239 ?_
              refine g_iload F 9 dX5_run_242 rfl ?_
              refine u_callVi (k := 0) (n := 0) (b := a 2) (As := [.int x148_9]) (st := []) F (fun sz => S_X7_swayBehind_2 l D K a G40 x148_9 x148_9.toInt rfl (by omega) hI41 sz) (cwV 1 hts gX5_run_X7_swayBehind rfl rfl rfl (by decide +kernel) ⟨Nat.le_of_ble_eq_true rfl, Nat.le_of_ble_eq_true rfl⟩) rfl 2 xc_2 rfl (Nat.le_of_ble_eq_true rfl) ⟨Nat.zero_le _, Nat.zero_le _⟩ dX5_run_244 (fun r47 _ hw48 => ?_)
              have q50 : (r47.toInt = if x148_9.toInt + 1 < (G 18 11).toInt then x148_9.toInt + 1 else 0) := by have h9 := hw48.2; (try simp only [(show G40 18 11 = (G 18 11) from (hU42 18 11 (by decide)).trans ((hU25 18 11 (by decide)).trans ((hU14 18 11 (by decide)).trans ((jU148 18 11 (by decide)).trans (jU121 18 11 (by decide))))))] at h9); first | exact h9 | omega
              have rg51 := hw48.1
              clear hw48
              refine g_istore F [(9, .int r47), (8, .int r38), (13, .int (p2 + r29)), (12, .int r10), (0, .ref (a 6)), (3, .int p2), (4, .int p3), (5, .int (G 18 0)), (6, .int x121_6), (7, .int x121_7), (10, .int x121_10), (11, .int x148_11)] dX5_run_247 (by decide) rfl ?_
              refine u_iinc F (fun v_ => [(11, .int v_), (9, .int r47), (8, .int r38), (13, .int (p2 + r29)), (12, .int r10), (0, .ref (a 6)), (3, .int p2), (4, .int p3), (5, .int (G 18 0)), (6, .int x121_6), (7, .int x121_7), (10, .int x121_10)]) dX5_run_249 (j := 11) rfl x148_11.toInt 1 rfl rfl (by omega) (by omega) (by decide) (fun _ => rfl) (fun y52 ey52 => ?_)
              refine g_goto F 148 dX5_run_252 (by decide) ?_
              refine g_locals [(0, .ref (a 6)), (3, .int p2), (4, .int p3), (5, .int (G 18 0)), (6, .int x121_6), (7, .int x121_7), (8, .int r38), (9, .int r47), (10, .int x121_10), (11, .int y52)] [5, 6, 7, 8, 9, 10, 2, 1, 11, 0] rfl ?_
              exact ih_148 r38 r47 y52 G40 (by omega) (by have h9 := ti_rng r38; omega) (by have h9 := ti_rng r47; omega) (by have h9 := ti_rng x121_10; omega) (by have h9 := ti_rng y52; omega) hI41 (gu_un.tr (gu_un.tr (gu_un.tr (gu_un.tr gu_un.rf (gu_un.su jU148 rfl)) (gu_un.su hU14 rfl)) (gu_un.su hU25 rfl)) (gu_un.su hU42 rfl)) (fun hz => by have h9 := xRl.go (n := (x121_10.toInt * (G 18 0).toInt + x148_11.toInt).toNat) (y := (x121_10.toInt * (G 18 0).toInt + y52.toInt).toNat) (T := x121_10.toInt) (i := x148_11.toInt) (s := (G 18 0).toInt) (t := x121_10) (fo := r10) (ho := (p2 + r29)) (m := ((Gj121 6 7).toInt).toNat) (rd := x148_9.toInt) (k := ((((G 6 2) + r33) : Int32).toInt).toNat) (sh := r38) ((r2 hz).1.sh (by omega)) (by omega) rfl (by omega) (by omega) rfl (fun Q C hq => xBq_of hq (show Gj148 18 = (G 18) from ((show Gj148 18 = Gj121 18 from funext fun k_ => jU148 18 k_ (by simp [xcd])).trans (show Gj121 18 = (G 18) from ((show Gj121 18 = G 18 from funext fun k_ => jU121 18 k_ (by simp [xcd])).trans (show G 18 = (G 18) from rfl))))) (show Gj148 20 = (G 20) from ((show Gj148 20 = Gj121 20 from funext fun k_ => jU148 20 k_ (by simp [xcd])).trans (show Gj121 20 = (G 20) from ((show Gj121 20 = G 20 from funext fun k_ => jU121 20 k_ (by simp [xcd])).trans (show G 20 = (G 20) from rfl))))) (show Gj148 26 = (G 26) from ((show Gj148 26 = Gj121 26 from funext fun k_ => jU148 26 k_ (by simp [xcd])).trans (show Gj121 26 = (G 26) from ((show Gj121 26 = G 26 from funext fun k_ => jU121 26 k_ (by simp [xcd])).trans (show G 26 = (G 26) from rfl))))) (show Gj148 11 1 = (G 11 1) from (jU148 11 1 (by decide)).trans (jU121 11 1 (by decide))) (show Gj148 13 1 = (G 13 1) from (jU148 13 1 (by decide)).trans (jU121 13 1 (by decide))) (mt hz) rfl) (by have h6 := (mt hz).1; rw [show Gj148 6 7 = (Gj121 6 7) from jU148 6 7 (by decide)] at h6; rw [h6]) (Int32.toInt_inj.mp (by omega)) (by have h := q17; simp only [Int32.ofInt_toInt] at h; exact h) (fun gc => congrArg (p2 + ·) (psC_of q32 (q28 gc))) (by rw [Int.toNat_of_nonneg (by omega)]; exact r3) (by omega) (by rw [← Int32.toInt_inj.mp q36]) (by have h := q44; rw [Int32.ofInt_toInt, show G23 6 13 = Gj148 6 13 from (show G23 6 13 = Gj148 6 13 from (show gu_un xcd [613, 618, 2100, 2400, 2700, 4500, 4600, 4700, 4800] Gj148 G23 from (gu_un.tr (gu_un.tr gu_un.rf (gu_un.su hU14 rfl)) (gu_un.su hU25 rfl))) 6 13 (by decide)), show G23 6 14 = Gj148 6 14 from (show G23 6 14 = Gj148 6 14 from (show gu_un xcd [613, 618, 2100, 2400, 2700, 4500, 4600, 4700, 4800] Gj148 G23 from (gu_un.tr (gu_un.tr gu_un.rf (gu_un.su hU14 rfl)) (gu_un.su hU25 rfl))) 6 14 (by decide)), show G23 6 18 = Gj148 6 18 from (show G23 6 18 = Gj148 6 18 from (show gu_un xcd [613, 618, 2100, 2400, 2700, 4500, 4600, 4700, 4800] Gj148 G23 from (gu_un.tr (gu_un.tr gu_un.rf (gu_un.su hU14 rfl)) (gu_un.su hU25 rfl))) 6 18 (by decide)), show G23 6 16 = Gj148 6 16 from (show G23 6 16 = Gj148 6 16 from (show gu_un xcd [613, 618, 2100, 2400, 2700, 4500, 4600, 4700, 4800] Gj148 G23 from (gu_un.tr (gu_un.tr gu_un.rf (gu_un.su hU14 rfl)) (gu_un.su hU25 rfl))) 6 16 (by decide))] at h; exact h) (show G40 45 = G12 45 from funext fun k_ => (show gu_un xcd [614, 615, 617, 619, 2400] G12 G40 from (gu_un.tr (gu_un.tr gu_un.rf (gu_un.su hU25 rfl)) (gu_un.su hU42 rfl))) 45 k_ (by simp [xcd])) (show G40 46 = G12 46 from funext fun k_ => (show gu_un xcd [614, 615, 617, 619, 2400] G12 G40 from (gu_un.tr (gu_un.tr gu_un.rf (gu_un.su hU25 rfl)) (gu_un.su hU42 rfl))) 46 k_ (by simp [xcd])) (show G40 47 = G12 47 from funext fun k_ => (show gu_un xcd [614, 615, 617, 619, 2400] G12 G40 from (gu_un.tr (gu_un.tr gu_un.rf (gu_un.su hU25 rfl)) (gu_un.su hU42 rfl))) 47 k_ (by simp [xcd])) (show G40 48 = G12 48 from funext fun k_ => (show gu_un xcd [614, 615, 617, 619, 2400] G12 G40 from (gu_un.tr (gu_un.tr gu_un.rf (gu_un.su hU25 rfl)) (gu_un.su hU42 rfl))) 48 k_ (by simp [xcd])) (show G40 6 12 = G12 6 12 from (show gu_un xcd [614, 615, 617, 619, 2400] G12 G40 from (gu_un.tr (gu_un.tr gu_un.rf (gu_un.su hU25 rfl)) (gu_un.su hU42 rfl))) 6 12 (by decide)) (show G40 6 17 = G12 6 17 from (show gu_un xcd [614, 615, 617, 619, 2400] G12 G40 from (gu_un.tr (gu_un.tr gu_un.rf (gu_un.su hU25 rfl)) (gu_un.su hU42 rfl))) 6 17 (by decide)) (show G40 6 19 = Gj148 6 19 from (show gu_un xcd [613, 614, 615, 617, 618, 619, 2100, 2400, 2700, 4500, 4600, 4700, 4800] Gj148 G40 from (gu_un.tr (gu_un.tr (gu_un.tr gu_un.rf (gu_un.su hU14 rfl)) (gu_un.su hU25 rfl)) (gu_un.su hU42 rfl))) 6 19 (by decide)) (by omega) rfl; exact ⟨h9.1, fun _ => h9.2⟩) (by rw [show x121_10.toInt * (G 18 0).toInt + y52.toInt = (x121_10.toInt * (G 18 0).toInt + x148_11.toInt) + 1 by omega]; exact rnd_1 r3 (by omega) (by omega) q50) (xMt.tr mt (show G40 6 7 = Gj148 6 7 from (show gu_un xcd [613, 614, 615, 617, 618, 619, 2100, 2400, 2700, 4500, 4600, 4700, 4800] Gj148 G40 from (gu_un.tr (gu_un.tr (gu_un.tr gu_un.rf (gu_un.su hU14 rfl)) (gu_un.su hU25 rfl)) (gu_un.su hU42 rfl))) 6 7 (by decide)) (show G40 44 = Gj148 44 from funext fun k_ => (show gu_un xcd [613, 614, 615, 617, 618, 619, 2100, 2400, 2700, 4500, 4600, 4700, 4800] Gj148 G40 from (gu_un.tr (gu_un.tr (gu_un.tr gu_un.rf (gu_un.su hU14 rfl)) (gu_un.su hU25 rfl)) (gu_un.su hU42 rfl))) 44 k_ (by simp [xcd]))) (by (first | omega | (simp only [Int32.reduceToInt, true_and, and_true, ne_eq, not_true_eq_false, false_and, or_false, false_or, true_or, or_true, false_implies] <;> omega))) (by have e9_6_19 : G40 6 19 = (Gj148 6 19) := (hU42 6 19 (by decide)).trans ((hU25 6 19 (by decide)).trans (hU14 6 19 (by decide))); (try simp only [e9_6_19, true_and, and_true]) <;> (first | omega | (simp only [Int32.reduceToInt, true_and, and_true, ne_eq, not_true_eq_false, false_and, or_false, false_or, true_or, or_true, false_implies] <;> omega))) (by have e9_6_4 : G40 6 4 = (G 6 4) := (hU42 6 4 (by decide)).trans ((hU25 6 4 (by decide)).trans ((hU14 6 4 (by decide)).trans ((jU148 6 4 (by decide)).trans (jU121 6 4 (by decide))))); (try simp only [e9_6_4, true_and, and_true]) <;> (first | omega | (simp only [Int32.reduceToInt, true_and, and_true, ne_eq, not_true_eq_false, false_and, or_false, false_or, true_or, or_true, false_implies] <;> omega))) (by (first | omega | (simp only [Int32.reduceToInt, true_and, and_true, ne_eq, not_true_eq_false, false_and, or_false, false_or, true_or, or_true, false_implies] <;> omega))) (by have e9_18_0 : G40 18 0 = (G 18 0) := (hU42 18 0 (by decide)).trans ((hU25 18 0 (by decide)).trans ((hU14 18 0 (by decide)).trans ((jU148 18 0 (by decide)).trans (jU121 18 0 (by decide))))); (try simp only [e9_18_0, true_and, and_true]) <;> (first | omega | (simp only [Int32.reduceToInt, true_and, and_true, ne_eq, not_true_eq_false, false_and, or_false, false_or, true_or, or_true, false_implies] <;> omega)))
      refine g_iload F 8 dX5_run_121 rfl ?_
      refine g_aload_n F 0 dX5_run_123 rfl rfl ?_
      refine xg_6_4 F i_X5 w_5 dX5_run_124 (G 6 4) (jU121 6 4 (by decide)) ?_
      have b53 := ti_rng (G 6 4)
      refine v_icmp_ge F 261 dX5_run_127 (by decide) x121_10.toInt (G 6 4).toInt rfl rfl (fun c54 => ?_) (fun c54 => ?_)
      · refine g_aload_n F 0 dX5_run_261 rfl rfl ?_
        refine g_aload_n F 0 dX5_run_262 rfl rfl ?_
        refine xg_6_8 F i_X5 w_3 dX5_run_263 ?_
        refine g_iconst F 0 dX5_run_266 (by decide) ?_
        refine g_iload F 3 dX5_run_267 rfl ?_
        refine u_callSi (k := 0) (n := 0) (As := [.ref (a 45), .int 0, .int (G 18 0)]) (st := [.ref (a 6)]) F (fun sz => S_X5_greatest_45 l D K a Gj121 0 0 (G 18 0) (G 18 0).toInt rfl (by decide) rfl (by omega) jI121 sz) (va_cwS 3 hts gX5_run_X5_greatest rfl rfl rfl (by decide +kernel) ⟨Nat.le_of_ble_eq_true rfl, Nat.le_of_ble_eq_true rfl⟩) rfl (Nat.le_of_ble_eq_true rfl) ⟨Nat.zero_le _, Nat.zero_le _⟩ dX5_run_269 (fun r55 _ hw56 => ?_)
        have q58 : ((0 : Int) = 0 ∧ 1 ≤ (G 18 0).toInt ∧ (G 18 0).toInt ≤ 16 → r55.toInt = psMx (Gj121 45) ((G 18 0).toInt - 1).toNat) := hw56.2
        have rg59 := hw56.1
        clear hw56
        refine g_aload_n F 0 dX5_run_272 rfl rfl ?_
        refine xg_6_8 F i_X5 w_3 dX5_run_273 ?_
        refine g_iconst F 0 dX5_run_276 (by decide) ?_
        refine g_iload F 3 dX5_run_277 rfl ?_
        refine u_callSi (k := 0) (n := 0) (As := [.ref (a 45), .int 0, .int (G 18 0)]) (st := [.int r55, .ref (a 6)]) F (fun sz => S_X5_least_45 l D K a Gj121 0 0 (G 18 0) (G 18 0).toInt rfl (by decide) rfl (by omega) jI121 sz) (va_cwS 3 hts gX5_run_X5_least rfl rfl rfl (by decide +kernel) ⟨Nat.le_of_ble_eq_true rfl, Nat.le_of_ble_eq_true rfl⟩) rfl (Nat.le_of_ble_eq_true rfl) ⟨Nat.zero_le _, Nat.zero_le _⟩ dX5_run_279 (fun r60 _ hw61 => ?_)
        have q63 : (0 ≤ (0 : Int) ∧ 1 ≤ (G 18 0).toInt ∧ (0 : Int) + (G 18 0).toInt ≤ 16 → r60.toInt = psMn (fun q => (Gj121 45) ((0 : Int).toNat + q)) ((G 18 0).toInt - 1).toNat) := hw61.2
        have rg64 := hw61.1
        clear hw61
        refine u_isub F dX5_run_282 r55.toInt r60.toInt rfl rfl (by omega) (by omega) (fun y65 ey65 => ?_)
        refine xp_6_15 F i_X5 w_6 dX5_run_283 ?_
        refine g_iload F 6 dX5_run_286 rfl ?_
        refine v_if_eq F 293 dX5_run_288 (by decide) x121_8.toInt rfl (fun c66 => ?_) (fun c66 => ?_)
        · refine g_aload_n F 0 dX5_run_293 rfl rfl ?_
          refine xg_6_15 F i_X5 w_6 dX5_run_294 y65 (rfl) ?_
          refine g_aload_n F 0 dX5_run_297 rfl rfl ?_
          refine xg_6_0 F i_X5 w_1 dX5_run_298 ?_
          refine xg_2_0 F i_X7 w_7 dX5_run_301 ?_
          refine g_bipush F 8 dX5_run_304 (by decide) ?_
          refine u1_iald F 18 0 xc_18 rfl 8 rfl (by decide) (by decide) dX5_run_306 (G 18 8) (jU121 18 8 (by decide)) ?_
          refine v_icmp_le F 314 dX5_run_307 (by decide) y65.toInt (G 18 8).toInt rfl rfl (fun c67 => ?_) (fun c67 => ?_)
          · refine g_iconst F 0 dX5_run_314 (by decide) ?_
            exact u_iret F hA hQ hr (gu_up Gj121 6 15 y65) (⟨(gu_I.up (j := 6) (k := 15) (v := y65) jI121 (ti_rng _).1 (ti_rng _).2), (gu_un.up (j := 6) (k := 15) (v := y65) (gu_un.tr gu_un.rf (gu_un.su jU121 rfl)) (show (616 : Nat) ∈ ([608, 613, 614, 615, 616, 617, 618, 619, 620, 2100, 2400, 2700, 4400, 4500, 4600, 4700, 4800] : List Nat) by decide)), (by decide), (by show (0 = -4 ∨ (0 ≤ 0 ∧ 0 ≤ 2)); (first | omega | (simp only [Int32.reduceToInt, true_and, and_true, ne_eq, not_true_eq_false, false_and, or_false, false_or, true_or, or_true, false_implies] <;> omega))), (fun h9 => by obtain ⟨n9, a1, a2, a3⟩ := r1; have tm := Int.mul_le_mul_of_nonneg_right (show x121_10.toInt ≤ (G 6 4).toInt by omega) (show (0 : Int) ≤ (G 18 0).toInt by omega); have hf := xRl.fin (m := ((G 6 4).toInt * (G 18 0).toInt).toNat) (a3 h9.1).1 (a3 h9.1).2 (by omega) (by by_cases e : x121_8.toInt = 0 <;> first | exact Or.inl e | (right; have a4 := a2 e; rw [show x121_10.toInt = (G 6 4).toInt by omega] at a4; omega)); exact ⟨_, _, lv.1, lv.2, hf.1.sh (by first | (rw [if_pos (by decide)]; omega) | (rw [if_neg (by decide)]; omega)), hf.2, by have g1 := q58 ⟨rfl, by omega, by omega⟩; have g2 := q63 ⟨by omega, by omega, by omega⟩; have g3 : psMn (fun q => (Gj121 45) ((0 : Int).toNat + q)) ((G 18 0).toInt - 1).toNat = psMn (Gj121 45) ((G 18 0).toInt - 1).toNat := psMn_eq (fun i _ => by rw [show (0 : Int).toNat + i = i by omega]); show y65.toInt = psMx (Gj121 45) _ - psMn (Gj121 45) _; omega, by first | exact Or.inl (by decide) | exact Or.inr (Or.inl ⟨by decide, by show (G 18 8).toInt < y65.toInt; omega⟩) | exact Or.inr (Or.inr ⟨by decide, by show y65.toInt ≤ (G 18 8).toInt; omega⟩)⟩), (by have h7 := lv.1; exact Or.inr ⟨by decide, by omega⟩)⟩) rfl rfl dX5_run_315
          · refine g_iconst F 1 dX5_run_310 (by decide) ?_
            refine g_goto F 315 dX5_run_311 (by decide) ?_
            exact u_iret F hA hQ hr (gu_up Gj121 6 15 y65) (⟨(gu_I.up (j := 6) (k := 15) (v := y65) jI121 (ti_rng _).1 (ti_rng _).2), (gu_un.up (j := 6) (k := 15) (v := y65) (gu_un.tr gu_un.rf (gu_un.su jU121 rfl)) (show (616 : Nat) ∈ ([608, 613, 614, 615, 616, 617, 618, 619, 620, 2100, 2400, 2700, 4400, 4500, 4600, 4700, 4800] : List Nat) by decide)), (by decide), (by show (1 = -4 ∨ (0 ≤ 1 ∧ 1 ≤ 2)); (first | omega | (simp only [Int32.reduceToInt, true_and, and_true, ne_eq, not_true_eq_false, false_and, or_false, false_or, true_or, or_true, false_implies] <;> omega))), (fun h9 => by obtain ⟨n9, a1, a2, a3⟩ := r1; have tm := Int.mul_le_mul_of_nonneg_right (show x121_10.toInt ≤ (G 6 4).toInt by omega) (show (0 : Int) ≤ (G 18 0).toInt by omega); have hf := xRl.fin (m := ((G 6 4).toInt * (G 18 0).toInt).toNat) (a3 h9.1).1 (a3 h9.1).2 (by omega) (by by_cases e : x121_8.toInt = 0 <;> first | exact Or.inl e | (right; have a4 := a2 e; rw [show x121_10.toInt = (G 6 4).toInt by omega] at a4; omega)); exact ⟨_, _, lv.1, lv.2, hf.1.sh (by first | (rw [if_pos (by decide)]; omega) | (rw [if_neg (by decide)]; omega)), hf.2, by have g1 := q58 ⟨rfl, by omega, by omega⟩; have g2 := q63 ⟨by omega, by omega, by omega⟩; have g3 : psMn (fun q => (Gj121 45) ((0 : Int).toNat + q)) ((G 18 0).toInt - 1).toNat = psMn (Gj121 45) ((G 18 0).toInt - 1).toNat := psMn_eq (fun i _ => by rw [show (0 : Int).toNat + i = i by omega]); show y65.toInt = psMx (Gj121 45) _ - psMn (Gj121 45) _; omega, by first | exact Or.inl (by decide) | exact Or.inr (Or.inl ⟨by decide, by show (G 18 8).toInt < y65.toInt; omega⟩) | exact Or.inr (Or.inr ⟨by decide, by show y65.toInt ≤ (G 18 8).toInt; omega⟩)⟩), (by have h7 := lv.1; exact Or.inr ⟨by decide, by omega⟩)⟩) rfl rfl dX5_run_315
        · refine g_iconst F 2 dX5_run_291 (by decide) ?_
          exact u_iret F hA hQ hr (gu_up Gj121 6 15 y65) (⟨(gu_I.up (j := 6) (k := 15) (v := y65) jI121 (ti_rng _).1 (ti_rng _).2), (gu_un.up (j := 6) (k := 15) (v := y65) (gu_un.tr gu_un.rf (gu_un.su jU121 rfl)) (show (616 : Nat) ∈ ([608, 613, 614, 615, 616, 617, 618, 619, 620, 2100, 2400, 2700, 4400, 4500, 4600, 4700, 4800] : List Nat) by decide)), (by decide), (by show (2 = -4 ∨ (0 ≤ 2 ∧ 2 ≤ 2)); (first | omega | (simp only [Int32.reduceToInt, true_and, and_true, ne_eq, not_true_eq_false, false_and, or_false, false_or, true_or, or_true, false_implies] <;> omega))), (fun h9 => by obtain ⟨n9, a1, a2, a3⟩ := r1; have tm := Int.mul_le_mul_of_nonneg_right (show x121_10.toInt ≤ (G 6 4).toInt by omega) (show (0 : Int) ≤ (G 18 0).toInt by omega); have hf := xRl.fin (m := ((G 6 4).toInt * (G 18 0).toInt).toNat) (a3 h9.1).1 (a3 h9.1).2 (by omega) (by by_cases e : x121_8.toInt = 0 <;> first | exact Or.inl e | (right; have a4 := a2 e; rw [show x121_10.toInt = (G 6 4).toInt by omega] at a4; omega)); exact ⟨_, _, lv.1, lv.2, hf.1.sh (by first | (rw [if_pos (by decide)]; omega) | (rw [if_neg (by decide)]; omega)), hf.2, by have g1 := q58 ⟨rfl, by omega, by omega⟩; have g2 := q63 ⟨by omega, by omega, by omega⟩; have g3 : psMn (fun q => (Gj121 45) ((0 : Int).toNat + q)) ((G 18 0).toInt - 1).toNat = psMn (Gj121 45) ((G 18 0).toInt - 1).toNat := psMn_eq (fun i _ => by rw [show (0 : Int).toNat + i = i by omega]); show y65.toInt = psMx (Gj121 45) _ - psMn (Gj121 45) _; omega, by first | exact Or.inl (by decide) | exact Or.inr (Or.inl ⟨by decide, by show (G 18 8).toInt < y65.toInt; omega⟩) | exact Or.inr (Or.inr ⟨by decide, by show y65.toInt ≤ (G 18 8).toInt; omega⟩)⟩), (by have h7 := lv.1; exact Or.inr ⟨by decide, by omega⟩)⟩) rfl rfl dX5_run_292
      · refine g_iload F 6 dX5_run_130 rfl ?_
        refine v_if_ne F 261 dX5_run_132 (by decide) x121_8.toInt rfl (fun c68 => ?_) (fun c68 => ?_)
        · refine g_aload_n F 0 dX5_run_261 rfl rfl ?_
          refine g_aload_n F 0 dX5_run_262 rfl rfl ?_
          refine xg_6_8 F i_X5 w_3 dX5_run_263 ?_
          refine g_iconst F 0 dX5_run_266 (by decide) ?_
          refine g_iload F 3 dX5_run_267 rfl ?_
          refine u_callSi (k := 0) (n := 0) (As := [.ref (a 45), .int 0, .int (G 18 0)]) (st := [.ref (a 6)]) F (fun sz => S_X5_greatest_45 l D K a Gj121 0 0 (G 18 0) (G 18 0).toInt rfl (by decide) rfl (by omega) jI121 sz) (va_cwS 3 hts gX5_run_X5_greatest rfl rfl rfl (by decide +kernel) ⟨Nat.le_of_ble_eq_true rfl, Nat.le_of_ble_eq_true rfl⟩) rfl (Nat.le_of_ble_eq_true rfl) ⟨Nat.zero_le _, Nat.zero_le _⟩ dX5_run_269 (fun r69 _ hw70 => ?_)
          have q72 : ((0 : Int) = 0 ∧ 1 ≤ (G 18 0).toInt ∧ (G 18 0).toInt ≤ 16 → r69.toInt = psMx (Gj121 45) ((G 18 0).toInt - 1).toNat) := hw70.2
          have rg73 := hw70.1
          clear hw70
          refine g_aload_n F 0 dX5_run_272 rfl rfl ?_
          refine xg_6_8 F i_X5 w_3 dX5_run_273 ?_
          refine g_iconst F 0 dX5_run_276 (by decide) ?_
          refine g_iload F 3 dX5_run_277 rfl ?_
          refine u_callSi (k := 0) (n := 0) (As := [.ref (a 45), .int 0, .int (G 18 0)]) (st := [.int r69, .ref (a 6)]) F (fun sz => S_X5_least_45 l D K a Gj121 0 0 (G 18 0) (G 18 0).toInt rfl (by decide) rfl (by omega) jI121 sz) (va_cwS 3 hts gX5_run_X5_least rfl rfl rfl (by decide +kernel) ⟨Nat.le_of_ble_eq_true rfl, Nat.le_of_ble_eq_true rfl⟩) rfl (Nat.le_of_ble_eq_true rfl) ⟨Nat.zero_le _, Nat.zero_le _⟩ dX5_run_279 (fun r74 _ hw75 => ?_)
          have q77 : (0 ≤ (0 : Int) ∧ 1 ≤ (G 18 0).toInt ∧ (0 : Int) + (G 18 0).toInt ≤ 16 → r74.toInt = psMn (fun q => (Gj121 45) ((0 : Int).toNat + q)) ((G 18 0).toInt - 1).toNat) := hw75.2
          have rg78 := hw75.1
          clear hw75
          refine u_isub F dX5_run_282 r69.toInt r74.toInt rfl rfl (by omega) (by omega) (fun y79 ey79 => ?_)
          refine xp_6_15 F i_X5 w_6 dX5_run_283 ?_
          refine g_iload F 6 dX5_run_286 rfl ?_
          refine v_if_eq F 293 dX5_run_288 (by decide) x121_8.toInt rfl (fun c80 => absurd c80 (by omega)) (fun c80 => ?_)
          refine g_iconst F 2 dX5_run_291 (by decide) ?_
          exact u_iret F hA hQ hr (gu_up Gj121 6 15 y79) (⟨(gu_I.up (j := 6) (k := 15) (v := y79) jI121 (ti_rng _).1 (ti_rng _).2), (gu_un.up (j := 6) (k := 15) (v := y79) (gu_un.tr gu_un.rf (gu_un.su jU121 rfl)) (show (616 : Nat) ∈ ([608, 613, 614, 615, 616, 617, 618, 619, 620, 2100, 2400, 2700, 4400, 4500, 4600, 4700, 4800] : List Nat) by decide)), (by decide), (by show (2 = -4 ∨ (0 ≤ 2 ∧ 2 ≤ 2)); (first | omega | (simp only [Int32.reduceToInt, true_and, and_true, ne_eq, not_true_eq_false, false_and, or_false, false_or, true_or, or_true, false_implies] <;> omega))), (fun h9 => by obtain ⟨n9, a1, a2, a3⟩ := r1; have tm := Int.mul_le_mul_of_nonneg_right (show x121_10.toInt ≤ (G 6 4).toInt by omega) (show (0 : Int) ≤ (G 18 0).toInt by omega); have hf := xRl.fin (m := ((G 6 4).toInt * (G 18 0).toInt).toNat) (a3 h9.1).1 (a3 h9.1).2 (by omega) (by by_cases e : x121_8.toInt = 0 <;> first | exact Or.inl e | (right; have a4 := a2 e; rw [show x121_10.toInt = (G 6 4).toInt by omega] at a4; omega)); exact ⟨_, _, lv.1, lv.2, hf.1.sh (by first | (rw [if_pos (by decide)]; omega) | (rw [if_neg (by decide)]; omega)), hf.2, by have g1 := q72 ⟨rfl, by omega, by omega⟩; have g2 := q77 ⟨by omega, by omega, by omega⟩; have g3 : psMn (fun q => (Gj121 45) ((0 : Int).toNat + q)) ((G 18 0).toInt - 1).toNat = psMn (Gj121 45) ((G 18 0).toInt - 1).toNat := psMn_eq (fun i _ => by rw [show (0 : Int).toNat + i = i by omega]); show y79.toInt = psMx (Gj121 45) _ - psMn (Gj121 45) _; omega, by first | exact Or.inl (by decide) | exact Or.inr (Or.inl ⟨by decide, by show (G 18 8).toInt < y79.toInt; omega⟩) | exact Or.inr (Or.inr ⟨by decide, by show y79.toInt ≤ (G 18 8).toInt; omega⟩)⟩), (by have h7 := lv.1; exact Or.inr ⟨by decide, by omega⟩)⟩) rfl rfl dX5_run_292
        · refine g_aload_n F 0 dX5_run_135 rfl rfl ?_
          refine g_dup F dX5_run_136 rfl ?_
          refine xg_6_19 F i_X5 w_8 dX5_run_137 (Gj121 6 19) (rfl) ?_
          refine g_iconst F 1 dX5_run_140 (by decide) ?_
          refine u_iaddc F dX5_run_141 (Gj121 6 19).toInt 1 rfl rfl (fun y81 ey81 => ?_)
          refine xp_6_19 F i_X5 w_8 dX5_run_142 ?_
          refine g_iconst F 0 dX5_run_145 (by decide) ?_
          refine g_istore F [(11, .int 0), (0, .ref (a 6)), (3, .int p2), (4, .int p3), (5, .int (G 18 0)), (6, .int x121_6), (7, .int x121_7), (8, .int x121_8), (9, .int x121_9), (10, .int x121_10)] dX5_run_146 (by decide) rfl ?_
          refine g_locals [(0, .ref (a 6)), (3, .int p2), (4, .int p3), (5, .int (G 18 0)), (6, .int x121_6), (7, .int x121_7), (8, .int x121_8), (9, .int x121_9), (10, .int x121_10), (11, .int 0)] [1, 2, 3, 4, 5, 6, 7, 8, 9, 0] rfl ?_
          exact J_148 _ x121_8 x121_9 0 (gu_up Gj121 6 19 y81) (Nat.lt_succ_self _) (by have h9 := ti_rng x121_8; omega) (by have h9 := ti_rng x121_9; omega) (by have h9 := ti_rng x121_10; omega) (by decide) (gu_I.up (j := 6) (k := 19) (v := y81) jI121 (ti_rng _).1 (ti_rng _).2) (gu_un.up (j := 6) (k := 19) (v := y81) gu_un.rf (show (620 : Nat) ∈ ([613, 614, 615, 617, 618, 619, 620, 2100, 2400, 2700, 4500, 4600, 4700, 4800] : List Nat) by decide)) (fun hz => by obtain ⟨n9, a1, a2, a3⟩ := r1; rw [show (x121_10.toInt * (G 18 0).toInt + Int32.toInt 0).toNat = n9 by (rw [show Int32.toInt 0 = 0 from rfl]; have a4 := a2 (by omega); omega)]; exact ⟨(a3 hz).1, fun h9 => absurd h9 (by decide)⟩) (by obtain ⟨n9, a1, a2, a3⟩ := r1; have a4 := a2 (by omega); rw [show Int32.toInt 0 = 0 from rfl, Int.add_zero, ← a4.1]; exact a4.2) (xMt.tr mt_121 (show (gu_up Gj121 6 19 y81) 6 7 = Gj121 6 7 from (show gu_un xcd [620] Gj121 (gu_up Gj121 6 19 y81) from (gu_un.up (j := 6) (k := 19) (v := y81) gu_un.rf (show (620 : Nat) ∈ ([620] : List Nat) by decide))) 6 7 (by decide)) (show (gu_up Gj121 6 19 y81) 44 = Gj121 44 from funext fun k_ => (show gu_un xcd [620] Gj121 (gu_up Gj121 6 19 y81) from (gu_un.up (j := 6) (k := 19) (v := y81) gu_un.rf (show (620 : Nat) ∈ ([620] : List Nat) by decide))) 44 k_ (by simp [xcd]))) (by have e9_6_13 : (gu_up Gj121 6 19 y81) 6 13 = (Gj121 6 13) := rfl; have e9_6_14 : (gu_up Gj121 6 19 y81) 6 14 = (Gj121 6 14) := rfl; (try simp only [e9_6_13, e9_6_14, true_and, and_true]) <;> (first | omega | (simp only [Int32.reduceToInt, true_and, and_true, ne_eq, not_true_eq_false, false_and, or_false, false_or, true_or, or_true, false_implies] <;> omega))) (by have e9_6_19 : (gu_up Gj121 6 19 y81) 6 19 = y81 := rfl; (try simp only [e9_6_19, true_and, and_true]) <;> (first | omega | (simp only [Int32.reduceToInt, true_and, and_true, ne_eq, not_true_eq_false, false_and, or_false, false_or, true_or, or_true, false_implies] <;> omega))) (by have e9_6_4 : (gu_up Gj121 6 19 y81) 6 4 = (G 6 4) := jU121 6 4 (by decide); (try simp only [e9_6_4, true_and, and_true]) <;> (first | omega | (simp only [Int32.reduceToInt, true_and, and_true, ne_eq, not_true_eq_false, false_and, or_false, false_or, true_or, or_true, false_implies] <;> omega))) (by (first | omega | (simp only [Int32.reduceToInt, true_and, and_true, ne_eq, not_true_eq_false, false_and, or_false, false_or, true_or, or_true, false_implies] <;> omega))) (by have e9_18_0 : (gu_up Gj121 6 19 y81) 18 0 = (G 18 0) := jU121 18 0 (by decide); (try simp only [e9_18_0, true_and, and_true]) <;> (first | omega | (simp only [Int32.reduceToInt, true_and, and_true, ne_eq, not_true_eq_false, false_and, or_false, false_or, true_or, or_true, false_implies] <;> omega)))
  refine g_aload_n F 0 dX5_run_0 rfl rfl ?_
  refine xg_6_0 F i_X5 w_1 dX5_run_1 ?_
  refine xg_2_0 F i_X7 w_7 dX5_run_4 ?_
  refine g_iconst F 0 dX5_run_7 (by decide) ?_
  refine u1_iald F 18 0 xc_18 rfl 0 rfl (by decide) (by decide) dX5_run_8 (G 18 0) (rfl) ?_
  refine g_istore F [(5, .int (G 18 0)), (0, .ref (a 6)), (1, .ref (a 60)), (2, .int p1), (3, .int p2), (4, .int p3)] dX5_run_9 (by decide) rfl ?_
  refine g_aload_n F 1 dX5_run_11 rfl rfl ?_
  refine xg_6_0 F i_X5 w_1 dX5_run_12 ?_
  refine g_aload_n F 1 dX5_run_15 rfl rfl ?_
  refine xg_6_1 F i_X5 w_9 dX5_run_16 (G 6 1) (rfl) ?_
  refine u_callVi (k := 0) (n := 0) (b := a 2) (As := [.int (G 6 1)]) (st := []) F (fun sz => S_X7_hasRing_2 l D K a G (G 6 1) (G 6 1).toInt rfl hI sz) (cwV 1 hts gX5_run_X7_hasRing rfl rfl rfl (by decide +kernel) ⟨Nat.le_of_ble_eq_true rfl, Nat.le_of_ble_eq_true rfl⟩) rfl 2 xc_2 rfl (Nat.le_of_ble_eq_true rfl) ⟨Nat.zero_le _, Nat.zero_le _⟩ dX5_run_19 (fun r82 _ hw83 => ?_)
  rcases hw83 with ⟨rfl, q85⟩ | ⟨rfl, q86⟩
  · have q85 : (0 ≤ (G 6 1).toInt ∧ (G 6 1).toInt < (G 18 1).toInt) := q85
    refine v_if_eq F 45 dX5_run_22 (by decide) 1 rfl (fun c87 => absurd c87 (by decide)) (fun c87 => ?_)
    refine g_iload F 0 dX5_run_25 rfl ?_
    refine g_iconst F 1 dX5_run_27 (by decide) ?_
    refine v_icmp_lt F 45 dX5_run_28 (by decide) (G 18 0).toInt 1 rfl rfl (fun c88 => absurd c88 (by omega)) (fun c88 => ?_)
    refine g_iload F 0 dX5_run_31 rfl ?_
    refine g_bipush F 16 dX5_run_33 (by decide) ?_
    refine v_icmp_gt F 45 dX5_run_35 (by decide) (G 18 0).toInt 16 rfl rfl (fun c89 => absurd c89 (by omega)) (fun c89 => ?_)
    refine g_aload_n F 2 dX5_run_38 rfl rfl ?_
    refine g_alen F 60 0 xc_60 rfl 96 rfl dX5_run_39 ?_
    refine g_bipush F 96 dX5_run_40 (by decide) ?_
    refine v_icmp_ge F 48 dX5_run_42 (by decide) 96 96 rfl rfl (fun c90 => ?_) (fun c90 => absurd c90 (by decide))
    refine g_aload_n F 2 dX5_run_48 rfl rfl ?_
    refine g_aload_n F 1 dX5_run_49 rfl rfl ?_
    refine xg_6_1 F i_X5 w_9 dX5_run_50 (G 6 1) (rfl) ?_
    refine g_iconst F 0 dX5_run_53 (by decide) ?_
    refine u_call0 (k := 0) (n := 0) (As := [.int (G 6 1), .int 0]) (st := [.ref (a 60)]) F (fun sz => S_X6_placeOf_b5_b15 l D (G 6 1) (G 6 1).toInt 0 0 rfl (by omega) rfl (by decide) sz) (va_cwS 2 hts gX5_run_X6_placeOf rfl rfl rfl (by decide +kernel) ⟨Nat.le_of_ble_eq_true rfl, Nat.le_of_ble_eq_true rfl⟩) rfl (Nat.le_of_ble_eq_true rfl) ⟨Nat.zero_le _, Nat.zero_le _⟩ dX5_run_54 (fun r91 _ hw92 => ?_)
    have rg94 := hw92.1
    have rg95 := hw92.2
    clear hw92
    refine g_aload_n F 1 dX5_run_57 rfl rfl ?_
    refine xg_6_8 F i_X5 w_3 dX5_run_58 ?_
    refine g_iconst F 0 dX5_run_61 (by decide) ?_
    refine g_iload F 0 dX5_run_62 rfl ?_
    refine u_copyi F w_10 w_11 w_12 w_13 60 45 0 xc_60 xc_45 rfl r91.toInt 0 (G 18 0).toInt rfl rfl rfl (by omega) (by decide) (by omega) (by omega) (by omega) (Nat.le_of_ble_eq_true rfl) (Nat.le_of_ble_eq_true rfl) (xW K a (gu_st G 45 (va_cpy (G 60) (G 45) (r91.toInt).toNat 0 ((G 18 0).toInt).toNat))) (xs_45 _) dX5_run_64 ?_
    refine g_aload_n F 1 dX5_run_67 rfl rfl ?_
    refine xg_6_8 F i_X5 w_3 dX5_run_68 ?_
    refine g_iconst F 0 dX5_run_71 (by decide) ?_
    refine g_iload F 0 dX5_run_72 rfl ?_
    refine u_callSi (k := 0) (n := 0) (As := [.ref (a 45), .int 0, .int (G 18 0)]) (st := []) F (fun sz => S_X5_greatest_45 l D K a (gu_st G 45 (va_cpy (G 60) (G 45) (r91.toInt).toNat 0 ((G 18 0).toInt).toNat)) 0 0 (G 18 0) (G 18 0).toInt rfl (by decide) rfl (by omega) (gu_I.cpy (j := 45) (f := G 60) (sp := (r91.toInt).toNat) (dp := 0) hI (fun k_ => (show ((-9998) : Int) ≤ (G 60 ((r91.toInt).toNat + k_)).toInt ∧ (G 60 ((r91.toInt).toNat + k_)).toInt ≤ 5000 from ⟨Int.le_trans (show ((-9998) : Int) ≤ (-9998) by decide) (hI 60 _).1, Int.le_trans (hI 60 _).2 (show (5000 : Int) ≤ 5000 by decide)⟩))) sz) (va_cwS 3 hts gX5_run_X5_greatest rfl rfl rfl (by decide +kernel) ⟨Nat.le_of_ble_eq_true rfl, Nat.le_of_ble_eq_true rfl⟩) rfl (Nat.le_of_ble_eq_true rfl) ⟨Nat.zero_le _, Nat.zero_le _⟩ dX5_run_74 (fun r96 _ hw97 => ?_)
    have q99 : ((0 : Int) = 0 ∧ 1 ≤ (G 18 0).toInt ∧ (G 18 0).toInt ≤ 16 → r96.toInt = psMx ((gu_st G 45 (va_cpy (G 60) (G 45) (r91.toInt).toNat 0 ((G 18 0).toInt).toNat)) 45) ((G 18 0).toInt - 1).toNat) := hw97.2
    have rg100 := hw97.1
    clear hw97
    refine g_istore F [(6, .int r96), (5, .int (G 18 0)), (0, .ref (a 6)), (1, .ref (a 60)), (2, .int p1), (3, .int p2), (4, .int p3)] dX5_run_77 (by decide) rfl ?_
    refine g_iload F 0 dX5_run_79 rfl ?_
    refine g_aload_n F 2 dX5_run_81 rfl rfl ?_
    refine xg_6_3 F i_X5 w_0 dX5_run_82 (G 6 3) (rfl) ?_
    refine g_aload_n F 2 dX5_run_85 rfl rfl ?_
    refine xg_6_4 F i_X5 w_5 dX5_run_86 (G 6 4) (rfl) ?_
    refine g_imul F dX5_run_89 ?_
    have mp0 := Int.mul_nonneg (show (0 : Int) ≤ (G 6 3).toInt by omega) (show (0 : Int) ≤ (G 6 4).toInt by omega)
    have mp1 : (G 6 3).toInt * (G 6 4).toInt ≤ 20 * 12 := Int.mul_le_mul (by omega) (by omega) (by omega) (by omega)
    have mp : (((G 6 3) * (G 6 4)) : Int32).toInt = (G 6 3).toInt * (G 6 4).toInt := ti_mul rfl rfl (by omega) (by omega)
    refine u_isub F dX5_run_90 r96.toInt (((G 6 3) * (G 6 4)) : Int32).toInt rfl rfl (by omega) (by omega) (fun y101 ey101 => ?_)
    refine g_iconst F 1 dX5_run_91 (by decide) ?_
    refine v_icmp_ge F 98 dX5_run_92 (by decide) y101.toInt 1 rfl rfl (fun c102 => ?_) (fun c102 => ?_)
    · refine g_aload_n F 2 dX5_run_98 rfl rfl ?_
      refine g_aload_n F 3 dX5_run_99 rfl rfl ?_
      refine g_iload F 0 dX5_run_100 rfl ?_
      refine u_callVi (k := 0) (n := 0) (b := a 6) (As := [.ref (a 60), .int r96]) (st := []) F (fun sz => S_X5_gapIn_60 l D K a (gu_st G 45 (va_cpy (G 60) (G 45) (r91.toInt).toNat 0 ((G 18 0).toInt).toNat)) r96 r96.toInt rfl (by omega) (by have e9_6_1 : (gu_st G 45 (va_cpy (G 60) (G 45) (r91.toInt).toNat 0 ((G 18 0).toInt).toNat)) 6 1 = (G 6 1) := rfl; (try simp only [e9_6_1, true_and, and_true]) <;> (first | omega | (simp only [Int32.reduceToInt, true_and, and_true, ne_eq, not_true_eq_false, false_and, or_false, false_or, true_or, or_true, false_implies] <;> omega))) (by have e9_6_1 : (gu_st G 45 (va_cpy (G 60) (G 45) (r91.toInt).toNat 0 ((G 18 0).toInt).toNat)) 6 1 = (G 6 1) := rfl; have e9_18_1 : (gu_st G 45 (va_cpy (G 60) (G 45) (r91.toInt).toNat 0 ((G 18 0).toInt).toNat)) 18 1 = (G 18 1) := rfl; (try simp only [e9_6_1, e9_18_1, true_and, and_true]) <;> (first | omega | (simp only [Int32.reduceToInt, true_and, and_true, ne_eq, not_true_eq_false, false_and, or_false, false_or, true_or, or_true, false_implies] <;> omega))) (gu_I.cpy (j := 45) (f := G 60) (sp := (r91.toInt).toNat) (dp := 0) hI (fun k_ => (show ((-9998) : Int) ≤ (G 60 ((r91.toInt).toNat + k_)).toInt ∧ (G 60 ((r91.toInt).toNat + k_)).toInt ≤ 5000 from ⟨Int.le_trans (show ((-9998) : Int) ≤ (-9998) by decide) (hI 60 _).1, Int.le_trans (hI 60 _).2 (show (5000 : Int) ≤ 5000 by decide)⟩))) sz) (cwV 2 hts gX5_run_X5_gapIn rfl rfl rfl (by decide +kernel) ⟨Nat.le_of_ble_eq_true rfl, Nat.le_of_ble_eq_true rfl⟩) rfl 6 xc_6 rfl (Nat.le_of_ble_eq_true rfl) ⟨Nat.zero_le _, Nat.zero_le _⟩ dX5_run_102 (fun r103 _ hw104 => ?_)
      have q106 : (r103.toInt = psGa (G 60) (G 6 1).toInt (G 18 1).toInt (G 18 0).toInt r96.toInt) := hw104.2
      have rg107 := hw104.1
      clear hw104
      refine g_istore F [(7, .int r103), (6, .int r96), (5, .int (G 18 0)), (0, .ref (a 6)), (1, .ref (a 60)), (2, .int p1), (3, .int p2), (4, .int p3)] dX5_run_105 (by decide) rfl ?_
      refine g_aload_n F 3 dX5_run_107 rfl rfl ?_
      refine g_iload_n F 5 dX5_run_108 rfl rfl ?_
      refine u_callVv (k := 0) (n := 0) (b := a 6) (As := [.int p1]) (st := []) F (fun sz => S_X5_begin l D K a (gu_st G 45 (va_cpy (G 60) (G 45) (r91.toInt).toNat 0 ((G 18 0).toInt).toNat)) p1 s1 e1 (by omega) (gu_I.cpy (j := 45) (f := G 60) (sp := (r91.toInt).toNat) (dp := 0) hI (fun k_ => (show ((-9998) : Int) ≤ (G 60 ((r91.toInt).toNat + k_)).toInt ∧ (G 60 ((r91.toInt).toNat + k_)).toInt ≤ 5000 from ⟨Int.le_trans (show ((-9998) : Int) ≤ (-9998) by decide) (hI 60 _).1, Int.le_trans (hI 60 _).2 (show (5000 : Int) ≤ 5000 by decide)⟩))) sz) (cwV 1 hts gX5_run_X5_begin rfl rfl rfl (by decide +kernel) ⟨Nat.le_of_ble_eq_true rfl, Nat.le_of_ble_eq_true rfl⟩) rfl 6 xc_6 rfl (Nat.le_of_ble_eq_true rfl) ⟨Nat.zero_le _, Nat.zero_le _⟩ dX5_run_109 (fun G110 hw109 => ?_)
      have hI111 : xI G110 := hw109.1
      have hU112 : gu_un xcd [608, 613, 614, 615, 617, 618, 619, 620, 4400, 4600] (gu_st G 45 (va_cpy (G 60) (G 45) (r91.toInt).toNat 0 ((G 18 0).toInt).toNat)) G110 := hw109.2.1
      have hp113 := hw109.2.2
      have q114 : xMt (gu_st G 45 (va_cpy (G 60) (G 45) (r91.toInt).toNat 0 ((G 18 0).toInt).toNat)) G110 := hp113.1
      have q115 : (∀ q : Nat, q < 16 → G110 46 q = -1) := hp113.2.1
      have q116 : (G110 6 12 = p1 ∧ G110 6 13 = 0 ∧ G110 6 14 = 0 ∧ G110 6 16 = 0 ∧ G110 6 17 = 0 ∧ G110 6 18 = 0 ∧ G110 6 19 = 0) := hp113.2.2
      have bz13 : (G110 6 13).toInt = 0 := by rw [q116.2.1]; rfl
      have bz14 : (G110 6 14).toInt = 0 := by rw [q116.2.2.1]; rfl
      have bz19 : (G110 6 19).toInt = 0 := by rw [q116.2.2.2.2.2.2]; rfl
      clear hp113 hw109
      refine g_iconst F 0 dX5_run_112 (by decide) ?_
      refine g_istore F [(8, .int 0), (7, .int r103), (6, .int r96), (5, .int (G 18 0)), (0, .ref (a 6)), (1, .ref (a 60)), (2, .int p1), (3, .int p2), (4, .int p3)] dX5_run_113 (by decide) rfl ?_
      refine g_iconst F 0 dX5_run_115 (by decide) ?_
      refine g_istore F [(9, .int 0), (8, .int 0), (7, .int r103), (6, .int r96), (5, .int (G 18 0)), (0, .ref (a 6)), (1, .ref (a 60)), (2, .int p1), (3, .int p2), (4, .int p3)] dX5_run_116 (by decide) rfl ?_
      refine g_iconst F 0 dX5_run_118 (by decide) ?_
      refine g_istore F [(10, .int 0), (9, .int 0), (8, .int 0), (7, .int r103), (6, .int r96), (5, .int (G 18 0)), (0, .ref (a 6)), (1, .ref (a 60)), (2, .int p1), (3, .int p2), (4, .int p3)] dX5_run_119 (by decide) rfl ?_
      refine g_locals [(0, .ref (a 6)), (3, .int p2), (4, .int p3), (5, .int (G 18 0)), (6, .int r96), (7, .int r103), (8, .int 0), (9, .int 0), (10, .int 0)] [6, 9, 10, 5, 4, 3, 2, 1, 0] rfl ?_
      exact J_121 _ r96 r103 0 0 0 G110 (Nat.lt_succ_self _) (by have h9 := ti_rng r96; omega) (by have h9 := ti_rng r103; omega) (by decide) (by decide) (by decide) hI111 (gu_un.tr (gu_un.sw (j := 45) (f := (va_cpy (G 60) (G 45) (r91.toInt).toNat 0 ((G 18 0).toInt).toNat)) gu_un.rf (fun _ => show (4500 : Nat) ∈ ([608, 613, 614, 615, 617, 618, 619, 620, 2100, 2400, 2700, 4400, 4500, 4600, 4700, 4800] : List Nat) by decide)) (gu_un.su hU112 rfl)) (⟨0, by rw [show Int32.toInt 0 = 0 from rfl, Int.zero_mul]; exact Int.le_refl 0, fun _ => ⟨by rw [show Int32.toInt 0 = 0 from rfl, Int.zero_mul]; rfl, by show (0 : Int) = 0 % _; rw [Int.zero_emod]⟩, fun hz => ⟨(xRl.at0 (fun q hq => by rw [(show G110 45 = (va_cpy (G 60) (G 45) (r91.toInt).toNat 0 ((G 18 0).toInt).toNat) from ((show G110 45 = (gu_st G 45 (va_cpy (G 60) (G 45) (r91.toInt).toNat 0 ((G 18 0).toInt).toNat)) 45 from funext fun k_ => hU112 45 k_ (by simp [xcd])).trans (show (gu_st G 45 (va_cpy (G 60) (G 45) (r91.toInt).toNat 0 ((G 18 0).toInt).toNat)) 45 = (va_cpy (G 60) (G 45) (r91.toInt).toNat 0 ((G 18 0).toInt).toNat) from rfl)))]; unfold va_cpy; rw [if_pos (by omega)]; congr 1; omega) q115 (by omega) q116).sh rfl, fun Q C _ h9 => absurd rfl h9⟩⟩) (⟨by rw [q99 ⟨rfl, by omega, by omega⟩]; exact psMx_eq (h := (gu_st G 45 (va_cpy (G 60) (G 45) (r91.toInt).toNat 0 ((G 18 0).toInt).toNat)) 45) (g := psHr (G 60) (G 6 1).toInt (G 18 0).toInt) (n := ((G 18 0).toInt - 1).toNat) (fun q hq => by show va_cpy _ _ _ _ _ q = psHr _ _ _ q; unfold va_cpy psHr; rw [if_pos (by omega), if_pos (by omega)]; congr 1; omega), q106⟩) (xMt.tr q114 (show G110 6 7 = G110 6 7 from (show gu_un xcd [] G110 G110 from gu_un.rf) 6 7 (by decide)) (show G110 44 = G110 44 from funext fun k_ => (show gu_un xcd [] G110 G110 from gu_un.rf) 44 k_ (by simp [xcd]))) (by (first | omega | (simp only [Int32.reduceToInt, true_and, and_true, ne_eq, not_true_eq_false, false_and, or_false, false_or, true_or, or_true, false_implies] <;> omega))) (by (first | omega | (simp only [Int32.reduceToInt, true_and, and_true, ne_eq, not_true_eq_false, false_and, or_false, false_or, true_or, or_true, false_implies] <;> omega))) (by have e9_6_4 : G110 6 4 = (G 6 4) := hU112 6 4 (by decide); (try simp only [e9_6_4, true_and, and_true]) <;> (first | omega | (simp only [Int32.reduceToInt, true_and, and_true, ne_eq, not_true_eq_false, false_and, or_false, false_or, true_or, or_true, false_implies] <;> omega))) (by omega)
    · refine g_bipush F (-4) dX5_run_95 (by decide) ?_
      exact u_iret F hA hQ hr (gu_st G 45 (va_cpy (G 60) (G 45) (r91.toInt).toNat 0 ((G 18 0).toInt).toNat)) (⟨(gu_I.cpy (j := 45) (f := G 60) (sp := (r91.toInt).toNat) (dp := 0) hI (fun k_ => (show ((-9998) : Int) ≤ (G 60 ((r91.toInt).toNat + k_)).toInt ∧ (G 60 ((r91.toInt).toNat + k_)).toInt ≤ 5000 from ⟨Int.le_trans (show ((-9998) : Int) ≤ (-9998) by decide) (hI 60 _).1, Int.le_trans (hI 60 _).2 (show (5000 : Int) ≤ 5000 by decide)⟩))), (gu_un.sw (j := 45) (f := (va_cpy (G 60) (G 45) (r91.toInt).toNat 0 ((G 18 0).toInt).toNat)) gu_un.rf (fun _ => show (4500 : Nat) ∈ ([608, 613, 614, 615, 616, 617, 618, 619, 620, 2100, 2400, 2700, 4400, 4500, 4600, 4700, 4800] : List Nat) by decide)), (by decide), (by show ((-4) = -4 ∨ (0 ≤ (-4) ∧ (-4) ≤ 2)); (first | omega | (simp only [Int32.reduceToInt, true_and, and_true, ne_eq, not_true_eq_false, false_and, or_false, false_or, true_or, or_true, false_implies] <;> omega))), (fun h9 => absurd rfl h9.2), (by have h7 := q99 ⟨rfl, by omega, by omega⟩; have h6 := psMx_eq (h := (gu_st G 45 (va_cpy (G 60) (G 45) (r91.toInt).toNat 0 ((G 18 0).toInt).toNat)) 45) (g := psHr (G 60) (G 6 1).toInt (G 18 0).toInt) (n := ((G 18 0).toInt - 1).toNat) (fun q hq => by show va_cpy _ _ _ _ _ q = psHr _ _ _ q; unfold va_cpy psHr; rw [if_pos (by omega), if_pos (by omega)]; congr 1; omega); rw [h6] at h7; exact Or.inl ⟨by decide, by omega⟩)⟩) rfl rfl dX5_run_97
  · have q86 : ((G 6 1).toInt < 0 ∨ (G 18 1).toInt ≤ (G 6 1).toInt) := q86
    refine v_if_eq F 45 dX5_run_22 (by decide) 0 rfl (fun c117 => ?_) (fun c117 => absurd c117 (by decide))
    refine g_bipush F (-4) dX5_run_45 (by decide) ?_
    exact u_iret F hA hQ hr G (⟨hI, gu_un.rf, (by decide), (by show ((-4) = -4 ∨ (0 ≤ (-4) ∧ (-4) ≤ 2)); (first | omega | (simp only [Int32.reduceToInt, true_and, and_true, ne_eq, not_true_eq_false, false_and, or_false, false_or, true_or, or_true, false_implies] <;> omega))), (fun h9 => absurd rfl h9.2), (by exfalso; omega)⟩) rfl rfl dX5_run_47


set_option maxHeartbeats 4000000 in
set_option maxRecDepth 100000 in
theorem S_X5_storeHeights_61 (l : Launch) (D : va_G) (K : Nat → ClassId) (a : Nat → Nat) (G : gS) (hrg : (0 ≤ (G 6 1).toInt ∧ (G 6 1).toInt ≤ 5)) (hI : xI G) (sz : Nat) : Kv l yX5_storeHeights wsX5_storeHeights 2 61 0 0 D [.ref (a 6), .ref (a 61)] (xW K a G) (tK K) sz (fun (G' : gS) => (xI G') ∧ (gu_un xcd [6100] G G') ∧ ((∀ q : Nat, G' 61 q = sHr (G 61) (G 45) (G 6 1).toInt (G 18 0).toInt q))) (fun (G' : gS) => (xW K a G')) (fun _ => (tK K)) := by
  unfold Kv
  refine g_ofW (cc := cX5_storeHeights) (lv := [(0, .ref (a 6)), (1, .ref (a 61))]) (by decide) rfl (Nat.le_of_ble_eq_true rfl) rfl ?_
  intro p e s m args below meth c A Q hA hQ F hr hnm
  have hts := F.2.2.2.2.1
  have w_0 : (Cond.fieldLink RX5 17 "QuietCut$Lathe" "heights" "[I").before args s = true := hts _ (List.mem_of_getElem? (i := 4) rfl)
  have i_X5 : ∀ w ∈ u_ws RX5 TX5 20, w ∈ wsX5_storeHeights := fun _ h => List.mem_cons_of_mem _ (List.mem_append_left _ (List.mem_append_right _ h))
  have w_1 : (Cond.fieldLink RX5 29 "QuietCut$Lathe" "shop" "LQuietCut$Shop;").before args s = true := hts _ (List.mem_of_getElem? (i := 1) rfl)
  have w_2 : (Cond.fieldLink RX5 56 "QuietCut$Shop" "numbers" "[I").before args s = true := hts _ (List.mem_of_getElem? (i := 2) rfl)
  have i_X7 : ∀ w ∈ u_ws RX7 TX7 4, w ∈ wsX5_storeHeights := fun _ h => List.mem_cons_of_mem _ (List.mem_append_right _ h)
  have w_3 : (Cond.fieldLink RX5 33 "QuietCut$Lathe" "ring" "I").before args s = true := hts _ (List.mem_of_getElem? (i := 3) rfl)
  have b1 : (4 : Int) ≤ (G 18 0).toInt ∧ (G 18 0).toInt ≤ 16 := hI 18 0
  have J_22 : ∀ (fuel : Nat) (x22_3 : Int32) (x22_4 : Int32) (Gj22 : gS), (2147483647 - x22_4.toInt).toNat < fuel → (0 ≤ x22_3.toInt ∧ x22_3.toInt ≤ 95) → (0 ≤ x22_4.toInt ∧ x22_4.toInt ≤ 16) → (xI Gj22) → (gu_un xcd [6100] G Gj22) → (∀ q : Nat, Gj22 61 q = sHr (G 61) (G 45) (G 6 1).toInt x22_4.toInt q) → ((x22_3.toInt = (G 6 1).toInt * 16)) → ((x22_4.toInt ≤ (G 18 0).toInt)) → gG p l e (gR 2 0 0 61) s m args below meth c D A 5 Q 0 0 (xW K a Gj22) (tK K) [(0, .ref (a 6)), (1, .ref (a 61)), (2, .int (G 18 0)), (3, .int x22_3), (4, .int x22_4)] 22 [] := by
    intro fuel
    induction fuel with
    | zero => intro x22_3 x22_4 Gj22 hm; exact absurd hm (Nat.not_lt_zero _)
    | succ fuel_22 ih_22 =>
      intro x22_3 x22_4 Gj22 hm_22 h22_3 h22_4 jI22 jU22 sh s3 il
      refine g_iload F 4 dX5_storeHeights_22 rfl ?_
      refine g_iload_n F 2 dX5_storeHeights_24 rfl rfl ?_
      refine v_icmp_ge F 67 dX5_storeHeights_25 (by decide) x22_4.toInt (G 18 0).toInt rfl rfl (fun c2 => ?_) (fun c2 => ?_)
      · exact u_vret F hA hQ hr Gj22 (⟨jI22, (gu_un.tr gu_un.rf (gu_un.su jU22 rfl)), (fun q => by have h9 := sh q; rw [show x22_4.toInt = (G 18 0).toInt by omega] at h9; exact h9)⟩) rfl rfl dX5_storeHeights_67
      · refine g_iload F 4 dX5_storeHeights_28 rfl ?_
        refine g_bipush F 16 dX5_storeHeights_30 (by decide) ?_
        refine v_icmp_ge F 67 dX5_storeHeights_32 (by decide) x22_4.toInt 16 rfl rfl (fun c3 => absurd c3 (by omega)) (fun c3 => ?_)
        refine g_iload_n F 3 dX5_storeHeights_35 rfl rfl ?_
        refine v_if_lt F 61 dX5_storeHeights_36 (by decide) x22_3.toInt rfl (fun c4 => absurd c4 (by omega)) (fun c4 => ?_)
        refine g_iload_n F 3 dX5_storeHeights_39 rfl rfl ?_
        refine g_iload F 4 dX5_storeHeights_40 rfl ?_
        refine u_iadd F dX5_storeHeights_42 x22_3.toInt x22_4.toInt rfl rfl (by omega) (by omega) (fun y5 ey5 => ?_)
        refine g_aload_n F 1 dX5_storeHeights_43 rfl rfl ?_
        refine g_alen F 61 0 xc_61 rfl 96 rfl dX5_storeHeights_44 ?_
        refine v_icmp_ge F 61 dX5_storeHeights_45 (by decide) y5.toInt 96 rfl rfl (fun c6 => ?_) (fun c6 => ?_)
        · refine u_iinc F (fun v_ => [(4, .int v_), (0, .ref (a 6)), (1, .ref (a 61)), (2, .int (G 18 0)), (3, .int x22_3)]) dX5_storeHeights_61 (j := 4) rfl x22_4.toInt 1 rfl rfl (by omega) (by omega) (by decide) (fun _ => rfl) (fun y7 ey7 => ?_)
          refine g_goto F 22 dX5_storeHeights_64 (by decide) ?_
          refine g_locals [(0, .ref (a 6)), (1, .ref (a 61)), (2, .int (G 18 0)), (3, .int x22_3), (4, .int y7)] [1, 2, 3, 4, 0] rfl ?_
          exact ih_22 x22_3 y7 Gj22 (by omega) (by have h9 := ti_rng x22_3; omega) (by have h9 := ti_rng y7; omega) jI22 (gu_un.tr gu_un.rf (gu_un.su jU22 rfl)) (by exfalso; omega) (by have e9_6_1 : Gj22 6 1 = (G 6 1) := jU22 6 1 (by decide); (try simp only [e9_6_1, true_and, and_true]) <;> (first | omega | (simp only [Int32.reduceToInt, true_and, and_true, ne_eq, not_true_eq_false, false_and, or_false, false_or, true_or, or_true, false_implies] <;> omega))) (by have e9_18_0 : Gj22 18 0 = (G 18 0) := jU22 18 0 (by decide); (try simp only [e9_18_0, true_and, and_true]) <;> (first | omega | (simp only [Int32.reduceToInt, true_and, and_true, ne_eq, not_true_eq_false, false_and, or_false, false_or, true_or, or_true, false_implies] <;> omega)))
        · refine g_aload_n F 1 dX5_storeHeights_48 rfl rfl ?_
          refine g_iload_n F 3 dX5_storeHeights_49 rfl rfl ?_
          refine g_iload F 4 dX5_storeHeights_50 rfl ?_
          refine u_iadd F dX5_storeHeights_52 x22_3.toInt x22_4.toInt rfl rfl (by omega) (by omega) (fun y8 ey8 => ?_)
          refine g_aload_n F 0 dX5_storeHeights_53 rfl rfl ?_
          refine xg_6_8 F i_X5 w_0 dX5_storeHeights_54 ?_
          refine g_iload F 4 dX5_storeHeights_57 rfl ?_
          refine u1_iald F 45 0 xc_45 rfl x22_4.toInt rfl (by omega) (by omega) dX5_storeHeights_59 ((G 45) (x22_4.toInt).toNat) (congrFun ((show Gj22 45 = G 45 from funext fun k_ => jU22 45 k_ (show (4500 : Nat) ∉ ([6100] : List Nat) by decide))) _) ?_
          have b9 : ((-9998) : Int) ≤ ((G 45) (x22_4.toInt).toNat).toInt ∧ ((G 45) (x22_4.toInt).toNat).toInt ≤ 5000 := hI 45 _
          refine u_iast F 61 0 xc_61 rfl y8.toInt rfl (by omega) (by omega) (xW K a (gu_up Gj22 61 (y8.toInt).toNat ((G 45) (x22_4.toInt).toNat))) (xs_61 _) dX5_storeHeights_60 ?_
          refine u_iinc F (fun v_ => [(4, .int v_), (0, .ref (a 6)), (1, .ref (a 61)), (2, .int (G 18 0)), (3, .int x22_3)]) dX5_storeHeights_61 (j := 4) rfl x22_4.toInt 1 rfl rfl (by omega) (by omega) (by decide) (fun _ => rfl) (fun y10 ey10 => ?_)
          refine g_goto F 22 dX5_storeHeights_64 (by decide) ?_
          refine g_locals [(0, .ref (a 6)), (1, .ref (a 61)), (2, .int (G 18 0)), (3, .int x22_3), (4, .int y10)] [1, 2, 3, 4, 0] rfl ?_
          exact ih_22 x22_3 y10 (gu_up Gj22 61 (y8.toInt).toNat ((G 45) (x22_4.toInt).toNat)) (by omega) (by have h9 := ti_rng x22_3; omega) (by have h9 := ti_rng y10; omega) (gu_I.up (j := 61) (k := (y8.toInt).toNat) (v := ((G 45) (x22_4.toInt).toNat)) jI22 (show ((-9998) : Int) ≤ Int32.toInt ((G 45) (x22_4.toInt).toNat) by omega) (show Int32.toInt ((G 45) (x22_4.toInt).toNat) ≤ 5000 by omega)) (gu_un.up (j := 61) (k := (y8.toInt).toNat) (v := ((G 45) (x22_4.toInt).toNat)) (gu_un.tr gu_un.rf (gu_un.su jU22 rfl)) (show (6100 : Nat) ∈ ([6100] : List Nat) by decide)) (sHr_1 (i := x22_4.toInt) (k := y8.toInt) sh (by omega) (by omega) (by omega) rfl (by omega)) (by have e9_6_1 : (gu_up Gj22 61 (y8.toInt).toNat ((G 45) (x22_4.toInt).toNat)) 6 1 = (G 6 1) := jU22 6 1 (by decide); (try simp only [e9_6_1, true_and, and_true]) <;> (first | omega | (simp only [Int32.reduceToInt, true_and, and_true, ne_eq, not_true_eq_false, false_and, or_false, false_or, true_or, or_true, false_implies] <;> omega))) (by have e9_18_0 : (gu_up Gj22 61 (y8.toInt).toNat ((G 45) (x22_4.toInt).toNat)) 18 0 = (G 18 0) := jU22 18 0 (by decide); (try simp only [e9_18_0, true_and, and_true]) <;> (first | omega | (simp only [Int32.reduceToInt, true_and, and_true, ne_eq, not_true_eq_false, false_and, or_false, false_or, true_or, or_true, false_implies] <;> omega)))
  refine g_aload_n F 0 dX5_storeHeights_0 rfl rfl ?_
  refine xg_6_0 F i_X5 w_1 dX5_storeHeights_1 ?_
  refine xg_2_0 F i_X7 w_2 dX5_storeHeights_4 ?_
  refine g_iconst F 0 dX5_storeHeights_7 (by decide) ?_
  refine u1_iald F 18 0 xc_18 rfl 0 rfl (by decide) (by decide) dX5_storeHeights_8 (G 18 0) (rfl) ?_
  refine g_istore_n F [(2, .int (G 18 0)), (0, .ref (a 6)), (1, .ref (a 61))] dX5_storeHeights_9 rfl (by decide) rfl ?_
  refine g_aload_n F 1 dX5_storeHeights_10 rfl rfl ?_
  refine xg_6_1 F i_X5 w_3 dX5_storeHeights_11 (G 6 1) (rfl) ?_
  refine g_iconst F 0 dX5_storeHeights_14 (by decide) ?_
  refine u_call0 (k := 0) (n := 0) (As := [.int (G 6 1), .int 0]) (st := []) F (fun sz => S_X6_placeOf_b5_b15 l D (G 6 1) (G 6 1).toInt 0 0 rfl (by omega) rfl (by decide) sz) (va_cwS 2 hts gX5_storeHeights_X6_placeOf rfl rfl rfl (by decide +kernel) ⟨Nat.le_of_ble_eq_true rfl, Nat.le_of_ble_eq_true rfl⟩) rfl (Nat.le_of_ble_eq_true rfl) ⟨Nat.zero_le _, Nat.zero_le _⟩ dX5_storeHeights_15 (fun r11 _ hw12 => ?_)
  have rg14 := hw12.1
  have rg15 := hw12.2
  clear hw12
  refine g_istore_n F [(3, .int r11), (2, .int (G 18 0)), (0, .ref (a 6)), (1, .ref (a 61))] dX5_storeHeights_18 rfl (by decide) rfl ?_
  refine g_iconst F 0 dX5_storeHeights_19 (by decide) ?_
  refine g_istore F [(4, .int 0), (3, .int r11), (2, .int (G 18 0)), (0, .ref (a 6)), (1, .ref (a 61))] dX5_storeHeights_20 (by decide) rfl ?_
  refine g_locals [(0, .ref (a 6)), (1, .ref (a 61)), (2, .int (G 18 0)), (3, .int r11), (4, .int 0)] [3, 4, 2, 1, 0] rfl ?_
  exact J_22 _ r11 0 G (Nat.lt_succ_self _) (by have h9 := ti_rng r11; omega) (by decide) hI gu_un.rf (sHr_0 rfl) (by (first | omega | (simp only [Int32.reduceToInt, true_and, and_true, ne_eq, not_true_eq_false, false_and, or_false, false_or, true_or, or_true, false_implies] <;> omega))) (by (first | omega | (simp only [Int32.reduceToInt, true_and, and_true, ne_eq, not_true_eq_false, false_and, or_false, false_or, true_or, or_true, false_implies] <;> omega)))


set_option maxHeartbeats 4000000 in
set_option maxRecDepth 100000 in
theorem S_X4_staysQuiet_v1 (l : Launch) (D : va_G) (K : Nat → ClassId) (a : Nat → Nat) (G : gS) (p0 : Int32) (s0 : Int) (e0 : p0.toInt = s0) (h0 : 0 ≤ s0 ∧ s0 ≤ 4) (hI : xI G) (sz : Nat) : Ki l yX4_staysQuiet wsX4_staysQuiet 5 148 0 0 D [.ref (a 8), .int p0, .int 1] (xW K a G) (tK K) sz (fun (r : Int32) (G' : gS) => (xI G') ∧ (gu_un xcd [602, 603, 604, 605, 608, 613, 614, 615, 616, 617, 618, 619, 620, 2100, 2400, 2700, 4400, 4500, 4600, 4700, 4800, 6100, 6500] G G') ∧ (0 ≤ r.toInt ∧ r.toInt ≤ 1)) (fun (G' : gS) => (xW K a G')) (fun _ => (tK K)) := by
  unfold Ki
  refine g_ofW (cc := cX4_staysQuiet) (lv := [(0, .ref (a 8)), (1, .int p0), (2, .int 1)]) (by decide) rfl (Nat.le_of_ble_eq_true rfl) rfl ?_
  intro p e s m args below meth c A Q hA hQ F hr hnm
  have hts := F.2.2.2.2.1
  have w_0 : (Cond.fieldLink RX4 33 "QuietCut$Jobs" "lathe" "LQuietCut$Lathe;").before args s = true := hts _ (List.mem_of_getElem? (i := 1) rfl)
  have i_X4 : ∀ w ∈ u_ws RX4 TX4 12, w ∈ wsX4_staysQuiet := fun _ h => List.mem_cons_of_mem _ (List.mem_append_left _ (List.mem_append_left _ (List.mem_append_left _ (List.mem_append_right _ h))))
  have w_1 : (Cond.fieldLink RX4 13 "QuietCut$Jobs" "jobs" "[[I").before args s = true := hts _ (List.mem_of_getElem? (i := 2) rfl)
  have w_2 : (Cond.fieldLink RX4 16 "QuietCut$Jobs" "heights" "[[I").before args s = true := hts _ (List.mem_of_getElem? (i := 3) rfl)
  have w_3 : (Cond.fieldLink RX4 19 "QuietCut$Jobs" "wears" "[I").before args s = true := hts _ (List.mem_of_getElem? (i := 4) rfl)
  have w_4 : (Cond.fieldLink RX4 44 "QuietCut$Jobs" "stiff" "I").before args s = true := hts _ (List.mem_of_getElem? (i := 5) rfl)
  have w_5 : (Cond.fieldLink RX4 47 "QuietCut$Jobs" "damp" "I").before args s = true := hts _ (List.mem_of_getElem? (i := 6) rfl)
  have w_6 : (Cond.methodLink RX4 64 arraycopyName).before args s = true := hts _ (List.mem_of_getElem? (i := 7) rfl)
  have w_7 : (Cond.native arraycopyName).before args s = true := hts _ (List.mem_of_getElem? (i := 8) rfl)
  have w_8 : (Cond.static arraycopyName).before args s = true := hts _ (List.mem_of_getElem? (i := 9) rfl)
  have w_9 : (Cond.initialized "java/lang/System").before args s = true := hts _ (List.mem_of_getElem? (i := 10) rfl)
  have w_10 : (Cond.fieldLink RX4 94 "QuietCut$Lathe" "wear" "I").before args s = true := hts _ (List.mem_of_getElem? (i := 11) rfl)
  have i_X5 : ∀ w ∈ u_ws RX5 TX5 20, w ∈ wsX4_staysQuiet := fun _ h => List.mem_cons_of_mem _ (List.mem_append_left _ (List.mem_append_left _ (List.mem_append_right _ h)))
  refine g_aload_n F 0 dX4_staysQuiet_0 rfl rfl ?_
  refine xg_8_1 F i_X4 w_0 dX4_staysQuiet_1 ?_
  refine g_aload_n F 0 dX4_staysQuiet_4 rfl rfl ?_
  refine xg_8_2 F i_X4 w_1 dX4_staysQuiet_5 ?_
  refine g_iconst F 0 dX4_staysQuiet_8 (by decide) ?_
  refine g_aald (b := a 54) F 53 1 xc_53 rfl (ti_in (show Int32.toInt 0 = 0 from rfl) (by decide) (by decide)) (by rw [show Int32.toNatClampNeg 0 = 0 from congrArg Int.toNat (show Int32.toInt 0 = 0 from rfl)]; rfl) dX4_staysQuiet_9 ?_
  refine g_iload_n F 1 dX4_staysQuiet_10 rfl rfl ?_
  refine u_iald F 54 0 xc_54 rfl s0 e0 (by omega) (by omega) dX4_staysQuiet_11 (fun _ => True) (fun _ => trivial) (fun y1 by1 => ?_)
  refine g_aload_n F 0 dX4_staysQuiet_12 rfl rfl ?_
  refine xg_8_2 F i_X4 w_1 dX4_staysQuiet_13 ?_
  refine g_iconst F 1 dX4_staysQuiet_16 (by decide) ?_
  refine g_aald (b := a 55) F 53 1 xc_53 rfl (ti_in (show Int32.toInt 1 = 1 from rfl) (by decide) (by decide)) (by rw [show Int32.toNatClampNeg 1 = 1 from congrArg Int.toNat (show Int32.toInt 1 = 1 from rfl)]; rfl) dX4_staysQuiet_17 ?_
  refine g_iload_n F 1 dX4_staysQuiet_18 rfl rfl ?_
  refine u_iald F 55 0 xc_55 rfl s0 e0 (by omega) (by omega) dX4_staysQuiet_19 (fun _ => True) (fun _ => trivial) (fun y2 by2 => ?_)
  refine g_aload_n F 0 dX4_staysQuiet_20 rfl rfl ?_
  refine xg_8_2 F i_X4 w_1 dX4_staysQuiet_21 ?_
  refine g_iconst F 2 dX4_staysQuiet_24 (by decide) ?_
  refine g_aald (b := a 56) F 53 1 xc_53 rfl (ti_in (show Int32.toInt 2 = 2 from rfl) (by decide) (by decide)) (by rw [show Int32.toNatClampNeg 2 = 2 from congrArg Int.toNat (show Int32.toInt 2 = 2 from rfl)]; rfl) dX4_staysQuiet_25 ?_
  refine g_iload_n F 1 dX4_staysQuiet_26 rfl rfl ?_
  refine u_iald F 56 0 xc_56 rfl s0 e0 (by omega) (by omega) dX4_staysQuiet_27 (fun _ => True) (fun _ => trivial) (fun y3 by3 => ?_)
  refine g_aload_n F 0 dX4_staysQuiet_28 rfl rfl ?_
  refine xg_8_2 F i_X4 w_1 dX4_staysQuiet_29 ?_
  refine g_iconst F 3 dX4_staysQuiet_32 (by decide) ?_
  refine g_aald (b := a 57) F 53 1 xc_53 rfl (ti_in (show Int32.toInt 3 = 3 from rfl) (by decide) (by decide)) (by rw [show Int32.toNatClampNeg 3 = 3 from congrArg Int.toNat (show Int32.toInt 3 = 3 from rfl)]; rfl) dX4_staysQuiet_33 ?_
  refine g_iload_n F 1 dX4_staysQuiet_34 rfl rfl ?_
  refine u_iald F 57 0 xc_57 rfl s0 e0 (by omega) (by omega) dX4_staysQuiet_35 (fun _ => True) (fun _ => trivial) (fun y4 by4 => ?_)
  refine u_callVi (k := 0) (n := 0) (b := a 6) (As := [.int y1, .int y2, .int y3, .int y4]) (st := []) F (fun sz => S_X5_takes l D K a G y1 y1.toInt y2 y2.toInt y3 y3.toInt y4 y4.toInt rfl rfl rfl rfl hI sz) (cwV 4 hts gX4_staysQuiet_X5_takes rfl rfl rfl (by decide +kernel) ⟨Nat.le_of_ble_eq_true rfl, Nat.le_of_ble_eq_true rfl⟩) rfl 6 xc_6 rfl (Nat.le_of_ble_eq_true rfl) ⟨Nat.zero_le _, Nat.zero_le _⟩ dX4_staysQuiet_36 (fun r5 G7 hw6 => ?_)
  have hI8 : xI G7 := hw6.1
  have hU9 : gu_un xcd [602, 603, 604, 605] G G7 := hw6.2.1
  have hp10 := hw6.2.2
  have q11 : ((G7 6 1).toInt = y1.toInt ∧ (G7 6 2).toInt = y2.toInt ∧ (G7 6 3).toInt = y3.toInt ∧ (G7 6 4).toInt = y4.toInt) := hp10.2
  rcases hp10.1 with ⟨rfl, q12⟩ | ⟨rfl, q13⟩
  · have b14 : (1 : Int) ≤ (G 18 1).toInt ∧ (G 18 1).toInt ≤ 6 := hI 18 1
    have q12 : (0 ≤ y1.toInt ∧ y1.toInt < (G 18 1).toInt ∧ 1 ≤ y2.toInt ∧ y2.toInt ≤ 9 ∧ 1 ≤ y3.toInt ∧ y3.toInt ≤ 20 ∧ 1 ≤ y4.toInt ∧ y4.toInt ≤ 12) := by have h9 := q12; (try simp only [(show G7 18 1 = (G 18 1) from hU9 18 1 (by decide))] at h9); exact h9
    refine v_if_ne F 44 dX4_staysQuiet_39 (by decide) 1 rfl (fun c15 => ?_) (fun c15 => absurd c15 (by decide))
    refine g_aload_n F 0 dX4_staysQuiet_44 rfl rfl ?_
    refine xg_8_1 F i_X4 w_0 dX4_staysQuiet_45 ?_
    refine g_aload_n F 0 dX4_staysQuiet_48 rfl rfl ?_
    refine xg_8_4 F i_X4 w_2 dX4_staysQuiet_49 ?_
    refine g_iload_n F 2 dX4_staysQuiet_52 rfl rfl ?_
    refine g_aald (b := a 60) F 58 1 xc_58 rfl (ti_in (show Int32.toInt 1 = 1 from rfl) (by decide) (by decide)) (by rw [show Int32.toNatClampNeg 1 = 1 from congrArg Int.toNat (show Int32.toInt 1 = 1 from rfl)]; rfl) dX4_staysQuiet_53 ?_
    refine g_aload_n F 0 dX4_staysQuiet_54 rfl rfl ?_
    refine xg_8_5 F i_X4 w_3 dX4_staysQuiet_55 ?_
    refine g_iload_n F 2 dX4_staysQuiet_58 rfl rfl ?_
    refine u1_iald F 65 0 xc_65 rfl 1 rfl (by decide) (by decide) dX4_staysQuiet_59 (G 65 1) (hU9 65 1 (by decide)) ?_
    refine g_aload_n F 0 dX4_staysQuiet_60 rfl rfl ?_
    refine xg_8_10 F i_X4 w_4 dX4_staysQuiet_61 (G 8 10) (hU9 8 10 (by decide)) ?_
    refine g_aload_n F 0 dX4_staysQuiet_64 rfl rfl ?_
    refine xg_8_11 F i_X4 w_5 dX4_staysQuiet_65 (G 8 11) (hU9 8 11 (by decide)) ?_
    have b16 : (0 : Int) ≤ (G 65 1).toInt ∧ (G 65 1).toInt ≤ 30000 := hI 65 1
    have b17 : (0 : Int) ≤ (G 8 10).toInt ∧ (G 8 10).toInt ≤ 300 := hI 8 10
    have b18 : (0 : Int) ≤ (G 8 11).toInt ∧ (G 8 11).toInt ≤ 300 := hI 8 11
    refine u_callVi (k := 0) (n := 0) (b := a 6) (As := [.ref (a 60), .int (G 65 1), .int (G 8 10), .int (G 8 11)]) (st := []) F (fun sz => S_X5_run_60 l D K a G7 (G 65 1) (G 65 1).toInt (G 8 10) (G 8 10).toInt (G 8 11) (G 8 11).toInt rfl (by omega) rfl (by omega) rfl (by omega) (by have e9_18_1 : G7 18 1 = (G 18 1) := hU9 18 1 (by decide); (try simp only [e9_18_1, true_and, and_true]) <;> (first | omega | (simp only [Int32.reduceToInt, true_and, and_true, ne_eq, not_true_eq_false, false_and, or_false, false_or, true_or, or_true, false_implies] <;> omega))) hI8 sz) (cwV 4 hts gX4_staysQuiet_X5_run rfl rfl rfl (by decide +kernel) ⟨Nat.le_of_ble_eq_true rfl, Nat.le_of_ble_eq_true rfl⟩) rfl 6 xc_6 rfl (Nat.le_of_ble_eq_true rfl) ⟨Nat.zero_le _, Nat.zero_le _⟩ dX4_staysQuiet_68 (fun r19 G21 hw20 => ?_)
    have hI22 : xI G21 := hw20.1
    have hU23 : gu_un xcd [608, 613, 614, 615, 616, 617, 618, 619, 620, 2100, 2400, 2700, 4400, 4500, 4600, 4700, 4800] G7 G21 := hw20.2.1
    have hp24 := hw20.2.2
    have q25 : (r19.toInt = -4 ∨ (0 ≤ r19.toInt ∧ r19.toInt ≤ 2)) := hp24.2.1
    have q26 : ((xTok G7 ∧ r19.toInt ≠ -4) → xOut G7 (G7 60) (G 65 1) (G 8 10) (G 8 11) G21 r19.toInt) := hp24.2.2.1
    have b27 : (4 : Int) ≤ (G 18 0).toInt ∧ (G 18 0).toInt ≤ 16 := hI 18 0
    have q28 : ((r19.toInt = -4 ∧ psMx (psHr (G 60) (G7 6 1).toInt (G 18 0).toInt) ((G 18 0).toInt - 1).toNat - (G7 6 3).toInt * (G7 6 4).toInt < 1) ∨ (r19.toInt ≠ -4 ∧ 1 ≤ psMx (psHr (G 60) (G7 6 1).toInt (G 18 0).toInt) ((G 18 0).toInt - 1).toNat - (G7 6 3).toInt * (G7 6 4).toInt)) := by have h9 := hp24.2.2.2; (try simp only [(show G7 18 0 = (G 18 0) from hU9 18 0 (by decide)), (show G7 18 0 = (G 18 0) from hU9 18 0 (by decide)), (show G7 18 0 = (G 18 0) from hU9 18 0 (by decide)), (show G7 18 0 = (G 18 0) from hU9 18 0 (by decide)), (show G7 60 = (G 60) from (show G7 60 = G 60 from funext fun k_ => hU9 60 k_ (show (6000 : Nat) ∉ ([602, 603, 604, 605] : List Nat) by decide))), (show G7 60 = (G 60) from (show G7 60 = G 60 from funext fun k_ => hU9 60 k_ (show (6000 : Nat) ∉ ([602, 603, 604, 605] : List Nat) by decide)))] at h9); first | exact h9 | omega
    have rg29 := hp24.1
    clear hp24 hw20
    refine v_if_eq F 76 dX4_staysQuiet_71 (by decide) r19.toInt rfl (fun c30 => ?_) (fun c30 => ?_)
    · refine g_aload_n F 0 dX4_staysQuiet_76 rfl rfl ?_
      refine xg_8_4 F i_X4 w_2 dX4_staysQuiet_77 ?_
      refine g_iload_n F 2 dX4_staysQuiet_80 rfl rfl ?_
      refine g_aald (b := a 60) F 58 1 xc_58 rfl (ti_in (show Int32.toInt 1 = 1 from rfl) (by decide) (by decide)) (by rw [show Int32.toNatClampNeg 1 = 1 from congrArg Int.toNat (show Int32.toInt 1 = 1 from rfl)]; rfl) dX4_staysQuiet_81 ?_
      refine g_iconst F 0 dX4_staysQuiet_82 (by decide) ?_
      refine g_aload_n F 0 dX4_staysQuiet_83 rfl rfl ?_
      refine xg_8_4 F i_X4 w_2 dX4_staysQuiet_84 ?_
      refine g_iload_n F 2 dX4_staysQuiet_87 rfl rfl ?_
      refine g_iconst F 1 dX4_staysQuiet_88 (by decide) ?_
      refine g_iadd F dX4_staysQuiet_89 ?_
      refine g_fold 2 (by decide) ?_
      refine g_aald (b := a 61) F 58 1 xc_58 rfl (ti_in (show Int32.toInt 2 = 2 from rfl) (by decide) (by decide)) (by rw [show Int32.toNatClampNeg 2 = 2 from congrArg Int.toNat (show Int32.toInt 2 = 2 from rfl)]; rfl) dX4_staysQuiet_90 ?_
      refine g_iconst F 0 dX4_staysQuiet_91 (by decide) ?_
      refine g_bipush F 96 dX4_staysQuiet_92 (by decide) ?_
      refine u_copyi F w_6 w_7 w_8 w_9 60 61 0 xc_60 xc_61 rfl 0 0 96 rfl rfl rfl (by decide) (by decide) (by decide) (by decide) (by decide) (Nat.le_of_ble_eq_true rfl) (Nat.le_of_ble_eq_true rfl) (xW K a (gu_st G21 61 (va_cpy (G21 60) (G21 61) 0 0 96))) (xs_61 _) dX4_staysQuiet_94 ?_
      refine g_aload_n F 0 dX4_staysQuiet_97 rfl rfl ?_
      refine xg_8_1 F i_X4 w_0 dX4_staysQuiet_98 ?_
      refine g_aload_n F 0 dX4_staysQuiet_101 rfl rfl ?_
      refine xg_8_4 F i_X4 w_2 dX4_staysQuiet_102 ?_
      refine g_iload_n F 2 dX4_staysQuiet_105 rfl rfl ?_
      refine g_iconst F 1 dX4_staysQuiet_106 (by decide) ?_
      refine g_iadd F dX4_staysQuiet_107 ?_
      refine g_fold 2 (by decide) ?_
      refine g_aald (b := a 61) F 58 1 xc_58 rfl (ti_in (show Int32.toInt 2 = 2 from rfl) (by decide) (by decide)) (by rw [show Int32.toNatClampNeg 2 = 2 from congrArg Int.toNat (show Int32.toInt 2 = 2 from rfl)]; rfl) dX4_staysQuiet_108 ?_
      refine u_callVv (k := 0) (n := 0) (b := a 6) (As := [.ref (a 61)]) (st := []) F (fun sz => S_X5_storeHeights_61 l D K a (gu_st G21 61 (va_cpy (G21 60) (G21 61) 0 0 96))  (by have e9_6_1 : (gu_st G21 61 (va_cpy (G21 60) (G21 61) 0 0 96)) 6 1 = (G7 6 1) := hU23 6 1 (by decide); (try simp only [e9_6_1, true_and, and_true]) <;> (first | omega | (simp only [Int32.reduceToInt, true_and, and_true, ne_eq, not_true_eq_false, false_and, or_false, false_or, true_or, or_true, false_implies] <;> omega))) (gu_I.cpy (j := 61) (f := G21 60) (sp := 0) (dp := 0) hI22 (fun k_ => hI22 60 (0 + k_))) sz) (cwV 1 hts gX4_staysQuiet_X5_storeHeights rfl rfl rfl (by decide +kernel) ⟨Nat.le_of_ble_eq_true rfl, Nat.le_of_ble_eq_true rfl⟩) rfl 6 xc_6 rfl (Nat.le_of_ble_eq_true rfl) ⟨Nat.zero_le _, Nat.zero_le _⟩ dX4_staysQuiet_109 (fun G33 hw32 => ?_)
      have hI34 : xI G33 := hw32.1
      have hU35 : gu_un xcd [6100] (gu_st G21 61 (va_cpy (G21 60) (G21 61) 0 0 96)) G33 := hw32.2.1
      have hp36 := hw32.2.2
      have q37 : (∀ q : Nat, G33 61 q = sHr ((gu_st G21 61 (va_cpy (G21 60) (G21 61) 0 0 96)) 61) (G21 45) (G7 6 1).toInt (G 18 0).toInt q) := by have h9 := hp36; (try simp only [(show (gu_st G21 61 (va_cpy (G21 60) (G21 61) 0 0 96)) 6 1 = (G7 6 1) from hU23 6 1 (by decide)), (show (gu_st G21 61 (va_cpy (G21 60) (G21 61) 0 0 96)) 18 0 = (G 18 0) from (hU23 18 0 (by decide)).trans (hU9 18 0 (by decide)))] at h9); first | exact h9 | omega
      clear hp36 hw32
      refine g_aload_n F 0 dX4_staysQuiet_112 rfl rfl ?_
      refine xg_8_5 F i_X4 w_3 dX4_staysQuiet_113 ?_
      refine g_iload_n F 2 dX4_staysQuiet_116 rfl rfl ?_
      refine g_iconst F 1 dX4_staysQuiet_117 (by decide) ?_
      refine g_iadd F dX4_staysQuiet_118 ?_
      refine g_fold 2 (by decide) ?_
      refine g_aload_n F 0 dX4_staysQuiet_119 rfl rfl ?_
      refine xg_8_1 F i_X4 w_0 dX4_staysQuiet_120 ?_
      refine xg_6_12 F i_X5 w_10 dX4_staysQuiet_123 (G21 6 12) (hU35 6 12 (by decide)) ?_
      have b38 : (0 : Int) ≤ (G21 6 12).toInt ∧ (G21 6 12).toInt ≤ 30000 := hI22 6 12
      refine u_iast F 65 0 xc_65 rfl 2 rfl (by decide) (by decide) (xW K a (gu_up G33 65 2 (G21 6 12))) (xs_65 _) dX4_staysQuiet_126 ?_
      refine g_iconst F 1 dX4_staysQuiet_127 (by decide) ?_
      exact u_zret F hA hQ hr rfl (gu_up G33 65 2 (G21 6 12)) (⟨(gu_I.up (j := 65) (k := 2) (v := (G21 6 12)) hI34 (show (0 : Int) ≤ Int32.toInt (G21 6 12) by omega) (show Int32.toInt (G21 6 12) ≤ 30000 by omega)), (gu_un.up (j := 65) (k := 2) (v := (G21 6 12)) (gu_un.tr (gu_un.sw (j := 61) (f := (va_cpy (G21 60) (G21 61) 0 0 96)) (gu_un.tr (gu_un.tr gu_un.rf (gu_un.su hU9 rfl)) (gu_un.su hU23 rfl)) (fun _ => show (6100 : Nat) ∈ ([602, 603, 604, 605, 608, 613, 614, 615, 616, 617, 618, 619, 620, 2100, 2400, 2700, 4400, 4500, 4600, 4700, 4800, 6100, 6500] : List Nat) by decide)) (gu_un.su hU35 rfl)) (show (6500 : Nat) ∈ ([602, 603, 604, 605, 608, 613, 614, 615, 616, 617, 618, 619, 620, 2100, 2400, 2700, 4400, 4500, 4600, 4700, 4800, 6100, 6500] : List Nat) by decide)), (by decide)⟩) rfl rfl dX4_staysQuiet_128
    · refine g_iconst F 0 dX4_staysQuiet_74 (by decide) ?_
      exact u_zret F hA hQ hr rfl G21 (⟨hI22, (gu_un.tr (gu_un.tr gu_un.rf (gu_un.su hU9 rfl)) (gu_un.su hU23 rfl)), (by decide)⟩) rfl rfl dX4_staysQuiet_75
  · have b39 : (1 : Int) ≤ (G 18 1).toInt ∧ (G 18 1).toInt ≤ 6 := hI 18 1
    have q13 : ¬ (0 ≤ y1.toInt ∧ y1.toInt < (G 18 1).toInt ∧ 1 ≤ y2.toInt ∧ y2.toInt ≤ 9 ∧ 1 ≤ y3.toInt ∧ y3.toInt ≤ 20 ∧ 1 ≤ y4.toInt ∧ y4.toInt ≤ 12) := by have h9 := q13; (try simp only [(show G7 18 1 = (G 18 1) from hU9 18 1 (by decide))] at h9); exact h9
    refine v_if_ne F 44 dX4_staysQuiet_39 (by decide) 0 rfl (fun c40 => absurd c40 (by decide)) (fun c40 => ?_)
    refine g_iconst F 0 dX4_staysQuiet_42 (by decide) ?_
    exact u_zret F hA hQ hr rfl G7 (⟨hI8, (gu_un.tr gu_un.rf (gu_un.su hU9 rfl)), (by decide)⟩) rfl rfl dX4_staysQuiet_43


set_option maxHeartbeats 4000000 in
set_option maxRecDepth 100000 in
theorem S_X5_least_61 (l : Launch) (D : va_G) (K : Nat → ClassId) (a : Nat → Nat) (G : gS) (p1 : Int32) (s1 : Int) (p2 : Int32) (s2 : Int) (e1 : p1.toInt = s1) (h1 : 0 ≤ s1 ∧ s1 ≤ 80) (e2 : p2.toInt = s2) (h2 : 1 ≤ s2 ∧ s2 ≤ 16) (hI : xI G) (sz : Nat) : Ki l yX5_least wsX5_least 1 40 0 0 D [.ref (a 61), .int p1, .int p2] (xW K a G) (tK K) sz (fun (r : Int32) (_ : Unit) => ((-9998) ≤ r.toInt ∧ r.toInt ≤ 1000000) ∧ ((0 ≤ s1 ∧ 1 ≤ s2 ∧ s1 + s2 ≤ 96 → r.toInt = psMn (fun q => (G 61) (s1.toNat + q)) (s2 - 1).toNat))) (fun (_ : Unit) => (xW K a G)) (fun _ => (tK K)) := by
  unfold Ki
  refine g_ofW (cc := cX5_least) (lv := [(0, .ref (a 61)), (1, .int p1), (2, .int p2)]) (by decide) rfl (Nat.le_of_ble_eq_true rfl) rfl ?_
  intro p e s m args below meth c A Q hA hQ F hr hnm
  have hts := F.2.2.2.2.1
  have w_0 : (Cond.methodLink RX5 159 Lib.Math.min.name).before args s = true := hts _ (List.mem_of_getElem? (i := 2) rfl)
  have w_1 : (Cond.static Lib.Math.min.name).before args s = true := hts _ (List.mem_of_getElem? (i := 3) rfl)
  have w_2 : (Cond.initialized "java/lang/Math").before args s = true := hts _ (List.mem_of_getElem? (i := 4) rfl)
  have w_3 : (Cond.code Lib.Math.min.name Lib.Math.min.code 2 (some .int)).before args s = true := hts _ (List.mem_of_getElem? (i := 5) rfl)
  have w_4 : (Cond.constant RX5 163 (1000000)).before args s = true := hts _ (List.mem_of_getElem? (i := 1) rfl)
  have J_6 : ∀ (fuel : Nat) (x6_3 : Int32) (x6_4 : Int32), (2147483647 - x6_4.toInt).toNat < fuel → ((-9998) ≤ x6_3.toInt ∧ x6_3.toInt ≤ 1000000) → (0 ≤ x6_4.toInt ∧ x6_4.toInt ≤ 96) → ((0 ≤ s1 → s1 ≤ x6_4.toInt ∧ ((x6_4.toInt = s1 ∧ x6_3.toInt = 1000000) ∨ (s1 + 1 ≤ x6_4.toInt ∧ x6_3.toInt = psMn (fun q => ((G 61)) (s1.toNat + q)) (x6_4.toInt - 1 - s1).toNat)))) → ((s1 < 0 ∨ s2 < 1 ∨ 96 < s1 + s2 ∨ x6_4.toInt ≤ s1 + s2)) → gG p l e (gR 1 0 0 40) s m args below meth c D A 5 Q 0 0 (xW K a G) (tK K) [(0, .ref (a 61)), (1, .int p1), (2, .int p2), (3, .int x6_3), (4, .int x6_4)] 6 [] := by
    intro fuel
    induction fuel with
    | zero => intro x6_3 x6_4 hm; exact absurd hm (Nat.not_lt_zero _)
    | succ fuel_6 ih_6 =>
      intro x6_3 x6_4 hm_6 h6_3 h6_4 lm ib
      refine g_iload F 4 dX5_least_6 rfl ?_
      refine g_iload_n F 1 dX5_least_8 rfl rfl ?_
      refine g_iload_n F 2 dX5_least_9 rfl rfl ?_
      refine u_iadd F dX5_least_10 s1 s2 e1 e2 (by omega) (by omega) (fun y1 ey1 => ?_)
      refine v_icmp_ge F 41 dX5_least_11 (by decide) x6_4.toInt y1.toInt rfl rfl (fun c2 => ?_) (fun c2 => ?_)
      · refine g_iload_n F 3 dX5_least_41 rfl rfl ?_
        exact u_iret F hA hQ hr () (⟨(by have h9 := ti_rng x6_3; omega), (fun h9 => by rcases (lm h9.1).2 with ⟨g1, g2⟩ | ⟨g1, g2⟩ <;> first | (exfalso; omega) | (rw [g2, show x6_4.toInt - 1 - s1 = s2 - 1 by omega]))⟩) rfl rfl dX5_least_42
      · refine g_iload F 4 dX5_least_14 rfl ?_
        refine v_if_lt F 41 dX5_least_16 (by decide) x6_4.toInt rfl (fun c3 => absurd c3 (by omega)) (fun c3 => ?_)
        refine g_iload F 4 dX5_least_19 rfl ?_
        refine g_aload_n F 0 dX5_least_21 rfl rfl ?_
        refine g_alen F 61 0 xc_61 rfl 96 rfl dX5_least_22 ?_
        refine v_icmp_ge F 41 dX5_least_23 (by decide) x6_4.toInt 96 rfl rfl (fun c4 => absurd c4 (by omega)) (fun c4 => ?_)
        refine g_iload_n F 3 dX5_least_26 rfl rfl ?_
        refine g_aload_n F 0 dX5_least_27 rfl rfl ?_
        refine g_iload F 4 dX5_least_28 rfl ?_
        refine u1_iald F 61 0 xc_61 rfl x6_4.toInt rfl (by omega) (by omega) dX5_least_30 ((G 61) (x6_4.toInt).toNat) (rfl) ?_
        have b5 : ((-9998) : Int) ≤ ((G 61) (x6_4.toInt).toNat).toInt ∧ ((G 61) (x6_4.toInt).toNat).toInt ≤ 5000 := hI 61 _
        refine u_mmin F w_0 w_1 w_2 w_3 (Nat.le_of_ble_eq_true rfl) (Nat.le_of_ble_eq_true rfl) (Nat.le_of_ble_eq_true rfl) (Nat.le_of_ble_eq_true rfl) dX5_least_31 x6_3.toInt ((G 61) (x6_4.toInt).toNat).toInt rfl rfl (fun y6 ey6 => ?_)
        refine g_istore_n F [(3, .int y6), (0, .ref (a 61)), (1, .int p1), (2, .int p2), (4, .int x6_4)] dX5_least_34 rfl (by decide) rfl ?_
        refine u_iinc F (fun v_ => [(4, .int v_), (3, .int y6), (0, .ref (a 61)), (1, .int p1), (2, .int p2)]) dX5_least_35 (j := 4) rfl x6_4.toInt 1 rfl rfl (by omega) (by omega) (by decide) (fun _ => rfl) (fun y7 ey7 => ?_)
        refine g_goto F 6 dX5_least_38 (by decide) ?_
        refine g_locals [(0, .ref (a 61)), (1, .int p1), (2, .int p2), (3, .int y6), (4, .int y7)] [2, 3, 4, 1, 0] rfl ?_
        exact ih_6 y6 y7 (by omega) (by have h9 := ti_rng y6; omega) (by have h9 := ti_rng y7; omega) (fun h0 => ⟨by have h9 := (lm h0).1; omega, psMn_go (i := x6_4.toInt) (m := x6_3.toInt) h0 (lm h0).1 (by omega) (lm h0).2 (by omega) (by omega)⟩) (by first | omega | (simp only [Int32.reduceToInt, true_and, and_true, ne_eq, not_true_eq_false, false_and, or_false, false_or, true_or, or_true, false_implies] <;> omega))
  refine g_ldc F w_4 dX5_least_0 ?_
  refine g_istore_n F [(3, .int 1000000), (0, .ref (a 61)), (1, .int p1), (2, .int p2)] dX5_least_2 rfl (by decide) rfl ?_
  refine g_iload_n F 2 dX5_least_3 rfl rfl ?_
  refine g_istore F [(4, .int p1), (3, .int 1000000), (0, .ref (a 61)), (1, .int p1), (2, .int p2)] dX5_least_4 (by decide) rfl ?_
  refine g_locals [(0, .ref (a 61)), (1, .int p1), (2, .int p2), (3, .int 1000000), (4, .int p1)] [2, 3, 4, 1, 0] rfl ?_
  exact J_6 _ 1000000 p1 (Nat.lt_succ_self _) (by decide) (by have h9 := ti_rng p1; omega) (fun h0 => ⟨by omega, Or.inl ⟨by omega, by decide⟩⟩) (by first | omega | (simp only [Int32.reduceToInt, true_and, and_true, ne_eq, not_true_eq_false, false_and, or_false, false_or, true_or, or_true, false_implies] <;> omega))


set_option maxHeartbeats 4000000 in
set_option maxRecDepth 100000 in
theorem S_X5_gapIn_61 (l : Launch) (D : va_G) (K : Nat → ClassId) (a : Nat → Nat) (G : gS) (p1 : Int32) (s1 : Int) (e1 : p1.toInt = s1) (h1 : (-9998) ≤ s1 ∧ s1 ≤ 5000) (hrg : (0 ≤ (G 6 1).toInt ∧ (G 6 1).toInt ≤ 5)) (rgn : ((G 6 1).toInt < (G 18 1).toInt)) (hI : xI G) (sz : Nat) : Ki l yX5_gapIn wsX5_gapIn 2 64 0 0 D [.ref (a 6), .ref (a 61), .int p1] (xW K a G) (tK K) sz (fun (r : Int32) (_ : Unit) => ((-9998) ≤ r.toInt ∧ r.toInt ≤ 1000000) ∧ ((r.toInt = psGa (G 61) (G 6 1).toInt (G 18 1).toInt (G 18 0).toInt s1))) (fun (_ : Unit) => (xW K a G)) (fun _ => (tK K)) := by
  unfold Ki
  refine g_ofW (cc := cX5_gapIn) (lv := [(0, .ref (a 6)), (1, .ref (a 61)), (2, .int p1)]) (by decide) rfl (Nat.le_of_ble_eq_true rfl) rfl ?_
  intro p e s m args below meth c A Q hA hQ F hr hnm
  have hts := F.2.2.2.2.1
  have w_0 : (Cond.fieldLink RX5 29 "QuietCut$Lathe" "shop" "LQuietCut$Shop;").before args s = true := hts _ (List.mem_of_getElem? (i := 1) rfl)
  have i_X5 : ∀ w ∈ u_ws RX5 TX5 20, w ∈ wsX5_gapIn := fun _ h => List.mem_cons_of_mem _ (List.mem_append_left _ (List.mem_append_right _ h))
  have w_1 : (Cond.fieldLink RX5 56 "QuietCut$Shop" "numbers" "[I").before args s = true := hts _ (List.mem_of_getElem? (i := 2) rfl)
  have i_X7 : ∀ w ∈ u_ws RX7 TX7 4, w ∈ wsX5_gapIn := fun _ h => List.mem_cons_of_mem _ (List.mem_append_right _ h)
  have w_2 : (Cond.fieldLink RX5 33 "QuietCut$Lathe" "ring" "I").before args s = true := hts _ (List.mem_of_getElem? (i := 3) rfl)
  have w_3 : (Cond.methodLink RX5 159 Lib.Math.min.name).before args s = true := hts _ (List.mem_of_getElem? (i := 4) rfl)
  have w_4 : (Cond.static Lib.Math.min.name).before args s = true := hts _ (List.mem_of_getElem? (i := 5) rfl)
  have w_5 : (Cond.initialized "java/lang/Math").before args s = true := hts _ (List.mem_of_getElem? (i := 6) rfl)
  have w_6 : (Cond.code Lib.Math.min.name Lib.Math.min.code 2 (some .int)).before args s = true := hts _ (List.mem_of_getElem? (i := 7) rfl)
  have b1 : (4 : Int) ≤ (G 18 0).toInt ∧ (G 18 0).toInt ≤ 16 := hI 18 0
  have b2 : (1 : Int) ≤ (G 18 1).toInt ∧ (G 18 1).toInt ≤ 6 := hI 18 1
  refine g_aload_n F 0 dX5_gapIn_0 rfl rfl ?_
  refine xg_6_0 F i_X5 w_0 dX5_gapIn_1 ?_
  refine xg_2_0 F i_X7 w_1 dX5_gapIn_4 ?_
  refine g_iconst F 0 dX5_gapIn_7 (by decide) ?_
  refine u1_iald F 18 0 xc_18 rfl 0 rfl (by decide) (by decide) dX5_gapIn_8 (G 18 0) (rfl) ?_
  refine g_istore_n F [(3, .int (G 18 0)), (0, .ref (a 6)), (1, .ref (a 61)), (2, .int p1)] dX5_gapIn_9 rfl (by decide) rfl ?_
  refine g_aload_n F 1 dX5_gapIn_10 rfl rfl ?_
  refine xg_6_0 F i_X5 w_0 dX5_gapIn_11 ?_
  refine g_aload_n F 1 dX5_gapIn_14 rfl rfl ?_
  refine xg_6_1 F i_X5 w_2 dX5_gapIn_15 (G 6 1) (rfl) ?_
  refine g_iconst F 1 dX5_gapIn_18 (by decide) ?_
  refine u_isub F dX5_gapIn_19 (G 6 1).toInt 1 rfl rfl (by omega) (by omega) (fun y3 ey3 => ?_)
  refine u_callVi (k := 0) (n := 0) (b := a 2) (As := [.int y3]) (st := []) F (fun sz => S_X7_hasRing_2 l D K a G y3 y3.toInt rfl hI sz) (cwV 1 hts gX5_gapIn_X7_hasRing rfl rfl rfl (by decide +kernel) ⟨Nat.le_of_ble_eq_true rfl, Nat.le_of_ble_eq_true rfl⟩) rfl 2 xc_2 rfl (Nat.le_of_ble_eq_true rfl) ⟨Nat.zero_le _, Nat.zero_le _⟩ dX5_gapIn_20 (fun r4 _ hw5 => ?_)
  rcases hw5 with ⟨rfl, q7⟩ | ⟨rfl, q8⟩
  · have q7 : (0 ≤ y3.toInt ∧ y3.toInt < (G 18 1).toInt) := q7
    refine g_istore F [(4, .int 1), (3, .int (G 18 0)), (0, .ref (a 6)), (1, .ref (a 61)), (2, .int p1)] dX5_gapIn_23 (by decide) rfl ?_
    refine g_aload_n F 2 dX5_gapIn_25 rfl rfl ?_
    refine xg_6_0 F i_X5 w_0 dX5_gapIn_26 ?_
    refine g_aload_n F 2 dX5_gapIn_29 rfl rfl ?_
    refine xg_6_1 F i_X5 w_2 dX5_gapIn_30 (G 6 1) (rfl) ?_
    refine g_iconst F 1 dX5_gapIn_33 (by decide) ?_
    refine u_iadd F dX5_gapIn_34 (G 6 1).toInt 1 rfl rfl (by omega) (by omega) (fun y9 ey9 => ?_)
    refine u_callVi (k := 0) (n := 0) (b := a 2) (As := [.int y9]) (st := []) F (fun sz => S_X7_hasRing_2 l D K a G y9 y9.toInt rfl hI sz) (cwV 1 hts gX5_gapIn_X7_hasRing rfl rfl rfl (by decide +kernel) ⟨Nat.le_of_ble_eq_true rfl, Nat.le_of_ble_eq_true rfl⟩) rfl 2 xc_2 rfl (Nat.le_of_ble_eq_true rfl) ⟨Nat.zero_le _, Nat.zero_le _⟩ dX5_gapIn_35 (fun r10 _ hw11 => ?_)
    rcases hw11 with ⟨rfl, q13⟩ | ⟨rfl, q14⟩
    · have q13 : (0 ≤ y9.toInt ∧ y9.toInt < (G 18 1).toInt) := q13
      refine g_istore F [(5, .int 1), (4, .int 1), (3, .int (G 18 0)), (0, .ref (a 6)), (1, .ref (a 61)), (2, .int p1)] dX5_gapIn_38 (by decide) rfl ?_
      refine g_iload F 1 dX5_gapIn_40 rfl ?_
      refine v_if_eq F 63 dX5_gapIn_42 (by decide) 1 rfl (fun c15 => absurd c15 (by decide)) (fun c15 => ?_)
      refine g_aload_n F 4 dX5_gapIn_45 rfl rfl ?_
      refine g_aload_n F 3 dX5_gapIn_46 rfl rfl ?_
      refine xg_6_1 F i_X5 w_2 dX5_gapIn_47 (G 6 1) (rfl) ?_
      refine g_iconst F 1 dX5_gapIn_50 (by decide) ?_
      refine u_isub F dX5_gapIn_51 (G 6 1).toInt 1 rfl rfl (by omega) (by omega) (fun y16 ey16 => ?_)
      refine g_iconst F 0 dX5_gapIn_52 (by decide) ?_
      refine u_call0 (k := 0) (n := 0) (As := [.int y16, .int 0]) (st := [.ref (a 61)]) F (fun sz => S_X6_placeOf_b6_b15 l D y16 y16.toInt 0 0 rfl (by omega) rfl (by decide) sz) (va_cwS 2 hts gX5_gapIn_X6_placeOf rfl rfl rfl (by decide +kernel) ⟨Nat.le_of_ble_eq_true rfl, Nat.le_of_ble_eq_true rfl⟩) rfl (Nat.le_of_ble_eq_true rfl) ⟨Nat.zero_le _, Nat.zero_le _⟩ dX5_gapIn_53 (fun r17 _ hw18 => ?_)
      have rg20 := hw18.1
      have rg21 := hw18.2
      clear hw18
      refine g_iload_n F 2 dX5_gapIn_56 rfl rfl ?_
      refine u_callSi (k := 0) (n := 0) (As := [.ref (a 61), .int r17, .int (G 18 0)]) (st := []) F (fun sz => S_X5_least_61 l D K a G r17 r17.toInt (G 18 0) (G 18 0).toInt rfl (by omega) rfl (by omega) hI sz) (va_cwS 3 hts gX5_gapIn_X5_least rfl rfl rfl (by decide +kernel) ⟨Nat.le_of_ble_eq_true rfl, Nat.le_of_ble_eq_true rfl⟩) rfl (Nat.le_of_ble_eq_true rfl) ⟨Nat.zero_le _, Nat.zero_le _⟩ dX5_gapIn_57 (fun r22 _ hw23 => ?_)
      have q25 : (0 ≤ r17.toInt ∧ 1 ≤ (G 18 0).toInt ∧ r17.toInt + (G 18 0).toInt ≤ 96 → r22.toInt = psMn (fun q => (G 61) (r17.toInt.toNat + q)) ((G 18 0).toInt - 1).toNat) := hw23.2
      have rg26 := hw23.1
      clear hw23
      refine g_goto F 64 dX5_gapIn_60 (by decide) ?_
      refine g_istore F [(6, .int r22), (5, .int 1), (4, .int 1), (3, .int (G 18 0)), (0, .ref (a 6)), (1, .ref (a 61)), (2, .int p1)] dX5_gapIn_64 (by decide) rfl ?_
      refine g_iload F 1 dX5_gapIn_66 rfl ?_
      refine v_if_eq F 89 dX5_gapIn_68 (by decide) 1 rfl (fun c27 => absurd c27 (by decide)) (fun c27 => ?_)
      refine g_aload_n F 5 dX5_gapIn_71 rfl rfl ?_
      refine g_aload_n F 4 dX5_gapIn_72 rfl rfl ?_
      refine xg_6_1 F i_X5 w_2 dX5_gapIn_73 (G 6 1) (rfl) ?_
      refine g_iconst F 1 dX5_gapIn_76 (by decide) ?_
      refine u_iadd F dX5_gapIn_77 (G 6 1).toInt 1 rfl rfl (by omega) (by omega) (fun y28 ey28 => ?_)
      refine g_iconst F 0 dX5_gapIn_78 (by decide) ?_
      refine u_call0 (k := 0) (n := 0) (As := [.int y28, .int 0]) (st := [.ref (a 61)]) F (fun sz => S_X6_placeOf_b6_b15 l D y28 y28.toInt 0 0 rfl (by omega) rfl (by decide) sz) (va_cwS 2 hts gX5_gapIn_X6_placeOf rfl rfl rfl (by decide +kernel) ⟨Nat.le_of_ble_eq_true rfl, Nat.le_of_ble_eq_true rfl⟩) rfl (Nat.le_of_ble_eq_true rfl) ⟨Nat.zero_le _, Nat.zero_le _⟩ dX5_gapIn_79 (fun r29 _ hw30 => ?_)
      have rg32 := hw30.1
      have rg33 := hw30.2
      clear hw30
      refine g_iload_n F 3 dX5_gapIn_82 rfl rfl ?_
      refine u_callSi (k := 0) (n := 0) (As := [.ref (a 61), .int r29, .int (G 18 0)]) (st := []) F (fun sz => S_X5_least_61 l D K a G r29 r29.toInt (G 18 0) (G 18 0).toInt rfl (by omega) rfl (by omega) hI sz) (va_cwS 3 hts gX5_gapIn_X5_least rfl rfl rfl (by decide +kernel) ⟨Nat.le_of_ble_eq_true rfl, Nat.le_of_ble_eq_true rfl⟩) rfl (Nat.le_of_ble_eq_true rfl) ⟨Nat.zero_le _, Nat.zero_le _⟩ dX5_gapIn_83 (fun r34 _ hw35 => ?_)
      have q37 : (0 ≤ r29.toInt ∧ 1 ≤ (G 18 0).toInt ∧ r29.toInt + (G 18 0).toInt ≤ 96 → r34.toInt = psMn (fun q => (G 61) (r29.toInt.toNat + q)) ((G 18 0).toInt - 1).toNat) := hw35.2
      have rg38 := hw35.1
      clear hw35
      refine g_goto F 90 dX5_gapIn_86 (by decide) ?_
      refine g_istore F [(7, .int r34), (6, .int r22), (5, .int 1), (4, .int 1), (3, .int (G 18 0)), (0, .ref (a 6)), (1, .ref (a 61)), (2, .int p1)] dX5_gapIn_90 (by decide) rfl ?_
      refine g_iload F 3 dX5_gapIn_92 rfl ?_
      refine v_if_eq F 110 dX5_gapIn_94 (by decide) 1 rfl (fun c39 => absurd c39 (by decide)) (fun c39 => ?_)
      refine g_iload F 2 dX5_gapIn_97 rfl ?_
      refine v_if_eq F 110 dX5_gapIn_99 (by decide) 1 rfl (fun c40 => absurd c40 (by decide)) (fun c40 => ?_)
      refine g_iload F 1 dX5_gapIn_102 rfl ?_
      refine g_iload F 0 dX5_gapIn_104 rfl ?_
      refine u_mmin F w_3 w_4 w_5 w_6 (Nat.le_of_ble_eq_true rfl) (Nat.le_of_ble_eq_true rfl) (Nat.le_of_ble_eq_true rfl) (Nat.le_of_ble_eq_true rfl) dX5_gapIn_106 r22.toInt r34.toInt rfl rfl (fun y41 ey41 => ?_)
      exact u_iret F hA hQ hr () (⟨(by have h9 := ti_rng y41; omega), (by have h1 := q25 ⟨by omega, by omega, by omega⟩; rw [show r17.toInt = 16 * ((G 6 1).toInt - 1) by omega] at h1; have h2 := q37 ⟨by omega, by omega, by omega⟩; rw [show r29.toInt = 16 * ((G 6 1).toInt + 1) by omega] at h2; unfold psGa; rw [if_pos (by omega), if_pos (by omega), ← h1, ← h2]; omega)⟩) rfl rfl dX5_gapIn_109
    · have q14 : (y9.toInt < 0 ∨ (G 18 1).toInt ≤ y9.toInt) := q14
      refine g_istore F [(5, .int 0), (4, .int 1), (3, .int (G 18 0)), (0, .ref (a 6)), (1, .ref (a 61)), (2, .int p1)] dX5_gapIn_38 (by decide) rfl ?_
      refine g_iload F 1 dX5_gapIn_40 rfl ?_
      refine v_if_eq F 63 dX5_gapIn_42 (by decide) 1 rfl (fun c42 => absurd c42 (by decide)) (fun c42 => ?_)
      refine g_aload_n F 4 dX5_gapIn_45 rfl rfl ?_
      refine g_aload_n F 3 dX5_gapIn_46 rfl rfl ?_
      refine xg_6_1 F i_X5 w_2 dX5_gapIn_47 (G 6 1) (rfl) ?_
      refine g_iconst F 1 dX5_gapIn_50 (by decide) ?_
      refine u_isub F dX5_gapIn_51 (G 6 1).toInt 1 rfl rfl (by omega) (by omega) (fun y43 ey43 => ?_)
      refine g_iconst F 0 dX5_gapIn_52 (by decide) ?_
      refine u_call0 (k := 0) (n := 0) (As := [.int y43, .int 0]) (st := [.ref (a 61)]) F (fun sz => S_X6_placeOf_b6_b15 l D y43 y43.toInt 0 0 rfl (by omega) rfl (by decide) sz) (va_cwS 2 hts gX5_gapIn_X6_placeOf rfl rfl rfl (by decide +kernel) ⟨Nat.le_of_ble_eq_true rfl, Nat.le_of_ble_eq_true rfl⟩) rfl (Nat.le_of_ble_eq_true rfl) ⟨Nat.zero_le _, Nat.zero_le _⟩ dX5_gapIn_53 (fun r44 _ hw45 => ?_)
      have rg47 := hw45.1
      have rg48 := hw45.2
      clear hw45
      refine g_iload_n F 2 dX5_gapIn_56 rfl rfl ?_
      refine u_callSi (k := 0) (n := 0) (As := [.ref (a 61), .int r44, .int (G 18 0)]) (st := []) F (fun sz => S_X5_least_61 l D K a G r44 r44.toInt (G 18 0) (G 18 0).toInt rfl (by omega) rfl (by omega) hI sz) (va_cwS 3 hts gX5_gapIn_X5_least rfl rfl rfl (by decide +kernel) ⟨Nat.le_of_ble_eq_true rfl, Nat.le_of_ble_eq_true rfl⟩) rfl (Nat.le_of_ble_eq_true rfl) ⟨Nat.zero_le _, Nat.zero_le _⟩ dX5_gapIn_57 (fun r49 _ hw50 => ?_)
      have q52 : (0 ≤ r44.toInt ∧ 1 ≤ (G 18 0).toInt ∧ r44.toInt + (G 18 0).toInt ≤ 96 → r49.toInt = psMn (fun q => (G 61) (r44.toInt.toNat + q)) ((G 18 0).toInt - 1).toNat) := hw50.2
      have rg53 := hw50.1
      clear hw50
      refine g_goto F 64 dX5_gapIn_60 (by decide) ?_
      refine g_istore F [(6, .int r49), (5, .int 0), (4, .int 1), (3, .int (G 18 0)), (0, .ref (a 6)), (1, .ref (a 61)), (2, .int p1)] dX5_gapIn_64 (by decide) rfl ?_
      refine g_iload F 1 dX5_gapIn_66 rfl ?_
      refine v_if_eq F 89 dX5_gapIn_68 (by decide) 0 rfl (fun c54 => ?_) (fun c54 => absurd c54 (by decide))
      refine g_iload_n F 6 dX5_gapIn_89 rfl rfl ?_
      refine g_istore F [(7, .int p1), (6, .int r49), (5, .int 0), (4, .int 1), (3, .int (G 18 0)), (0, .ref (a 6)), (1, .ref (a 61)), (2, .int p1)] dX5_gapIn_90 (by decide) rfl ?_
      refine g_iload F 3 dX5_gapIn_92 rfl ?_
      refine v_if_eq F 110 dX5_gapIn_94 (by decide) 1 rfl (fun c55 => absurd c55 (by decide)) (fun c55 => ?_)
      refine g_iload F 2 dX5_gapIn_97 rfl ?_
      refine v_if_eq F 110 dX5_gapIn_99 (by decide) 0 rfl (fun c56 => ?_) (fun c56 => absurd c56 (by decide))
      refine g_iload F 3 dX5_gapIn_110 rfl ?_
      refine v_if_eq F 120 dX5_gapIn_112 (by decide) 1 rfl (fun c57 => absurd c57 (by decide)) (fun c57 => ?_)
      refine g_iload F 1 dX5_gapIn_115 rfl ?_
      refine g_goto F 122 dX5_gapIn_117 (by decide) ?_
      exact u_iret F hA hQ hr () (⟨(by have h9 := ti_rng r49; omega), (by first | (have h1 := q52 ⟨by omega, by omega, by omega⟩; rw [show r44.toInt = 16 * ((G 6 1).toInt - 1) by omega] at h1; unfold psGa; rw [if_pos (by omega), if_neg (by omega), ← h1]; done) | (have h1 := q52 ⟨by omega, by omega, by omega⟩; rw [show r44.toInt = 16 * ((G 6 1).toInt + 1) by omega] at h1; unfold psGa; rw [if_neg (by omega), if_pos (by omega), ← h1]; done))⟩) rfl rfl dX5_gapIn_122
  · have q8 : (y3.toInt < 0 ∨ (G 18 1).toInt ≤ y3.toInt) := q8
    refine g_istore F [(4, .int 0), (3, .int (G 18 0)), (0, .ref (a 6)), (1, .ref (a 61)), (2, .int p1)] dX5_gapIn_23 (by decide) rfl ?_
    refine g_aload_n F 2 dX5_gapIn_25 rfl rfl ?_
    refine xg_6_0 F i_X5 w_0 dX5_gapIn_26 ?_
    refine g_aload_n F 2 dX5_gapIn_29 rfl rfl ?_
    refine xg_6_1 F i_X5 w_2 dX5_gapIn_30 (G 6 1) (rfl) ?_
    refine g_iconst F 1 dX5_gapIn_33 (by decide) ?_
    refine u_iadd F dX5_gapIn_34 (G 6 1).toInt 1 rfl rfl (by omega) (by omega) (fun y58 ey58 => ?_)
    refine u_callVi (k := 0) (n := 0) (b := a 2) (As := [.int y58]) (st := []) F (fun sz => S_X7_hasRing_2 l D K a G y58 y58.toInt rfl hI sz) (cwV 1 hts gX5_gapIn_X7_hasRing rfl rfl rfl (by decide +kernel) ⟨Nat.le_of_ble_eq_true rfl, Nat.le_of_ble_eq_true rfl⟩) rfl 2 xc_2 rfl (Nat.le_of_ble_eq_true rfl) ⟨Nat.zero_le _, Nat.zero_le _⟩ dX5_gapIn_35 (fun r59 _ hw60 => ?_)
    rcases hw60 with ⟨rfl, q62⟩ | ⟨rfl, q63⟩
    · have q62 : (0 ≤ y58.toInt ∧ y58.toInt < (G 18 1).toInt) := q62
      refine g_istore F [(5, .int 1), (4, .int 0), (3, .int (G 18 0)), (0, .ref (a 6)), (1, .ref (a 61)), (2, .int p1)] dX5_gapIn_38 (by decide) rfl ?_
      refine g_iload F 1 dX5_gapIn_40 rfl ?_
      refine v_if_eq F 63 dX5_gapIn_42 (by decide) 0 rfl (fun c64 => ?_) (fun c64 => absurd c64 (by decide))
      refine g_iload_n F 5 dX5_gapIn_63 rfl rfl ?_
      refine g_istore F [(6, .int p1), (5, .int 1), (4, .int 0), (3, .int (G 18 0)), (0, .ref (a 6)), (1, .ref (a 61)), (2, .int p1)] dX5_gapIn_64 (by decide) rfl ?_
      refine g_iload F 1 dX5_gapIn_66 rfl ?_
      refine v_if_eq F 89 dX5_gapIn_68 (by decide) 1 rfl (fun c65 => absurd c65 (by decide)) (fun c65 => ?_)
      refine g_aload_n F 5 dX5_gapIn_71 rfl rfl ?_
      refine g_aload_n F 4 dX5_gapIn_72 rfl rfl ?_
      refine xg_6_1 F i_X5 w_2 dX5_gapIn_73 (G 6 1) (rfl) ?_
      refine g_iconst F 1 dX5_gapIn_76 (by decide) ?_
      refine u_iadd F dX5_gapIn_77 (G 6 1).toInt 1 rfl rfl (by omega) (by omega) (fun y66 ey66 => ?_)
      refine g_iconst F 0 dX5_gapIn_78 (by decide) ?_
      refine u_call0 (k := 0) (n := 0) (As := [.int y66, .int 0]) (st := [.ref (a 61)]) F (fun sz => S_X6_placeOf_b6_b15 l D y66 y66.toInt 0 0 rfl (by omega) rfl (by decide) sz) (va_cwS 2 hts gX5_gapIn_X6_placeOf rfl rfl rfl (by decide +kernel) ⟨Nat.le_of_ble_eq_true rfl, Nat.le_of_ble_eq_true rfl⟩) rfl (Nat.le_of_ble_eq_true rfl) ⟨Nat.zero_le _, Nat.zero_le _⟩ dX5_gapIn_79 (fun r67 _ hw68 => ?_)
      have rg70 := hw68.1
      have rg71 := hw68.2
      clear hw68
      refine g_iload_n F 3 dX5_gapIn_82 rfl rfl ?_
      refine u_callSi (k := 0) (n := 0) (As := [.ref (a 61), .int r67, .int (G 18 0)]) (st := []) F (fun sz => S_X5_least_61 l D K a G r67 r67.toInt (G 18 0) (G 18 0).toInt rfl (by omega) rfl (by omega) hI sz) (va_cwS 3 hts gX5_gapIn_X5_least rfl rfl rfl (by decide +kernel) ⟨Nat.le_of_ble_eq_true rfl, Nat.le_of_ble_eq_true rfl⟩) rfl (Nat.le_of_ble_eq_true rfl) ⟨Nat.zero_le _, Nat.zero_le _⟩ dX5_gapIn_83 (fun r72 _ hw73 => ?_)
      have q75 : (0 ≤ r67.toInt ∧ 1 ≤ (G 18 0).toInt ∧ r67.toInt + (G 18 0).toInt ≤ 96 → r72.toInt = psMn (fun q => (G 61) (r67.toInt.toNat + q)) ((G 18 0).toInt - 1).toNat) := hw73.2
      have rg76 := hw73.1
      clear hw73
      refine g_goto F 90 dX5_gapIn_86 (by decide) ?_
      refine g_istore F [(7, .int r72), (6, .int p1), (5, .int 1), (4, .int 0), (3, .int (G 18 0)), (0, .ref (a 6)), (1, .ref (a 61)), (2, .int p1)] dX5_gapIn_90 (by decide) rfl ?_
      refine g_iload F 3 dX5_gapIn_92 rfl ?_
      refine v_if_eq F 110 dX5_gapIn_94 (by decide) 0 rfl (fun c77 => ?_) (fun c77 => absurd c77 (by decide))
      refine g_iload F 3 dX5_gapIn_110 rfl ?_
      refine v_if_eq F 120 dX5_gapIn_112 (by decide) 0 rfl (fun c78 => ?_) (fun c78 => absurd c78 (by decide))
      refine g_iload F 0 dX5_gapIn_120 rfl ?_
      exact u_iret F hA hQ hr () (⟨(by have h9 := ti_rng r72; omega), (by first | (have h1 := q75 ⟨by omega, by omega, by omega⟩; rw [show r67.toInt = 16 * ((G 6 1).toInt - 1) by omega] at h1; unfold psGa; rw [if_pos (by omega), if_neg (by omega), ← h1]; done) | (have h1 := q75 ⟨by omega, by omega, by omega⟩; rw [show r67.toInt = 16 * ((G 6 1).toInt + 1) by omega] at h1; unfold psGa; rw [if_neg (by omega), if_pos (by omega), ← h1]; done))⟩) rfl rfl dX5_gapIn_122
    · have q63 : (y58.toInt < 0 ∨ (G 18 1).toInt ≤ y58.toInt) := q63
      refine g_istore F [(5, .int 0), (4, .int 0), (3, .int (G 18 0)), (0, .ref (a 6)), (1, .ref (a 61)), (2, .int p1)] dX5_gapIn_38 (by decide) rfl ?_
      refine g_iload F 1 dX5_gapIn_40 rfl ?_
      refine v_if_eq F 63 dX5_gapIn_42 (by decide) 0 rfl (fun c79 => ?_) (fun c79 => absurd c79 (by decide))
      refine g_iload_n F 5 dX5_gapIn_63 rfl rfl ?_
      refine g_istore F [(6, .int p1), (5, .int 0), (4, .int 0), (3, .int (G 18 0)), (0, .ref (a 6)), (1, .ref (a 61)), (2, .int p1)] dX5_gapIn_64 (by decide) rfl ?_
      refine g_iload F 1 dX5_gapIn_66 rfl ?_
      refine v_if_eq F 89 dX5_gapIn_68 (by decide) 0 rfl (fun c80 => ?_) (fun c80 => absurd c80 (by decide))
      refine g_iload_n F 6 dX5_gapIn_89 rfl rfl ?_
      refine g_istore F [(7, .int p1), (6, .int p1), (5, .int 0), (4, .int 0), (3, .int (G 18 0)), (0, .ref (a 6)), (1, .ref (a 61)), (2, .int p1)] dX5_gapIn_90 (by decide) rfl ?_
      refine g_iload F 3 dX5_gapIn_92 rfl ?_
      refine v_if_eq F 110 dX5_gapIn_94 (by decide) 0 rfl (fun c81 => ?_) (fun c81 => absurd c81 (by decide))
      refine g_iload F 3 dX5_gapIn_110 rfl ?_
      refine v_if_eq F 120 dX5_gapIn_112 (by decide) 0 rfl (fun c82 => ?_) (fun c82 => absurd c82 (by decide))
      refine g_iload F 0 dX5_gapIn_120 rfl ?_
      exact u_iret F hA hQ hr () (⟨(by have h9 := ti_rng p1; omega), (by unfold psGa; rw [if_neg (by omega), if_neg (by omega)]; exact e1)⟩) rfl rfl dX5_gapIn_122


set_option maxHeartbeats 4000000 in
set_option maxRecDepth 100000 in
theorem S_X5_run_61 (l : Launch) (D : va_G) (K : Nat → ClassId) (a : Nat → Nat) (G : gS) (p1 : Int32) (s1 : Int) (p2 : Int32) (s2 : Int) (p3 : Int32) (s3 : Int) (e1 : p1.toInt = s1) (h1 : 0 ≤ s1 ∧ s1 ≤ 30000) (e2 : p2.toInt = s2) (h2 : 0 ≤ s2 ∧ s2 ≤ 300) (e3 : p3.toInt = s3) (h3 : 0 ≤ s3 ∧ s3 ≤ 300) (fr : (0 ≤ (G 6 1).toInt ∧ (G 6 1).toInt < (G 18 1).toInt ∧ 1 ≤ (G 6 2).toInt ∧ (G 6 2).toInt ≤ 9 ∧ 1 ≤ (G 6 3).toInt ∧ (G 6 3).toInt ≤ 20 ∧ 1 ≤ (G 6 4).toInt ∧ (G 6 4).toInt ≤ 12)) (hI : xI G) (sz : Nat) : Ki l yX5_run wsX5_run 4 115 0 0 D [.ref (a 6), .ref (a 61), .int p1, .int p2, .int p3] (xW K a G) (tK K) sz (fun (r : Int32) (G' : gS) => (xI G') ∧ (gu_un xcd [608, 613, 614, 615, 616, 617, 618, 619, 620, 2100, 2400, 2700, 4400, 4500, 4600, 4700, 4800] G G') ∧ ((-4) ≤ r.toInt ∧ r.toInt ≤ 2) ∧ ((r.toInt = -4 ∨ (0 ≤ r.toInt ∧ r.toInt ≤ 2))) ∧ (((xTok G ∧ r.toInt ≠ -4) → xOut G (G 61) p1 p2 p3 G' r.toInt)) ∧ (((r.toInt = -4 ∧ psMx (psHr (G 61) (G 6 1).toInt (G 18 0).toInt) ((G 18 0).toInt - 1).toNat - (G 6 3).toInt * (G 6 4).toInt < 1) ∨ (r.toInt ≠ -4 ∧ 1 ≤ psMx (psHr (G 61) (G 6 1).toInt (G 18 0).toInt) ((G 18 0).toInt - 1).toNat - (G 6 3).toInt * (G 6 4).toInt)))) (fun (G' : gS) => (xW K a G')) (fun _ => (tK K)) := by
  unfold Ki
  refine g_ofW (cc := cX5_run) (lv := [(0, .ref (a 6)), (1, .ref (a 61)), (2, .int p1), (3, .int p2), (4, .int p3)]) (by decide) rfl (Nat.le_of_ble_eq_true rfl) rfl ?_
  intro p e s m args below meth c A Q hA hQ F hr hnm
  have hts := F.2.2.2.2.1
  have w_0 : (Cond.fieldLink RX5 40 "QuietCut$Lathe" "feed" "I").before args s = true := hts _ (List.mem_of_getElem? (i := 9) rfl)
  have i_X5 : ∀ w ∈ u_ws RX5 TX5 20, w ∈ wsX5_run := fun _ h => List.mem_cons_of_mem _ (List.mem_append_left _ (List.mem_append_left _ (List.mem_append_right _ h)))
  have w_1 : (Cond.fieldLink RX5 29 "QuietCut$Lathe" "shop" "LQuietCut$Shop;").before args s = true := hts _ (List.mem_of_getElem? (i := 1) rfl)
  have w_2 : (Cond.fieldLink RX5 90 "QuietCut$Shop" "wall" "LQuietCut$Formula;").before args s = true := hts _ (List.mem_of_getElem? (i := 12) rfl)
  have i_X7 : ∀ w ∈ u_ws RX7 TX7 4, w ∈ wsX5_run := fun _ h => List.mem_cons_of_mem _ (List.mem_append_left _ (List.mem_append_right _ h))
  have w_3 : (Cond.fieldLink RX5 17 "QuietCut$Lathe" "heights" "[I").before args s = true := hts _ (List.mem_of_getElem? (i := 4) rfl)
  have w_4 : (Cond.fieldLink RX5 37 "QuietCut$Lathe" "speed" "I").before args s = true := hts _ (List.mem_of_getElem? (i := 13) rfl)
  have w_5 : (Cond.fieldLink RX5 43 "QuietCut$Lathe" "turns" "I").before args s = true := hts _ (List.mem_of_getElem? (i := 10) rfl)
  have w_6 : (Cond.fieldLink RX5 116 "QuietCut$Lathe" "wave" "I").before args s = true := hts _ (List.mem_of_getElem? (i := 14) rfl)
  have w_7 : (Cond.fieldLink RX5 56 "QuietCut$Shop" "numbers" "[I").before args s = true := hts _ (List.mem_of_getElem? (i := 2) rfl)
  have w_8 : (Cond.fieldLink RX5 83 "QuietCut$Lathe" "begun" "I").before args s = true := hts _ (List.mem_of_getElem? (i := 11) rfl)
  have w_9 : (Cond.fieldLink RX5 33 "QuietCut$Lathe" "ring" "I").before args s = true := hts _ (List.mem_of_getElem? (i := 3) rfl)
  have w_10 : (Cond.methodLink RX5 65 arraycopyName).before args s = true := hts _ (List.mem_of_getElem? (i := 5) rfl)
  have w_11 : (Cond.native arraycopyName).before args s = true := hts _ (List.mem_of_getElem? (i := 6) rfl)
  have w_12 : (Cond.static arraycopyName).before args s = true := hts _ (List.mem_of_getElem? (i := 7) rfl)
  have w_13 : (Cond.initialized "java/lang/System").before args s = true := hts _ (List.mem_of_getElem? (i := 8) rfl)
  have b1 : (4 : Int) ≤ (G 18 0).toInt ∧ (G 18 0).toInt ≤ 16 := hI 18 0
  have b2 : (1 : Int) ≤ (G 18 1).toInt ∧ (G 18 1).toInt ≤ 6 := hI 18 1
  have b3 : (0 : Int) ≤ (G 18 8).toInt ∧ (G 18 8).toInt ≤ 9999 := hI 18 8
  have b4 : (1 : Int) ≤ (G 18 10).toInt ∧ (G 18 10).toInt ≤ 4 := hI 18 10
  have b5 : (1 : Int) ≤ (G 18 11).toInt ∧ (G 18 11).toInt ≤ 6 := hI 18 11
  have J_121 : ∀ (fuel : Nat) (x121_6 : Int32) (x121_7 : Int32) (x121_8 : Int32) (x121_9 : Int32) (x121_10 : Int32) (Gj121 : gS), (2147483647 - x121_10.toInt).toNat < fuel → ((-1000000) ≤ x121_6.toInt ∧ x121_6.toInt ≤ 5000) → ((-9998) ≤ x121_7.toInt ∧ x121_7.toInt ≤ 1000000) → (0 ≤ x121_8.toInt ∧ x121_8.toInt ≤ 1) → (0 ≤ x121_9.toInt ∧ x121_9.toInt ≤ 5) → (0 ≤ x121_10.toInt ∧ x121_10.toInt ≤ 12) → (xI Gj121) → (gu_un xcd [608, 613, 614, 615, 617, 618, 619, 620, 2100, 2400, 2700, 4400, 4500, 4600, 4700, 4800] G Gj121) → (∃ n9 : Nat, (n9 : Int) ≤ x121_10.toInt * (G 18 0).toInt ∧ (x121_8.toInt = 0 → (n9 : Int) = x121_10.toInt * (G 18 0).toInt ∧ x121_9.toInt = (n9 : Int) % (G 18 11).toInt) ∧ (xTok G → xRl G (G 61) p1 x121_6 x121_7 p2 p3 Gj121 n9 x121_8.toInt ∧ xBg G (G 61) p1 x121_6 x121_7 p2 p3 Gj121 n9)) → (x121_6.toInt = psMx (psHr (G 61) (G 6 1).toInt (G 18 0).toInt) ((G 18 0).toInt - 1).toNat ∧ x121_7.toInt = psGa (G 61) (G 6 1).toInt (G 18 1).toInt (G 18 0).toInt x121_6.toInt) → (xMt G Gj121) → ((x121_8.toInt ≠ 0 ∨ (-9999 ≤ (Gj121 6 13).toInt ∧ (Gj121 6 13).toInt ≤ 9999 ∧ -19998 ≤ (Gj121 6 14).toInt ∧ (Gj121 6 14).toInt ≤ 19998))) → (((Gj121 6 19).toInt = x121_10.toInt)) → ((x121_10.toInt ≤ (G 6 4).toInt)) → ((x121_6.toInt - (G 6 3).toInt * (G 6 4).toInt ≥ 1)) → gG p l e (gR 4 0 0 115) s m args below meth c D A 14 Q 0 0 (xW K a Gj121) (tK K) [(0, .ref (a 6)), (3, .int p2), (4, .int p3), (5, .int (G 18 0)), (6, .int x121_6), (7, .int x121_7), (8, .int x121_8), (9, .int x121_9), (10, .int x121_10)] 121 [] := by
    intro fuel
    induction fuel with
    | zero => intro x121_6 x121_7 x121_8 x121_9 x121_10 Gj121 hm; exact absurd hm (Nat.not_lt_zero _)
    | succ fuel_121 ih_121 =>
      intro x121_6 x121_7 x121_8 x121_9 x121_10 Gj121 hm_121 h121_6 h121_7 h121_8 h121_9 h121_10 jI121 jU121 r1 lv mt_121 xb1 bg1 tl1 lc1
      have J_148 : ∀ (fuel : Nat) (x148_8 : Int32) (x148_9 : Int32) (x148_11 : Int32) (Gj148 : gS), (2147483647 - x148_11.toInt).toNat < fuel → (0 ≤ x148_8.toInt ∧ x148_8.toInt ≤ 1) → (0 ≤ x148_9.toInt ∧ x148_9.toInt ≤ 5) → (0 ≤ x121_10.toInt ∧ x121_10.toInt ≤ 11) → (0 ≤ x148_11.toInt ∧ x148_11.toInt ≤ 16) → (xI Gj148) → (gu_un xcd [613, 614, 615, 617, 618, 619, 620, 2100, 2400, 2700, 4500, 4600, 4700, 4800] Gj121 Gj148) → ((xTok G → xRl G (G 61) p1 x121_6 x121_7 p2 p3 Gj148 (x121_10.toInt * (G 18 0).toInt + x148_11.toInt).toNat x148_8.toInt ∧ (0 < x148_11.toInt → xBg G (G 61) p1 x121_6 x121_7 p2 p3 Gj148 (x121_10.toInt * (G 18 0).toInt + x148_11.toInt).toNat))) → (x148_9.toInt = (x121_10.toInt * (G 18 0).toInt + x148_11.toInt) % (G 18 11).toInt) → (xMt G Gj148) → ((x148_8.toInt ≠ 0 ∨ (-9999 ≤ (Gj148 6 13).toInt ∧ (Gj148 6 13).toInt ≤ 9999 ∧ -19998 ≤ (Gj148 6 14).toInt ∧ (Gj148 6 14).toInt ≤ 19998))) → (((Gj148 6 19).toInt = x121_10.toInt + 1)) → ((x121_10.toInt + 1 ≤ (G 6 4).toInt)) → ((x148_8.toInt = 0 ∨ 0 < x148_11.toInt)) → ((x148_11.toInt ≤ (G 18 0).toInt)) → gG p l e (gR 4 0 0 115) s m args below meth c D A 14 Q 0 0 (xW K a Gj148) (tK K) [(0, .ref (a 6)), (3, .int p2), (4, .int p3), (5, .int (G 18 0)), (6, .int x121_6), (7, .int x121_7), (8, .int x148_8), (9, .int x148_9), (10, .int x121_10), (11, .int x148_11)] 148 [] := by
        intro fuel
        induction fuel with
        | zero => intro x148_8 x148_9 x148_11 Gj148 hm; exact absurd hm (Nat.not_lt_zero _)
        | succ fuel_148 ih_148 =>
          intro x148_8 x148_9 x148_11 Gj148 hm_148 h148_8 h148_9 k148_10 h148_11 jI148 jU148 r2 r3 mt xb2 bg2 tl2 sh2 il2
          refine g_iload F 9 dX5_run_148 rfl ?_
          refine g_iload F 3 dX5_run_150 rfl ?_
          refine v_icmp_ge F 255 dX5_run_152 (by decide) x148_11.toInt (G 18 0).toInt rfl rfl (fun c6 => ?_) (fun c6 => ?_)
          · refine u_iinc F (fun v_ => [(10, .int v_), (0, .ref (a 6)), (3, .int p2), (4, .int p3), (5, .int (G 18 0)), (6, .int x121_6), (7, .int x121_7), (8, .int x148_8), (9, .int x148_9), (11, .int x148_11)]) dX5_run_255 (j := 8) rfl x121_10.toInt 1 rfl rfl (by omega) (by omega) (by decide) (fun _ => rfl) (fun y7 ey7 => ?_)
            refine g_goto F 121 dX5_run_258 (by decide) ?_
            refine g_locals [(0, .ref (a 6)), (3, .int p2), (4, .int p3), (5, .int (G 18 0)), (6, .int x121_6), (7, .int x121_7), (8, .int x148_8), (9, .int x148_9), (10, .int y7)] [1, 2, 3, 4, 5, 6, 7, 8, 0] rfl ?_
            exact ih_121 x121_6 x121_7 x148_8 x148_9 y7 Gj148 (by omega) (by have h9 := ti_rng x121_6; omega) (by have h9 := ti_rng x121_7; omega) (by have h9 := ti_rng x148_8; omega) (by have h9 := ti_rng x148_9; omega) (by have h9 := ti_rng y7; omega) jI148 (gu_un.tr (gu_un.tr gu_un.rf (gu_un.su jU121 rfl)) (gu_un.su jU148 rfl)) (⟨(x121_10.toInt * (G 18 0).toInt + x148_11.toInt).toNat, by rw [show y7.toInt = x121_10.toInt + 1 by omega, Int.add_mul, Int.one_mul]; omega, fun h0 => ⟨by rw [show y7.toInt = x121_10.toInt + 1 by omega, Int.add_mul, Int.one_mul]; omega, by rw [Int.toNat_of_nonneg (by omega)]; exact r3⟩, fun hz => ⟨(r2 hz).1, (r2 hz).2 (by omega)⟩⟩) (lv) (mt) (by (first | omega | (simp only [Int32.reduceToInt, true_and, and_true, ne_eq, not_true_eq_false, false_and, or_false, false_or, true_or, or_true, false_implies] <;> omega))) (by (first | omega | (simp only [Int32.reduceToInt, true_and, and_true, ne_eq, not_true_eq_false, false_and, or_false, false_or, true_or, or_true, false_implies] <;> omega))) (by have e9_6_4 : Gj148 6 4 = (G 6 4) := (jU148 6 4 (by decide)).trans (jU121 6 4 (by decide)); (try simp only [e9_6_4, true_and, and_true]) <;> (first | omega | (simp only [Int32.reduceToInt, true_and, and_true, ne_eq, not_true_eq_false, false_and, or_false, false_or, true_or, or_true, false_implies] <;> omega))) (by omega)
          · refine g_iload F 6 dX5_run_155 rfl ?_
            refine v_if_ne F 255 dX5_run_157 (by decide) x148_8.toInt rfl (fun c8 => ?_) (fun c8 => ?_)
            · refine u_iinc F (fun v_ => [(10, .int v_), (0, .ref (a 6)), (3, .int p2), (4, .int p3), (5, .int (G 18 0)), (6, .int x121_6), (7, .int x121_7), (8, .int x148_8), (9, .int x148_9), (11, .int x148_11)]) dX5_run_255 (j := 8) rfl x121_10.toInt 1 rfl rfl (by omega) (by omega) (by decide) (fun _ => rfl) (fun y9 ey9 => ?_)
              refine g_goto F 121 dX5_run_258 (by decide) ?_
              refine g_locals [(0, .ref (a 6)), (3, .int p2), (4, .int p3), (5, .int (G 18 0)), (6, .int x121_6), (7, .int x121_7), (8, .int x148_8), (9, .int x148_9), (10, .int y9)] [1, 2, 3, 4, 5, 6, 7, 8, 0] rfl ?_
              exact ih_121 x121_6 x121_7 x148_8 x148_9 y9 Gj148 (by omega) (by have h9 := ti_rng x121_6; omega) (by have h9 := ti_rng x121_7; omega) (by have h9 := ti_rng x148_8; omega) (by have h9 := ti_rng x148_9; omega) (by have h9 := ti_rng y9; omega) jI148 (gu_un.tr (gu_un.tr gu_un.rf (gu_un.su jU121 rfl)) (gu_un.su jU148 rfl)) (⟨(x121_10.toInt * (G 18 0).toInt + x148_11.toInt).toNat, by rw [show y9.toInt = x121_10.toInt + 1 by omega, Int.add_mul, Int.one_mul]; omega, fun h0 => ⟨by rw [show y9.toInt = x121_10.toInt + 1 by omega, Int.add_mul, Int.one_mul]; omega, by rw [Int.toNat_of_nonneg (by omega)]; exact r3⟩, fun hz => ⟨(r2 hz).1, (r2 hz).2 (by omega)⟩⟩) (lv) (mt) (by (first | omega | (simp only [Int32.reduceToInt, true_and, and_true, ne_eq, not_true_eq_false, false_and, or_false, false_or, true_or, or_true, false_implies] <;> omega))) (by (first | omega | (simp only [Int32.reduceToInt, true_and, and_true, ne_eq, not_true_eq_false, false_and, or_false, false_or, true_or, or_true, false_implies] <;> omega))) (by have e9_6_4 : Gj148 6 4 = (G 6 4) := (jU148 6 4 (by decide)).trans (jU121 6 4 (by decide)); (try simp only [e9_6_4, true_and, and_true]) <;> (first | omega | (simp only [Int32.reduceToInt, true_and, and_true, ne_eq, not_true_eq_false, false_and, or_false, false_or, true_or, or_true, false_implies] <;> omega))) (by omega)
            · have ts0 : 0 ≤ x121_10.toInt * (G 18 0).toInt := Int.mul_nonneg (by omega) (by omega)
              have m1 : (x121_10 + 1).toInt = x121_10.toInt + 1 := ti_add rfl rfl (by omega) (by omega)
              refine g_aload_n F 0 dX5_run_160 rfl rfl ?_
              refine g_iload F 9 dX5_run_161 rfl ?_
              refine g_iload F 8 dX5_run_163 rfl ?_
              refine g_iload F 4 dX5_run_165 rfl ?_
              refine g_aload_n F 0 dX5_run_167 rfl rfl ?_
              refine xg_6_3 F i_X5 w_0 dX5_run_168 (G 6 3) ((jU148 6 3 (by decide)).trans (jU121 6 3 (by decide))) ?_
              refine g_iload F 8 dX5_run_171 rfl ?_
              refine g_iconst F 1 dX5_run_173 (by decide) ?_
              refine g_iadd F dX5_run_174 ?_
              refine g_imul F dX5_run_175 ?_
              refine g_isub F dX5_run_176 ?_
              have m2 : (G 6 3).toInt * (x121_10.toInt + 1) ≤ (G 6 3).toInt * (G 6 4).toInt := Int.mul_le_mul_of_nonneg_left (by omega) (by omega)
              have m3 := Int.mul_nonneg (show (0 : Int) ≤ (G 6 3).toInt by omega) (show (0 : Int) ≤ x121_10.toInt + 1 by omega)
              have m4 : ((G 6 3) * (x121_10 + 1)).toInt = (G 6 3).toInt * (x121_10.toInt + 1) := ti_mul rfl m1 (by omega) (by omega)
              have m5 : ((x121_6 - ((G 6 3) * (x121_10 + 1))) : Int32).toInt = x121_6.toInt - (G 6 3).toInt * (x121_10.toInt + 1) := ti_sub rfl m4 (by omega) (by omega)
              refine u_callVi (k := 0) (n := 0) (b := a 6) (As := [.int x148_11, .int x121_10, .int (x121_6 - ((G 6 3) * (x121_10 + 1)))]) (st := []) F (fun sz => S_X5_bite l D K a Gj148 x148_11 x148_11.toInt x121_10 x121_10.toInt (x121_6 - ((G 6 3) * (x121_10 + 1))) ((x121_6 - ((G 6 3) * (x121_10 + 1))) : Int32).toInt rfl (by omega) rfl rfl (by omega) (by (first | omega | (simp only [Int32.reduceToInt, true_and, and_true, ne_eq, not_true_eq_false, false_and, or_false, false_or, true_or, or_true, false_implies] <;> omega))) jI148 sz) (cwV 3 hts gX5_run_X5_bite rfl rfl rfl (by decide +kernel) ⟨Nat.le_of_ble_eq_true rfl, Nat.le_of_ble_eq_true rfl⟩) rfl 6 xc_6 rfl (Nat.le_of_ble_eq_true rfl) ⟨Nat.zero_le _, Nat.zero_le _⟩ dX5_run_177 (fun r10 G12 hw11 => ?_)
              have hI13 : xI G12 := hw11.1
              have hU14 : gu_un xcd [613, 618, 2100, 2700, 4500, 4600, 4700, 4800] Gj148 G12 := hw11.2.1
              have hp15 := hw11.2.2
              have b16 : (0 : Int) ≤ (Gj121 6 7).toInt ∧ (Gj121 6 7).toInt ≤ 4 := jI121 6 7
              have q17 : (∀ (Q S : gS) (C : Nat → List Int), xBq Gj148 Q C x121_10 (x121_6 - ((G 6 3) * (x121_10 + 1))) → (pR (G 18 0).toInt S (Gj148 45) (Gj148 6 12) (Gj148 6 13) (Gj148 6 14) (Gj148 6 17) (Gj148 6 18) (Gj148 6 16) 0 ∧ pL (G 18 0).toInt S (Gj148 46) (Gj148 47) (Gj148 48)) → (pR (G 18 0).toInt (psT Q C x148_11.toInt x121_10 ((Gj121 6 7).toInt).toNat S) (G12 45) (G12 6 12) (Gj148 6 13) (Gj148 6 14) (G12 6 17) (Gj148 6 18) (Gj148 6 16) (Int32.ofInt r10.toInt) ∧ pL (G 18 0).toInt (psT Q C x148_11.toInt x121_10 ((Gj121 6 7).toInt).toNat S) (G12 46) (G12 47) (G12 48))) := by have h9 := hp15.2.1; (try simp only [(show Gj148 18 0 = (G 18 0) from (jU148 18 0 (by decide)).trans (jU121 18 0 (by decide))), (show Gj148 18 0 = (G 18 0) from (jU148 18 0 (by decide)).trans (jU121 18 0 (by decide))), (show Gj148 18 0 = (G 18 0) from (jU148 18 0 (by decide)).trans (jU121 18 0 (by decide))), (show Gj148 6 7 = (Gj121 6 7) from jU148 6 7 (by decide)), (show Gj148 18 0 = (G 18 0) from (jU148 18 0 (by decide)).trans (jU121 18 0 (by decide))), (show Gj148 6 7 = (Gj121 6 7) from jU148 6 7 (by decide))] at h9); first | exact h9 | omega
              have q18 : (-39996 ≤ r10.toInt ∧ r10.toInt ≤ 39996) := hp15.2.2
              have rg19 := hp15.1
              clear hp15 hw11
              refine g_istore F [(12, .int r10), (0, .ref (a 6)), (3, .int p2), (4, .int p3), (5, .int (G 18 0)), (6, .int x121_6), (7, .int x121_7), (8, .int x148_8), (9, .int x148_9), (10, .int x121_10), (11, .int x148_11)] dX5_run_180 (by decide) rfl ?_
              refine g_iload_n F 2 dX5_run_182 rfl rfl ?_
              refine g_aload_n F 1 dX5_run_183 rfl rfl ?_
              refine xg_6_0 F i_X5 w_1 dX5_run_184 ?_
              refine xg_2_2 F i_X7 w_2 dX5_run_187 ?_
              refine g_aload_n F 1 dX5_run_190 rfl rfl ?_
              refine xg_6_8 F i_X5 w_3 dX5_run_191 ?_
              refine g_iload F 10 dX5_run_194 rfl ?_
              refine u1_iald F 45 0 xc_45 rfl x148_11.toInt rfl (by omega) (by omega) dX5_run_196 ((G12 45) (x148_11.toInt).toNat) (rfl) ?_
              have b20 : ((-9998) : Int) ≤ ((G12 45) (x148_11.toInt).toNat).toInt ∧ ((G12 45) (x148_11.toInt).toNat).toInt ≤ 5000 := hI13 45 _
              refine g_iload F 6 dX5_run_197 rfl ?_
              refine u_callVi (k := 0) (n := 0) (b := a 12) (As := [.int ((G12 45) (x148_11.toInt).toNat), .int x121_7]) (st := [.int p2]) F (fun sz => S_X3_value_12 l D K a G12 ((G12 45) (x148_11.toInt).toNat) ((G12 45) (x148_11.toInt).toNat).toInt x121_7 x121_7.toInt rfl rfl hI13 sz) (cwV 2 hts gX5_run_X3_value rfl rfl rfl (by decide +kernel) ⟨Nat.le_of_ble_eq_true rfl, Nat.le_of_ble_eq_true rfl⟩) rfl 12 xc_12 rfl (Nat.le_of_ble_eq_true rfl) ⟨Nat.zero_le _, Nat.zero_le _⟩ dX5_run_199 (fun r21 G23 hw22 => ?_)
              have hI24 : xI G23 := hw22.1
              have hU25 : gu_un xcd [2400] G12 G23 := hw22.2.1
              have hp26 := hw22.2.2
              have b27 : (0 : Int) ≤ (G 12 1).toInt ∧ (G 12 1).toInt ≤ 80 := hI 12 1
              have q28 : (gcOK (tkr (G 23) ((G 12 1).toInt).toNat) → r21.toInt = (eV ((G12 45) (x148_11.toInt).toNat) x121_7 (tkr (G 23) ((G 12 1).toInt).toNat)).toInt) := by have h9 := hp26; (try simp only [(show G12 12 1 = (G 12 1) from (hU14 12 1 (by decide)).trans ((jU148 12 1 (by decide)).trans (jU121 12 1 (by decide)))), (show G12 12 1 = (G 12 1) from (hU14 12 1 (by decide)).trans ((jU148 12 1 (by decide)).trans (jU121 12 1 (by decide)))), (show G12 23 = (G 23) from (show G12 23 = Gj148 23 from funext fun k_ => hU14 23 k_ (show (2300 : Nat) ∉ ([613, 618, 2100, 2700, 4500, 4600, 4700, 4800] : List Nat) by decide)).trans ((show Gj148 23 = Gj121 23 from funext fun k_ => jU148 23 k_ (show (2300 : Nat) ∉ ([613, 614, 615, 617, 618, 619, 620, 2100, 2400, 2700, 4500, 4600, 4700, 4800] : List Nat) by decide)).trans ((show Gj121 23 = G 23 from funext fun k_ => jU121 23 k_ (show (2300 : Nat) ∉ ([608, 613, 614, 615, 617, 618, 619, 620, 2100, 2400, 2700, 4400, 4500, 4600, 4700, 4800] : List Nat) by decide))))), (show G12 23 = (G 23) from (show G12 23 = Gj148 23 from funext fun k_ => hU14 23 k_ (show (2300 : Nat) ∉ ([613, 618, 2100, 2700, 4500, 4600, 4700, 4800] : List Nat) by decide)).trans ((show Gj148 23 = Gj121 23 from funext fun k_ => jU148 23 k_ (show (2300 : Nat) ∉ ([613, 614, 615, 617, 618, 619, 620, 2100, 2400, 2700, 4500, 4600, 4700, 4800] : List Nat) by decide)).trans ((show Gj121 23 = G 23 from funext fun k_ => jU121 23 k_ (show (2300 : Nat) ∉ ([608, 613, 614, 615, 617, 618, 619, 620, 2100, 2400, 2700, 4400, 4500, 4600, 4700, 4800] : List Nat) by decide)))))] at h9); first | exact h9 | omega
              clear hp26 hw22
              refine g_iconst F 0 dX5_run_202 (by decide) ?_
              refine g_sipush F 999 dX5_run_203 (by decide) ?_
              refine u_call0 (k := 0) (n := 0) (As := [.int r21, .int 0, .int 999]) (st := [.int p2]) F (fun sz => S_X5_within l D r21 r21.toInt 0 0 999 999 rfl rfl rfl sz) (va_cwS 3 hts gX5_run_X5_within rfl rfl rfl (by decide +kernel) ⟨Nat.le_of_ble_eq_true rfl, Nat.le_of_ble_eq_true rfl⟩) rfl (Nat.le_of_ble_eq_true rfl) ⟨Nat.zero_le _, Nat.zero_le _⟩ dX5_run_206 (fun r29 _ hw30 => ?_)
              have q32 : (r29.toInt = max (0 : Int) (min (999 : Int) r21.toInt)) := hw30
              clear hw30
              refine g_iadd F dX5_run_209 ?_
              have hs9 : ((p2 + r29) : Int32).toInt = _ + _ := ti_add rfl rfl (by omega) (by omega)
              refine g_istore F [(13, .int (p2 + r29)), (12, .int r10), (0, .ref (a 6)), (3, .int p2), (4, .int p3), (5, .int (G 18 0)), (6, .int x121_6), (7, .int x121_7), (8, .int x148_8), (9, .int x148_9), (10, .int x121_10), (11, .int x148_11)] dX5_run_210 (by decide) rfl ?_
              refine g_aload_n F 2 dX5_run_212 rfl rfl ?_
              refine g_aload_n F 2 dX5_run_213 rfl rfl ?_
              refine xg_6_2 F i_X5 w_4 dX5_run_214 (G 6 2) ((hU25 6 2 (by decide)).trans ((hU14 6 2 (by decide)).trans ((jU148 6 2 (by decide)).trans (jU121 6 2 (by decide))))) ?_
              refine g_aload_n F 2 dX5_run_217 rfl rfl ?_
              refine xg_6_0 F i_X5 w_1 dX5_run_218 ?_
              refine g_iload F 9 dX5_run_221 rfl ?_
              refine u_callVi (k := 0) (n := 0) (b := a 2) (As := [.int x148_9]) (st := [.int (G 6 2), .ref (a 6)]) F (fun sz => S_X7_swayAt_2 l D K a G23 x148_9 x148_9.toInt rfl (by omega) hI24 sz) (cwV 1 hts gX5_run_X7_swayAt rfl rfl rfl (by decide +kernel) ⟨Nat.le_of_ble_eq_true rfl, Nat.le_of_ble_eq_true rfl⟩) rfl 2 xc_2 rfl (Nat.le_of_ble_eq_true rfl) ⟨Nat.zero_le _, Nat.zero_le _⟩ dX5_run_223 (fun r33 _ hw34 => ?_)
              have q36 : (r33.toInt = ((G 18) (30 + (x148_9.toInt).toNat)).toInt) := by have h9 := hw34.2; (try simp only [(show G23 18 = (G 18) from (show G23 18 = G12 18 from funext fun k_ => hU25 18 k_ (show (1800 : Nat) ∉ ([2400] : List Nat) by decide)).trans ((show G12 18 = Gj148 18 from funext fun k_ => hU14 18 k_ (show (1800 : Nat) ∉ ([613, 618, 2100, 2700, 4500, 4600, 4700, 4800] : List Nat) by decide)).trans ((show Gj148 18 = Gj121 18 from funext fun k_ => jU148 18 k_ (show (1800 : Nat) ∉ ([613, 614, 615, 617, 618, 619, 620, 2100, 2400, 2700, 4500, 4600, 4700, 4800] : List Nat) by decide)).trans ((show Gj121 18 = G 18 from funext fun k_ => jU121 18 k_ (show (1800 : Nat) ∉ ([608, 613, 614, 615, 617, 618, 619, 620, 2100, 2400, 2700, 4400, 4500, 4600, 4700, 4800] : List Nat) by decide))))))] at h9); first | exact h9 | omega
              have rg37 := hw34.1
              clear hw34
              refine g_iadd F dX5_run_226 ?_
              have ss9 : (((G 6 2) + r33) : Int32).toInt = _ + _ := ti_add rfl rfl (by omega) (by omega)
              refine g_iload F 1 dX5_run_227 rfl ?_
              refine g_iload F 0 dX5_run_229 rfl ?_
              refine g_iload F 4 dX5_run_231 rfl ?_
              refine u_callVi (k := 0) (n := 0) (b := a 6) (As := [.int ((G 6 2) + r33), .int r10, .int (p2 + r29), .int p3]) (st := []) F (fun sz => S_X5_swingsTooFar l D K a G23 ((G 6 2) + r33) (((G 6 2) + r33) : Int32).toInt r10 r10.toInt (p2 + r29) ((p2 + r29) : Int32).toInt p3 s3 rfl rfl (by omega) rfl (by omega) e3 (by omega) (by have e9_6_13 : G23 6 13 = (Gj148 6 13) := (hU25 6 13 (by decide)).trans (hU14 6 13 (by decide)); have e9_6_14 : G23 6 14 = (Gj148 6 14) := (hU25 6 14 (by decide)).trans (hU14 6 14 (by decide)); (try simp only [e9_6_13, e9_6_14, true_and, and_true]) <;> (first | omega | (simp only [Int32.reduceToInt, true_and, and_true, ne_eq, not_true_eq_false, false_and, or_false, false_or, true_or, or_true, false_implies] <;> omega))) hI24 sz) (cwV 4 hts gX5_run_X5_swingsTooFar rfl rfl rfl (by decide +kernel) ⟨Nat.le_of_ble_eq_true rfl, Nat.le_of_ble_eq_true rfl⟩) rfl 6 xc_6 rfl (Nat.le_of_ble_eq_true rfl) ⟨Nat.zero_le _, Nat.zero_le _⟩ dX5_run_233 (fun r38 G40 hw39 => ?_)
              have hI41 : xI G40 := hw39.1
              have hU42 : gu_un xcd [614, 615, 617, 619] G23 G40 := hw39.2.1
              have hp43 := hw39.2.2
              have q44 : (∀ Q S : gS, (Q 0 2 = (G 18) 2 ∧ Q 0 7 = (G 18) 7 ∧ Q 3 5 = p3) → swR S (G23 6 13) (G23 6 14) (G23 6 18) (G23 6 16) 0 → swR (psJ Q r10 (p2 + r29) ((((G 6 2) + r33) : Int32).toInt).toNat S) (G40 6 13) (G40 6 14) (G40 6 18) (G40 6 16) (Int32.ofInt r38.toInt)) := by have h9 := hp43.2.1; (try simp only [(show G23 18 = (G 18) from (show G23 18 = G12 18 from funext fun k_ => hU25 18 k_ (show (1800 : Nat) ∉ ([2400] : List Nat) by decide)).trans ((show G12 18 = Gj148 18 from funext fun k_ => hU14 18 k_ (show (1800 : Nat) ∉ ([613, 618, 2100, 2700, 4500, 4600, 4700, 4800] : List Nat) by decide)).trans ((show Gj148 18 = Gj121 18 from funext fun k_ => jU148 18 k_ (show (1800 : Nat) ∉ ([613, 614, 615, 617, 618, 619, 620, 2100, 2400, 2700, 4500, 4600, 4700, 4800] : List Nat) by decide)).trans ((show Gj121 18 = G 18 from funext fun k_ => jU121 18 k_ (show (1800 : Nat) ∉ ([608, 613, 614, 615, 617, 618, 619, 620, 2100, 2400, 2700, 4400, 4500, 4600, 4700, 4800] : List Nat) by decide)))))), (show G23 18 = (G 18) from (show G23 18 = G12 18 from funext fun k_ => hU25 18 k_ (show (1800 : Nat) ∉ ([2400] : List Nat) by decide)).trans ((show G12 18 = Gj148 18 from funext fun k_ => hU14 18 k_ (show (1800 : Nat) ∉ ([613, 618, 2100, 2700, 4500, 4600, 4700, 4800] : List Nat) by decide)).trans ((show Gj148 18 = Gj121 18 from funext fun k_ => jU148 18 k_ (show (1800 : Nat) ∉ ([613, 614, 615, 617, 618, 619, 620, 2100, 2400, 2700, 4500, 4600, 4700, 4800] : List Nat) by decide)).trans ((show Gj121 18 = G 18 from funext fun k_ => jU121 18 k_ (show (1800 : Nat) ∉ ([608, 613, 614, 615, 617, 618, 619, 620, 2100, 2400, 2700, 4400, 4500, 4600, 4700, 4800] : List Nat) by decide))))))] at h9); first | exact h9 | omega
              have q45 : (r38.toInt ≠ 0 ∨ (-9999 ≤ (G40 6 13).toInt ∧ (G40 6 13).toInt ≤ 9999 ∧ -19998 ≤ (G40 6 14).toInt ∧ (G40 6 14).toInt ≤ 19998)) := hp43.2.2
              have rg46 := hp43.1
              clear hp43 hw39
              refine g_istore F [(8, .int r38), (13, .int (p2 + r29)), (12, .int r10), (0, .ref (a 6)), (3, .int p2), (4, .int p3), (5, .int (G 18 0)), (6, .int x121_6), (7, .int x121_7), (9, .int x148_9), (10, .int x121_10), (11, .int x148_11)] dX5_run_236 (by decide) rfl ?_
              refine g_aload_n F 3 dX5_run_238 rfl rfl ?_
              refine xg_6_0 F i_X5 w_1 dX5_run_239 ?_
              refine g_iload F 9 dX5_run_242 rfl ?_
              refine u_callVi (k := 0) (n := 0) (b := a 2) (As := [.int x148_9]) (st := []) F (fun sz => S_X7_swayBehind_2 l D K a G40 x148_9 x148_9.toInt rfl (by omega) hI41 sz) (cwV 1 hts gX5_run_X7_swayBehind rfl rfl rfl (by decide +kernel) ⟨Nat.le_of_ble_eq_true rfl, Nat.le_of_ble_eq_true rfl⟩) rfl 2 xc_2 rfl (Nat.le_of_ble_eq_true rfl) ⟨Nat.zero_le _, Nat.zero_le _⟩ dX5_run_244 (fun r47 _ hw48 => ?_)
              have q50 : (r47.toInt = if x148_9.toInt + 1 < (G 18 11).toInt then x148_9.toInt + 1 else 0) := by have h9 := hw48.2; (try simp only [(show G40 18 11 = (G 18 11) from (hU42 18 11 (by decide)).trans ((hU25 18 11 (by decide)).trans ((hU14 18 11 (by decide)).trans ((jU148 18 11 (by decide)).trans (jU121 18 11 (by decide))))))] at h9); first | exact h9 | omega
              have rg51 := hw48.1
              clear hw48
              refine g_istore F [(9, .int r47), (8, .int r38), (13, .int (p2 + r29)), (12, .int r10), (0, .ref (a 6)), (3, .int p2), (4, .int p3), (5, .int (G 18 0)), (6, .int x121_6), (7, .int x121_7), (10, .int x121_10), (11, .int x148_11)] dX5_run_247 (by decide) rfl ?_
              refine u_iinc F (fun v_ => [(11, .int v_), (9, .int r47), (8, .int r38), (13, .int (p2 + r29)), (12, .int r10), (0, .ref (a 6)), (3, .int p2), (4, .int p3), (5, .int (G 18 0)), (6, .int x121_6), (7, .int x121_7), (10, .int x121_10)]) dX5_run_249 (j := 11) rfl x148_11.toInt 1 rfl rfl (by omega) (by omega) (by decide) (fun _ => rfl) (fun y52 ey52 => ?_)
              refine g_goto F 148 dX5_run_252 (by decide) ?_
              refine g_locals [(0, .ref (a 6)), (3, .int p2), (4, .int p3), (5, .int (G 18 0)), (6, .int x121_6), (7, .int x121_7), (8, .int r38), (9, .int r47), (10, .int x121_10), (11, .int y52)] [5, 6, 7, 8, 9, 10, 2, 1, 11, 0] rfl ?_
              exact ih_148 r38 r47 y52 G40 (by omega) (by have h9 := ti_rng r38; omega) (by have h9 := ti_rng r47; omega) (by have h9 := ti_rng x121_10; omega) (by have h9 := ti_rng y52; omega) hI41 (gu_un.tr (gu_un.tr (gu_un.tr (gu_un.tr gu_un.rf (gu_un.su jU148 rfl)) (gu_un.su hU14 rfl)) (gu_un.su hU25 rfl)) (gu_un.su hU42 rfl)) (fun hz => by have h9 := xRl.go (n := (x121_10.toInt * (G 18 0).toInt + x148_11.toInt).toNat) (y := (x121_10.toInt * (G 18 0).toInt + y52.toInt).toNat) (T := x121_10.toInt) (i := x148_11.toInt) (s := (G 18 0).toInt) (t := x121_10) (fo := r10) (ho := (p2 + r29)) (m := ((Gj121 6 7).toInt).toNat) (rd := x148_9.toInt) (k := ((((G 6 2) + r33) : Int32).toInt).toNat) (sh := r38) ((r2 hz).1.sh (by omega)) (by omega) rfl (by omega) (by omega) rfl (fun Q C hq => xBq_of hq (show Gj148 18 = (G 18) from ((show Gj148 18 = Gj121 18 from funext fun k_ => jU148 18 k_ (by simp [xcd])).trans (show Gj121 18 = (G 18) from ((show Gj121 18 = G 18 from funext fun k_ => jU121 18 k_ (by simp [xcd])).trans (show G 18 = (G 18) from rfl))))) (show Gj148 20 = (G 20) from ((show Gj148 20 = Gj121 20 from funext fun k_ => jU148 20 k_ (by simp [xcd])).trans (show Gj121 20 = (G 20) from ((show Gj121 20 = G 20 from funext fun k_ => jU121 20 k_ (by simp [xcd])).trans (show G 20 = (G 20) from rfl))))) (show Gj148 26 = (G 26) from ((show Gj148 26 = Gj121 26 from funext fun k_ => jU148 26 k_ (by simp [xcd])).trans (show Gj121 26 = (G 26) from ((show Gj121 26 = G 26 from funext fun k_ => jU121 26 k_ (by simp [xcd])).trans (show G 26 = (G 26) from rfl))))) (show Gj148 11 1 = (G 11 1) from (jU148 11 1 (by decide)).trans (jU121 11 1 (by decide))) (show Gj148 13 1 = (G 13 1) from (jU148 13 1 (by decide)).trans (jU121 13 1 (by decide))) (mt hz) rfl) (by have h6 := (mt hz).1; rw [show Gj148 6 7 = (Gj121 6 7) from jU148 6 7 (by decide)] at h6; rw [h6]) (Int32.toInt_inj.mp (by omega)) (by have h := q17; simp only [Int32.ofInt_toInt] at h; exact h) (fun gc => congrArg (p2 + ·) (psC_of q32 (q28 gc))) (by rw [Int.toNat_of_nonneg (by omega)]; exact r3) (by omega) (by rw [← Int32.toInt_inj.mp q36]) (by have h := q44; rw [Int32.ofInt_toInt, show G23 6 13 = Gj148 6 13 from (show G23 6 13 = Gj148 6 13 from (show gu_un xcd [613, 618, 2100, 2400, 2700, 4500, 4600, 4700, 4800] Gj148 G23 from (gu_un.tr (gu_un.tr gu_un.rf (gu_un.su hU14 rfl)) (gu_un.su hU25 rfl))) 6 13 (by decide)), show G23 6 14 = Gj148 6 14 from (show G23 6 14 = Gj148 6 14 from (show gu_un xcd [613, 618, 2100, 2400, 2700, 4500, 4600, 4700, 4800] Gj148 G23 from (gu_un.tr (gu_un.tr gu_un.rf (gu_un.su hU14 rfl)) (gu_un.su hU25 rfl))) 6 14 (by decide)), show G23 6 18 = Gj148 6 18 from (show G23 6 18 = Gj148 6 18 from (show gu_un xcd [613, 618, 2100, 2400, 2700, 4500, 4600, 4700, 4800] Gj148 G23 from (gu_un.tr (gu_un.tr gu_un.rf (gu_un.su hU14 rfl)) (gu_un.su hU25 rfl))) 6 18 (by decide)), show G23 6 16 = Gj148 6 16 from (show G23 6 16 = Gj148 6 16 from (show gu_un xcd [613, 618, 2100, 2400, 2700, 4500, 4600, 4700, 4800] Gj148 G23 from (gu_un.tr (gu_un.tr gu_un.rf (gu_un.su hU14 rfl)) (gu_un.su hU25 rfl))) 6 16 (by decide))] at h; exact h) (show G40 45 = G12 45 from funext fun k_ => (show gu_un xcd [614, 615, 617, 619, 2400] G12 G40 from (gu_un.tr (gu_un.tr gu_un.rf (gu_un.su hU25 rfl)) (gu_un.su hU42 rfl))) 45 k_ (by simp [xcd])) (show G40 46 = G12 46 from funext fun k_ => (show gu_un xcd [614, 615, 617, 619, 2400] G12 G40 from (gu_un.tr (gu_un.tr gu_un.rf (gu_un.su hU25 rfl)) (gu_un.su hU42 rfl))) 46 k_ (by simp [xcd])) (show G40 47 = G12 47 from funext fun k_ => (show gu_un xcd [614, 615, 617, 619, 2400] G12 G40 from (gu_un.tr (gu_un.tr gu_un.rf (gu_un.su hU25 rfl)) (gu_un.su hU42 rfl))) 47 k_ (by simp [xcd])) (show G40 48 = G12 48 from funext fun k_ => (show gu_un xcd [614, 615, 617, 619, 2400] G12 G40 from (gu_un.tr (gu_un.tr gu_un.rf (gu_un.su hU25 rfl)) (gu_un.su hU42 rfl))) 48 k_ (by simp [xcd])) (show G40 6 12 = G12 6 12 from (show gu_un xcd [614, 615, 617, 619, 2400] G12 G40 from (gu_un.tr (gu_un.tr gu_un.rf (gu_un.su hU25 rfl)) (gu_un.su hU42 rfl))) 6 12 (by decide)) (show G40 6 17 = G12 6 17 from (show gu_un xcd [614, 615, 617, 619, 2400] G12 G40 from (gu_un.tr (gu_un.tr gu_un.rf (gu_un.su hU25 rfl)) (gu_un.su hU42 rfl))) 6 17 (by decide)) (show G40 6 19 = Gj148 6 19 from (show gu_un xcd [613, 614, 615, 617, 618, 619, 2100, 2400, 2700, 4500, 4600, 4700, 4800] Gj148 G40 from (gu_un.tr (gu_un.tr (gu_un.tr gu_un.rf (gu_un.su hU14 rfl)) (gu_un.su hU25 rfl)) (gu_un.su hU42 rfl))) 6 19 (by decide)) (by omega) rfl; exact ⟨h9.1, fun _ => h9.2⟩) (by rw [show x121_10.toInt * (G 18 0).toInt + y52.toInt = (x121_10.toInt * (G 18 0).toInt + x148_11.toInt) + 1 by omega]; exact rnd_1 r3 (by omega) (by omega) q50) (xMt.tr mt (show G40 6 7 = Gj148 6 7 from (show gu_un xcd [613, 614, 615, 617, 618, 619, 2100, 2400, 2700, 4500, 4600, 4700, 4800] Gj148 G40 from (gu_un.tr (gu_un.tr (gu_un.tr gu_un.rf (gu_un.su hU14 rfl)) (gu_un.su hU25 rfl)) (gu_un.su hU42 rfl))) 6 7 (by decide)) (show G40 44 = Gj148 44 from funext fun k_ => (show gu_un xcd [613, 614, 615, 617, 618, 619, 2100, 2400, 2700, 4500, 4600, 4700, 4800] Gj148 G40 from (gu_un.tr (gu_un.tr (gu_un.tr gu_un.rf (gu_un.su hU14 rfl)) (gu_un.su hU25 rfl)) (gu_un.su hU42 rfl))) 44 k_ (by simp [xcd]))) (by (first | omega | (simp only [Int32.reduceToInt, true_and, and_true, ne_eq, not_true_eq_false, false_and, or_false, false_or, true_or, or_true, false_implies] <;> omega))) (by have e9_6_19 : G40 6 19 = (Gj148 6 19) := (hU42 6 19 (by decide)).trans ((hU25 6 19 (by decide)).trans (hU14 6 19 (by decide))); (try simp only [e9_6_19, true_and, and_true]) <;> (first | omega | (simp only [Int32.reduceToInt, true_and, and_true, ne_eq, not_true_eq_false, false_and, or_false, false_or, true_or, or_true, false_implies] <;> omega))) (by have e9_6_4 : G40 6 4 = (G 6 4) := (hU42 6 4 (by decide)).trans ((hU25 6 4 (by decide)).trans ((hU14 6 4 (by decide)).trans ((jU148 6 4 (by decide)).trans (jU121 6 4 (by decide))))); (try simp only [e9_6_4, true_and, and_true]) <;> (first | omega | (simp only [Int32.reduceToInt, true_and, and_true, ne_eq, not_true_eq_false, false_and, or_false, false_or, true_or, or_true, false_implies] <;> omega))) (by (first | omega | (simp only [Int32.reduceToInt, true_and, and_true, ne_eq, not_true_eq_false, false_and, or_false, false_or, true_or, or_true, false_implies] <;> omega))) (by have e9_18_0 : G40 18 0 = (G 18 0) := (hU42 18 0 (by decide)).trans ((hU25 18 0 (by decide)).trans ((hU14 18 0 (by decide)).trans ((jU148 18 0 (by decide)).trans (jU121 18 0 (by decide))))); (try simp only [e9_18_0, true_and, and_true]) <;> (first | omega | (simp only [Int32.reduceToInt, true_and, and_true, ne_eq, not_true_eq_false, false_and, or_false, false_or, true_or, or_true, false_implies] <;> omega)))
      refine g_iload F 8 dX5_run_121 rfl ?_
      refine g_aload_n F 0 dX5_run_123 rfl rfl ?_
      refine xg_6_4 F i_X5 w_5 dX5_run_124 (G 6 4) (jU121 6 4 (by decide)) ?_
      have b53 := ti_rng (G 6 4)
      refine v_icmp_ge F 261 dX5_run_127 (by decide) x121_10.toInt (G 6 4).toInt rfl rfl (fun c54 => ?_) (fun c54 => ?_)
      · refine g_aload_n F 0 dX5_run_261 rfl rfl ?_
        refine g_aload_n F 0 dX5_run_262 rfl rfl ?_
        refine xg_6_8 F i_X5 w_3 dX5_run_263 ?_
        refine g_iconst F 0 dX5_run_266 (by decide) ?_
        refine g_iload F 3 dX5_run_267 rfl ?_
        refine u_callSi (k := 0) (n := 0) (As := [.ref (a 45), .int 0, .int (G 18 0)]) (st := [.ref (a 6)]) F (fun sz => S_X5_greatest_45 l D K a Gj121 0 0 (G 18 0) (G 18 0).toInt rfl (by decide) rfl (by omega) jI121 sz) (va_cwS 3 hts gX5_run_X5_greatest rfl rfl rfl (by decide +kernel) ⟨Nat.le_of_ble_eq_true rfl, Nat.le_of_ble_eq_true rfl⟩) rfl (Nat.le_of_ble_eq_true rfl) ⟨Nat.zero_le _, Nat.zero_le _⟩ dX5_run_269 (fun r55 _ hw56 => ?_)
        have q58 : ((0 : Int) = 0 ∧ 1 ≤ (G 18 0).toInt ∧ (G 18 0).toInt ≤ 16 → r55.toInt = psMx (Gj121 45) ((G 18 0).toInt - 1).toNat) := hw56.2
        have rg59 := hw56.1
        clear hw56
        refine g_aload_n F 0 dX5_run_272 rfl rfl ?_
        refine xg_6_8 F i_X5 w_3 dX5_run_273 ?_
        refine g_iconst F 0 dX5_run_276 (by decide) ?_
        refine g_iload F 3 dX5_run_277 rfl ?_
        refine u_callSi (k := 0) (n := 0) (As := [.ref (a 45), .int 0, .int (G 18 0)]) (st := [.int r55, .ref (a 6)]) F (fun sz => S_X5_least_45 l D K a Gj121 0 0 (G 18 0) (G 18 0).toInt rfl (by decide) rfl (by omega) jI121 sz) (va_cwS 3 hts gX5_run_X5_least rfl rfl rfl (by decide +kernel) ⟨Nat.le_of_ble_eq_true rfl, Nat.le_of_ble_eq_true rfl⟩) rfl (Nat.le_of_ble_eq_true rfl) ⟨Nat.zero_le _, Nat.zero_le _⟩ dX5_run_279 (fun r60 _ hw61 => ?_)
        have q63 : (0 ≤ (0 : Int) ∧ 1 ≤ (G 18 0).toInt ∧ (0 : Int) + (G 18 0).toInt ≤ 16 → r60.toInt = psMn (fun q => (Gj121 45) ((0 : Int).toNat + q)) ((G 18 0).toInt - 1).toNat) := hw61.2
        have rg64 := hw61.1
        clear hw61
        refine u_isub F dX5_run_282 r55.toInt r60.toInt rfl rfl (by omega) (by omega) (fun y65 ey65 => ?_)
        refine xp_6_15 F i_X5 w_6 dX5_run_283 ?_
        refine g_iload F 6 dX5_run_286 rfl ?_
        refine v_if_eq F 293 dX5_run_288 (by decide) x121_8.toInt rfl (fun c66 => ?_) (fun c66 => ?_)
        · refine g_aload_n F 0 dX5_run_293 rfl rfl ?_
          refine xg_6_15 F i_X5 w_6 dX5_run_294 y65 (rfl) ?_
          refine g_aload_n F 0 dX5_run_297 rfl rfl ?_
          refine xg_6_0 F i_X5 w_1 dX5_run_298 ?_
          refine xg_2_0 F i_X7 w_7 dX5_run_301 ?_
          refine g_bipush F 8 dX5_run_304 (by decide) ?_
          refine u1_iald F 18 0 xc_18 rfl 8 rfl (by decide) (by decide) dX5_run_306 (G 18 8) (jU121 18 8 (by decide)) ?_
          refine v_icmp_le F 314 dX5_run_307 (by decide) y65.toInt (G 18 8).toInt rfl rfl (fun c67 => ?_) (fun c67 => ?_)
          · refine g_iconst F 0 dX5_run_314 (by decide) ?_
            exact u_iret F hA hQ hr (gu_up Gj121 6 15 y65) (⟨(gu_I.up (j := 6) (k := 15) (v := y65) jI121 (ti_rng _).1 (ti_rng _).2), (gu_un.up (j := 6) (k := 15) (v := y65) (gu_un.tr gu_un.rf (gu_un.su jU121 rfl)) (show (616 : Nat) ∈ ([608, 613, 614, 615, 616, 617, 618, 619, 620, 2100, 2400, 2700, 4400, 4500, 4600, 4700, 4800] : List Nat) by decide)), (by decide), (by show (0 = -4 ∨ (0 ≤ 0 ∧ 0 ≤ 2)); (first | omega | (simp only [Int32.reduceToInt, true_and, and_true, ne_eq, not_true_eq_false, false_and, or_false, false_or, true_or, or_true, false_implies] <;> omega))), (fun h9 => by obtain ⟨n9, a1, a2, a3⟩ := r1; have tm := Int.mul_le_mul_of_nonneg_right (show x121_10.toInt ≤ (G 6 4).toInt by omega) (show (0 : Int) ≤ (G 18 0).toInt by omega); have hf := xRl.fin (m := ((G 6 4).toInt * (G 18 0).toInt).toNat) (a3 h9.1).1 (a3 h9.1).2 (by omega) (by by_cases e : x121_8.toInt = 0 <;> first | exact Or.inl e | (right; have a4 := a2 e; rw [show x121_10.toInt = (G 6 4).toInt by omega] at a4; omega)); exact ⟨_, _, lv.1, lv.2, hf.1.sh (by first | (rw [if_pos (by decide)]; omega) | (rw [if_neg (by decide)]; omega)), hf.2, by have g1 := q58 ⟨rfl, by omega, by omega⟩; have g2 := q63 ⟨by omega, by omega, by omega⟩; have g3 : psMn (fun q => (Gj121 45) ((0 : Int).toNat + q)) ((G 18 0).toInt - 1).toNat = psMn (Gj121 45) ((G 18 0).toInt - 1).toNat := psMn_eq (fun i _ => by rw [show (0 : Int).toNat + i = i by omega]); show y65.toInt = psMx (Gj121 45) _ - psMn (Gj121 45) _; omega, by first | exact Or.inl (by decide) | exact Or.inr (Or.inl ⟨by decide, by show (G 18 8).toInt < y65.toInt; omega⟩) | exact Or.inr (Or.inr ⟨by decide, by show y65.toInt ≤ (G 18 8).toInt; omega⟩)⟩), (by have h7 := lv.1; exact Or.inr ⟨by decide, by omega⟩)⟩) rfl rfl dX5_run_315
          · refine g_iconst F 1 dX5_run_310 (by decide) ?_
            refine g_goto F 315 dX5_run_311 (by decide) ?_
            exact u_iret F hA hQ hr (gu_up Gj121 6 15 y65) (⟨(gu_I.up (j := 6) (k := 15) (v := y65) jI121 (ti_rng _).1 (ti_rng _).2), (gu_un.up (j := 6) (k := 15) (v := y65) (gu_un.tr gu_un.rf (gu_un.su jU121 rfl)) (show (616 : Nat) ∈ ([608, 613, 614, 615, 616, 617, 618, 619, 620, 2100, 2400, 2700, 4400, 4500, 4600, 4700, 4800] : List Nat) by decide)), (by decide), (by show (1 = -4 ∨ (0 ≤ 1 ∧ 1 ≤ 2)); (first | omega | (simp only [Int32.reduceToInt, true_and, and_true, ne_eq, not_true_eq_false, false_and, or_false, false_or, true_or, or_true, false_implies] <;> omega))), (fun h9 => by obtain ⟨n9, a1, a2, a3⟩ := r1; have tm := Int.mul_le_mul_of_nonneg_right (show x121_10.toInt ≤ (G 6 4).toInt by omega) (show (0 : Int) ≤ (G 18 0).toInt by omega); have hf := xRl.fin (m := ((G 6 4).toInt * (G 18 0).toInt).toNat) (a3 h9.1).1 (a3 h9.1).2 (by omega) (by by_cases e : x121_8.toInt = 0 <;> first | exact Or.inl e | (right; have a4 := a2 e; rw [show x121_10.toInt = (G 6 4).toInt by omega] at a4; omega)); exact ⟨_, _, lv.1, lv.2, hf.1.sh (by first | (rw [if_pos (by decide)]; omega) | (rw [if_neg (by decide)]; omega)), hf.2, by have g1 := q58 ⟨rfl, by omega, by omega⟩; have g2 := q63 ⟨by omega, by omega, by omega⟩; have g3 : psMn (fun q => (Gj121 45) ((0 : Int).toNat + q)) ((G 18 0).toInt - 1).toNat = psMn (Gj121 45) ((G 18 0).toInt - 1).toNat := psMn_eq (fun i _ => by rw [show (0 : Int).toNat + i = i by omega]); show y65.toInt = psMx (Gj121 45) _ - psMn (Gj121 45) _; omega, by first | exact Or.inl (by decide) | exact Or.inr (Or.inl ⟨by decide, by show (G 18 8).toInt < y65.toInt; omega⟩) | exact Or.inr (Or.inr ⟨by decide, by show y65.toInt ≤ (G 18 8).toInt; omega⟩)⟩), (by have h7 := lv.1; exact Or.inr ⟨by decide, by omega⟩)⟩) rfl rfl dX5_run_315
        · refine g_iconst F 2 dX5_run_291 (by decide) ?_
          exact u_iret F hA hQ hr (gu_up Gj121 6 15 y65) (⟨(gu_I.up (j := 6) (k := 15) (v := y65) jI121 (ti_rng _).1 (ti_rng _).2), (gu_un.up (j := 6) (k := 15) (v := y65) (gu_un.tr gu_un.rf (gu_un.su jU121 rfl)) (show (616 : Nat) ∈ ([608, 613, 614, 615, 616, 617, 618, 619, 620, 2100, 2400, 2700, 4400, 4500, 4600, 4700, 4800] : List Nat) by decide)), (by decide), (by show (2 = -4 ∨ (0 ≤ 2 ∧ 2 ≤ 2)); (first | omega | (simp only [Int32.reduceToInt, true_and, and_true, ne_eq, not_true_eq_false, false_and, or_false, false_or, true_or, or_true, false_implies] <;> omega))), (fun h9 => by obtain ⟨n9, a1, a2, a3⟩ := r1; have tm := Int.mul_le_mul_of_nonneg_right (show x121_10.toInt ≤ (G 6 4).toInt by omega) (show (0 : Int) ≤ (G 18 0).toInt by omega); have hf := xRl.fin (m := ((G 6 4).toInt * (G 18 0).toInt).toNat) (a3 h9.1).1 (a3 h9.1).2 (by omega) (by by_cases e : x121_8.toInt = 0 <;> first | exact Or.inl e | (right; have a4 := a2 e; rw [show x121_10.toInt = (G 6 4).toInt by omega] at a4; omega)); exact ⟨_, _, lv.1, lv.2, hf.1.sh (by first | (rw [if_pos (by decide)]; omega) | (rw [if_neg (by decide)]; omega)), hf.2, by have g1 := q58 ⟨rfl, by omega, by omega⟩; have g2 := q63 ⟨by omega, by omega, by omega⟩; have g3 : psMn (fun q => (Gj121 45) ((0 : Int).toNat + q)) ((G 18 0).toInt - 1).toNat = psMn (Gj121 45) ((G 18 0).toInt - 1).toNat := psMn_eq (fun i _ => by rw [show (0 : Int).toNat + i = i by omega]); show y65.toInt = psMx (Gj121 45) _ - psMn (Gj121 45) _; omega, by first | exact Or.inl (by decide) | exact Or.inr (Or.inl ⟨by decide, by show (G 18 8).toInt < y65.toInt; omega⟩) | exact Or.inr (Or.inr ⟨by decide, by show y65.toInt ≤ (G 18 8).toInt; omega⟩)⟩), (by have h7 := lv.1; exact Or.inr ⟨by decide, by omega⟩)⟩) rfl rfl dX5_run_292
      · refine g_iload F 6 dX5_run_130 rfl ?_
        refine v_if_ne F 261 dX5_run_132 (by decide) x121_8.toInt rfl (fun c68 => ?_) (fun c68 => ?_)
        · refine g_aload_n F 0 dX5_run_261 rfl rfl ?_
          refine g_aload_n F 0 dX5_run_262 rfl rfl ?_
          refine xg_6_8 F i_X5 w_3 dX5_run_263 ?_
          refine g_iconst F 0 dX5_run_266 (by decide) ?_
          refine g_iload F 3 dX5_run_267 rfl ?_
          refine u_callSi (k := 0) (n := 0) (As := [.ref (a 45), .int 0, .int (G 18 0)]) (st := [.ref (a 6)]) F (fun sz => S_X5_greatest_45 l D K a Gj121 0 0 (G 18 0) (G 18 0).toInt rfl (by decide) rfl (by omega) jI121 sz) (va_cwS 3 hts gX5_run_X5_greatest rfl rfl rfl (by decide +kernel) ⟨Nat.le_of_ble_eq_true rfl, Nat.le_of_ble_eq_true rfl⟩) rfl (Nat.le_of_ble_eq_true rfl) ⟨Nat.zero_le _, Nat.zero_le _⟩ dX5_run_269 (fun r69 _ hw70 => ?_)
          have q72 : ((0 : Int) = 0 ∧ 1 ≤ (G 18 0).toInt ∧ (G 18 0).toInt ≤ 16 → r69.toInt = psMx (Gj121 45) ((G 18 0).toInt - 1).toNat) := hw70.2
          have rg73 := hw70.1
          clear hw70
          refine g_aload_n F 0 dX5_run_272 rfl rfl ?_
          refine xg_6_8 F i_X5 w_3 dX5_run_273 ?_
          refine g_iconst F 0 dX5_run_276 (by decide) ?_
          refine g_iload F 3 dX5_run_277 rfl ?_
          refine u_callSi (k := 0) (n := 0) (As := [.ref (a 45), .int 0, .int (G 18 0)]) (st := [.int r69, .ref (a 6)]) F (fun sz => S_X5_least_45 l D K a Gj121 0 0 (G 18 0) (G 18 0).toInt rfl (by decide) rfl (by omega) jI121 sz) (va_cwS 3 hts gX5_run_X5_least rfl rfl rfl (by decide +kernel) ⟨Nat.le_of_ble_eq_true rfl, Nat.le_of_ble_eq_true rfl⟩) rfl (Nat.le_of_ble_eq_true rfl) ⟨Nat.zero_le _, Nat.zero_le _⟩ dX5_run_279 (fun r74 _ hw75 => ?_)
          have q77 : (0 ≤ (0 : Int) ∧ 1 ≤ (G 18 0).toInt ∧ (0 : Int) + (G 18 0).toInt ≤ 16 → r74.toInt = psMn (fun q => (Gj121 45) ((0 : Int).toNat + q)) ((G 18 0).toInt - 1).toNat) := hw75.2
          have rg78 := hw75.1
          clear hw75
          refine u_isub F dX5_run_282 r69.toInt r74.toInt rfl rfl (by omega) (by omega) (fun y79 ey79 => ?_)
          refine xp_6_15 F i_X5 w_6 dX5_run_283 ?_
          refine g_iload F 6 dX5_run_286 rfl ?_
          refine v_if_eq F 293 dX5_run_288 (by decide) x121_8.toInt rfl (fun c80 => absurd c80 (by omega)) (fun c80 => ?_)
          refine g_iconst F 2 dX5_run_291 (by decide) ?_
          exact u_iret F hA hQ hr (gu_up Gj121 6 15 y79) (⟨(gu_I.up (j := 6) (k := 15) (v := y79) jI121 (ti_rng _).1 (ti_rng _).2), (gu_un.up (j := 6) (k := 15) (v := y79) (gu_un.tr gu_un.rf (gu_un.su jU121 rfl)) (show (616 : Nat) ∈ ([608, 613, 614, 615, 616, 617, 618, 619, 620, 2100, 2400, 2700, 4400, 4500, 4600, 4700, 4800] : List Nat) by decide)), (by decide), (by show (2 = -4 ∨ (0 ≤ 2 ∧ 2 ≤ 2)); (first | omega | (simp only [Int32.reduceToInt, true_and, and_true, ne_eq, not_true_eq_false, false_and, or_false, false_or, true_or, or_true, false_implies] <;> omega))), (fun h9 => by obtain ⟨n9, a1, a2, a3⟩ := r1; have tm := Int.mul_le_mul_of_nonneg_right (show x121_10.toInt ≤ (G 6 4).toInt by omega) (show (0 : Int) ≤ (G 18 0).toInt by omega); have hf := xRl.fin (m := ((G 6 4).toInt * (G 18 0).toInt).toNat) (a3 h9.1).1 (a3 h9.1).2 (by omega) (by by_cases e : x121_8.toInt = 0 <;> first | exact Or.inl e | (right; have a4 := a2 e; rw [show x121_10.toInt = (G 6 4).toInt by omega] at a4; omega)); exact ⟨_, _, lv.1, lv.2, hf.1.sh (by first | (rw [if_pos (by decide)]; omega) | (rw [if_neg (by decide)]; omega)), hf.2, by have g1 := q72 ⟨rfl, by omega, by omega⟩; have g2 := q77 ⟨by omega, by omega, by omega⟩; have g3 : psMn (fun q => (Gj121 45) ((0 : Int).toNat + q)) ((G 18 0).toInt - 1).toNat = psMn (Gj121 45) ((G 18 0).toInt - 1).toNat := psMn_eq (fun i _ => by rw [show (0 : Int).toNat + i = i by omega]); show y79.toInt = psMx (Gj121 45) _ - psMn (Gj121 45) _; omega, by first | exact Or.inl (by decide) | exact Or.inr (Or.inl ⟨by decide, by show (G 18 8).toInt < y79.toInt; omega⟩) | exact Or.inr (Or.inr ⟨by decide, by show y79.toInt ≤ (G 18 8).toInt; omega⟩)⟩), (by have h7 := lv.1; exact Or.inr ⟨by decide, by omega⟩)⟩) rfl rfl dX5_run_292
        · refine g_aload_n F 0 dX5_run_135 rfl rfl ?_
          refine g_dup F dX5_run_136 rfl ?_
          refine xg_6_19 F i_X5 w_8 dX5_run_137 (Gj121 6 19) (rfl) ?_
          refine g_iconst F 1 dX5_run_140 (by decide) ?_
          refine u_iaddc F dX5_run_141 (Gj121 6 19).toInt 1 rfl rfl (fun y81 ey81 => ?_)
          refine xp_6_19 F i_X5 w_8 dX5_run_142 ?_
          refine g_iconst F 0 dX5_run_145 (by decide) ?_
          refine g_istore F [(11, .int 0), (0, .ref (a 6)), (3, .int p2), (4, .int p3), (5, .int (G 18 0)), (6, .int x121_6), (7, .int x121_7), (8, .int x121_8), (9, .int x121_9), (10, .int x121_10)] dX5_run_146 (by decide) rfl ?_
          refine g_locals [(0, .ref (a 6)), (3, .int p2), (4, .int p3), (5, .int (G 18 0)), (6, .int x121_6), (7, .int x121_7), (8, .int x121_8), (9, .int x121_9), (10, .int x121_10), (11, .int 0)] [1, 2, 3, 4, 5, 6, 7, 8, 9, 0] rfl ?_
          exact J_148 _ x121_8 x121_9 0 (gu_up Gj121 6 19 y81) (Nat.lt_succ_self _) (by have h9 := ti_rng x121_8; omega) (by have h9 := ti_rng x121_9; omega) (by have h9 := ti_rng x121_10; omega) (by decide) (gu_I.up (j := 6) (k := 19) (v := y81) jI121 (ti_rng _).1 (ti_rng _).2) (gu_un.up (j := 6) (k := 19) (v := y81) gu_un.rf (show (620 : Nat) ∈ ([613, 614, 615, 617, 618, 619, 620, 2100, 2400, 2700, 4500, 4600, 4700, 4800] : List Nat) by decide)) (fun hz => by obtain ⟨n9, a1, a2, a3⟩ := r1; rw [show (x121_10.toInt * (G 18 0).toInt + Int32.toInt 0).toNat = n9 by (rw [show Int32.toInt 0 = 0 from rfl]; have a4 := a2 (by omega); omega)]; exact ⟨(a3 hz).1, fun h9 => absurd h9 (by decide)⟩) (by obtain ⟨n9, a1, a2, a3⟩ := r1; have a4 := a2 (by omega); rw [show Int32.toInt 0 = 0 from rfl, Int.add_zero, ← a4.1]; exact a4.2) (xMt.tr mt_121 (show (gu_up Gj121 6 19 y81) 6 7 = Gj121 6 7 from (show gu_un xcd [620] Gj121 (gu_up Gj121 6 19 y81) from (gu_un.up (j := 6) (k := 19) (v := y81) gu_un.rf (show (620 : Nat) ∈ ([620] : List Nat) by decide))) 6 7 (by decide)) (show (gu_up Gj121 6 19 y81) 44 = Gj121 44 from funext fun k_ => (show gu_un xcd [620] Gj121 (gu_up Gj121 6 19 y81) from (gu_un.up (j := 6) (k := 19) (v := y81) gu_un.rf (show (620 : Nat) ∈ ([620] : List Nat) by decide))) 44 k_ (by simp [xcd]))) (by have e9_6_13 : (gu_up Gj121 6 19 y81) 6 13 = (Gj121 6 13) := rfl; have e9_6_14 : (gu_up Gj121 6 19 y81) 6 14 = (Gj121 6 14) := rfl; (try simp only [e9_6_13, e9_6_14, true_and, and_true]) <;> (first | omega | (simp only [Int32.reduceToInt, true_and, and_true, ne_eq, not_true_eq_false, false_and, or_false, false_or, true_or, or_true, false_implies] <;> omega))) (by have e9_6_19 : (gu_up Gj121 6 19 y81) 6 19 = y81 := rfl; (try simp only [e9_6_19, true_and, and_true]) <;> (first | omega | (simp only [Int32.reduceToInt, true_and, and_true, ne_eq, not_true_eq_false, false_and, or_false, false_or, true_or, or_true, false_implies] <;> omega))) (by have e9_6_4 : (gu_up Gj121 6 19 y81) 6 4 = (G 6 4) := jU121 6 4 (by decide); (try simp only [e9_6_4, true_and, and_true]) <;> (first | omega | (simp only [Int32.reduceToInt, true_and, and_true, ne_eq, not_true_eq_false, false_and, or_false, false_or, true_or, or_true, false_implies] <;> omega))) (by (first | omega | (simp only [Int32.reduceToInt, true_and, and_true, ne_eq, not_true_eq_false, false_and, or_false, false_or, true_or, or_true, false_implies] <;> omega))) (by have e9_18_0 : (gu_up Gj121 6 19 y81) 18 0 = (G 18 0) := jU121 18 0 (by decide); (try simp only [e9_18_0, true_and, and_true]) <;> (first | omega | (simp only [Int32.reduceToInt, true_and, and_true, ne_eq, not_true_eq_false, false_and, or_false, false_or, true_or, or_true, false_implies] <;> omega)))
  refine g_aload_n F 0 dX5_run_0 rfl rfl ?_
  refine xg_6_0 F i_X5 w_1 dX5_run_1 ?_
  refine xg_2_0 F i_X7 w_7 dX5_run_4 ?_
  refine g_iconst F 0 dX5_run_7 (by decide) ?_
  refine u1_iald F 18 0 xc_18 rfl 0 rfl (by decide) (by decide) dX5_run_8 (G 18 0) (rfl) ?_
  refine g_istore F [(5, .int (G 18 0)), (0, .ref (a 6)), (1, .ref (a 61)), (2, .int p1), (3, .int p2), (4, .int p3)] dX5_run_9 (by decide) rfl ?_
  refine g_aload_n F 1 dX5_run_11 rfl rfl ?_
  refine xg_6_0 F i_X5 w_1 dX5_run_12 ?_
  refine g_aload_n F 1 dX5_run_15 rfl rfl ?_
  refine xg_6_1 F i_X5 w_9 dX5_run_16 (G 6 1) (rfl) ?_
  refine u_callVi (k := 0) (n := 0) (b := a 2) (As := [.int (G 6 1)]) (st := []) F (fun sz => S_X7_hasRing_2 l D K a G (G 6 1) (G 6 1).toInt rfl hI sz) (cwV 1 hts gX5_run_X7_hasRing rfl rfl rfl (by decide +kernel) ⟨Nat.le_of_ble_eq_true rfl, Nat.le_of_ble_eq_true rfl⟩) rfl 2 xc_2 rfl (Nat.le_of_ble_eq_true rfl) ⟨Nat.zero_le _, Nat.zero_le _⟩ dX5_run_19 (fun r82 _ hw83 => ?_)
  rcases hw83 with ⟨rfl, q85⟩ | ⟨rfl, q86⟩
  · have q85 : (0 ≤ (G 6 1).toInt ∧ (G 6 1).toInt < (G 18 1).toInt) := q85
    refine v_if_eq F 45 dX5_run_22 (by decide) 1 rfl (fun c87 => absurd c87 (by decide)) (fun c87 => ?_)
    refine g_iload F 0 dX5_run_25 rfl ?_
    refine g_iconst F 1 dX5_run_27 (by decide) ?_
    refine v_icmp_lt F 45 dX5_run_28 (by decide) (G 18 0).toInt 1 rfl rfl (fun c88 => absurd c88 (by omega)) (fun c88 => ?_)
    refine g_iload F 0 dX5_run_31 rfl ?_
    refine g_bipush F 16 dX5_run_33 (by decide) ?_
    refine v_icmp_gt F 45 dX5_run_35 (by decide) (G 18 0).toInt 16 rfl rfl (fun c89 => absurd c89 (by omega)) (fun c89 => ?_)
    refine g_aload_n F 2 dX5_run_38 rfl rfl ?_
    refine g_alen F 61 0 xc_61 rfl 96 rfl dX5_run_39 ?_
    refine g_bipush F 96 dX5_run_40 (by decide) ?_
    refine v_icmp_ge F 48 dX5_run_42 (by decide) 96 96 rfl rfl (fun c90 => ?_) (fun c90 => absurd c90 (by decide))
    refine g_aload_n F 2 dX5_run_48 rfl rfl ?_
    refine g_aload_n F 1 dX5_run_49 rfl rfl ?_
    refine xg_6_1 F i_X5 w_9 dX5_run_50 (G 6 1) (rfl) ?_
    refine g_iconst F 0 dX5_run_53 (by decide) ?_
    refine u_call0 (k := 0) (n := 0) (As := [.int (G 6 1), .int 0]) (st := [.ref (a 61)]) F (fun sz => S_X6_placeOf_b5_b15 l D (G 6 1) (G 6 1).toInt 0 0 rfl (by omega) rfl (by decide) sz) (va_cwS 2 hts gX5_run_X6_placeOf rfl rfl rfl (by decide +kernel) ⟨Nat.le_of_ble_eq_true rfl, Nat.le_of_ble_eq_true rfl⟩) rfl (Nat.le_of_ble_eq_true rfl) ⟨Nat.zero_le _, Nat.zero_le _⟩ dX5_run_54 (fun r91 _ hw92 => ?_)
    have rg94 := hw92.1
    have rg95 := hw92.2
    clear hw92
    refine g_aload_n F 1 dX5_run_57 rfl rfl ?_
    refine xg_6_8 F i_X5 w_3 dX5_run_58 ?_
    refine g_iconst F 0 dX5_run_61 (by decide) ?_
    refine g_iload F 0 dX5_run_62 rfl ?_
    refine u_copyi F w_10 w_11 w_12 w_13 61 45 0 xc_61 xc_45 rfl r91.toInt 0 (G 18 0).toInt rfl rfl rfl (by omega) (by decide) (by omega) (by omega) (by omega) (Nat.le_of_ble_eq_true rfl) (Nat.le_of_ble_eq_true rfl) (xW K a (gu_st G 45 (va_cpy (G 61) (G 45) (r91.toInt).toNat 0 ((G 18 0).toInt).toNat))) (xs_45 _) dX5_run_64 ?_
    refine g_aload_n F 1 dX5_run_67 rfl rfl ?_
    refine xg_6_8 F i_X5 w_3 dX5_run_68 ?_
    refine g_iconst F 0 dX5_run_71 (by decide) ?_
    refine g_iload F 0 dX5_run_72 rfl ?_
    refine u_callSi (k := 0) (n := 0) (As := [.ref (a 45), .int 0, .int (G 18 0)]) (st := []) F (fun sz => S_X5_greatest_45 l D K a (gu_st G 45 (va_cpy (G 61) (G 45) (r91.toInt).toNat 0 ((G 18 0).toInt).toNat)) 0 0 (G 18 0) (G 18 0).toInt rfl (by decide) rfl (by omega) (gu_I.cpy (j := 45) (f := G 61) (sp := (r91.toInt).toNat) (dp := 0) hI (fun k_ => (show ((-9998) : Int) ≤ (G 61 ((r91.toInt).toNat + k_)).toInt ∧ (G 61 ((r91.toInt).toNat + k_)).toInt ≤ 5000 from ⟨Int.le_trans (show ((-9998) : Int) ≤ (-9998) by decide) (hI 61 _).1, Int.le_trans (hI 61 _).2 (show (5000 : Int) ≤ 5000 by decide)⟩))) sz) (va_cwS 3 hts gX5_run_X5_greatest rfl rfl rfl (by decide +kernel) ⟨Nat.le_of_ble_eq_true rfl, Nat.le_of_ble_eq_true rfl⟩) rfl (Nat.le_of_ble_eq_true rfl) ⟨Nat.zero_le _, Nat.zero_le _⟩ dX5_run_74 (fun r96 _ hw97 => ?_)
    have q99 : ((0 : Int) = 0 ∧ 1 ≤ (G 18 0).toInt ∧ (G 18 0).toInt ≤ 16 → r96.toInt = psMx ((gu_st G 45 (va_cpy (G 61) (G 45) (r91.toInt).toNat 0 ((G 18 0).toInt).toNat)) 45) ((G 18 0).toInt - 1).toNat) := hw97.2
    have rg100 := hw97.1
    clear hw97
    refine g_istore F [(6, .int r96), (5, .int (G 18 0)), (0, .ref (a 6)), (1, .ref (a 61)), (2, .int p1), (3, .int p2), (4, .int p3)] dX5_run_77 (by decide) rfl ?_
    refine g_iload F 0 dX5_run_79 rfl ?_
    refine g_aload_n F 2 dX5_run_81 rfl rfl ?_
    refine xg_6_3 F i_X5 w_0 dX5_run_82 (G 6 3) (rfl) ?_
    refine g_aload_n F 2 dX5_run_85 rfl rfl ?_
    refine xg_6_4 F i_X5 w_5 dX5_run_86 (G 6 4) (rfl) ?_
    refine g_imul F dX5_run_89 ?_
    have mp0 := Int.mul_nonneg (show (0 : Int) ≤ (G 6 3).toInt by omega) (show (0 : Int) ≤ (G 6 4).toInt by omega)
    have mp1 : (G 6 3).toInt * (G 6 4).toInt ≤ 20 * 12 := Int.mul_le_mul (by omega) (by omega) (by omega) (by omega)
    have mp : (((G 6 3) * (G 6 4)) : Int32).toInt = (G 6 3).toInt * (G 6 4).toInt := ti_mul rfl rfl (by omega) (by omega)
    refine u_isub F dX5_run_90 r96.toInt (((G 6 3) * (G 6 4)) : Int32).toInt rfl rfl (by omega) (by omega) (fun y101 ey101 => ?_)
    refine g_iconst F 1 dX5_run_91 (by decide) ?_
    refine v_icmp_ge F 98 dX5_run_92 (by decide) y101.toInt 1 rfl rfl (fun c102 => ?_) (fun c102 => ?_)
    · refine g_aload_n F 2 dX5_run_98 rfl rfl ?_
      refine g_aload_n F 3 dX5_run_99 rfl rfl ?_
      refine g_iload F 0 dX5_run_100 rfl ?_
      refine u_callVi (k := 0) (n := 0) (b := a 6) (As := [.ref (a 61), .int r96]) (st := []) F (fun sz => S_X5_gapIn_61 l D K a (gu_st G 45 (va_cpy (G 61) (G 45) (r91.toInt).toNat 0 ((G 18 0).toInt).toNat)) r96 r96.toInt rfl (by omega) (by have e9_6_1 : (gu_st G 45 (va_cpy (G 61) (G 45) (r91.toInt).toNat 0 ((G 18 0).toInt).toNat)) 6 1 = (G 6 1) := rfl; (try simp only [e9_6_1, true_and, and_true]) <;> (first | omega | (simp only [Int32.reduceToInt, true_and, and_true, ne_eq, not_true_eq_false, false_and, or_false, false_or, true_or, or_true, false_implies] <;> omega))) (by have e9_6_1 : (gu_st G 45 (va_cpy (G 61) (G 45) (r91.toInt).toNat 0 ((G 18 0).toInt).toNat)) 6 1 = (G 6 1) := rfl; have e9_18_1 : (gu_st G 45 (va_cpy (G 61) (G 45) (r91.toInt).toNat 0 ((G 18 0).toInt).toNat)) 18 1 = (G 18 1) := rfl; (try simp only [e9_6_1, e9_18_1, true_and, and_true]) <;> (first | omega | (simp only [Int32.reduceToInt, true_and, and_true, ne_eq, not_true_eq_false, false_and, or_false, false_or, true_or, or_true, false_implies] <;> omega))) (gu_I.cpy (j := 45) (f := G 61) (sp := (r91.toInt).toNat) (dp := 0) hI (fun k_ => (show ((-9998) : Int) ≤ (G 61 ((r91.toInt).toNat + k_)).toInt ∧ (G 61 ((r91.toInt).toNat + k_)).toInt ≤ 5000 from ⟨Int.le_trans (show ((-9998) : Int) ≤ (-9998) by decide) (hI 61 _).1, Int.le_trans (hI 61 _).2 (show (5000 : Int) ≤ 5000 by decide)⟩))) sz) (cwV 2 hts gX5_run_X5_gapIn rfl rfl rfl (by decide +kernel) ⟨Nat.le_of_ble_eq_true rfl, Nat.le_of_ble_eq_true rfl⟩) rfl 6 xc_6 rfl (Nat.le_of_ble_eq_true rfl) ⟨Nat.zero_le _, Nat.zero_le _⟩ dX5_run_102 (fun r103 _ hw104 => ?_)
      have q106 : (r103.toInt = psGa (G 61) (G 6 1).toInt (G 18 1).toInt (G 18 0).toInt r96.toInt) := hw104.2
      have rg107 := hw104.1
      clear hw104
      refine g_istore F [(7, .int r103), (6, .int r96), (5, .int (G 18 0)), (0, .ref (a 6)), (1, .ref (a 61)), (2, .int p1), (3, .int p2), (4, .int p3)] dX5_run_105 (by decide) rfl ?_
      refine g_aload_n F 3 dX5_run_107 rfl rfl ?_
      refine g_iload_n F 5 dX5_run_108 rfl rfl ?_
      refine u_callVv (k := 0) (n := 0) (b := a 6) (As := [.int p1]) (st := []) F (fun sz => S_X5_begin l D K a (gu_st G 45 (va_cpy (G 61) (G 45) (r91.toInt).toNat 0 ((G 18 0).toInt).toNat)) p1 s1 e1 (by omega) (gu_I.cpy (j := 45) (f := G 61) (sp := (r91.toInt).toNat) (dp := 0) hI (fun k_ => (show ((-9998) : Int) ≤ (G 61 ((r91.toInt).toNat + k_)).toInt ∧ (G 61 ((r91.toInt).toNat + k_)).toInt ≤ 5000 from ⟨Int.le_trans (show ((-9998) : Int) ≤ (-9998) by decide) (hI 61 _).1, Int.le_trans (hI 61 _).2 (show (5000 : Int) ≤ 5000 by decide)⟩))) sz) (cwV 1 hts gX5_run_X5_begin rfl rfl rfl (by decide +kernel) ⟨Nat.le_of_ble_eq_true rfl, Nat.le_of_ble_eq_true rfl⟩) rfl 6 xc_6 rfl (Nat.le_of_ble_eq_true rfl) ⟨Nat.zero_le _, Nat.zero_le _⟩ dX5_run_109 (fun G110 hw109 => ?_)
      have hI111 : xI G110 := hw109.1
      have hU112 : gu_un xcd [608, 613, 614, 615, 617, 618, 619, 620, 4400, 4600] (gu_st G 45 (va_cpy (G 61) (G 45) (r91.toInt).toNat 0 ((G 18 0).toInt).toNat)) G110 := hw109.2.1
      have hp113 := hw109.2.2
      have q114 : xMt (gu_st G 45 (va_cpy (G 61) (G 45) (r91.toInt).toNat 0 ((G 18 0).toInt).toNat)) G110 := hp113.1
      have q115 : (∀ q : Nat, q < 16 → G110 46 q = -1) := hp113.2.1
      have q116 : (G110 6 12 = p1 ∧ G110 6 13 = 0 ∧ G110 6 14 = 0 ∧ G110 6 16 = 0 ∧ G110 6 17 = 0 ∧ G110 6 18 = 0 ∧ G110 6 19 = 0) := hp113.2.2
      have bz13 : (G110 6 13).toInt = 0 := by rw [q116.2.1]; rfl
      have bz14 : (G110 6 14).toInt = 0 := by rw [q116.2.2.1]; rfl
      have bz19 : (G110 6 19).toInt = 0 := by rw [q116.2.2.2.2.2.2]; rfl
      clear hp113 hw109
      refine g_iconst F 0 dX5_run_112 (by decide) ?_
      refine g_istore F [(8, .int 0), (7, .int r103), (6, .int r96), (5, .int (G 18 0)), (0, .ref (a 6)), (1, .ref (a 61)), (2, .int p1), (3, .int p2), (4, .int p3)] dX5_run_113 (by decide) rfl ?_
      refine g_iconst F 0 dX5_run_115 (by decide) ?_
      refine g_istore F [(9, .int 0), (8, .int 0), (7, .int r103), (6, .int r96), (5, .int (G 18 0)), (0, .ref (a 6)), (1, .ref (a 61)), (2, .int p1), (3, .int p2), (4, .int p3)] dX5_run_116 (by decide) rfl ?_
      refine g_iconst F 0 dX5_run_118 (by decide) ?_
      refine g_istore F [(10, .int 0), (9, .int 0), (8, .int 0), (7, .int r103), (6, .int r96), (5, .int (G 18 0)), (0, .ref (a 6)), (1, .ref (a 61)), (2, .int p1), (3, .int p2), (4, .int p3)] dX5_run_119 (by decide) rfl ?_
      refine g_locals [(0, .ref (a 6)), (3, .int p2), (4, .int p3), (5, .int (G 18 0)), (6, .int r96), (7, .int r103), (8, .int 0), (9, .int 0), (10, .int 0)] [6, 9, 10, 5, 4, 3, 2, 1, 0] rfl ?_
      exact J_121 _ r96 r103 0 0 0 G110 (Nat.lt_succ_self _) (by have h9 := ti_rng r96; omega) (by have h9 := ti_rng r103; omega) (by decide) (by decide) (by decide) hI111 (gu_un.tr (gu_un.sw (j := 45) (f := (va_cpy (G 61) (G 45) (r91.toInt).toNat 0 ((G 18 0).toInt).toNat)) gu_un.rf (fun _ => show (4500 : Nat) ∈ ([608, 613, 614, 615, 617, 618, 619, 620, 2100, 2400, 2700, 4400, 4500, 4600, 4700, 4800] : List Nat) by decide)) (gu_un.su hU112 rfl)) (⟨0, by rw [show Int32.toInt 0 = 0 from rfl, Int.zero_mul]; exact Int.le_refl 0, fun _ => ⟨by rw [show Int32.toInt 0 = 0 from rfl, Int.zero_mul]; rfl, by show (0 : Int) = 0 % _; rw [Int.zero_emod]⟩, fun hz => ⟨(xRl.at0 (fun q hq => by rw [(show G110 45 = (va_cpy (G 61) (G 45) (r91.toInt).toNat 0 ((G 18 0).toInt).toNat) from ((show G110 45 = (gu_st G 45 (va_cpy (G 61) (G 45) (r91.toInt).toNat 0 ((G 18 0).toInt).toNat)) 45 from funext fun k_ => hU112 45 k_ (by simp [xcd])).trans (show (gu_st G 45 (va_cpy (G 61) (G 45) (r91.toInt).toNat 0 ((G 18 0).toInt).toNat)) 45 = (va_cpy (G 61) (G 45) (r91.toInt).toNat 0 ((G 18 0).toInt).toNat) from rfl)))]; unfold va_cpy; rw [if_pos (by omega)]; congr 1; omega) q115 (by omega) q116).sh rfl, fun Q C _ h9 => absurd rfl h9⟩⟩) (⟨by rw [q99 ⟨rfl, by omega, by omega⟩]; exact psMx_eq (h := (gu_st G 45 (va_cpy (G 61) (G 45) (r91.toInt).toNat 0 ((G 18 0).toInt).toNat)) 45) (g := psHr (G 61) (G 6 1).toInt (G 18 0).toInt) (n := ((G 18 0).toInt - 1).toNat) (fun q hq => by show va_cpy _ _ _ _ _ q = psHr _ _ _ q; unfold va_cpy psHr; rw [if_pos (by omega), if_pos (by omega)]; congr 1; omega), q106⟩) (xMt.tr q114 (show G110 6 7 = G110 6 7 from (show gu_un xcd [] G110 G110 from gu_un.rf) 6 7 (by decide)) (show G110 44 = G110 44 from funext fun k_ => (show gu_un xcd [] G110 G110 from gu_un.rf) 44 k_ (by simp [xcd]))) (by (first | omega | (simp only [Int32.reduceToInt, true_and, and_true, ne_eq, not_true_eq_false, false_and, or_false, false_or, true_or, or_true, false_implies] <;> omega))) (by (first | omega | (simp only [Int32.reduceToInt, true_and, and_true, ne_eq, not_true_eq_false, false_and, or_false, false_or, true_or, or_true, false_implies] <;> omega))) (by have e9_6_4 : G110 6 4 = (G 6 4) := hU112 6 4 (by decide); (try simp only [e9_6_4, true_and, and_true]) <;> (first | omega | (simp only [Int32.reduceToInt, true_and, and_true, ne_eq, not_true_eq_false, false_and, or_false, false_or, true_or, or_true, false_implies] <;> omega))) (by omega)
    · refine g_bipush F (-4) dX5_run_95 (by decide) ?_
      exact u_iret F hA hQ hr (gu_st G 45 (va_cpy (G 61) (G 45) (r91.toInt).toNat 0 ((G 18 0).toInt).toNat)) (⟨(gu_I.cpy (j := 45) (f := G 61) (sp := (r91.toInt).toNat) (dp := 0) hI (fun k_ => (show ((-9998) : Int) ≤ (G 61 ((r91.toInt).toNat + k_)).toInt ∧ (G 61 ((r91.toInt).toNat + k_)).toInt ≤ 5000 from ⟨Int.le_trans (show ((-9998) : Int) ≤ (-9998) by decide) (hI 61 _).1, Int.le_trans (hI 61 _).2 (show (5000 : Int) ≤ 5000 by decide)⟩))), (gu_un.sw (j := 45) (f := (va_cpy (G 61) (G 45) (r91.toInt).toNat 0 ((G 18 0).toInt).toNat)) gu_un.rf (fun _ => show (4500 : Nat) ∈ ([608, 613, 614, 615, 616, 617, 618, 619, 620, 2100, 2400, 2700, 4400, 4500, 4600, 4700, 4800] : List Nat) by decide)), (by decide), (by show ((-4) = -4 ∨ (0 ≤ (-4) ∧ (-4) ≤ 2)); (first | omega | (simp only [Int32.reduceToInt, true_and, and_true, ne_eq, not_true_eq_false, false_and, or_false, false_or, true_or, or_true, false_implies] <;> omega))), (fun h9 => absurd rfl h9.2), (by have h7 := q99 ⟨rfl, by omega, by omega⟩; have h6 := psMx_eq (h := (gu_st G 45 (va_cpy (G 61) (G 45) (r91.toInt).toNat 0 ((G 18 0).toInt).toNat)) 45) (g := psHr (G 61) (G 6 1).toInt (G 18 0).toInt) (n := ((G 18 0).toInt - 1).toNat) (fun q hq => by show va_cpy _ _ _ _ _ q = psHr _ _ _ q; unfold va_cpy psHr; rw [if_pos (by omega), if_pos (by omega)]; congr 1; omega); rw [h6] at h7; exact Or.inl ⟨by decide, by omega⟩)⟩) rfl rfl dX5_run_97
  · have q86 : ((G 6 1).toInt < 0 ∨ (G 18 1).toInt ≤ (G 6 1).toInt) := q86
    refine v_if_eq F 45 dX5_run_22 (by decide) 0 rfl (fun c117 => ?_) (fun c117 => absurd c117 (by decide))
    refine g_bipush F (-4) dX5_run_45 (by decide) ?_
    exact u_iret F hA hQ hr G (⟨hI, gu_un.rf, (by decide), (by show ((-4) = -4 ∨ (0 ≤ (-4) ∧ (-4) ≤ 2)); (first | omega | (simp only [Int32.reduceToInt, true_and, and_true, ne_eq, not_true_eq_false, false_and, or_false, false_or, true_or, or_true, false_implies] <;> omega))), (fun h9 => absurd rfl h9.2), (by exfalso; omega)⟩) rfl rfl dX5_run_47


set_option maxHeartbeats 4000000 in
set_option maxRecDepth 100000 in
theorem S_X5_storeHeights_62 (l : Launch) (D : va_G) (K : Nat → ClassId) (a : Nat → Nat) (G : gS) (hrg : (0 ≤ (G 6 1).toInt ∧ (G 6 1).toInt ≤ 5)) (hI : xI G) (sz : Nat) : Kv l yX5_storeHeights wsX5_storeHeights 2 61 0 0 D [.ref (a 6), .ref (a 62)] (xW K a G) (tK K) sz (fun (G' : gS) => (xI G') ∧ (gu_un xcd [6200] G G') ∧ ((∀ q : Nat, G' 62 q = sHr (G 62) (G 45) (G 6 1).toInt (G 18 0).toInt q))) (fun (G' : gS) => (xW K a G')) (fun _ => (tK K)) := by
  unfold Kv
  refine g_ofW (cc := cX5_storeHeights) (lv := [(0, .ref (a 6)), (1, .ref (a 62))]) (by decide) rfl (Nat.le_of_ble_eq_true rfl) rfl ?_
  intro p e s m args below meth c A Q hA hQ F hr hnm
  have hts := F.2.2.2.2.1
  have w_0 : (Cond.fieldLink RX5 17 "QuietCut$Lathe" "heights" "[I").before args s = true := hts _ (List.mem_of_getElem? (i := 4) rfl)
  have i_X5 : ∀ w ∈ u_ws RX5 TX5 20, w ∈ wsX5_storeHeights := fun _ h => List.mem_cons_of_mem _ (List.mem_append_left _ (List.mem_append_right _ h))
  have w_1 : (Cond.fieldLink RX5 29 "QuietCut$Lathe" "shop" "LQuietCut$Shop;").before args s = true := hts _ (List.mem_of_getElem? (i := 1) rfl)
  have w_2 : (Cond.fieldLink RX5 56 "QuietCut$Shop" "numbers" "[I").before args s = true := hts _ (List.mem_of_getElem? (i := 2) rfl)
  have i_X7 : ∀ w ∈ u_ws RX7 TX7 4, w ∈ wsX5_storeHeights := fun _ h => List.mem_cons_of_mem _ (List.mem_append_right _ h)
  have w_3 : (Cond.fieldLink RX5 33 "QuietCut$Lathe" "ring" "I").before args s = true := hts _ (List.mem_of_getElem? (i := 3) rfl)
  have b1 : (4 : Int) ≤ (G 18 0).toInt ∧ (G 18 0).toInt ≤ 16 := hI 18 0
  have J_22 : ∀ (fuel : Nat) (x22_3 : Int32) (x22_4 : Int32) (Gj22 : gS), (2147483647 - x22_4.toInt).toNat < fuel → (0 ≤ x22_3.toInt ∧ x22_3.toInt ≤ 95) → (0 ≤ x22_4.toInt ∧ x22_4.toInt ≤ 16) → (xI Gj22) → (gu_un xcd [6200] G Gj22) → (∀ q : Nat, Gj22 62 q = sHr (G 62) (G 45) (G 6 1).toInt x22_4.toInt q) → ((x22_3.toInt = (G 6 1).toInt * 16)) → ((x22_4.toInt ≤ (G 18 0).toInt)) → gG p l e (gR 2 0 0 61) s m args below meth c D A 5 Q 0 0 (xW K a Gj22) (tK K) [(0, .ref (a 6)), (1, .ref (a 62)), (2, .int (G 18 0)), (3, .int x22_3), (4, .int x22_4)] 22 [] := by
    intro fuel
    induction fuel with
    | zero => intro x22_3 x22_4 Gj22 hm; exact absurd hm (Nat.not_lt_zero _)
    | succ fuel_22 ih_22 =>
      intro x22_3 x22_4 Gj22 hm_22 h22_3 h22_4 jI22 jU22 sh s3 il
      refine g_iload F 4 dX5_storeHeights_22 rfl ?_
      refine g_iload_n F 2 dX5_storeHeights_24 rfl rfl ?_
      refine v_icmp_ge F 67 dX5_storeHeights_25 (by decide) x22_4.toInt (G 18 0).toInt rfl rfl (fun c2 => ?_) (fun c2 => ?_)
      · exact u_vret F hA hQ hr Gj22 (⟨jI22, (gu_un.tr gu_un.rf (gu_un.su jU22 rfl)), (fun q => by have h9 := sh q; rw [show x22_4.toInt = (G 18 0).toInt by omega] at h9; exact h9)⟩) rfl rfl dX5_storeHeights_67
      · refine g_iload F 4 dX5_storeHeights_28 rfl ?_
        refine g_bipush F 16 dX5_storeHeights_30 (by decide) ?_
        refine v_icmp_ge F 67 dX5_storeHeights_32 (by decide) x22_4.toInt 16 rfl rfl (fun c3 => absurd c3 (by omega)) (fun c3 => ?_)
        refine g_iload_n F 3 dX5_storeHeights_35 rfl rfl ?_
        refine v_if_lt F 61 dX5_storeHeights_36 (by decide) x22_3.toInt rfl (fun c4 => absurd c4 (by omega)) (fun c4 => ?_)
        refine g_iload_n F 3 dX5_storeHeights_39 rfl rfl ?_
        refine g_iload F 4 dX5_storeHeights_40 rfl ?_
        refine u_iadd F dX5_storeHeights_42 x22_3.toInt x22_4.toInt rfl rfl (by omega) (by omega) (fun y5 ey5 => ?_)
        refine g_aload_n F 1 dX5_storeHeights_43 rfl rfl ?_
        refine g_alen F 62 0 xc_62 rfl 96 rfl dX5_storeHeights_44 ?_
        refine v_icmp_ge F 61 dX5_storeHeights_45 (by decide) y5.toInt 96 rfl rfl (fun c6 => ?_) (fun c6 => ?_)
        · refine u_iinc F (fun v_ => [(4, .int v_), (0, .ref (a 6)), (1, .ref (a 62)), (2, .int (G 18 0)), (3, .int x22_3)]) dX5_storeHeights_61 (j := 4) rfl x22_4.toInt 1 rfl rfl (by omega) (by omega) (by decide) (fun _ => rfl) (fun y7 ey7 => ?_)
          refine g_goto F 22 dX5_storeHeights_64 (by decide) ?_
          refine g_locals [(0, .ref (a 6)), (1, .ref (a 62)), (2, .int (G 18 0)), (3, .int x22_3), (4, .int y7)] [1, 2, 3, 4, 0] rfl ?_
          exact ih_22 x22_3 y7 Gj22 (by omega) (by have h9 := ti_rng x22_3; omega) (by have h9 := ti_rng y7; omega) jI22 (gu_un.tr gu_un.rf (gu_un.su jU22 rfl)) (by exfalso; omega) (by have e9_6_1 : Gj22 6 1 = (G 6 1) := jU22 6 1 (by decide); (try simp only [e9_6_1, true_and, and_true]) <;> (first | omega | (simp only [Int32.reduceToInt, true_and, and_true, ne_eq, not_true_eq_false, false_and, or_false, false_or, true_or, or_true, false_implies] <;> omega))) (by have e9_18_0 : Gj22 18 0 = (G 18 0) := jU22 18 0 (by decide); (try simp only [e9_18_0, true_and, and_true]) <;> (first | omega | (simp only [Int32.reduceToInt, true_and, and_true, ne_eq, not_true_eq_false, false_and, or_false, false_or, true_or, or_true, false_implies] <;> omega)))
        · refine g_aload_n F 1 dX5_storeHeights_48 rfl rfl ?_
          refine g_iload_n F 3 dX5_storeHeights_49 rfl rfl ?_
          refine g_iload F 4 dX5_storeHeights_50 rfl ?_
          refine u_iadd F dX5_storeHeights_52 x22_3.toInt x22_4.toInt rfl rfl (by omega) (by omega) (fun y8 ey8 => ?_)
          refine g_aload_n F 0 dX5_storeHeights_53 rfl rfl ?_
          refine xg_6_8 F i_X5 w_0 dX5_storeHeights_54 ?_
          refine g_iload F 4 dX5_storeHeights_57 rfl ?_
          refine u1_iald F 45 0 xc_45 rfl x22_4.toInt rfl (by omega) (by omega) dX5_storeHeights_59 ((G 45) (x22_4.toInt).toNat) (congrFun ((show Gj22 45 = G 45 from funext fun k_ => jU22 45 k_ (show (4500 : Nat) ∉ ([6200] : List Nat) by decide))) _) ?_
          have b9 : ((-9998) : Int) ≤ ((G 45) (x22_4.toInt).toNat).toInt ∧ ((G 45) (x22_4.toInt).toNat).toInt ≤ 5000 := hI 45 _
          refine u_iast F 62 0 xc_62 rfl y8.toInt rfl (by omega) (by omega) (xW K a (gu_up Gj22 62 (y8.toInt).toNat ((G 45) (x22_4.toInt).toNat))) (xs_62 _) dX5_storeHeights_60 ?_
          refine u_iinc F (fun v_ => [(4, .int v_), (0, .ref (a 6)), (1, .ref (a 62)), (2, .int (G 18 0)), (3, .int x22_3)]) dX5_storeHeights_61 (j := 4) rfl x22_4.toInt 1 rfl rfl (by omega) (by omega) (by decide) (fun _ => rfl) (fun y10 ey10 => ?_)
          refine g_goto F 22 dX5_storeHeights_64 (by decide) ?_
          refine g_locals [(0, .ref (a 6)), (1, .ref (a 62)), (2, .int (G 18 0)), (3, .int x22_3), (4, .int y10)] [1, 2, 3, 4, 0] rfl ?_
          exact ih_22 x22_3 y10 (gu_up Gj22 62 (y8.toInt).toNat ((G 45) (x22_4.toInt).toNat)) (by omega) (by have h9 := ti_rng x22_3; omega) (by have h9 := ti_rng y10; omega) (gu_I.up (j := 62) (k := (y8.toInt).toNat) (v := ((G 45) (x22_4.toInt).toNat)) jI22 (show ((-9998) : Int) ≤ Int32.toInt ((G 45) (x22_4.toInt).toNat) by omega) (show Int32.toInt ((G 45) (x22_4.toInt).toNat) ≤ 5000 by omega)) (gu_un.up (j := 62) (k := (y8.toInt).toNat) (v := ((G 45) (x22_4.toInt).toNat)) (gu_un.tr gu_un.rf (gu_un.su jU22 rfl)) (show (6200 : Nat) ∈ ([6200] : List Nat) by decide)) (sHr_1 (i := x22_4.toInt) (k := y8.toInt) sh (by omega) (by omega) (by omega) rfl (by omega)) (by have e9_6_1 : (gu_up Gj22 62 (y8.toInt).toNat ((G 45) (x22_4.toInt).toNat)) 6 1 = (G 6 1) := jU22 6 1 (by decide); (try simp only [e9_6_1, true_and, and_true]) <;> (first | omega | (simp only [Int32.reduceToInt, true_and, and_true, ne_eq, not_true_eq_false, false_and, or_false, false_or, true_or, or_true, false_implies] <;> omega))) (by have e9_18_0 : (gu_up Gj22 62 (y8.toInt).toNat ((G 45) (x22_4.toInt).toNat)) 18 0 = (G 18 0) := jU22 18 0 (by decide); (try simp only [e9_18_0, true_and, and_true]) <;> (first | omega | (simp only [Int32.reduceToInt, true_and, and_true, ne_eq, not_true_eq_false, false_and, or_false, false_or, true_or, or_true, false_implies] <;> omega)))
  refine g_aload_n F 0 dX5_storeHeights_0 rfl rfl ?_
  refine xg_6_0 F i_X5 w_1 dX5_storeHeights_1 ?_
  refine xg_2_0 F i_X7 w_2 dX5_storeHeights_4 ?_
  refine g_iconst F 0 dX5_storeHeights_7 (by decide) ?_
  refine u1_iald F 18 0 xc_18 rfl 0 rfl (by decide) (by decide) dX5_storeHeights_8 (G 18 0) (rfl) ?_
  refine g_istore_n F [(2, .int (G 18 0)), (0, .ref (a 6)), (1, .ref (a 62))] dX5_storeHeights_9 rfl (by decide) rfl ?_
  refine g_aload_n F 1 dX5_storeHeights_10 rfl rfl ?_
  refine xg_6_1 F i_X5 w_3 dX5_storeHeights_11 (G 6 1) (rfl) ?_
  refine g_iconst F 0 dX5_storeHeights_14 (by decide) ?_
  refine u_call0 (k := 0) (n := 0) (As := [.int (G 6 1), .int 0]) (st := []) F (fun sz => S_X6_placeOf_b5_b15 l D (G 6 1) (G 6 1).toInt 0 0 rfl (by omega) rfl (by decide) sz) (va_cwS 2 hts gX5_storeHeights_X6_placeOf rfl rfl rfl (by decide +kernel) ⟨Nat.le_of_ble_eq_true rfl, Nat.le_of_ble_eq_true rfl⟩) rfl (Nat.le_of_ble_eq_true rfl) ⟨Nat.zero_le _, Nat.zero_le _⟩ dX5_storeHeights_15 (fun r11 _ hw12 => ?_)
  have rg14 := hw12.1
  have rg15 := hw12.2
  clear hw12
  refine g_istore_n F [(3, .int r11), (2, .int (G 18 0)), (0, .ref (a 6)), (1, .ref (a 62))] dX5_storeHeights_18 rfl (by decide) rfl ?_
  refine g_iconst F 0 dX5_storeHeights_19 (by decide) ?_
  refine g_istore F [(4, .int 0), (3, .int r11), (2, .int (G 18 0)), (0, .ref (a 6)), (1, .ref (a 62))] dX5_storeHeights_20 (by decide) rfl ?_
  refine g_locals [(0, .ref (a 6)), (1, .ref (a 62)), (2, .int (G 18 0)), (3, .int r11), (4, .int 0)] [3, 4, 2, 1, 0] rfl ?_
  exact J_22 _ r11 0 G (Nat.lt_succ_self _) (by have h9 := ti_rng r11; omega) (by decide) hI gu_un.rf (sHr_0 rfl) (by (first | omega | (simp only [Int32.reduceToInt, true_and, and_true, ne_eq, not_true_eq_false, false_and, or_false, false_or, true_or, or_true, false_implies] <;> omega))) (by (first | omega | (simp only [Int32.reduceToInt, true_and, and_true, ne_eq, not_true_eq_false, false_and, or_false, false_or, true_or, or_true, false_implies] <;> omega)))


set_option maxHeartbeats 4000000 in
set_option maxRecDepth 100000 in
theorem S_X4_staysQuiet_v2 (l : Launch) (D : va_G) (K : Nat → ClassId) (a : Nat → Nat) (G : gS) (p0 : Int32) (s0 : Int) (e0 : p0.toInt = s0) (h0 : 0 ≤ s0 ∧ s0 ≤ 4) (hI : xI G) (sz : Nat) : Ki l yX4_staysQuiet wsX4_staysQuiet 5 148 0 0 D [.ref (a 8), .int p0, .int 2] (xW K a G) (tK K) sz (fun (r : Int32) (G' : gS) => (xI G') ∧ (gu_un xcd [602, 603, 604, 605, 608, 613, 614, 615, 616, 617, 618, 619, 620, 2100, 2400, 2700, 4400, 4500, 4600, 4700, 4800, 6200, 6500] G G') ∧ (0 ≤ r.toInt ∧ r.toInt ≤ 1)) (fun (G' : gS) => (xW K a G')) (fun _ => (tK K)) := by
  unfold Ki
  refine g_ofW (cc := cX4_staysQuiet) (lv := [(0, .ref (a 8)), (1, .int p0), (2, .int 2)]) (by decide) rfl (Nat.le_of_ble_eq_true rfl) rfl ?_
  intro p e s m args below meth c A Q hA hQ F hr hnm
  have hts := F.2.2.2.2.1
  have w_0 : (Cond.fieldLink RX4 33 "QuietCut$Jobs" "lathe" "LQuietCut$Lathe;").before args s = true := hts _ (List.mem_of_getElem? (i := 1) rfl)
  have i_X4 : ∀ w ∈ u_ws RX4 TX4 12, w ∈ wsX4_staysQuiet := fun _ h => List.mem_cons_of_mem _ (List.mem_append_left _ (List.mem_append_left _ (List.mem_append_left _ (List.mem_append_right _ h))))
  have w_1 : (Cond.fieldLink RX4 13 "QuietCut$Jobs" "jobs" "[[I").before args s = true := hts _ (List.mem_of_getElem? (i := 2) rfl)
  have w_2 : (Cond.fieldLink RX4 16 "QuietCut$Jobs" "heights" "[[I").before args s = true := hts _ (List.mem_of_getElem? (i := 3) rfl)
  have w_3 : (Cond.fieldLink RX4 19 "QuietCut$Jobs" "wears" "[I").before args s = true := hts _ (List.mem_of_getElem? (i := 4) rfl)
  have w_4 : (Cond.fieldLink RX4 44 "QuietCut$Jobs" "stiff" "I").before args s = true := hts _ (List.mem_of_getElem? (i := 5) rfl)
  have w_5 : (Cond.fieldLink RX4 47 "QuietCut$Jobs" "damp" "I").before args s = true := hts _ (List.mem_of_getElem? (i := 6) rfl)
  have w_6 : (Cond.methodLink RX4 64 arraycopyName).before args s = true := hts _ (List.mem_of_getElem? (i := 7) rfl)
  have w_7 : (Cond.native arraycopyName).before args s = true := hts _ (List.mem_of_getElem? (i := 8) rfl)
  have w_8 : (Cond.static arraycopyName).before args s = true := hts _ (List.mem_of_getElem? (i := 9) rfl)
  have w_9 : (Cond.initialized "java/lang/System").before args s = true := hts _ (List.mem_of_getElem? (i := 10) rfl)
  have w_10 : (Cond.fieldLink RX4 94 "QuietCut$Lathe" "wear" "I").before args s = true := hts _ (List.mem_of_getElem? (i := 11) rfl)
  have i_X5 : ∀ w ∈ u_ws RX5 TX5 20, w ∈ wsX4_staysQuiet := fun _ h => List.mem_cons_of_mem _ (List.mem_append_left _ (List.mem_append_left _ (List.mem_append_right _ h)))
  refine g_aload_n F 0 dX4_staysQuiet_0 rfl rfl ?_
  refine xg_8_1 F i_X4 w_0 dX4_staysQuiet_1 ?_
  refine g_aload_n F 0 dX4_staysQuiet_4 rfl rfl ?_
  refine xg_8_2 F i_X4 w_1 dX4_staysQuiet_5 ?_
  refine g_iconst F 0 dX4_staysQuiet_8 (by decide) ?_
  refine g_aald (b := a 54) F 53 1 xc_53 rfl (ti_in (show Int32.toInt 0 = 0 from rfl) (by decide) (by decide)) (by rw [show Int32.toNatClampNeg 0 = 0 from congrArg Int.toNat (show Int32.toInt 0 = 0 from rfl)]; rfl) dX4_staysQuiet_9 ?_
  refine g_iload_n F 1 dX4_staysQuiet_10 rfl rfl ?_
  refine u_iald F 54 0 xc_54 rfl s0 e0 (by omega) (by omega) dX4_staysQuiet_11 (fun _ => True) (fun _ => trivial) (fun y1 by1 => ?_)
  refine g_aload_n F 0 dX4_staysQuiet_12 rfl rfl ?_
  refine xg_8_2 F i_X4 w_1 dX4_staysQuiet_13 ?_
  refine g_iconst F 1 dX4_staysQuiet_16 (by decide) ?_
  refine g_aald (b := a 55) F 53 1 xc_53 rfl (ti_in (show Int32.toInt 1 = 1 from rfl) (by decide) (by decide)) (by rw [show Int32.toNatClampNeg 1 = 1 from congrArg Int.toNat (show Int32.toInt 1 = 1 from rfl)]; rfl) dX4_staysQuiet_17 ?_
  refine g_iload_n F 1 dX4_staysQuiet_18 rfl rfl ?_
  refine u_iald F 55 0 xc_55 rfl s0 e0 (by omega) (by omega) dX4_staysQuiet_19 (fun _ => True) (fun _ => trivial) (fun y2 by2 => ?_)
  refine g_aload_n F 0 dX4_staysQuiet_20 rfl rfl ?_
  refine xg_8_2 F i_X4 w_1 dX4_staysQuiet_21 ?_
  refine g_iconst F 2 dX4_staysQuiet_24 (by decide) ?_
  refine g_aald (b := a 56) F 53 1 xc_53 rfl (ti_in (show Int32.toInt 2 = 2 from rfl) (by decide) (by decide)) (by rw [show Int32.toNatClampNeg 2 = 2 from congrArg Int.toNat (show Int32.toInt 2 = 2 from rfl)]; rfl) dX4_staysQuiet_25 ?_
  refine g_iload_n F 1 dX4_staysQuiet_26 rfl rfl ?_
  refine u_iald F 56 0 xc_56 rfl s0 e0 (by omega) (by omega) dX4_staysQuiet_27 (fun _ => True) (fun _ => trivial) (fun y3 by3 => ?_)
  refine g_aload_n F 0 dX4_staysQuiet_28 rfl rfl ?_
  refine xg_8_2 F i_X4 w_1 dX4_staysQuiet_29 ?_
  refine g_iconst F 3 dX4_staysQuiet_32 (by decide) ?_
  refine g_aald (b := a 57) F 53 1 xc_53 rfl (ti_in (show Int32.toInt 3 = 3 from rfl) (by decide) (by decide)) (by rw [show Int32.toNatClampNeg 3 = 3 from congrArg Int.toNat (show Int32.toInt 3 = 3 from rfl)]; rfl) dX4_staysQuiet_33 ?_
  refine g_iload_n F 1 dX4_staysQuiet_34 rfl rfl ?_
  refine u_iald F 57 0 xc_57 rfl s0 e0 (by omega) (by omega) dX4_staysQuiet_35 (fun _ => True) (fun _ => trivial) (fun y4 by4 => ?_)
  refine u_callVi (k := 0) (n := 0) (b := a 6) (As := [.int y1, .int y2, .int y3, .int y4]) (st := []) F (fun sz => S_X5_takes l D K a G y1 y1.toInt y2 y2.toInt y3 y3.toInt y4 y4.toInt rfl rfl rfl rfl hI sz) (cwV 4 hts gX4_staysQuiet_X5_takes rfl rfl rfl (by decide +kernel) ⟨Nat.le_of_ble_eq_true rfl, Nat.le_of_ble_eq_true rfl⟩) rfl 6 xc_6 rfl (Nat.le_of_ble_eq_true rfl) ⟨Nat.zero_le _, Nat.zero_le _⟩ dX4_staysQuiet_36 (fun r5 G7 hw6 => ?_)
  have hI8 : xI G7 := hw6.1
  have hU9 : gu_un xcd [602, 603, 604, 605] G G7 := hw6.2.1
  have hp10 := hw6.2.2
  have q11 : ((G7 6 1).toInt = y1.toInt ∧ (G7 6 2).toInt = y2.toInt ∧ (G7 6 3).toInt = y3.toInt ∧ (G7 6 4).toInt = y4.toInt) := hp10.2
  rcases hp10.1 with ⟨rfl, q12⟩ | ⟨rfl, q13⟩
  · have b14 : (1 : Int) ≤ (G 18 1).toInt ∧ (G 18 1).toInt ≤ 6 := hI 18 1
    have q12 : (0 ≤ y1.toInt ∧ y1.toInt < (G 18 1).toInt ∧ 1 ≤ y2.toInt ∧ y2.toInt ≤ 9 ∧ 1 ≤ y3.toInt ∧ y3.toInt ≤ 20 ∧ 1 ≤ y4.toInt ∧ y4.toInt ≤ 12) := by have h9 := q12; (try simp only [(show G7 18 1 = (G 18 1) from hU9 18 1 (by decide))] at h9); exact h9
    refine v_if_ne F 44 dX4_staysQuiet_39 (by decide) 1 rfl (fun c15 => ?_) (fun c15 => absurd c15 (by decide))
    refine g_aload_n F 0 dX4_staysQuiet_44 rfl rfl ?_
    refine xg_8_1 F i_X4 w_0 dX4_staysQuiet_45 ?_
    refine g_aload_n F 0 dX4_staysQuiet_48 rfl rfl ?_
    refine xg_8_4 F i_X4 w_2 dX4_staysQuiet_49 ?_
    refine g_iload_n F 2 dX4_staysQuiet_52 rfl rfl ?_
    refine g_aald (b := a 61) F 58 1 xc_58 rfl (ti_in (show Int32.toInt 2 = 2 from rfl) (by decide) (by decide)) (by rw [show Int32.toNatClampNeg 2 = 2 from congrArg Int.toNat (show Int32.toInt 2 = 2 from rfl)]; rfl) dX4_staysQuiet_53 ?_
    refine g_aload_n F 0 dX4_staysQuiet_54 rfl rfl ?_
    refine xg_8_5 F i_X4 w_3 dX4_staysQuiet_55 ?_
    refine g_iload_n F 2 dX4_staysQuiet_58 rfl rfl ?_
    refine u1_iald F 65 0 xc_65 rfl 2 rfl (by decide) (by decide) dX4_staysQuiet_59 (G 65 2) (hU9 65 2 (by decide)) ?_
    refine g_aload_n F 0 dX4_staysQuiet_60 rfl rfl ?_
    refine xg_8_10 F i_X4 w_4 dX4_staysQuiet_61 (G 8 10) (hU9 8 10 (by decide)) ?_
    refine g_aload_n F 0 dX4_staysQuiet_64 rfl rfl ?_
    refine xg_8_11 F i_X4 w_5 dX4_staysQuiet_65 (G 8 11) (hU9 8 11 (by decide)) ?_
    have b16 : (0 : Int) ≤ (G 65 2).toInt ∧ (G 65 2).toInt ≤ 30000 := hI 65 2
    have b17 : (0 : Int) ≤ (G 8 10).toInt ∧ (G 8 10).toInt ≤ 300 := hI 8 10
    have b18 : (0 : Int) ≤ (G 8 11).toInt ∧ (G 8 11).toInt ≤ 300 := hI 8 11
    refine u_callVi (k := 0) (n := 0) (b := a 6) (As := [.ref (a 61), .int (G 65 2), .int (G 8 10), .int (G 8 11)]) (st := []) F (fun sz => S_X5_run_61 l D K a G7 (G 65 2) (G 65 2).toInt (G 8 10) (G 8 10).toInt (G 8 11) (G 8 11).toInt rfl (by omega) rfl (by omega) rfl (by omega) (by have e9_18_1 : G7 18 1 = (G 18 1) := hU9 18 1 (by decide); (try simp only [e9_18_1, true_and, and_true]) <;> (first | omega | (simp only [Int32.reduceToInt, true_and, and_true, ne_eq, not_true_eq_false, false_and, or_false, false_or, true_or, or_true, false_implies] <;> omega))) hI8 sz) (cwV 4 hts gX4_staysQuiet_X5_run rfl rfl rfl (by decide +kernel) ⟨Nat.le_of_ble_eq_true rfl, Nat.le_of_ble_eq_true rfl⟩) rfl 6 xc_6 rfl (Nat.le_of_ble_eq_true rfl) ⟨Nat.zero_le _, Nat.zero_le _⟩ dX4_staysQuiet_68 (fun r19 G21 hw20 => ?_)
    have hI22 : xI G21 := hw20.1
    have hU23 : gu_un xcd [608, 613, 614, 615, 616, 617, 618, 619, 620, 2100, 2400, 2700, 4400, 4500, 4600, 4700, 4800] G7 G21 := hw20.2.1
    have hp24 := hw20.2.2
    have q25 : (r19.toInt = -4 ∨ (0 ≤ r19.toInt ∧ r19.toInt ≤ 2)) := hp24.2.1
    have q26 : ((xTok G7 ∧ r19.toInt ≠ -4) → xOut G7 (G7 61) (G 65 2) (G 8 10) (G 8 11) G21 r19.toInt) := hp24.2.2.1
    have b27 : (4 : Int) ≤ (G 18 0).toInt ∧ (G 18 0).toInt ≤ 16 := hI 18 0
    have q28 : ((r19.toInt = -4 ∧ psMx (psHr (G 61) (G7 6 1).toInt (G 18 0).toInt) ((G 18 0).toInt - 1).toNat - (G7 6 3).toInt * (G7 6 4).toInt < 1) ∨ (r19.toInt ≠ -4 ∧ 1 ≤ psMx (psHr (G 61) (G7 6 1).toInt (G 18 0).toInt) ((G 18 0).toInt - 1).toNat - (G7 6 3).toInt * (G7 6 4).toInt)) := by have h9 := hp24.2.2.2; (try simp only [(show G7 18 0 = (G 18 0) from hU9 18 0 (by decide)), (show G7 18 0 = (G 18 0) from hU9 18 0 (by decide)), (show G7 18 0 = (G 18 0) from hU9 18 0 (by decide)), (show G7 18 0 = (G 18 0) from hU9 18 0 (by decide)), (show G7 61 = (G 61) from (show G7 61 = G 61 from funext fun k_ => hU9 61 k_ (show (6100 : Nat) ∉ ([602, 603, 604, 605] : List Nat) by decide))), (show G7 61 = (G 61) from (show G7 61 = G 61 from funext fun k_ => hU9 61 k_ (show (6100 : Nat) ∉ ([602, 603, 604, 605] : List Nat) by decide)))] at h9); first | exact h9 | omega
    have rg29 := hp24.1
    clear hp24 hw20
    refine v_if_eq F 76 dX4_staysQuiet_71 (by decide) r19.toInt rfl (fun c30 => ?_) (fun c30 => ?_)
    · refine g_aload_n F 0 dX4_staysQuiet_76 rfl rfl ?_
      refine xg_8_4 F i_X4 w_2 dX4_staysQuiet_77 ?_
      refine g_iload_n F 2 dX4_staysQuiet_80 rfl rfl ?_
      refine g_aald (b := a 61) F 58 1 xc_58 rfl (ti_in (show Int32.toInt 2 = 2 from rfl) (by decide) (by decide)) (by rw [show Int32.toNatClampNeg 2 = 2 from congrArg Int.toNat (show Int32.toInt 2 = 2 from rfl)]; rfl) dX4_staysQuiet_81 ?_
      refine g_iconst F 0 dX4_staysQuiet_82 (by decide) ?_
      refine g_aload_n F 0 dX4_staysQuiet_83 rfl rfl ?_
      refine xg_8_4 F i_X4 w_2 dX4_staysQuiet_84 ?_
      refine g_iload_n F 2 dX4_staysQuiet_87 rfl rfl ?_
      refine g_iconst F 1 dX4_staysQuiet_88 (by decide) ?_
      refine g_iadd F dX4_staysQuiet_89 ?_
      refine g_fold 3 (by decide) ?_
      refine g_aald (b := a 62) F 58 1 xc_58 rfl (ti_in (show Int32.toInt 3 = 3 from rfl) (by decide) (by decide)) (by rw [show Int32.toNatClampNeg 3 = 3 from congrArg Int.toNat (show Int32.toInt 3 = 3 from rfl)]; rfl) dX4_staysQuiet_90 ?_
      refine g_iconst F 0 dX4_staysQuiet_91 (by decide) ?_
      refine g_bipush F 96 dX4_staysQuiet_92 (by decide) ?_
      refine u_copyi F w_6 w_7 w_8 w_9 61 62 0 xc_61 xc_62 rfl 0 0 96 rfl rfl rfl (by decide) (by decide) (by decide) (by decide) (by decide) (Nat.le_of_ble_eq_true rfl) (Nat.le_of_ble_eq_true rfl) (xW K a (gu_st G21 62 (va_cpy (G21 61) (G21 62) 0 0 96))) (xs_62 _) dX4_staysQuiet_94 ?_
      refine g_aload_n F 0 dX4_staysQuiet_97 rfl rfl ?_
      refine xg_8_1 F i_X4 w_0 dX4_staysQuiet_98 ?_
      refine g_aload_n F 0 dX4_staysQuiet_101 rfl rfl ?_
      refine xg_8_4 F i_X4 w_2 dX4_staysQuiet_102 ?_
      refine g_iload_n F 2 dX4_staysQuiet_105 rfl rfl ?_
      refine g_iconst F 1 dX4_staysQuiet_106 (by decide) ?_
      refine g_iadd F dX4_staysQuiet_107 ?_
      refine g_fold 3 (by decide) ?_
      refine g_aald (b := a 62) F 58 1 xc_58 rfl (ti_in (show Int32.toInt 3 = 3 from rfl) (by decide) (by decide)) (by rw [show Int32.toNatClampNeg 3 = 3 from congrArg Int.toNat (show Int32.toInt 3 = 3 from rfl)]; rfl) dX4_staysQuiet_108 ?_
      refine u_callVv (k := 0) (n := 0) (b := a 6) (As := [.ref (a 62)]) (st := []) F (fun sz => S_X5_storeHeights_62 l D K a (gu_st G21 62 (va_cpy (G21 61) (G21 62) 0 0 96))  (by have e9_6_1 : (gu_st G21 62 (va_cpy (G21 61) (G21 62) 0 0 96)) 6 1 = (G7 6 1) := hU23 6 1 (by decide); (try simp only [e9_6_1, true_and, and_true]) <;> (first | omega | (simp only [Int32.reduceToInt, true_and, and_true, ne_eq, not_true_eq_false, false_and, or_false, false_or, true_or, or_true, false_implies] <;> omega))) (gu_I.cpy (j := 62) (f := G21 61) (sp := 0) (dp := 0) hI22 (fun k_ => hI22 61 (0 + k_))) sz) (cwV 1 hts gX4_staysQuiet_X5_storeHeights rfl rfl rfl (by decide +kernel) ⟨Nat.le_of_ble_eq_true rfl, Nat.le_of_ble_eq_true rfl⟩) rfl 6 xc_6 rfl (Nat.le_of_ble_eq_true rfl) ⟨Nat.zero_le _, Nat.zero_le _⟩ dX4_staysQuiet_109 (fun G33 hw32 => ?_)
      have hI34 : xI G33 := hw32.1
      have hU35 : gu_un xcd [6200] (gu_st G21 62 (va_cpy (G21 61) (G21 62) 0 0 96)) G33 := hw32.2.1
      have hp36 := hw32.2.2
      have q37 : (∀ q : Nat, G33 62 q = sHr ((gu_st G21 62 (va_cpy (G21 61) (G21 62) 0 0 96)) 62) (G21 45) (G7 6 1).toInt (G 18 0).toInt q) := by have h9 := hp36; (try simp only [(show (gu_st G21 62 (va_cpy (G21 61) (G21 62) 0 0 96)) 6 1 = (G7 6 1) from hU23 6 1 (by decide)), (show (gu_st G21 62 (va_cpy (G21 61) (G21 62) 0 0 96)) 18 0 = (G 18 0) from (hU23 18 0 (by decide)).trans (hU9 18 0 (by decide)))] at h9); first | exact h9 | omega
      clear hp36 hw32
      refine g_aload_n F 0 dX4_staysQuiet_112 rfl rfl ?_
      refine xg_8_5 F i_X4 w_3 dX4_staysQuiet_113 ?_
      refine g_iload_n F 2 dX4_staysQuiet_116 rfl rfl ?_
      refine g_iconst F 1 dX4_staysQuiet_117 (by decide) ?_
      refine g_iadd F dX4_staysQuiet_118 ?_
      refine g_fold 3 (by decide) ?_
      refine g_aload_n F 0 dX4_staysQuiet_119 rfl rfl ?_
      refine xg_8_1 F i_X4 w_0 dX4_staysQuiet_120 ?_
      refine xg_6_12 F i_X5 w_10 dX4_staysQuiet_123 (G21 6 12) (hU35 6 12 (by decide)) ?_
      have b38 : (0 : Int) ≤ (G21 6 12).toInt ∧ (G21 6 12).toInt ≤ 30000 := hI22 6 12
      refine u_iast F 65 0 xc_65 rfl 3 rfl (by decide) (by decide) (xW K a (gu_up G33 65 3 (G21 6 12))) (xs_65 _) dX4_staysQuiet_126 ?_
      refine g_iconst F 1 dX4_staysQuiet_127 (by decide) ?_
      exact u_zret F hA hQ hr rfl (gu_up G33 65 3 (G21 6 12)) (⟨(gu_I.up (j := 65) (k := 3) (v := (G21 6 12)) hI34 (show (0 : Int) ≤ Int32.toInt (G21 6 12) by omega) (show Int32.toInt (G21 6 12) ≤ 30000 by omega)), (gu_un.up (j := 65) (k := 3) (v := (G21 6 12)) (gu_un.tr (gu_un.sw (j := 62) (f := (va_cpy (G21 61) (G21 62) 0 0 96)) (gu_un.tr (gu_un.tr gu_un.rf (gu_un.su hU9 rfl)) (gu_un.su hU23 rfl)) (fun _ => show (6200 : Nat) ∈ ([602, 603, 604, 605, 608, 613, 614, 615, 616, 617, 618, 619, 620, 2100, 2400, 2700, 4400, 4500, 4600, 4700, 4800, 6200, 6500] : List Nat) by decide)) (gu_un.su hU35 rfl)) (show (6500 : Nat) ∈ ([602, 603, 604, 605, 608, 613, 614, 615, 616, 617, 618, 619, 620, 2100, 2400, 2700, 4400, 4500, 4600, 4700, 4800, 6200, 6500] : List Nat) by decide)), (by decide)⟩) rfl rfl dX4_staysQuiet_128
    · refine g_iconst F 0 dX4_staysQuiet_74 (by decide) ?_
      exact u_zret F hA hQ hr rfl G21 (⟨hI22, (gu_un.tr (gu_un.tr gu_un.rf (gu_un.su hU9 rfl)) (gu_un.su hU23 rfl)), (by decide)⟩) rfl rfl dX4_staysQuiet_75
  · have b39 : (1 : Int) ≤ (G 18 1).toInt ∧ (G 18 1).toInt ≤ 6 := hI 18 1
    have q13 : ¬ (0 ≤ y1.toInt ∧ y1.toInt < (G 18 1).toInt ∧ 1 ≤ y2.toInt ∧ y2.toInt ≤ 9 ∧ 1 ≤ y3.toInt ∧ y3.toInt ≤ 20 ∧ 1 ≤ y4.toInt ∧ y4.toInt ≤ 12) := by have h9 := q13; (try simp only [(show G7 18 1 = (G 18 1) from hU9 18 1 (by decide))] at h9); exact h9
    refine v_if_ne F 44 dX4_staysQuiet_39 (by decide) 0 rfl (fun c40 => absurd c40 (by decide)) (fun c40 => ?_)
    refine g_iconst F 0 dX4_staysQuiet_42 (by decide) ?_
    exact u_zret F hA hQ hr rfl G7 (⟨hI8, (gu_un.tr gu_un.rf (gu_un.su hU9 rfl)), (by decide)⟩) rfl rfl dX4_staysQuiet_43


set_option maxHeartbeats 4000000 in
set_option maxRecDepth 100000 in
theorem S_X5_least_62 (l : Launch) (D : va_G) (K : Nat → ClassId) (a : Nat → Nat) (G : gS) (p1 : Int32) (s1 : Int) (p2 : Int32) (s2 : Int) (e1 : p1.toInt = s1) (h1 : 0 ≤ s1 ∧ s1 ≤ 80) (e2 : p2.toInt = s2) (h2 : 1 ≤ s2 ∧ s2 ≤ 16) (hI : xI G) (sz : Nat) : Ki l yX5_least wsX5_least 1 40 0 0 D [.ref (a 62), .int p1, .int p2] (xW K a G) (tK K) sz (fun (r : Int32) (_ : Unit) => ((-9998) ≤ r.toInt ∧ r.toInt ≤ 1000000) ∧ ((0 ≤ s1 ∧ 1 ≤ s2 ∧ s1 + s2 ≤ 96 → r.toInt = psMn (fun q => (G 62) (s1.toNat + q)) (s2 - 1).toNat))) (fun (_ : Unit) => (xW K a G)) (fun _ => (tK K)) := by
  unfold Ki
  refine g_ofW (cc := cX5_least) (lv := [(0, .ref (a 62)), (1, .int p1), (2, .int p2)]) (by decide) rfl (Nat.le_of_ble_eq_true rfl) rfl ?_
  intro p e s m args below meth c A Q hA hQ F hr hnm
  have hts := F.2.2.2.2.1
  have w_0 : (Cond.methodLink RX5 159 Lib.Math.min.name).before args s = true := hts _ (List.mem_of_getElem? (i := 2) rfl)
  have w_1 : (Cond.static Lib.Math.min.name).before args s = true := hts _ (List.mem_of_getElem? (i := 3) rfl)
  have w_2 : (Cond.initialized "java/lang/Math").before args s = true := hts _ (List.mem_of_getElem? (i := 4) rfl)
  have w_3 : (Cond.code Lib.Math.min.name Lib.Math.min.code 2 (some .int)).before args s = true := hts _ (List.mem_of_getElem? (i := 5) rfl)
  have w_4 : (Cond.constant RX5 163 (1000000)).before args s = true := hts _ (List.mem_of_getElem? (i := 1) rfl)
  have J_6 : ∀ (fuel : Nat) (x6_3 : Int32) (x6_4 : Int32), (2147483647 - x6_4.toInt).toNat < fuel → ((-9998) ≤ x6_3.toInt ∧ x6_3.toInt ≤ 1000000) → (0 ≤ x6_4.toInt ∧ x6_4.toInt ≤ 96) → ((0 ≤ s1 → s1 ≤ x6_4.toInt ∧ ((x6_4.toInt = s1 ∧ x6_3.toInt = 1000000) ∨ (s1 + 1 ≤ x6_4.toInt ∧ x6_3.toInt = psMn (fun q => ((G 62)) (s1.toNat + q)) (x6_4.toInt - 1 - s1).toNat)))) → ((s1 < 0 ∨ s2 < 1 ∨ 96 < s1 + s2 ∨ x6_4.toInt ≤ s1 + s2)) → gG p l e (gR 1 0 0 40) s m args below meth c D A 5 Q 0 0 (xW K a G) (tK K) [(0, .ref (a 62)), (1, .int p1), (2, .int p2), (3, .int x6_3), (4, .int x6_4)] 6 [] := by
    intro fuel
    induction fuel with
    | zero => intro x6_3 x6_4 hm; exact absurd hm (Nat.not_lt_zero _)
    | succ fuel_6 ih_6 =>
      intro x6_3 x6_4 hm_6 h6_3 h6_4 lm ib
      refine g_iload F 4 dX5_least_6 rfl ?_
      refine g_iload_n F 1 dX5_least_8 rfl rfl ?_
      refine g_iload_n F 2 dX5_least_9 rfl rfl ?_
      refine u_iadd F dX5_least_10 s1 s2 e1 e2 (by omega) (by omega) (fun y1 ey1 => ?_)
      refine v_icmp_ge F 41 dX5_least_11 (by decide) x6_4.toInt y1.toInt rfl rfl (fun c2 => ?_) (fun c2 => ?_)
      · refine g_iload_n F 3 dX5_least_41 rfl rfl ?_
        exact u_iret F hA hQ hr () (⟨(by have h9 := ti_rng x6_3; omega), (fun h9 => by rcases (lm h9.1).2 with ⟨g1, g2⟩ | ⟨g1, g2⟩ <;> first | (exfalso; omega) | (rw [g2, show x6_4.toInt - 1 - s1 = s2 - 1 by omega]))⟩) rfl rfl dX5_least_42
      · refine g_iload F 4 dX5_least_14 rfl ?_
        refine v_if_lt F 41 dX5_least_16 (by decide) x6_4.toInt rfl (fun c3 => absurd c3 (by omega)) (fun c3 => ?_)
        refine g_iload F 4 dX5_least_19 rfl ?_
        refine g_aload_n F 0 dX5_least_21 rfl rfl ?_
        refine g_alen F 62 0 xc_62 rfl 96 rfl dX5_least_22 ?_
        refine v_icmp_ge F 41 dX5_least_23 (by decide) x6_4.toInt 96 rfl rfl (fun c4 => absurd c4 (by omega)) (fun c4 => ?_)
        refine g_iload_n F 3 dX5_least_26 rfl rfl ?_
        refine g_aload_n F 0 dX5_least_27 rfl rfl ?_
        refine g_iload F 4 dX5_least_28 rfl ?_
        refine u1_iald F 62 0 xc_62 rfl x6_4.toInt rfl (by omega) (by omega) dX5_least_30 ((G 62) (x6_4.toInt).toNat) (rfl) ?_
        have b5 : ((-9998) : Int) ≤ ((G 62) (x6_4.toInt).toNat).toInt ∧ ((G 62) (x6_4.toInt).toNat).toInt ≤ 5000 := hI 62 _
        refine u_mmin F w_0 w_1 w_2 w_3 (Nat.le_of_ble_eq_true rfl) (Nat.le_of_ble_eq_true rfl) (Nat.le_of_ble_eq_true rfl) (Nat.le_of_ble_eq_true rfl) dX5_least_31 x6_3.toInt ((G 62) (x6_4.toInt).toNat).toInt rfl rfl (fun y6 ey6 => ?_)
        refine g_istore_n F [(3, .int y6), (0, .ref (a 62)), (1, .int p1), (2, .int p2), (4, .int x6_4)] dX5_least_34 rfl (by decide) rfl ?_
        refine u_iinc F (fun v_ => [(4, .int v_), (3, .int y6), (0, .ref (a 62)), (1, .int p1), (2, .int p2)]) dX5_least_35 (j := 4) rfl x6_4.toInt 1 rfl rfl (by omega) (by omega) (by decide) (fun _ => rfl) (fun y7 ey7 => ?_)
        refine g_goto F 6 dX5_least_38 (by decide) ?_
        refine g_locals [(0, .ref (a 62)), (1, .int p1), (2, .int p2), (3, .int y6), (4, .int y7)] [2, 3, 4, 1, 0] rfl ?_
        exact ih_6 y6 y7 (by omega) (by have h9 := ti_rng y6; omega) (by have h9 := ti_rng y7; omega) (fun h0 => ⟨by have h9 := (lm h0).1; omega, psMn_go (i := x6_4.toInt) (m := x6_3.toInt) h0 (lm h0).1 (by omega) (lm h0).2 (by omega) (by omega)⟩) (by first | omega | (simp only [Int32.reduceToInt, true_and, and_true, ne_eq, not_true_eq_false, false_and, or_false, false_or, true_or, or_true, false_implies] <;> omega))
  refine g_ldc F w_4 dX5_least_0 ?_
  refine g_istore_n F [(3, .int 1000000), (0, .ref (a 62)), (1, .int p1), (2, .int p2)] dX5_least_2 rfl (by decide) rfl ?_
  refine g_iload_n F 2 dX5_least_3 rfl rfl ?_
  refine g_istore F [(4, .int p1), (3, .int 1000000), (0, .ref (a 62)), (1, .int p1), (2, .int p2)] dX5_least_4 (by decide) rfl ?_
  refine g_locals [(0, .ref (a 62)), (1, .int p1), (2, .int p2), (3, .int 1000000), (4, .int p1)] [2, 3, 4, 1, 0] rfl ?_
  exact J_6 _ 1000000 p1 (Nat.lt_succ_self _) (by decide) (by have h9 := ti_rng p1; omega) (fun h0 => ⟨by omega, Or.inl ⟨by omega, by decide⟩⟩) (by first | omega | (simp only [Int32.reduceToInt, true_and, and_true, ne_eq, not_true_eq_false, false_and, or_false, false_or, true_or, or_true, false_implies] <;> omega))


set_option maxHeartbeats 4000000 in
set_option maxRecDepth 100000 in
theorem S_X5_gapIn_62 (l : Launch) (D : va_G) (K : Nat → ClassId) (a : Nat → Nat) (G : gS) (p1 : Int32) (s1 : Int) (e1 : p1.toInt = s1) (h1 : (-9998) ≤ s1 ∧ s1 ≤ 5000) (hrg : (0 ≤ (G 6 1).toInt ∧ (G 6 1).toInt ≤ 5)) (rgn : ((G 6 1).toInt < (G 18 1).toInt)) (hI : xI G) (sz : Nat) : Ki l yX5_gapIn wsX5_gapIn 2 64 0 0 D [.ref (a 6), .ref (a 62), .int p1] (xW K a G) (tK K) sz (fun (r : Int32) (_ : Unit) => ((-9998) ≤ r.toInt ∧ r.toInt ≤ 1000000) ∧ ((r.toInt = psGa (G 62) (G 6 1).toInt (G 18 1).toInt (G 18 0).toInt s1))) (fun (_ : Unit) => (xW K a G)) (fun _ => (tK K)) := by
  unfold Ki
  refine g_ofW (cc := cX5_gapIn) (lv := [(0, .ref (a 6)), (1, .ref (a 62)), (2, .int p1)]) (by decide) rfl (Nat.le_of_ble_eq_true rfl) rfl ?_
  intro p e s m args below meth c A Q hA hQ F hr hnm
  have hts := F.2.2.2.2.1
  have w_0 : (Cond.fieldLink RX5 29 "QuietCut$Lathe" "shop" "LQuietCut$Shop;").before args s = true := hts _ (List.mem_of_getElem? (i := 1) rfl)
  have i_X5 : ∀ w ∈ u_ws RX5 TX5 20, w ∈ wsX5_gapIn := fun _ h => List.mem_cons_of_mem _ (List.mem_append_left _ (List.mem_append_right _ h))
  have w_1 : (Cond.fieldLink RX5 56 "QuietCut$Shop" "numbers" "[I").before args s = true := hts _ (List.mem_of_getElem? (i := 2) rfl)
  have i_X7 : ∀ w ∈ u_ws RX7 TX7 4, w ∈ wsX5_gapIn := fun _ h => List.mem_cons_of_mem _ (List.mem_append_right _ h)
  have w_2 : (Cond.fieldLink RX5 33 "QuietCut$Lathe" "ring" "I").before args s = true := hts _ (List.mem_of_getElem? (i := 3) rfl)
  have w_3 : (Cond.methodLink RX5 159 Lib.Math.min.name).before args s = true := hts _ (List.mem_of_getElem? (i := 4) rfl)
  have w_4 : (Cond.static Lib.Math.min.name).before args s = true := hts _ (List.mem_of_getElem? (i := 5) rfl)
  have w_5 : (Cond.initialized "java/lang/Math").before args s = true := hts _ (List.mem_of_getElem? (i := 6) rfl)
  have w_6 : (Cond.code Lib.Math.min.name Lib.Math.min.code 2 (some .int)).before args s = true := hts _ (List.mem_of_getElem? (i := 7) rfl)
  have b1 : (4 : Int) ≤ (G 18 0).toInt ∧ (G 18 0).toInt ≤ 16 := hI 18 0
  have b2 : (1 : Int) ≤ (G 18 1).toInt ∧ (G 18 1).toInt ≤ 6 := hI 18 1
  refine g_aload_n F 0 dX5_gapIn_0 rfl rfl ?_
  refine xg_6_0 F i_X5 w_0 dX5_gapIn_1 ?_
  refine xg_2_0 F i_X7 w_1 dX5_gapIn_4 ?_
  refine g_iconst F 0 dX5_gapIn_7 (by decide) ?_
  refine u1_iald F 18 0 xc_18 rfl 0 rfl (by decide) (by decide) dX5_gapIn_8 (G 18 0) (rfl) ?_
  refine g_istore_n F [(3, .int (G 18 0)), (0, .ref (a 6)), (1, .ref (a 62)), (2, .int p1)] dX5_gapIn_9 rfl (by decide) rfl ?_
  refine g_aload_n F 1 dX5_gapIn_10 rfl rfl ?_
  refine xg_6_0 F i_X5 w_0 dX5_gapIn_11 ?_
  refine g_aload_n F 1 dX5_gapIn_14 rfl rfl ?_
  refine xg_6_1 F i_X5 w_2 dX5_gapIn_15 (G 6 1) (rfl) ?_
  refine g_iconst F 1 dX5_gapIn_18 (by decide) ?_
  refine u_isub F dX5_gapIn_19 (G 6 1).toInt 1 rfl rfl (by omega) (by omega) (fun y3 ey3 => ?_)
  refine u_callVi (k := 0) (n := 0) (b := a 2) (As := [.int y3]) (st := []) F (fun sz => S_X7_hasRing_2 l D K a G y3 y3.toInt rfl hI sz) (cwV 1 hts gX5_gapIn_X7_hasRing rfl rfl rfl (by decide +kernel) ⟨Nat.le_of_ble_eq_true rfl, Nat.le_of_ble_eq_true rfl⟩) rfl 2 xc_2 rfl (Nat.le_of_ble_eq_true rfl) ⟨Nat.zero_le _, Nat.zero_le _⟩ dX5_gapIn_20 (fun r4 _ hw5 => ?_)
  rcases hw5 with ⟨rfl, q7⟩ | ⟨rfl, q8⟩
  · have q7 : (0 ≤ y3.toInt ∧ y3.toInt < (G 18 1).toInt) := q7
    refine g_istore F [(4, .int 1), (3, .int (G 18 0)), (0, .ref (a 6)), (1, .ref (a 62)), (2, .int p1)] dX5_gapIn_23 (by decide) rfl ?_
    refine g_aload_n F 2 dX5_gapIn_25 rfl rfl ?_
    refine xg_6_0 F i_X5 w_0 dX5_gapIn_26 ?_
    refine g_aload_n F 2 dX5_gapIn_29 rfl rfl ?_
    refine xg_6_1 F i_X5 w_2 dX5_gapIn_30 (G 6 1) (rfl) ?_
    refine g_iconst F 1 dX5_gapIn_33 (by decide) ?_
    refine u_iadd F dX5_gapIn_34 (G 6 1).toInt 1 rfl rfl (by omega) (by omega) (fun y9 ey9 => ?_)
    refine u_callVi (k := 0) (n := 0) (b := a 2) (As := [.int y9]) (st := []) F (fun sz => S_X7_hasRing_2 l D K a G y9 y9.toInt rfl hI sz) (cwV 1 hts gX5_gapIn_X7_hasRing rfl rfl rfl (by decide +kernel) ⟨Nat.le_of_ble_eq_true rfl, Nat.le_of_ble_eq_true rfl⟩) rfl 2 xc_2 rfl (Nat.le_of_ble_eq_true rfl) ⟨Nat.zero_le _, Nat.zero_le _⟩ dX5_gapIn_35 (fun r10 _ hw11 => ?_)
    rcases hw11 with ⟨rfl, q13⟩ | ⟨rfl, q14⟩
    · have q13 : (0 ≤ y9.toInt ∧ y9.toInt < (G 18 1).toInt) := q13
      refine g_istore F [(5, .int 1), (4, .int 1), (3, .int (G 18 0)), (0, .ref (a 6)), (1, .ref (a 62)), (2, .int p1)] dX5_gapIn_38 (by decide) rfl ?_
      refine g_iload F 1 dX5_gapIn_40 rfl ?_
      refine v_if_eq F 63 dX5_gapIn_42 (by decide) 1 rfl (fun c15 => absurd c15 (by decide)) (fun c15 => ?_)
      refine g_aload_n F 4 dX5_gapIn_45 rfl rfl ?_
      refine g_aload_n F 3 dX5_gapIn_46 rfl rfl ?_
      refine xg_6_1 F i_X5 w_2 dX5_gapIn_47 (G 6 1) (rfl) ?_
      refine g_iconst F 1 dX5_gapIn_50 (by decide) ?_
      refine u_isub F dX5_gapIn_51 (G 6 1).toInt 1 rfl rfl (by omega) (by omega) (fun y16 ey16 => ?_)
      refine g_iconst F 0 dX5_gapIn_52 (by decide) ?_
      refine u_call0 (k := 0) (n := 0) (As := [.int y16, .int 0]) (st := [.ref (a 62)]) F (fun sz => S_X6_placeOf_b6_b15 l D y16 y16.toInt 0 0 rfl (by omega) rfl (by decide) sz) (va_cwS 2 hts gX5_gapIn_X6_placeOf rfl rfl rfl (by decide +kernel) ⟨Nat.le_of_ble_eq_true rfl, Nat.le_of_ble_eq_true rfl⟩) rfl (Nat.le_of_ble_eq_true rfl) ⟨Nat.zero_le _, Nat.zero_le _⟩ dX5_gapIn_53 (fun r17 _ hw18 => ?_)
      have rg20 := hw18.1
      have rg21 := hw18.2
      clear hw18
      refine g_iload_n F 2 dX5_gapIn_56 rfl rfl ?_
      refine u_callSi (k := 0) (n := 0) (As := [.ref (a 62), .int r17, .int (G 18 0)]) (st := []) F (fun sz => S_X5_least_62 l D K a G r17 r17.toInt (G 18 0) (G 18 0).toInt rfl (by omega) rfl (by omega) hI sz) (va_cwS 3 hts gX5_gapIn_X5_least rfl rfl rfl (by decide +kernel) ⟨Nat.le_of_ble_eq_true rfl, Nat.le_of_ble_eq_true rfl⟩) rfl (Nat.le_of_ble_eq_true rfl) ⟨Nat.zero_le _, Nat.zero_le _⟩ dX5_gapIn_57 (fun r22 _ hw23 => ?_)
      have q25 : (0 ≤ r17.toInt ∧ 1 ≤ (G 18 0).toInt ∧ r17.toInt + (G 18 0).toInt ≤ 96 → r22.toInt = psMn (fun q => (G 62) (r17.toInt.toNat + q)) ((G 18 0).toInt - 1).toNat) := hw23.2
      have rg26 := hw23.1
      clear hw23
      refine g_goto F 64 dX5_gapIn_60 (by decide) ?_
      refine g_istore F [(6, .int r22), (5, .int 1), (4, .int 1), (3, .int (G 18 0)), (0, .ref (a 6)), (1, .ref (a 62)), (2, .int p1)] dX5_gapIn_64 (by decide) rfl ?_
      refine g_iload F 1 dX5_gapIn_66 rfl ?_
      refine v_if_eq F 89 dX5_gapIn_68 (by decide) 1 rfl (fun c27 => absurd c27 (by decide)) (fun c27 => ?_)
      refine g_aload_n F 5 dX5_gapIn_71 rfl rfl ?_
      refine g_aload_n F 4 dX5_gapIn_72 rfl rfl ?_
      refine xg_6_1 F i_X5 w_2 dX5_gapIn_73 (G 6 1) (rfl) ?_
      refine g_iconst F 1 dX5_gapIn_76 (by decide) ?_
      refine u_iadd F dX5_gapIn_77 (G 6 1).toInt 1 rfl rfl (by omega) (by omega) (fun y28 ey28 => ?_)
      refine g_iconst F 0 dX5_gapIn_78 (by decide) ?_
      refine u_call0 (k := 0) (n := 0) (As := [.int y28, .int 0]) (st := [.ref (a 62)]) F (fun sz => S_X6_placeOf_b6_b15 l D y28 y28.toInt 0 0 rfl (by omega) rfl (by decide) sz) (va_cwS 2 hts gX5_gapIn_X6_placeOf rfl rfl rfl (by decide +kernel) ⟨Nat.le_of_ble_eq_true rfl, Nat.le_of_ble_eq_true rfl⟩) rfl (Nat.le_of_ble_eq_true rfl) ⟨Nat.zero_le _, Nat.zero_le _⟩ dX5_gapIn_79 (fun r29 _ hw30 => ?_)
      have rg32 := hw30.1
      have rg33 := hw30.2
      clear hw30
      refine g_iload_n F 3 dX5_gapIn_82 rfl rfl ?_
      refine u_callSi (k := 0) (n := 0) (As := [.ref (a 62), .int r29, .int (G 18 0)]) (st := []) F (fun sz => S_X5_least_62 l D K a G r29 r29.toInt (G 18 0) (G 18 0).toInt rfl (by omega) rfl (by omega) hI sz) (va_cwS 3 hts gX5_gapIn_X5_least rfl rfl rfl (by decide +kernel) ⟨Nat.le_of_ble_eq_true rfl, Nat.le_of_ble_eq_true rfl⟩) rfl (Nat.le_of_ble_eq_true rfl) ⟨Nat.zero_le _, Nat.zero_le _⟩ dX5_gapIn_83 (fun r34 _ hw35 => ?_)
      have q37 : (0 ≤ r29.toInt ∧ 1 ≤ (G 18 0).toInt ∧ r29.toInt + (G 18 0).toInt ≤ 96 → r34.toInt = psMn (fun q => (G 62) (r29.toInt.toNat + q)) ((G 18 0).toInt - 1).toNat) := hw35.2
      have rg38 := hw35.1
      clear hw35
      refine g_goto F 90 dX5_gapIn_86 (by decide) ?_
      refine g_istore F [(7, .int r34), (6, .int r22), (5, .int 1), (4, .int 1), (3, .int (G 18 0)), (0, .ref (a 6)), (1, .ref (a 62)), (2, .int p1)] dX5_gapIn_90 (by decide) rfl ?_
      refine g_iload F 3 dX5_gapIn_92 rfl ?_
      refine v_if_eq F 110 dX5_gapIn_94 (by decide) 1 rfl (fun c39 => absurd c39 (by decide)) (fun c39 => ?_)
      refine g_iload F 2 dX5_gapIn_97 rfl ?_
      refine v_if_eq F 110 dX5_gapIn_99 (by decide) 1 rfl (fun c40 => absurd c40 (by decide)) (fun c40 => ?_)
      refine g_iload F 1 dX5_gapIn_102 rfl ?_
      refine g_iload F 0 dX5_gapIn_104 rfl ?_
      refine u_mmin F w_3 w_4 w_5 w_6 (Nat.le_of_ble_eq_true rfl) (Nat.le_of_ble_eq_true rfl) (Nat.le_of_ble_eq_true rfl) (Nat.le_of_ble_eq_true rfl) dX5_gapIn_106 r22.toInt r34.toInt rfl rfl (fun y41 ey41 => ?_)
      exact u_iret F hA hQ hr () (⟨(by have h9 := ti_rng y41; omega), (by have h1 := q25 ⟨by omega, by omega, by omega⟩; rw [show r17.toInt = 16 * ((G 6 1).toInt - 1) by omega] at h1; have h2 := q37 ⟨by omega, by omega, by omega⟩; rw [show r29.toInt = 16 * ((G 6 1).toInt + 1) by omega] at h2; unfold psGa; rw [if_pos (by omega), if_pos (by omega), ← h1, ← h2]; omega)⟩) rfl rfl dX5_gapIn_109
    · have q14 : (y9.toInt < 0 ∨ (G 18 1).toInt ≤ y9.toInt) := q14
      refine g_istore F [(5, .int 0), (4, .int 1), (3, .int (G 18 0)), (0, .ref (a 6)), (1, .ref (a 62)), (2, .int p1)] dX5_gapIn_38 (by decide) rfl ?_
      refine g_iload F 1 dX5_gapIn_40 rfl ?_
      refine v_if_eq F 63 dX5_gapIn_42 (by decide) 1 rfl (fun c42 => absurd c42 (by decide)) (fun c42 => ?_)
      refine g_aload_n F 4 dX5_gapIn_45 rfl rfl ?_
      refine g_aload_n F 3 dX5_gapIn_46 rfl rfl ?_
      refine xg_6_1 F i_X5 w_2 dX5_gapIn_47 (G 6 1) (rfl) ?_
      refine g_iconst F 1 dX5_gapIn_50 (by decide) ?_
      refine u_isub F dX5_gapIn_51 (G 6 1).toInt 1 rfl rfl (by omega) (by omega) (fun y43 ey43 => ?_)
      refine g_iconst F 0 dX5_gapIn_52 (by decide) ?_
      refine u_call0 (k := 0) (n := 0) (As := [.int y43, .int 0]) (st := [.ref (a 62)]) F (fun sz => S_X6_placeOf_b6_b15 l D y43 y43.toInt 0 0 rfl (by omega) rfl (by decide) sz) (va_cwS 2 hts gX5_gapIn_X6_placeOf rfl rfl rfl (by decide +kernel) ⟨Nat.le_of_ble_eq_true rfl, Nat.le_of_ble_eq_true rfl⟩) rfl (Nat.le_of_ble_eq_true rfl) ⟨Nat.zero_le _, Nat.zero_le _⟩ dX5_gapIn_53 (fun r44 _ hw45 => ?_)
      have rg47 := hw45.1
      have rg48 := hw45.2
      clear hw45
      refine g_iload_n F 2 dX5_gapIn_56 rfl rfl ?_
      refine u_callSi (k := 0) (n := 0) (As := [.ref (a 62), .int r44, .int (G 18 0)]) (st := []) F (fun sz => S_X5_least_62 l D K a G r44 r44.toInt (G 18 0) (G 18 0).toInt rfl (by omega) rfl (by omega) hI sz) (va_cwS 3 hts gX5_gapIn_X5_least rfl rfl rfl (by decide +kernel) ⟨Nat.le_of_ble_eq_true rfl, Nat.le_of_ble_eq_true rfl⟩) rfl (Nat.le_of_ble_eq_true rfl) ⟨Nat.zero_le _, Nat.zero_le _⟩ dX5_gapIn_57 (fun r49 _ hw50 => ?_)
      have q52 : (0 ≤ r44.toInt ∧ 1 ≤ (G 18 0).toInt ∧ r44.toInt + (G 18 0).toInt ≤ 96 → r49.toInt = psMn (fun q => (G 62) (r44.toInt.toNat + q)) ((G 18 0).toInt - 1).toNat) := hw50.2
      have rg53 := hw50.1
      clear hw50
      refine g_goto F 64 dX5_gapIn_60 (by decide) ?_
      refine g_istore F [(6, .int r49), (5, .int 0), (4, .int 1), (3, .int (G 18 0)), (0, .ref (a 6)), (1, .ref (a 62)), (2, .int p1)] dX5_gapIn_64 (by decide) rfl ?_
      refine g_iload F 1 dX5_gapIn_66 rfl ?_
      refine v_if_eq F 89 dX5_gapIn_68 (by decide) 0 rfl (fun c54 => ?_) (fun c54 => absurd c54 (by decide))
      refine g_iload_n F 6 dX5_gapIn_89 rfl rfl ?_
      refine g_istore F [(7, .int p1), (6, .int r49), (5, .int 0), (4, .int 1), (3, .int (G 18 0)), (0, .ref (a 6)), (1, .ref (a 62)), (2, .int p1)] dX5_gapIn_90 (by decide) rfl ?_
      refine g_iload F 3 dX5_gapIn_92 rfl ?_
      refine v_if_eq F 110 dX5_gapIn_94 (by decide) 1 rfl (fun c55 => absurd c55 (by decide)) (fun c55 => ?_)
      refine g_iload F 2 dX5_gapIn_97 rfl ?_
      refine v_if_eq F 110 dX5_gapIn_99 (by decide) 0 rfl (fun c56 => ?_) (fun c56 => absurd c56 (by decide))
      refine g_iload F 3 dX5_gapIn_110 rfl ?_
      refine v_if_eq F 120 dX5_gapIn_112 (by decide) 1 rfl (fun c57 => absurd c57 (by decide)) (fun c57 => ?_)
      refine g_iload F 1 dX5_gapIn_115 rfl ?_
      refine g_goto F 122 dX5_gapIn_117 (by decide) ?_
      exact u_iret F hA hQ hr () (⟨(by have h9 := ti_rng r49; omega), (by first | (have h1 := q52 ⟨by omega, by omega, by omega⟩; rw [show r44.toInt = 16 * ((G 6 1).toInt - 1) by omega] at h1; unfold psGa; rw [if_pos (by omega), if_neg (by omega), ← h1]; done) | (have h1 := q52 ⟨by omega, by omega, by omega⟩; rw [show r44.toInt = 16 * ((G 6 1).toInt + 1) by omega] at h1; unfold psGa; rw [if_neg (by omega), if_pos (by omega), ← h1]; done))⟩) rfl rfl dX5_gapIn_122
  · have q8 : (y3.toInt < 0 ∨ (G 18 1).toInt ≤ y3.toInt) := q8
    refine g_istore F [(4, .int 0), (3, .int (G 18 0)), (0, .ref (a 6)), (1, .ref (a 62)), (2, .int p1)] dX5_gapIn_23 (by decide) rfl ?_
    refine g_aload_n F 2 dX5_gapIn_25 rfl rfl ?_
    refine xg_6_0 F i_X5 w_0 dX5_gapIn_26 ?_
    refine g_aload_n F 2 dX5_gapIn_29 rfl rfl ?_
    refine xg_6_1 F i_X5 w_2 dX5_gapIn_30 (G 6 1) (rfl) ?_
    refine g_iconst F 1 dX5_gapIn_33 (by decide) ?_
    refine u_iadd F dX5_gapIn_34 (G 6 1).toInt 1 rfl rfl (by omega) (by omega) (fun y58 ey58 => ?_)
    refine u_callVi (k := 0) (n := 0) (b := a 2) (As := [.int y58]) (st := []) F (fun sz => S_X7_hasRing_2 l D K a G y58 y58.toInt rfl hI sz) (cwV 1 hts gX5_gapIn_X7_hasRing rfl rfl rfl (by decide +kernel) ⟨Nat.le_of_ble_eq_true rfl, Nat.le_of_ble_eq_true rfl⟩) rfl 2 xc_2 rfl (Nat.le_of_ble_eq_true rfl) ⟨Nat.zero_le _, Nat.zero_le _⟩ dX5_gapIn_35 (fun r59 _ hw60 => ?_)
    rcases hw60 with ⟨rfl, q62⟩ | ⟨rfl, q63⟩
    · have q62 : (0 ≤ y58.toInt ∧ y58.toInt < (G 18 1).toInt) := q62
      refine g_istore F [(5, .int 1), (4, .int 0), (3, .int (G 18 0)), (0, .ref (a 6)), (1, .ref (a 62)), (2, .int p1)] dX5_gapIn_38 (by decide) rfl ?_
      refine g_iload F 1 dX5_gapIn_40 rfl ?_
      refine v_if_eq F 63 dX5_gapIn_42 (by decide) 0 rfl (fun c64 => ?_) (fun c64 => absurd c64 (by decide))
      refine g_iload_n F 5 dX5_gapIn_63 rfl rfl ?_
      refine g_istore F [(6, .int p1), (5, .int 1), (4, .int 0), (3, .int (G 18 0)), (0, .ref (a 6)), (1, .ref (a 62)), (2, .int p1)] dX5_gapIn_64 (by decide) rfl ?_
      refine g_iload F 1 dX5_gapIn_66 rfl ?_
      refine v_if_eq F 89 dX5_gapIn_68 (by decide) 1 rfl (fun c65 => absurd c65 (by decide)) (fun c65 => ?_)
      refine g_aload_n F 5 dX5_gapIn_71 rfl rfl ?_
      refine g_aload_n F 4 dX5_gapIn_72 rfl rfl ?_
      refine xg_6_1 F i_X5 w_2 dX5_gapIn_73 (G 6 1) (rfl) ?_
      refine g_iconst F 1 dX5_gapIn_76 (by decide) ?_
      refine u_iadd F dX5_gapIn_77 (G 6 1).toInt 1 rfl rfl (by omega) (by omega) (fun y66 ey66 => ?_)
      refine g_iconst F 0 dX5_gapIn_78 (by decide) ?_
      refine u_call0 (k := 0) (n := 0) (As := [.int y66, .int 0]) (st := [.ref (a 62)]) F (fun sz => S_X6_placeOf_b6_b15 l D y66 y66.toInt 0 0 rfl (by omega) rfl (by decide) sz) (va_cwS 2 hts gX5_gapIn_X6_placeOf rfl rfl rfl (by decide +kernel) ⟨Nat.le_of_ble_eq_true rfl, Nat.le_of_ble_eq_true rfl⟩) rfl (Nat.le_of_ble_eq_true rfl) ⟨Nat.zero_le _, Nat.zero_le _⟩ dX5_gapIn_79 (fun r67 _ hw68 => ?_)
      have rg70 := hw68.1
      have rg71 := hw68.2
      clear hw68
      refine g_iload_n F 3 dX5_gapIn_82 rfl rfl ?_
      refine u_callSi (k := 0) (n := 0) (As := [.ref (a 62), .int r67, .int (G 18 0)]) (st := []) F (fun sz => S_X5_least_62 l D K a G r67 r67.toInt (G 18 0) (G 18 0).toInt rfl (by omega) rfl (by omega) hI sz) (va_cwS 3 hts gX5_gapIn_X5_least rfl rfl rfl (by decide +kernel) ⟨Nat.le_of_ble_eq_true rfl, Nat.le_of_ble_eq_true rfl⟩) rfl (Nat.le_of_ble_eq_true rfl) ⟨Nat.zero_le _, Nat.zero_le _⟩ dX5_gapIn_83 (fun r72 _ hw73 => ?_)
      have q75 : (0 ≤ r67.toInt ∧ 1 ≤ (G 18 0).toInt ∧ r67.toInt + (G 18 0).toInt ≤ 96 → r72.toInt = psMn (fun q => (G 62) (r67.toInt.toNat + q)) ((G 18 0).toInt - 1).toNat) := hw73.2
      have rg76 := hw73.1
      clear hw73
      refine g_goto F 90 dX5_gapIn_86 (by decide) ?_
      refine g_istore F [(7, .int r72), (6, .int p1), (5, .int 1), (4, .int 0), (3, .int (G 18 0)), (0, .ref (a 6)), (1, .ref (a 62)), (2, .int p1)] dX5_gapIn_90 (by decide) rfl ?_
      refine g_iload F 3 dX5_gapIn_92 rfl ?_
      refine v_if_eq F 110 dX5_gapIn_94 (by decide) 0 rfl (fun c77 => ?_) (fun c77 => absurd c77 (by decide))
      refine g_iload F 3 dX5_gapIn_110 rfl ?_
      refine v_if_eq F 120 dX5_gapIn_112 (by decide) 0 rfl (fun c78 => ?_) (fun c78 => absurd c78 (by decide))
      refine g_iload F 0 dX5_gapIn_120 rfl ?_
      exact u_iret F hA hQ hr () (⟨(by have h9 := ti_rng r72; omega), (by first | (have h1 := q75 ⟨by omega, by omega, by omega⟩; rw [show r67.toInt = 16 * ((G 6 1).toInt - 1) by omega] at h1; unfold psGa; rw [if_pos (by omega), if_neg (by omega), ← h1]; done) | (have h1 := q75 ⟨by omega, by omega, by omega⟩; rw [show r67.toInt = 16 * ((G 6 1).toInt + 1) by omega] at h1; unfold psGa; rw [if_neg (by omega), if_pos (by omega), ← h1]; done))⟩) rfl rfl dX5_gapIn_122
    · have q63 : (y58.toInt < 0 ∨ (G 18 1).toInt ≤ y58.toInt) := q63
      refine g_istore F [(5, .int 0), (4, .int 0), (3, .int (G 18 0)), (0, .ref (a 6)), (1, .ref (a 62)), (2, .int p1)] dX5_gapIn_38 (by decide) rfl ?_
      refine g_iload F 1 dX5_gapIn_40 rfl ?_
      refine v_if_eq F 63 dX5_gapIn_42 (by decide) 0 rfl (fun c79 => ?_) (fun c79 => absurd c79 (by decide))
      refine g_iload_n F 5 dX5_gapIn_63 rfl rfl ?_
      refine g_istore F [(6, .int p1), (5, .int 0), (4, .int 0), (3, .int (G 18 0)), (0, .ref (a 6)), (1, .ref (a 62)), (2, .int p1)] dX5_gapIn_64 (by decide) rfl ?_
      refine g_iload F 1 dX5_gapIn_66 rfl ?_
      refine v_if_eq F 89 dX5_gapIn_68 (by decide) 0 rfl (fun c80 => ?_) (fun c80 => absurd c80 (by decide))
      refine g_iload_n F 6 dX5_gapIn_89 rfl rfl ?_
      refine g_istore F [(7, .int p1), (6, .int p1), (5, .int 0), (4, .int 0), (3, .int (G 18 0)), (0, .ref (a 6)), (1, .ref (a 62)), (2, .int p1)] dX5_gapIn_90 (by decide) rfl ?_
      refine g_iload F 3 dX5_gapIn_92 rfl ?_
      refine v_if_eq F 110 dX5_gapIn_94 (by decide) 0 rfl (fun c81 => ?_) (fun c81 => absurd c81 (by decide))
      refine g_iload F 3 dX5_gapIn_110 rfl ?_
      refine v_if_eq F 120 dX5_gapIn_112 (by decide) 0 rfl (fun c82 => ?_) (fun c82 => absurd c82 (by decide))
      refine g_iload F 0 dX5_gapIn_120 rfl ?_
      exact u_iret F hA hQ hr () (⟨(by have h9 := ti_rng p1; omega), (by unfold psGa; rw [if_neg (by omega), if_neg (by omega)]; exact e1)⟩) rfl rfl dX5_gapIn_122


set_option maxHeartbeats 4000000 in
set_option maxRecDepth 100000 in
theorem S_X5_run_62 (l : Launch) (D : va_G) (K : Nat → ClassId) (a : Nat → Nat) (G : gS) (p1 : Int32) (s1 : Int) (p2 : Int32) (s2 : Int) (p3 : Int32) (s3 : Int) (e1 : p1.toInt = s1) (h1 : 0 ≤ s1 ∧ s1 ≤ 30000) (e2 : p2.toInt = s2) (h2 : 0 ≤ s2 ∧ s2 ≤ 300) (e3 : p3.toInt = s3) (h3 : 0 ≤ s3 ∧ s3 ≤ 300) (fr : (0 ≤ (G 6 1).toInt ∧ (G 6 1).toInt < (G 18 1).toInt ∧ 1 ≤ (G 6 2).toInt ∧ (G 6 2).toInt ≤ 9 ∧ 1 ≤ (G 6 3).toInt ∧ (G 6 3).toInt ≤ 20 ∧ 1 ≤ (G 6 4).toInt ∧ (G 6 4).toInt ≤ 12)) (hI : xI G) (sz : Nat) : Ki l yX5_run wsX5_run 4 115 0 0 D [.ref (a 6), .ref (a 62), .int p1, .int p2, .int p3] (xW K a G) (tK K) sz (fun (r : Int32) (G' : gS) => (xI G') ∧ (gu_un xcd [608, 613, 614, 615, 616, 617, 618, 619, 620, 2100, 2400, 2700, 4400, 4500, 4600, 4700, 4800] G G') ∧ ((-4) ≤ r.toInt ∧ r.toInt ≤ 2) ∧ ((r.toInt = -4 ∨ (0 ≤ r.toInt ∧ r.toInt ≤ 2))) ∧ (((xTok G ∧ r.toInt ≠ -4) → xOut G (G 62) p1 p2 p3 G' r.toInt)) ∧ (((r.toInt = -4 ∧ psMx (psHr (G 62) (G 6 1).toInt (G 18 0).toInt) ((G 18 0).toInt - 1).toNat - (G 6 3).toInt * (G 6 4).toInt < 1) ∨ (r.toInt ≠ -4 ∧ 1 ≤ psMx (psHr (G 62) (G 6 1).toInt (G 18 0).toInt) ((G 18 0).toInt - 1).toNat - (G 6 3).toInt * (G 6 4).toInt)))) (fun (G' : gS) => (xW K a G')) (fun _ => (tK K)) := by
  unfold Ki
  refine g_ofW (cc := cX5_run) (lv := [(0, .ref (a 6)), (1, .ref (a 62)), (2, .int p1), (3, .int p2), (4, .int p3)]) (by decide) rfl (Nat.le_of_ble_eq_true rfl) rfl ?_
  intro p e s m args below meth c A Q hA hQ F hr hnm
  have hts := F.2.2.2.2.1
  have w_0 : (Cond.fieldLink RX5 40 "QuietCut$Lathe" "feed" "I").before args s = true := hts _ (List.mem_of_getElem? (i := 9) rfl)
  have i_X5 : ∀ w ∈ u_ws RX5 TX5 20, w ∈ wsX5_run := fun _ h => List.mem_cons_of_mem _ (List.mem_append_left _ (List.mem_append_left _ (List.mem_append_right _ h)))
  have w_1 : (Cond.fieldLink RX5 29 "QuietCut$Lathe" "shop" "LQuietCut$Shop;").before args s = true := hts _ (List.mem_of_getElem? (i := 1) rfl)
  have w_2 : (Cond.fieldLink RX5 90 "QuietCut$Shop" "wall" "LQuietCut$Formula;").before args s = true := hts _ (List.mem_of_getElem? (i := 12) rfl)
  have i_X7 : ∀ w ∈ u_ws RX7 TX7 4, w ∈ wsX5_run := fun _ h => List.mem_cons_of_mem _ (List.mem_append_left _ (List.mem_append_right _ h))
  have w_3 : (Cond.fieldLink RX5 17 "QuietCut$Lathe" "heights" "[I").before args s = true := hts _ (List.mem_of_getElem? (i := 4) rfl)
  have w_4 : (Cond.fieldLink RX5 37 "QuietCut$Lathe" "speed" "I").before args s = true := hts _ (List.mem_of_getElem? (i := 13) rfl)
  have w_5 : (Cond.fieldLink RX5 43 "QuietCut$Lathe" "turns" "I").before args s = true := hts _ (List.mem_of_getElem? (i := 10) rfl)
  have w_6 : (Cond.fieldLink RX5 116 "QuietCut$Lathe" "wave" "I").before args s = true := hts _ (List.mem_of_getElem? (i := 14) rfl)
  have w_7 : (Cond.fieldLink RX5 56 "QuietCut$Shop" "numbers" "[I").before args s = true := hts _ (List.mem_of_getElem? (i := 2) rfl)
  have w_8 : (Cond.fieldLink RX5 83 "QuietCut$Lathe" "begun" "I").before args s = true := hts _ (List.mem_of_getElem? (i := 11) rfl)
  have w_9 : (Cond.fieldLink RX5 33 "QuietCut$Lathe" "ring" "I").before args s = true := hts _ (List.mem_of_getElem? (i := 3) rfl)
  have w_10 : (Cond.methodLink RX5 65 arraycopyName).before args s = true := hts _ (List.mem_of_getElem? (i := 5) rfl)
  have w_11 : (Cond.native arraycopyName).before args s = true := hts _ (List.mem_of_getElem? (i := 6) rfl)
  have w_12 : (Cond.static arraycopyName).before args s = true := hts _ (List.mem_of_getElem? (i := 7) rfl)
  have w_13 : (Cond.initialized "java/lang/System").before args s = true := hts _ (List.mem_of_getElem? (i := 8) rfl)
  have b1 : (4 : Int) ≤ (G 18 0).toInt ∧ (G 18 0).toInt ≤ 16 := hI 18 0
  have b2 : (1 : Int) ≤ (G 18 1).toInt ∧ (G 18 1).toInt ≤ 6 := hI 18 1
  have b3 : (0 : Int) ≤ (G 18 8).toInt ∧ (G 18 8).toInt ≤ 9999 := hI 18 8
  have b4 : (1 : Int) ≤ (G 18 10).toInt ∧ (G 18 10).toInt ≤ 4 := hI 18 10
  have b5 : (1 : Int) ≤ (G 18 11).toInt ∧ (G 18 11).toInt ≤ 6 := hI 18 11
  have J_121 : ∀ (fuel : Nat) (x121_6 : Int32) (x121_7 : Int32) (x121_8 : Int32) (x121_9 : Int32) (x121_10 : Int32) (Gj121 : gS), (2147483647 - x121_10.toInt).toNat < fuel → ((-1000000) ≤ x121_6.toInt ∧ x121_6.toInt ≤ 5000) → ((-9998) ≤ x121_7.toInt ∧ x121_7.toInt ≤ 1000000) → (0 ≤ x121_8.toInt ∧ x121_8.toInt ≤ 1) → (0 ≤ x121_9.toInt ∧ x121_9.toInt ≤ 5) → (0 ≤ x121_10.toInt ∧ x121_10.toInt ≤ 12) → (xI Gj121) → (gu_un xcd [608, 613, 614, 615, 617, 618, 619, 620, 2100, 2400, 2700, 4400, 4500, 4600, 4700, 4800] G Gj121) → (∃ n9 : Nat, (n9 : Int) ≤ x121_10.toInt * (G 18 0).toInt ∧ (x121_8.toInt = 0 → (n9 : Int) = x121_10.toInt * (G 18 0).toInt ∧ x121_9.toInt = (n9 : Int) % (G 18 11).toInt) ∧ (xTok G → xRl G (G 62) p1 x121_6 x121_7 p2 p3 Gj121 n9 x121_8.toInt ∧ xBg G (G 62) p1 x121_6 x121_7 p2 p3 Gj121 n9)) → (x121_6.toInt = psMx (psHr (G 62) (G 6 1).toInt (G 18 0).toInt) ((G 18 0).toInt - 1).toNat ∧ x121_7.toInt = psGa (G 62) (G 6 1).toInt (G 18 1).toInt (G 18 0).toInt x121_6.toInt) → (xMt G Gj121) → ((x121_8.toInt ≠ 0 ∨ (-9999 ≤ (Gj121 6 13).toInt ∧ (Gj121 6 13).toInt ≤ 9999 ∧ -19998 ≤ (Gj121 6 14).toInt ∧ (Gj121 6 14).toInt ≤ 19998))) → (((Gj121 6 19).toInt = x121_10.toInt)) → ((x121_10.toInt ≤ (G 6 4).toInt)) → ((x121_6.toInt - (G 6 3).toInt * (G 6 4).toInt ≥ 1)) → gG p l e (gR 4 0 0 115) s m args below meth c D A 14 Q 0 0 (xW K a Gj121) (tK K) [(0, .ref (a 6)), (3, .int p2), (4, .int p3), (5, .int (G 18 0)), (6, .int x121_6), (7, .int x121_7), (8, .int x121_8), (9, .int x121_9), (10, .int x121_10)] 121 [] := by
    intro fuel
    induction fuel with
    | zero => intro x121_6 x121_7 x121_8 x121_9 x121_10 Gj121 hm; exact absurd hm (Nat.not_lt_zero _)
    | succ fuel_121 ih_121 =>
      intro x121_6 x121_7 x121_8 x121_9 x121_10 Gj121 hm_121 h121_6 h121_7 h121_8 h121_9 h121_10 jI121 jU121 r1 lv mt_121 xb1 bg1 tl1 lc1
      have J_148 : ∀ (fuel : Nat) (x148_8 : Int32) (x148_9 : Int32) (x148_11 : Int32) (Gj148 : gS), (2147483647 - x148_11.toInt).toNat < fuel → (0 ≤ x148_8.toInt ∧ x148_8.toInt ≤ 1) → (0 ≤ x148_9.toInt ∧ x148_9.toInt ≤ 5) → (0 ≤ x121_10.toInt ∧ x121_10.toInt ≤ 11) → (0 ≤ x148_11.toInt ∧ x148_11.toInt ≤ 16) → (xI Gj148) → (gu_un xcd [613, 614, 615, 617, 618, 619, 620, 2100, 2400, 2700, 4500, 4600, 4700, 4800] Gj121 Gj148) → ((xTok G → xRl G (G 62) p1 x121_6 x121_7 p2 p3 Gj148 (x121_10.toInt * (G 18 0).toInt + x148_11.toInt).toNat x148_8.toInt ∧ (0 < x148_11.toInt → xBg G (G 62) p1 x121_6 x121_7 p2 p3 Gj148 (x121_10.toInt * (G 18 0).toInt + x148_11.toInt).toNat))) → (x148_9.toInt = (x121_10.toInt * (G 18 0).toInt + x148_11.toInt) % (G 18 11).toInt) → (xMt G Gj148) → ((x148_8.toInt ≠ 0 ∨ (-9999 ≤ (Gj148 6 13).toInt ∧ (Gj148 6 13).toInt ≤ 9999 ∧ -19998 ≤ (Gj148 6 14).toInt ∧ (Gj148 6 14).toInt ≤ 19998))) → (((Gj148 6 19).toInt = x121_10.toInt + 1)) → ((x121_10.toInt + 1 ≤ (G 6 4).toInt)) → ((x148_8.toInt = 0 ∨ 0 < x148_11.toInt)) → ((x148_11.toInt ≤ (G 18 0).toInt)) → gG p l e (gR 4 0 0 115) s m args below meth c D A 14 Q 0 0 (xW K a Gj148) (tK K) [(0, .ref (a 6)), (3, .int p2), (4, .int p3), (5, .int (G 18 0)), (6, .int x121_6), (7, .int x121_7), (8, .int x148_8), (9, .int x148_9), (10, .int x121_10), (11, .int x148_11)] 148 [] := by
        intro fuel
        induction fuel with
        | zero => intro x148_8 x148_9 x148_11 Gj148 hm; exact absurd hm (Nat.not_lt_zero _)
        | succ fuel_148 ih_148 =>
          intro x148_8 x148_9 x148_11 Gj148 hm_148 h148_8 h148_9 k148_10 h148_11 jI148 jU148 r2 r3 mt xb2 bg2 tl2 sh2 il2
          refine g_iload F 9 dX5_run_148 rfl ?_
          refine g_iload F 3 dX5_run_150 rfl ?_
          refine v_icmp_ge F 255 dX5_run_152 (by decide) x148_11.toInt (G 18 0).toInt rfl rfl (fun c6 => ?_) (fun c6 => ?_)
          · refine u_iinc F (fun v_ => [(10, .int v_), (0, .ref (a 6)), (3, .int p2), (4, .int p3), (5, .int (G 18 0)), (6, .int x121_6), (7, .int x121_7), (8, .int x148_8), (9, .int x148_9), (11, .int x148_11)]) dX5_run_255 (j := 8) rfl x121_10.toInt 1 rfl rfl (by omega) (by omega) (by decide) (fun _ => rfl) (fun y7 ey7 => ?_)
            refine g_goto F 121 dX5_run_258 (by decide) ?_
            refine g_locals [(0, .ref (a 6)), (3, .int p2), (4, .int p3), (5, .int (G 18 0)), (6, .int x121_6), (7, .int x121_7), (8, .int x148_8), (9, .int x148_9), (10, .int y7)] [1, 2, 3, 4, 5, 6, 7, 8, 0] rfl ?_
            exact ih_121 x121_6 x121_7 x148_8 x148_9 y7 Gj148 (by omega) (by have h9 := ti_rng x121_6; omega) (by have h9 := ti_rng x121_7; omega) (by have h9 := ti_rng x148_8; omega) (by have h9 := ti_rng x148_9; omega) (by have h9 := ti_rng y7; omega) jI148 (gu_un.tr (gu_un.tr gu_un.rf (gu_un.su jU121 rfl)) (gu_un.su jU148 rfl)) (⟨(x121_10.toInt * (G 18 0).toInt + x148_11.toInt).toNat, by rw [show y7.toInt = x121_10.toInt + 1 by omega, Int.add_mul, Int.one_mul]; omega, fun h0 => ⟨by rw [show y7.toInt = x121_10.toInt + 1 by omega, Int.add_mul, Int.one_mul]; omega, by rw [Int.toNat_of_nonneg (by omega)]; exact r3⟩, fun hz => ⟨(r2 hz).1, (r2 hz).2 (by omega)⟩⟩) (lv) (mt) (by (first | omega | (simp only [Int32.reduceToInt, true_and, and_true, ne_eq, not_true_eq_false, false_and, or_false, false_or, true_or, or_true, false_implies] <;> omega))) (by (first | omega | (simp only [Int32.reduceToInt, true_and, and_true, ne_eq, not_true_eq_false, false_and, or_false, false_or, true_or, or_true, false_implies] <;> omega))) (by have e9_6_4 : Gj148 6 4 = (G 6 4) := (jU148 6 4 (by decide)).trans (jU121 6 4 (by decide)); (try simp only [e9_6_4, true_and, and_true]) <;> (first | omega | (simp only [Int32.reduceToInt, true_and, and_true, ne_eq, not_true_eq_false, false_and, or_false, false_or, true_or, or_true, false_implies] <;> omega))) (by omega)
          · refine g_iload F 6 dX5_run_155 rfl ?_
            refine v_if_ne F 255 dX5_run_157 (by decide) x148_8.toInt rfl (fun c8 => ?_) (fun c8 => ?_)
            · refine u_iinc F (fun v_ => [(10, .int v_), (0, .ref (a 6)), (3, .int p2), (4, .int p3), (5, .int (G 18 0)), (6, .int x121_6), (7, .int x121_7), (8, .int x148_8), (9, .int x148_9), (11, .int x148_11)]) dX5_run_255 (j := 8) rfl x121_10.toInt 1 rfl rfl (by omega) (by omega) (by decide) (fun _ => rfl) (fun y9 ey9 => ?_)
              refine g_goto F 121 dX5_run_258 (by decide) ?_
              refine g_locals [(0, .ref (a 6)), (3, .int p2), (4, .int p3), (5, .int (G 18 0)), (6, .int x121_6), (7, .int x121_7), (8, .int x148_8), (9, .int x148_9), (10, .int y9)] [1, 2, 3, 4, 5, 6, 7, 8, 0] rfl ?_
              exact ih_121 x121_6 x121_7 x148_8 x148_9 y9 Gj148 (by omega) (by have h9 := ti_rng x121_6; omega) (by have h9 := ti_rng x121_7; omega) (by have h9 := ti_rng x148_8; omega) (by have h9 := ti_rng x148_9; omega) (by have h9 := ti_rng y9; omega) jI148 (gu_un.tr (gu_un.tr gu_un.rf (gu_un.su jU121 rfl)) (gu_un.su jU148 rfl)) (⟨(x121_10.toInt * (G 18 0).toInt + x148_11.toInt).toNat, by rw [show y9.toInt = x121_10.toInt + 1 by omega, Int.add_mul, Int.one_mul]; omega, fun h0 => ⟨by rw [show y9.toInt = x121_10.toInt + 1 by omega, Int.add_mul, Int.one_mul]; omega, by rw [Int.toNat_of_nonneg (by omega)]; exact r3⟩, fun hz => ⟨(r2 hz).1, (r2 hz).2 (by omega)⟩⟩) (lv) (mt) (by (first | omega | (simp only [Int32.reduceToInt, true_and, and_true, ne_eq, not_true_eq_false, false_and, or_false, false_or, true_or, or_true, false_implies] <;> omega))) (by (first | omega | (simp only [Int32.reduceToInt, true_and, and_true, ne_eq, not_true_eq_false, false_and, or_false, false_or, true_or, or_true, false_implies] <;> omega))) (by have e9_6_4 : Gj148 6 4 = (G 6 4) := (jU148 6 4 (by decide)).trans (jU121 6 4 (by decide)); (try simp only [e9_6_4, true_and, and_true]) <;> (first | omega | (simp only [Int32.reduceToInt, true_and, and_true, ne_eq, not_true_eq_false, false_and, or_false, false_or, true_or, or_true, false_implies] <;> omega))) (by omega)
            · have ts0 : 0 ≤ x121_10.toInt * (G 18 0).toInt := Int.mul_nonneg (by omega) (by omega)
              have m1 : (x121_10 + 1).toInt = x121_10.toInt + 1 := ti_add rfl rfl (by omega) (by omega)
              refine g_aload_n F 0 dX5_run_160 rfl rfl ?_
              refine g_iload F 9 dX5_run_161 rfl ?_
              refine g_iload F 8 dX5_run_163 rfl ?_
              refine g_iload F 4 dX5_run_165 rfl ?_
              refine g_aload_n F 0 dX5_run_167 rfl rfl ?_
              refine xg_6_3 F i_X5 w_0 dX5_run_168 (G 6 3) ((jU148 6 3 (by decide)).trans (jU121 6 3 (by decide))) ?_
              refine g_iload F 8 dX5_run_171 rfl ?_
              refine g_iconst F 1 dX5_run_173 (by decide) ?_
              refine g_iadd F dX5_run_174 ?_
              refine g_imul F dX5_run_175 ?_
              refine g_isub F dX5_run_176 ?_
              have m2 : (G 6 3).toInt * (x121_10.toInt + 1) ≤ (G 6 3).toInt * (G 6 4).toInt := Int.mul_le_mul_of_nonneg_left (by omega) (by omega)
              have m3 := Int.mul_nonneg (show (0 : Int) ≤ (G 6 3).toInt by omega) (show (0 : Int) ≤ x121_10.toInt + 1 by omega)
              have m4 : ((G 6 3) * (x121_10 + 1)).toInt = (G 6 3).toInt * (x121_10.toInt + 1) := ti_mul rfl m1 (by omega) (by omega)
              have m5 : ((x121_6 - ((G 6 3) * (x121_10 + 1))) : Int32).toInt = x121_6.toInt - (G 6 3).toInt * (x121_10.toInt + 1) := ti_sub rfl m4 (by omega) (by omega)
              refine u_callVi (k := 0) (n := 0) (b := a 6) (As := [.int x148_11, .int x121_10, .int (x121_6 - ((G 6 3) * (x121_10 + 1)))]) (st := []) F (fun sz => S_X5_bite l D K a Gj148 x148_11 x148_11.toInt x121_10 x121_10.toInt (x121_6 - ((G 6 3) * (x121_10 + 1))) ((x121_6 - ((G 6 3) * (x121_10 + 1))) : Int32).toInt rfl (by omega) rfl rfl (by omega) (by (first | omega | (simp only [Int32.reduceToInt, true_and, and_true, ne_eq, not_true_eq_false, false_and, or_false, false_or, true_or, or_true, false_implies] <;> omega))) jI148 sz) (cwV 3 hts gX5_run_X5_bite rfl rfl rfl (by decide +kernel) ⟨Nat.le_of_ble_eq_true rfl, Nat.le_of_ble_eq_true rfl⟩) rfl 6 xc_6 rfl (Nat.le_of_ble_eq_true rfl) ⟨Nat.zero_le _, Nat.zero_le _⟩ dX5_run_177 (fun r10 G12 hw11 => ?_)
              have hI13 : xI G12 := hw11.1
              have hU14 : gu_un xcd [613, 618, 2100, 2700, 4500, 4600, 4700, 4800] Gj148 G12 := hw11.2.1
              have hp15 := hw11.2.2
              have b16 : (0 : Int) ≤ (Gj121 6 7).toInt ∧ (Gj121 6 7).toInt ≤ 4 := jI121 6 7
              have q17 : (∀ (Q S : gS) (C : Nat → List Int), xBq Gj148 Q C x121_10 (x121_6 - ((G 6 3) * (x121_10 + 1))) → (pR (G 18 0).toInt S (Gj148 45) (Gj148 6 12) (Gj148 6 13) (Gj148 6 14) (Gj148 6 17) (Gj148 6 18) (Gj148 6 16) 0 ∧ pL (G 18 0).toInt S (Gj148 46) (Gj148 47) (Gj148 48)) → (pR (G 18 0).toInt (psT Q C x148_11.toInt x121_10 ((Gj121 6 7).toInt).toNat S) (G12 45) (G12 6 12) (Gj148 6 13) (Gj148 6 14) (G12 6 17) (Gj148 6 18) (Gj148 6 16) (Int32.ofInt r10.toInt) ∧ pL (G 18 0).toInt (psT Q C x148_11.toInt x121_10 ((Gj121 6 7).toInt).toNat S) (G12 46) (G12 47) (G12 48))) := by have h9 := hp15.2.1; (try simp only [(show Gj148 18 0 = (G 18 0) from (jU148 18 0 (by decide)).trans (jU121 18 0 (by decide))), (show Gj148 18 0 = (G 18 0) from (jU148 18 0 (by decide)).trans (jU121 18 0 (by decide))), (show Gj148 18 0 = (G 18 0) from (jU148 18 0 (by decide)).trans (jU121 18 0 (by decide))), (show Gj148 6 7 = (Gj121 6 7) from jU148 6 7 (by decide)), (show Gj148 18 0 = (G 18 0) from (jU148 18 0 (by decide)).trans (jU121 18 0 (by decide))), (show Gj148 6 7 = (Gj121 6 7) from jU148 6 7 (by decide))] at h9); first | exact h9 | omega
              have q18 : (-39996 ≤ r10.toInt ∧ r10.toInt ≤ 39996) := hp15.2.2
              have rg19 := hp15.1
              clear hp15 hw11
              refine g_istore F [(12, .int r10), (0, .ref (a 6)), (3, .int p2), (4, .int p3), (5, .int (G 18 0)), (6, .int x121_6), (7, .int x121_7), (8, .int x148_8), (9, .int x148_9), (10, .int x121_10), (11, .int x148_11)] dX5_run_180 (by decide) rfl ?_
              refine g_iload_n F 2 dX5_run_182 rfl rfl ?_
              refine g_aload_n F 1 dX5_run_183 rfl rfl ?_
              refine xg_6_0 F i_X5 w_1 dX5_run_184 ?_
              refine xg_2_2 F i_X7 w_2 dX5_run_187 ?_
              refine g_aload_n F 1 dX5_run_190 rfl rfl ?_
              refine xg_6_8 F i_X5 w_3 dX5_run_191 ?_
              refine g_iload F 10 dX5_run_194 rfl ?_
              refine u1_iald F 45 0 xc_45 rfl x148_11.toInt rfl (by omega) (by omega) dX5_run_196 ((G12 45) (x148_11.toInt).toNat) (rfl) ?_
              have b20 : ((-9998) : Int) ≤ ((G12 45) (x148_11.toInt).toNat).toInt ∧ ((G12 45) (x148_11.toInt).toNat).toInt ≤ 5000 := hI13 45 _
              refine g_iload F 6 dX5_run_197 rfl ?_
              refine u_callVi (k := 0) (n := 0) (b := a 12) (As := [.int ((G12 45) (x148_11.toInt).toNat), .int x121_7]) (st := [.int p2]) F (fun sz => S_X3_value_12 l D K a G12 ((G12 45) (x148_11.toInt).toNat) ((G12 45) (x148_11.toInt).toNat).toInt x121_7 x121_7.toInt rfl rfl hI13 sz) (cwV 2 hts gX5_run_X3_value rfl rfl rfl (by decide +kernel) ⟨Nat.le_of_ble_eq_true rfl, Nat.le_of_ble_eq_true rfl⟩) rfl 12 xc_12 rfl (Nat.le_of_ble_eq_true rfl) ⟨Nat.zero_le _, Nat.zero_le _⟩ dX5_run_199 (fun r21 G23 hw22 => ?_)
              have hI24 : xI G23 := hw22.1
              have hU25 : gu_un xcd [2400] G12 G23 := hw22.2.1
              have hp26 := hw22.2.2
              have b27 : (0 : Int) ≤ (G 12 1).toInt ∧ (G 12 1).toInt ≤ 80 := hI 12 1
              have q28 : (gcOK (tkr (G 23) ((G 12 1).toInt).toNat) → r21.toInt = (eV ((G12 45) (x148_11.toInt).toNat) x121_7 (tkr (G 23) ((G 12 1).toInt).toNat)).toInt) := by have h9 := hp26; (try simp only [(show G12 12 1 = (G 12 1) from (hU14 12 1 (by decide)).trans ((jU148 12 1 (by decide)).trans (jU121 12 1 (by decide)))), (show G12 12 1 = (G 12 1) from (hU14 12 1 (by decide)).trans ((jU148 12 1 (by decide)).trans (jU121 12 1 (by decide)))), (show G12 23 = (G 23) from (show G12 23 = Gj148 23 from funext fun k_ => hU14 23 k_ (show (2300 : Nat) ∉ ([613, 618, 2100, 2700, 4500, 4600, 4700, 4800] : List Nat) by decide)).trans ((show Gj148 23 = Gj121 23 from funext fun k_ => jU148 23 k_ (show (2300 : Nat) ∉ ([613, 614, 615, 617, 618, 619, 620, 2100, 2400, 2700, 4500, 4600, 4700, 4800] : List Nat) by decide)).trans ((show Gj121 23 = G 23 from funext fun k_ => jU121 23 k_ (show (2300 : Nat) ∉ ([608, 613, 614, 615, 617, 618, 619, 620, 2100, 2400, 2700, 4400, 4500, 4600, 4700, 4800] : List Nat) by decide))))), (show G12 23 = (G 23) from (show G12 23 = Gj148 23 from funext fun k_ => hU14 23 k_ (show (2300 : Nat) ∉ ([613, 618, 2100, 2700, 4500, 4600, 4700, 4800] : List Nat) by decide)).trans ((show Gj148 23 = Gj121 23 from funext fun k_ => jU148 23 k_ (show (2300 : Nat) ∉ ([613, 614, 615, 617, 618, 619, 620, 2100, 2400, 2700, 4500, 4600, 4700, 4800] : List Nat) by decide)).trans ((show Gj121 23 = G 23 from funext fun k_ => jU121 23 k_ (show (2300 : Nat) ∉ ([608, 613, 614, 615, 617, 618, 619, 620, 2100, 2400, 2700, 4400, 4500, 4600, 4700, 4800] : List Nat) by decide)))))] at h9); first | exact h9 | omega
              clear hp26 hw22
              refine g_iconst F 0 dX5_run_202 (by decide) ?_
              refine g_sipush F 999 dX5_run_203 (by decide) ?_
              refine u_call0 (k := 0) (n := 0) (As := [.int r21, .int 0, .int 999]) (st := [.int p2]) F (fun sz => S_X5_within l D r21 r21.toInt 0 0 999 999 rfl rfl rfl sz) (va_cwS 3 hts gX5_run_X5_within rfl rfl rfl (by decide +kernel) ⟨Nat.le_of_ble_eq_true rfl, Nat.le_of_ble_eq_true rfl⟩) rfl (Nat.le_of_ble_eq_true rfl) ⟨Nat.zero_le _, Nat.zero_le _⟩ dX5_run_206 (fun r29 _ hw30 => ?_)
              have q32 : (r29.toInt = max (0 : Int) (min (999 : Int) r21.toInt)) := hw30
              clear hw30
              refine g_iadd F dX5_run_209 ?_
              have hs9 : ((p2 + r29) : Int32).toInt = _ + _ := ti_add rfl rfl (by omega) (by omega)
              refine g_istore F [(13, .int (p2 + r29)), (12, .int r10), (0, .ref (a 6)), (3, .int p2), (4, .int p3), (5, .int (G 18 0)), (6, .int x121_6), (7, .int x121_7), (8, .int x148_8), (9, .int x148_9), (10, .int x121_10), (11, .int x148_11)] dX5_run_210 (by decide) rfl ?_
              refine g_aload_n F 2 dX5_run_212 rfl rfl ?_
              refine g_aload_n F 2 dX5_run_213 rfl rfl ?_
              refine xg_6_2 F i_X5 w_4 dX5_run_214 (G 6 2) ((hU25 6 2 (by decide)).trans ((hU14 6 2 (by decide)).trans ((jU148 6 2 (by decide)).trans (jU121 6 2 (by decide))))) ?_
              refine g_aload_n F 2 dX5_run_217 rfl rfl ?_
              refine xg_6_0 F i_X5 w_1 dX5_run_218 ?_
              refine g_iload F 9 dX5_run_221 rfl ?_
              refine u_callVi (k := 0) (n := 0) (b := a 2) (As := [.int x148_9]) (st := [.int (G 6 2), .ref (a 6)]) F (fun sz => S_X7_swayAt_2 l D K a G23 x148_9 x148_9.toInt rfl (by omega) hI24 sz) (cwV 1 hts gX5_run_X7_swayAt rfl rfl rfl (by decide +kernel) ⟨Nat.le_of_ble_eq_true rfl, Nat.le_of_ble_eq_true rfl⟩) rfl 2 xc_2 rfl (Nat.le_of_ble_eq_true rfl) ⟨Nat.zero_le _, Nat.zero_le _⟩ dX5_run_223 (fun r33 _ hw34 => ?_)
              have q36 : (r33.toInt = ((G 18) (30 + (x148_9.toInt).toNat)).toInt) := by have h9 := hw34.2; (try simp only [(show G23 18 = (G 18) from (show G23 18 = G12 18 from funext fun k_ => hU25 18 k_ (show (1800 : Nat) ∉ ([2400] : List Nat) by decide)).trans ((show G12 18 = Gj148 18 from funext fun k_ => hU14 18 k_ (show (1800 : Nat) ∉ ([613, 618, 2100, 2700, 4500, 4600, 4700, 4800] : List Nat) by decide)).trans ((show Gj148 18 = Gj121 18 from funext fun k_ => jU148 18 k_ (show (1800 : Nat) ∉ ([613, 614, 615, 617, 618, 619, 620, 2100, 2400, 2700, 4500, 4600, 4700, 4800] : List Nat) by decide)).trans ((show Gj121 18 = G 18 from funext fun k_ => jU121 18 k_ (show (1800 : Nat) ∉ ([608, 613, 614, 615, 617, 618, 619, 620, 2100, 2400, 2700, 4400, 4500, 4600, 4700, 4800] : List Nat) by decide))))))] at h9); first | exact h9 | omega
              have rg37 := hw34.1
              clear hw34
              refine g_iadd F dX5_run_226 ?_
              have ss9 : (((G 6 2) + r33) : Int32).toInt = _ + _ := ti_add rfl rfl (by omega) (by omega)
              refine g_iload F 1 dX5_run_227 rfl ?_
              refine g_iload F 0 dX5_run_229 rfl ?_
              refine g_iload F 4 dX5_run_231 rfl ?_
              refine u_callVi (k := 0) (n := 0) (b := a 6) (As := [.int ((G 6 2) + r33), .int r10, .int (p2 + r29), .int p3]) (st := []) F (fun sz => S_X5_swingsTooFar l D K a G23 ((G 6 2) + r33) (((G 6 2) + r33) : Int32).toInt r10 r10.toInt (p2 + r29) ((p2 + r29) : Int32).toInt p3 s3 rfl rfl (by omega) rfl (by omega) e3 (by omega) (by have e9_6_13 : G23 6 13 = (Gj148 6 13) := (hU25 6 13 (by decide)).trans (hU14 6 13 (by decide)); have e9_6_14 : G23 6 14 = (Gj148 6 14) := (hU25 6 14 (by decide)).trans (hU14 6 14 (by decide)); (try simp only [e9_6_13, e9_6_14, true_and, and_true]) <;> (first | omega | (simp only [Int32.reduceToInt, true_and, and_true, ne_eq, not_true_eq_false, false_and, or_false, false_or, true_or, or_true, false_implies] <;> omega))) hI24 sz) (cwV 4 hts gX5_run_X5_swingsTooFar rfl rfl rfl (by decide +kernel) ⟨Nat.le_of_ble_eq_true rfl, Nat.le_of_ble_eq_true rfl⟩) rfl 6 xc_6 rfl (Nat.le_of_ble_eq_true rfl) ⟨Nat.zero_le _, Nat.zero_le _⟩ dX5_run_233 (fun r38 G40 hw39 => ?_)
              have hI41 : xI G40 := hw39.1
              have hU42 : gu_un xcd [614, 615, 617, 619] G23 G40 := hw39.2.1
              have hp43 := hw39.2.2
              have q44 : (∀ Q S : gS, (Q 0 2 = (G 18) 2 ∧ Q 0 7 = (G 18) 7 ∧ Q 3 5 = p3) → swR S (G23 6 13) (G23 6 14) (G23 6 18) (G23 6 16) 0 → swR (psJ Q r10 (p2 + r29) ((((G 6 2) + r33) : Int32).toInt).toNat S) (G40 6 13) (G40 6 14) (G40 6 18) (G40 6 16) (Int32.ofInt r38.toInt)) := by have h9 := hp43.2.1; (try simp only [(show G23 18 = (G 18) from (show G23 18 = G12 18 from funext fun k_ => hU25 18 k_ (show (1800 : Nat) ∉ ([2400] : List Nat) by decide)).trans ((show G12 18 = Gj148 18 from funext fun k_ => hU14 18 k_ (show (1800 : Nat) ∉ ([613, 618, 2100, 2700, 4500, 4600, 4700, 4800] : List Nat) by decide)).trans ((show Gj148 18 = Gj121 18 from funext fun k_ => jU148 18 k_ (show (1800 : Nat) ∉ ([613, 614, 615, 617, 618, 619, 620, 2100, 2400, 2700, 4500, 4600, 4700, 4800] : List Nat) by decide)).trans ((show Gj121 18 = G 18 from funext fun k_ => jU121 18 k_ (show (1800 : Nat) ∉ ([608, 613, 614, 615, 617, 618, 619, 620, 2100, 2400, 2700, 4400, 4500, 4600, 4700, 4800] : List Nat) by decide)))))), (show G23 18 = (G 18) from (show G23 18 = G12 18 from funext fun k_ => hU25 18 k_ (show (1800 : Nat) ∉ ([2400] : List Nat) by decide)).trans ((show G12 18 = Gj148 18 from funext fun k_ => hU14 18 k_ (show (1800 : Nat) ∉ ([613, 618, 2100, 2700, 4500, 4600, 4700, 4800] : List Nat) by decide)).trans ((show Gj148 18 = Gj121 18 from funext fun k_ => jU148 18 k_ (show (1800 : Nat) ∉ ([613, 614, 615, 617, 618, 619, 620, 2100, 2400, 2700, 4500, 4600, 4700, 4800] : List Nat) by decide)).trans ((show Gj121 18 = G 18 from funext fun k_ => jU121 18 k_ (show (1800 : Nat) ∉ ([608, 613, 614, 615, 617, 618, 619, 620, 2100, 2400, 2700, 4400, 4500, 4600, 4700, 4800] : List Nat) by decide))))))] at h9); first | exact h9 | omega
              have q45 : (r38.toInt ≠ 0 ∨ (-9999 ≤ (G40 6 13).toInt ∧ (G40 6 13).toInt ≤ 9999 ∧ -19998 ≤ (G40 6 14).toInt ∧ (G40 6 14).toInt ≤ 19998)) := hp43.2.2
              have rg46 := hp43.1
              clear hp43 hw39
              refine g_istore F [(8, .int r38), (13, .int (p2 + r29)), (12, .int r10), (0, .ref (a 6)), (3, .int p2), (4, .int p3), (5, .int (G 18 0)), (6, .int x121_6), (7, .int x121_7), (9, .int x148_9), (10, .int x121_10), (11, .int x148_11)] dX5_run_236 (by decide) rfl ?_
              refine g_aload_n F 3 dX5_run_238 rfl rfl ?_
              refine xg_6_0 F i_X5 w_1 dX5_run_239 ?_
              refine g_iload F 9 dX5_run_242 rfl ?_
              refine u_callVi (k := 0) (n := 0) (b := a 2) (As := [.int x148_9]) (st := []) F (fun sz => S_X7_swayBehind_2 l D K a G40 x148_9 x148_9.toInt rfl (by omega) hI41 sz) (cwV 1 hts gX5_run_X7_swayBehind rfl rfl rfl (by decide +kernel) ⟨Nat.le_of_ble_eq_true rfl, Nat.le_of_ble_eq_true rfl⟩) rfl 2 xc_2 rfl (Nat.le_of_ble_eq_true rfl) ⟨Nat.zero_le _, Nat.zero_le _⟩ dX5_run_244 (fun r47 _ hw48 => ?_)
              have q50 : (r47.toInt = if x148_9.toInt + 1 < (G 18 11).toInt then x148_9.toInt + 1 else 0) := by have h9 := hw48.2; (try simp only [(show G40 18 11 = (G 18 11) from (hU42 18 11 (by decide)).trans ((hU25 18 11 (by decide)).trans ((hU14 18 11 (by decide)).trans ((jU148 18 11 (by decide)).trans (jU121 18 11 (by decide))))))] at h9); first | exact h9 | omega
              have rg51 := hw48.1
              clear hw48
              refine g_istore F [(9, .int r47), (8, .int r38), (13, .int (p2 + r29)), (12, .int r10), (0, .ref (a 6)), (3, .int p2), (4, .int p3), (5, .int (G 18 0)), (6, .int x121_6), (7, .int x121_7), (10, .int x121_10), (11, .int x148_11)] dX5_run_247 (by decide) rfl ?_
              refine u_iinc F (fun v_ => [(11, .int v_), (9, .int r47), (8, .int r38), (13, .int (p2 + r29)), (12, .int r10), (0, .ref (a 6)), (3, .int p2), (4, .int p3), (5, .int (G 18 0)), (6, .int x121_6), (7, .int x121_7), (10, .int x121_10)]) dX5_run_249 (j := 11) rfl x148_11.toInt 1 rfl rfl (by omega) (by omega) (by decide) (fun _ => rfl) (fun y52 ey52 => ?_)
              refine g_goto F 148 dX5_run_252 (by decide) ?_
              refine g_locals [(0, .ref (a 6)), (3, .int p2), (4, .int p3), (5, .int (G 18 0)), (6, .int x121_6), (7, .int x121_7), (8, .int r38), (9, .int r47), (10, .int x121_10), (11, .int y52)] [5, 6, 7, 8, 9, 10, 2, 1, 11, 0] rfl ?_
              exact ih_148 r38 r47 y52 G40 (by omega) (by have h9 := ti_rng r38; omega) (by have h9 := ti_rng r47; omega) (by have h9 := ti_rng x121_10; omega) (by have h9 := ti_rng y52; omega) hI41 (gu_un.tr (gu_un.tr (gu_un.tr (gu_un.tr gu_un.rf (gu_un.su jU148 rfl)) (gu_un.su hU14 rfl)) (gu_un.su hU25 rfl)) (gu_un.su hU42 rfl)) (fun hz => by have h9 := xRl.go (n := (x121_10.toInt * (G 18 0).toInt + x148_11.toInt).toNat) (y := (x121_10.toInt * (G 18 0).toInt + y52.toInt).toNat) (T := x121_10.toInt) (i := x148_11.toInt) (s := (G 18 0).toInt) (t := x121_10) (fo := r10) (ho := (p2 + r29)) (m := ((Gj121 6 7).toInt).toNat) (rd := x148_9.toInt) (k := ((((G 6 2) + r33) : Int32).toInt).toNat) (sh := r38) ((r2 hz).1.sh (by omega)) (by omega) rfl (by omega) (by omega) rfl (fun Q C hq => xBq_of hq (show Gj148 18 = (G 18) from ((show Gj148 18 = Gj121 18 from funext fun k_ => jU148 18 k_ (by simp [xcd])).trans (show Gj121 18 = (G 18) from ((show Gj121 18 = G 18 from funext fun k_ => jU121 18 k_ (by simp [xcd])).trans (show G 18 = (G 18) from rfl))))) (show Gj148 20 = (G 20) from ((show Gj148 20 = Gj121 20 from funext fun k_ => jU148 20 k_ (by simp [xcd])).trans (show Gj121 20 = (G 20) from ((show Gj121 20 = G 20 from funext fun k_ => jU121 20 k_ (by simp [xcd])).trans (show G 20 = (G 20) from rfl))))) (show Gj148 26 = (G 26) from ((show Gj148 26 = Gj121 26 from funext fun k_ => jU148 26 k_ (by simp [xcd])).trans (show Gj121 26 = (G 26) from ((show Gj121 26 = G 26 from funext fun k_ => jU121 26 k_ (by simp [xcd])).trans (show G 26 = (G 26) from rfl))))) (show Gj148 11 1 = (G 11 1) from (jU148 11 1 (by decide)).trans (jU121 11 1 (by decide))) (show Gj148 13 1 = (G 13 1) from (jU148 13 1 (by decide)).trans (jU121 13 1 (by decide))) (mt hz) rfl) (by have h6 := (mt hz).1; rw [show Gj148 6 7 = (Gj121 6 7) from jU148 6 7 (by decide)] at h6; rw [h6]) (Int32.toInt_inj.mp (by omega)) (by have h := q17; simp only [Int32.ofInt_toInt] at h; exact h) (fun gc => congrArg (p2 + ·) (psC_of q32 (q28 gc))) (by rw [Int.toNat_of_nonneg (by omega)]; exact r3) (by omega) (by rw [← Int32.toInt_inj.mp q36]) (by have h := q44; rw [Int32.ofInt_toInt, show G23 6 13 = Gj148 6 13 from (show G23 6 13 = Gj148 6 13 from (show gu_un xcd [613, 618, 2100, 2400, 2700, 4500, 4600, 4700, 4800] Gj148 G23 from (gu_un.tr (gu_un.tr gu_un.rf (gu_un.su hU14 rfl)) (gu_un.su hU25 rfl))) 6 13 (by decide)), show G23 6 14 = Gj148 6 14 from (show G23 6 14 = Gj148 6 14 from (show gu_un xcd [613, 618, 2100, 2400, 2700, 4500, 4600, 4700, 4800] Gj148 G23 from (gu_un.tr (gu_un.tr gu_un.rf (gu_un.su hU14 rfl)) (gu_un.su hU25 rfl))) 6 14 (by decide)), show G23 6 18 = Gj148 6 18 from (show G23 6 18 = Gj148 6 18 from (show gu_un xcd [613, 618, 2100, 2400, 2700, 4500, 4600, 4700, 4800] Gj148 G23 from (gu_un.tr (gu_un.tr gu_un.rf (gu_un.su hU14 rfl)) (gu_un.su hU25 rfl))) 6 18 (by decide)), show G23 6 16 = Gj148 6 16 from (show G23 6 16 = Gj148 6 16 from (show gu_un xcd [613, 618, 2100, 2400, 2700, 4500, 4600, 4700, 4800] Gj148 G23 from (gu_un.tr (gu_un.tr gu_un.rf (gu_un.su hU14 rfl)) (gu_un.su hU25 rfl))) 6 16 (by decide))] at h; exact h) (show G40 45 = G12 45 from funext fun k_ => (show gu_un xcd [614, 615, 617, 619, 2400] G12 G40 from (gu_un.tr (gu_un.tr gu_un.rf (gu_un.su hU25 rfl)) (gu_un.su hU42 rfl))) 45 k_ (by simp [xcd])) (show G40 46 = G12 46 from funext fun k_ => (show gu_un xcd [614, 615, 617, 619, 2400] G12 G40 from (gu_un.tr (gu_un.tr gu_un.rf (gu_un.su hU25 rfl)) (gu_un.su hU42 rfl))) 46 k_ (by simp [xcd])) (show G40 47 = G12 47 from funext fun k_ => (show gu_un xcd [614, 615, 617, 619, 2400] G12 G40 from (gu_un.tr (gu_un.tr gu_un.rf (gu_un.su hU25 rfl)) (gu_un.su hU42 rfl))) 47 k_ (by simp [xcd])) (show G40 48 = G12 48 from funext fun k_ => (show gu_un xcd [614, 615, 617, 619, 2400] G12 G40 from (gu_un.tr (gu_un.tr gu_un.rf (gu_un.su hU25 rfl)) (gu_un.su hU42 rfl))) 48 k_ (by simp [xcd])) (show G40 6 12 = G12 6 12 from (show gu_un xcd [614, 615, 617, 619, 2400] G12 G40 from (gu_un.tr (gu_un.tr gu_un.rf (gu_un.su hU25 rfl)) (gu_un.su hU42 rfl))) 6 12 (by decide)) (show G40 6 17 = G12 6 17 from (show gu_un xcd [614, 615, 617, 619, 2400] G12 G40 from (gu_un.tr (gu_un.tr gu_un.rf (gu_un.su hU25 rfl)) (gu_un.su hU42 rfl))) 6 17 (by decide)) (show G40 6 19 = Gj148 6 19 from (show gu_un xcd [613, 614, 615, 617, 618, 619, 2100, 2400, 2700, 4500, 4600, 4700, 4800] Gj148 G40 from (gu_un.tr (gu_un.tr (gu_un.tr gu_un.rf (gu_un.su hU14 rfl)) (gu_un.su hU25 rfl)) (gu_un.su hU42 rfl))) 6 19 (by decide)) (by omega) rfl; exact ⟨h9.1, fun _ => h9.2⟩) (by rw [show x121_10.toInt * (G 18 0).toInt + y52.toInt = (x121_10.toInt * (G 18 0).toInt + x148_11.toInt) + 1 by omega]; exact rnd_1 r3 (by omega) (by omega) q50) (xMt.tr mt (show G40 6 7 = Gj148 6 7 from (show gu_un xcd [613, 614, 615, 617, 618, 619, 2100, 2400, 2700, 4500, 4600, 4700, 4800] Gj148 G40 from (gu_un.tr (gu_un.tr (gu_un.tr gu_un.rf (gu_un.su hU14 rfl)) (gu_un.su hU25 rfl)) (gu_un.su hU42 rfl))) 6 7 (by decide)) (show G40 44 = Gj148 44 from funext fun k_ => (show gu_un xcd [613, 614, 615, 617, 618, 619, 2100, 2400, 2700, 4500, 4600, 4700, 4800] Gj148 G40 from (gu_un.tr (gu_un.tr (gu_un.tr gu_un.rf (gu_un.su hU14 rfl)) (gu_un.su hU25 rfl)) (gu_un.su hU42 rfl))) 44 k_ (by simp [xcd]))) (by (first | omega | (simp only [Int32.reduceToInt, true_and, and_true, ne_eq, not_true_eq_false, false_and, or_false, false_or, true_or, or_true, false_implies] <;> omega))) (by have e9_6_19 : G40 6 19 = (Gj148 6 19) := (hU42 6 19 (by decide)).trans ((hU25 6 19 (by decide)).trans (hU14 6 19 (by decide))); (try simp only [e9_6_19, true_and, and_true]) <;> (first | omega | (simp only [Int32.reduceToInt, true_and, and_true, ne_eq, not_true_eq_false, false_and, or_false, false_or, true_or, or_true, false_implies] <;> omega))) (by have e9_6_4 : G40 6 4 = (G 6 4) := (hU42 6 4 (by decide)).trans ((hU25 6 4 (by decide)).trans ((hU14 6 4 (by decide)).trans ((jU148 6 4 (by decide)).trans (jU121 6 4 (by decide))))); (try simp only [e9_6_4, true_and, and_true]) <;> (first | omega | (simp only [Int32.reduceToInt, true_and, and_true, ne_eq, not_true_eq_false, false_and, or_false, false_or, true_or, or_true, false_implies] <;> omega))) (by (first | omega | (simp only [Int32.reduceToInt, true_and, and_true, ne_eq, not_true_eq_false, false_and, or_false, false_or, true_or, or_true, false_implies] <;> omega))) (by have e9_18_0 : G40 18 0 = (G 18 0) := (hU42 18 0 (by decide)).trans ((hU25 18 0 (by decide)).trans ((hU14 18 0 (by decide)).trans ((jU148 18 0 (by decide)).trans (jU121 18 0 (by decide))))); (try simp only [e9_18_0, true_and, and_true]) <;> (first | omega | (simp only [Int32.reduceToInt, true_and, and_true, ne_eq, not_true_eq_false, false_and, or_false, false_or, true_or, or_true, false_implies] <;> omega)))
      refine g_iload F 8 dX5_run_121 rfl ?_
      refine g_aload_n F 0 dX5_run_123 rfl rfl ?_
      refine xg_6_4 F i_X5 w_5 dX5_run_124 (G 6 4) (jU121 6 4 (by decide)) ?_
      have b53 := ti_rng (G 6 4)
      refine v_icmp_ge F 261 dX5_run_127 (by decide) x121_10.toInt (G 6 4).toInt rfl rfl (fun c54 => ?_) (fun c54 => ?_)
      · refine g_aload_n F 0 dX5_run_261 rfl rfl ?_
        refine g_aload_n F 0 dX5_run_262 rfl rfl ?_
        refine xg_6_8 F i_X5 w_3 dX5_run_263 ?_
        refine g_iconst F 0 dX5_run_266 (by decide) ?_
        refine g_iload F 3 dX5_run_267 rfl ?_
        refine u_callSi (k := 0) (n := 0) (As := [.ref (a 45), .int 0, .int (G 18 0)]) (st := [.ref (a 6)]) F (fun sz => S_X5_greatest_45 l D K a Gj121 0 0 (G 18 0) (G 18 0).toInt rfl (by decide) rfl (by omega) jI121 sz) (va_cwS 3 hts gX5_run_X5_greatest rfl rfl rfl (by decide +kernel) ⟨Nat.le_of_ble_eq_true rfl, Nat.le_of_ble_eq_true rfl⟩) rfl (Nat.le_of_ble_eq_true rfl) ⟨Nat.zero_le _, Nat.zero_le _⟩ dX5_run_269 (fun r55 _ hw56 => ?_)
        have q58 : ((0 : Int) = 0 ∧ 1 ≤ (G 18 0).toInt ∧ (G 18 0).toInt ≤ 16 → r55.toInt = psMx (Gj121 45) ((G 18 0).toInt - 1).toNat) := hw56.2
        have rg59 := hw56.1
        clear hw56
        refine g_aload_n F 0 dX5_run_272 rfl rfl ?_
        refine xg_6_8 F i_X5 w_3 dX5_run_273 ?_
        refine g_iconst F 0 dX5_run_276 (by decide) ?_
        refine g_iload F 3 dX5_run_277 rfl ?_
        refine u_callSi (k := 0) (n := 0) (As := [.ref (a 45), .int 0, .int (G 18 0)]) (st := [.int r55, .ref (a 6)]) F (fun sz => S_X5_least_45 l D K a Gj121 0 0 (G 18 0) (G 18 0).toInt rfl (by decide) rfl (by omega) jI121 sz) (va_cwS 3 hts gX5_run_X5_least rfl rfl rfl (by decide +kernel) ⟨Nat.le_of_ble_eq_true rfl, Nat.le_of_ble_eq_true rfl⟩) rfl (Nat.le_of_ble_eq_true rfl) ⟨Nat.zero_le _, Nat.zero_le _⟩ dX5_run_279 (fun r60 _ hw61 => ?_)
        have q63 : (0 ≤ (0 : Int) ∧ 1 ≤ (G 18 0).toInt ∧ (0 : Int) + (G 18 0).toInt ≤ 16 → r60.toInt = psMn (fun q => (Gj121 45) ((0 : Int).toNat + q)) ((G 18 0).toInt - 1).toNat) := hw61.2
        have rg64 := hw61.1
        clear hw61
        refine u_isub F dX5_run_282 r55.toInt r60.toInt rfl rfl (by omega) (by omega) (fun y65 ey65 => ?_)
        refine xp_6_15 F i_X5 w_6 dX5_run_283 ?_
        refine g_iload F 6 dX5_run_286 rfl ?_
        refine v_if_eq F 293 dX5_run_288 (by decide) x121_8.toInt rfl (fun c66 => ?_) (fun c66 => ?_)
        · refine g_aload_n F 0 dX5_run_293 rfl rfl ?_
          refine xg_6_15 F i_X5 w_6 dX5_run_294 y65 (rfl) ?_
          refine g_aload_n F 0 dX5_run_297 rfl rfl ?_
          refine xg_6_0 F i_X5 w_1 dX5_run_298 ?_
          refine xg_2_0 F i_X7 w_7 dX5_run_301 ?_
          refine g_bipush F 8 dX5_run_304 (by decide) ?_
          refine u1_iald F 18 0 xc_18 rfl 8 rfl (by decide) (by decide) dX5_run_306 (G 18 8) (jU121 18 8 (by decide)) ?_
          refine v_icmp_le F 314 dX5_run_307 (by decide) y65.toInt (G 18 8).toInt rfl rfl (fun c67 => ?_) (fun c67 => ?_)
          · refine g_iconst F 0 dX5_run_314 (by decide) ?_
            exact u_iret F hA hQ hr (gu_up Gj121 6 15 y65) (⟨(gu_I.up (j := 6) (k := 15) (v := y65) jI121 (ti_rng _).1 (ti_rng _).2), (gu_un.up (j := 6) (k := 15) (v := y65) (gu_un.tr gu_un.rf (gu_un.su jU121 rfl)) (show (616 : Nat) ∈ ([608, 613, 614, 615, 616, 617, 618, 619, 620, 2100, 2400, 2700, 4400, 4500, 4600, 4700, 4800] : List Nat) by decide)), (by decide), (by show (0 = -4 ∨ (0 ≤ 0 ∧ 0 ≤ 2)); (first | omega | (simp only [Int32.reduceToInt, true_and, and_true, ne_eq, not_true_eq_false, false_and, or_false, false_or, true_or, or_true, false_implies] <;> omega))), (fun h9 => by obtain ⟨n9, a1, a2, a3⟩ := r1; have tm := Int.mul_le_mul_of_nonneg_right (show x121_10.toInt ≤ (G 6 4).toInt by omega) (show (0 : Int) ≤ (G 18 0).toInt by omega); have hf := xRl.fin (m := ((G 6 4).toInt * (G 18 0).toInt).toNat) (a3 h9.1).1 (a3 h9.1).2 (by omega) (by by_cases e : x121_8.toInt = 0 <;> first | exact Or.inl e | (right; have a4 := a2 e; rw [show x121_10.toInt = (G 6 4).toInt by omega] at a4; omega)); exact ⟨_, _, lv.1, lv.2, hf.1.sh (by first | (rw [if_pos (by decide)]; omega) | (rw [if_neg (by decide)]; omega)), hf.2, by have g1 := q58 ⟨rfl, by omega, by omega⟩; have g2 := q63 ⟨by omega, by omega, by omega⟩; have g3 : psMn (fun q => (Gj121 45) ((0 : Int).toNat + q)) ((G 18 0).toInt - 1).toNat = psMn (Gj121 45) ((G 18 0).toInt - 1).toNat := psMn_eq (fun i _ => by rw [show (0 : Int).toNat + i = i by omega]); show y65.toInt = psMx (Gj121 45) _ - psMn (Gj121 45) _; omega, by first | exact Or.inl (by decide) | exact Or.inr (Or.inl ⟨by decide, by show (G 18 8).toInt < y65.toInt; omega⟩) | exact Or.inr (Or.inr ⟨by decide, by show y65.toInt ≤ (G 18 8).toInt; omega⟩)⟩), (by have h7 := lv.1; exact Or.inr ⟨by decide, by omega⟩)⟩) rfl rfl dX5_run_315
          · refine g_iconst F 1 dX5_run_310 (by decide) ?_
            refine g_goto F 315 dX5_run_311 (by decide) ?_
            exact u_iret F hA hQ hr (gu_up Gj121 6 15 y65) (⟨(gu_I.up (j := 6) (k := 15) (v := y65) jI121 (ti_rng _).1 (ti_rng _).2), (gu_un.up (j := 6) (k := 15) (v := y65) (gu_un.tr gu_un.rf (gu_un.su jU121 rfl)) (show (616 : Nat) ∈ ([608, 613, 614, 615, 616, 617, 618, 619, 620, 2100, 2400, 2700, 4400, 4500, 4600, 4700, 4800] : List Nat) by decide)), (by decide), (by show (1 = -4 ∨ (0 ≤ 1 ∧ 1 ≤ 2)); (first | omega | (simp only [Int32.reduceToInt, true_and, and_true, ne_eq, not_true_eq_false, false_and, or_false, false_or, true_or, or_true, false_implies] <;> omega))), (fun h9 => by obtain ⟨n9, a1, a2, a3⟩ := r1; have tm := Int.mul_le_mul_of_nonneg_right (show x121_10.toInt ≤ (G 6 4).toInt by omega) (show (0 : Int) ≤ (G 18 0).toInt by omega); have hf := xRl.fin (m := ((G 6 4).toInt * (G 18 0).toInt).toNat) (a3 h9.1).1 (a3 h9.1).2 (by omega) (by by_cases e : x121_8.toInt = 0 <;> first | exact Or.inl e | (right; have a4 := a2 e; rw [show x121_10.toInt = (G 6 4).toInt by omega] at a4; omega)); exact ⟨_, _, lv.1, lv.2, hf.1.sh (by first | (rw [if_pos (by decide)]; omega) | (rw [if_neg (by decide)]; omega)), hf.2, by have g1 := q58 ⟨rfl, by omega, by omega⟩; have g2 := q63 ⟨by omega, by omega, by omega⟩; have g3 : psMn (fun q => (Gj121 45) ((0 : Int).toNat + q)) ((G 18 0).toInt - 1).toNat = psMn (Gj121 45) ((G 18 0).toInt - 1).toNat := psMn_eq (fun i _ => by rw [show (0 : Int).toNat + i = i by omega]); show y65.toInt = psMx (Gj121 45) _ - psMn (Gj121 45) _; omega, by first | exact Or.inl (by decide) | exact Or.inr (Or.inl ⟨by decide, by show (G 18 8).toInt < y65.toInt; omega⟩) | exact Or.inr (Or.inr ⟨by decide, by show y65.toInt ≤ (G 18 8).toInt; omega⟩)⟩), (by have h7 := lv.1; exact Or.inr ⟨by decide, by omega⟩)⟩) rfl rfl dX5_run_315
        · refine g_iconst F 2 dX5_run_291 (by decide) ?_
          exact u_iret F hA hQ hr (gu_up Gj121 6 15 y65) (⟨(gu_I.up (j := 6) (k := 15) (v := y65) jI121 (ti_rng _).1 (ti_rng _).2), (gu_un.up (j := 6) (k := 15) (v := y65) (gu_un.tr gu_un.rf (gu_un.su jU121 rfl)) (show (616 : Nat) ∈ ([608, 613, 614, 615, 616, 617, 618, 619, 620, 2100, 2400, 2700, 4400, 4500, 4600, 4700, 4800] : List Nat) by decide)), (by decide), (by show (2 = -4 ∨ (0 ≤ 2 ∧ 2 ≤ 2)); (first | omega | (simp only [Int32.reduceToInt, true_and, and_true, ne_eq, not_true_eq_false, false_and, or_false, false_or, true_or, or_true, false_implies] <;> omega))), (fun h9 => by obtain ⟨n9, a1, a2, a3⟩ := r1; have tm := Int.mul_le_mul_of_nonneg_right (show x121_10.toInt ≤ (G 6 4).toInt by omega) (show (0 : Int) ≤ (G 18 0).toInt by omega); have hf := xRl.fin (m := ((G 6 4).toInt * (G 18 0).toInt).toNat) (a3 h9.1).1 (a3 h9.1).2 (by omega) (by by_cases e : x121_8.toInt = 0 <;> first | exact Or.inl e | (right; have a4 := a2 e; rw [show x121_10.toInt = (G 6 4).toInt by omega] at a4; omega)); exact ⟨_, _, lv.1, lv.2, hf.1.sh (by first | (rw [if_pos (by decide)]; omega) | (rw [if_neg (by decide)]; omega)), hf.2, by have g1 := q58 ⟨rfl, by omega, by omega⟩; have g2 := q63 ⟨by omega, by omega, by omega⟩; have g3 : psMn (fun q => (Gj121 45) ((0 : Int).toNat + q)) ((G 18 0).toInt - 1).toNat = psMn (Gj121 45) ((G 18 0).toInt - 1).toNat := psMn_eq (fun i _ => by rw [show (0 : Int).toNat + i = i by omega]); show y65.toInt = psMx (Gj121 45) _ - psMn (Gj121 45) _; omega, by first | exact Or.inl (by decide) | exact Or.inr (Or.inl ⟨by decide, by show (G 18 8).toInt < y65.toInt; omega⟩) | exact Or.inr (Or.inr ⟨by decide, by show y65.toInt ≤ (G 18 8).toInt; omega⟩)⟩), (by have h7 := lv.1; exact Or.inr ⟨by decide, by omega⟩)⟩) rfl rfl dX5_run_292
      · refine g_iload F 6 dX5_run_130 rfl ?_
        refine v_if_ne F 261 dX5_run_132 (by decide) x121_8.toInt rfl (fun c68 => ?_) (fun c68 => ?_)
        · refine g_aload_n F 0 dX5_run_261 rfl rfl ?_
          refine g_aload_n F 0 dX5_run_262 rfl rfl ?_
          refine xg_6_8 F i_X5 w_3 dX5_run_263 ?_
          refine g_iconst F 0 dX5_run_266 (by decide) ?_
          refine g_iload F 3 dX5_run_267 rfl ?_
          refine u_callSi (k := 0) (n := 0) (As := [.ref (a 45), .int 0, .int (G 18 0)]) (st := [.ref (a 6)]) F (fun sz => S_X5_greatest_45 l D K a Gj121 0 0 (G 18 0) (G 18 0).toInt rfl (by decide) rfl (by omega) jI121 sz) (va_cwS 3 hts gX5_run_X5_greatest rfl rfl rfl (by decide +kernel) ⟨Nat.le_of_ble_eq_true rfl, Nat.le_of_ble_eq_true rfl⟩) rfl (Nat.le_of_ble_eq_true rfl) ⟨Nat.zero_le _, Nat.zero_le _⟩ dX5_run_269 (fun r69 _ hw70 => ?_)
          have q72 : ((0 : Int) = 0 ∧ 1 ≤ (G 18 0).toInt ∧ (G 18 0).toInt ≤ 16 → r69.toInt = psMx (Gj121 45) ((G 18 0).toInt - 1).toNat) := hw70.2
          have rg73 := hw70.1
          clear hw70
          refine g_aload_n F 0 dX5_run_272 rfl rfl ?_
          refine xg_6_8 F i_X5 w_3 dX5_run_273 ?_
          refine g_iconst F 0 dX5_run_276 (by decide) ?_
          refine g_iload F 3 dX5_run_277 rfl ?_
          refine u_callSi (k := 0) (n := 0) (As := [.ref (a 45), .int 0, .int (G 18 0)]) (st := [.int r69, .ref (a 6)]) F (fun sz => S_X5_least_45 l D K a Gj121 0 0 (G 18 0) (G 18 0).toInt rfl (by decide) rfl (by omega) jI121 sz) (va_cwS 3 hts gX5_run_X5_least rfl rfl rfl (by decide +kernel) ⟨Nat.le_of_ble_eq_true rfl, Nat.le_of_ble_eq_true rfl⟩) rfl (Nat.le_of_ble_eq_true rfl) ⟨Nat.zero_le _, Nat.zero_le _⟩ dX5_run_279 (fun r74 _ hw75 => ?_)
          have q77 : (0 ≤ (0 : Int) ∧ 1 ≤ (G 18 0).toInt ∧ (0 : Int) + (G 18 0).toInt ≤ 16 → r74.toInt = psMn (fun q => (Gj121 45) ((0 : Int).toNat + q)) ((G 18 0).toInt - 1).toNat) := hw75.2
          have rg78 := hw75.1
          clear hw75
          refine u_isub F dX5_run_282 r69.toInt r74.toInt rfl rfl (by omega) (by omega) (fun y79 ey79 => ?_)
          refine xp_6_15 F i_X5 w_6 dX5_run_283 ?_
          refine g_iload F 6 dX5_run_286 rfl ?_
          refine v_if_eq F 293 dX5_run_288 (by decide) x121_8.toInt rfl (fun c80 => absurd c80 (by omega)) (fun c80 => ?_)
          refine g_iconst F 2 dX5_run_291 (by decide) ?_
          exact u_iret F hA hQ hr (gu_up Gj121 6 15 y79) (⟨(gu_I.up (j := 6) (k := 15) (v := y79) jI121 (ti_rng _).1 (ti_rng _).2), (gu_un.up (j := 6) (k := 15) (v := y79) (gu_un.tr gu_un.rf (gu_un.su jU121 rfl)) (show (616 : Nat) ∈ ([608, 613, 614, 615, 616, 617, 618, 619, 620, 2100, 2400, 2700, 4400, 4500, 4600, 4700, 4800] : List Nat) by decide)), (by decide), (by show (2 = -4 ∨ (0 ≤ 2 ∧ 2 ≤ 2)); (first | omega | (simp only [Int32.reduceToInt, true_and, and_true, ne_eq, not_true_eq_false, false_and, or_false, false_or, true_or, or_true, false_implies] <;> omega))), (fun h9 => by obtain ⟨n9, a1, a2, a3⟩ := r1; have tm := Int.mul_le_mul_of_nonneg_right (show x121_10.toInt ≤ (G 6 4).toInt by omega) (show (0 : Int) ≤ (G 18 0).toInt by omega); have hf := xRl.fin (m := ((G 6 4).toInt * (G 18 0).toInt).toNat) (a3 h9.1).1 (a3 h9.1).2 (by omega) (by by_cases e : x121_8.toInt = 0 <;> first | exact Or.inl e | (right; have a4 := a2 e; rw [show x121_10.toInt = (G 6 4).toInt by omega] at a4; omega)); exact ⟨_, _, lv.1, lv.2, hf.1.sh (by first | (rw [if_pos (by decide)]; omega) | (rw [if_neg (by decide)]; omega)), hf.2, by have g1 := q72 ⟨rfl, by omega, by omega⟩; have g2 := q77 ⟨by omega, by omega, by omega⟩; have g3 : psMn (fun q => (Gj121 45) ((0 : Int).toNat + q)) ((G 18 0).toInt - 1).toNat = psMn (Gj121 45) ((G 18 0).toInt - 1).toNat := psMn_eq (fun i _ => by rw [show (0 : Int).toNat + i = i by omega]); show y79.toInt = psMx (Gj121 45) _ - psMn (Gj121 45) _; omega, by first | exact Or.inl (by decide) | exact Or.inr (Or.inl ⟨by decide, by show (G 18 8).toInt < y79.toInt; omega⟩) | exact Or.inr (Or.inr ⟨by decide, by show y79.toInt ≤ (G 18 8).toInt; omega⟩)⟩), (by have h7 := lv.1; exact Or.inr ⟨by decide, by omega⟩)⟩) rfl rfl dX5_run_292
        · refine g_aload_n F 0 dX5_run_135 rfl rfl ?_
          refine g_dup F dX5_run_136 rfl ?_
          refine xg_6_19 F i_X5 w_8 dX5_run_137 (Gj121 6 19) (rfl) ?_
          refine g_iconst F 1 dX5_run_140 (by decide) ?_
          refine u_iaddc F dX5_run_141 (Gj121 6 19).toInt 1 rfl rfl (fun y81 ey81 => ?_)
          refine xp_6_19 F i_X5 w_8 dX5_run_142 ?_
          refine g_iconst F 0 dX5_run_145 (by decide) ?_
          refine g_istore F [(11, .int 0), (0, .ref (a 6)), (3, .int p2), (4, .int p3), (5, .int (G 18 0)), (6, .int x121_6), (7, .int x121_7), (8, .int x121_8), (9, .int x121_9), (10, .int x121_10)] dX5_run_146 (by decide) rfl ?_
          refine g_locals [(0, .ref (a 6)), (3, .int p2), (4, .int p3), (5, .int (G 18 0)), (6, .int x121_6), (7, .int x121_7), (8, .int x121_8), (9, .int x121_9), (10, .int x121_10), (11, .int 0)] [1, 2, 3, 4, 5, 6, 7, 8, 9, 0] rfl ?_
          exact J_148 _ x121_8 x121_9 0 (gu_up Gj121 6 19 y81) (Nat.lt_succ_self _) (by have h9 := ti_rng x121_8; omega) (by have h9 := ti_rng x121_9; omega) (by have h9 := ti_rng x121_10; omega) (by decide) (gu_I.up (j := 6) (k := 19) (v := y81) jI121 (ti_rng _).1 (ti_rng _).2) (gu_un.up (j := 6) (k := 19) (v := y81) gu_un.rf (show (620 : Nat) ∈ ([613, 614, 615, 617, 618, 619, 620, 2100, 2400, 2700, 4500, 4600, 4700, 4800] : List Nat) by decide)) (fun hz => by obtain ⟨n9, a1, a2, a3⟩ := r1; rw [show (x121_10.toInt * (G 18 0).toInt + Int32.toInt 0).toNat = n9 by (rw [show Int32.toInt 0 = 0 from rfl]; have a4 := a2 (by omega); omega)]; exact ⟨(a3 hz).1, fun h9 => absurd h9 (by decide)⟩) (by obtain ⟨n9, a1, a2, a3⟩ := r1; have a4 := a2 (by omega); rw [show Int32.toInt 0 = 0 from rfl, Int.add_zero, ← a4.1]; exact a4.2) (xMt.tr mt_121 (show (gu_up Gj121 6 19 y81) 6 7 = Gj121 6 7 from (show gu_un xcd [620] Gj121 (gu_up Gj121 6 19 y81) from (gu_un.up (j := 6) (k := 19) (v := y81) gu_un.rf (show (620 : Nat) ∈ ([620] : List Nat) by decide))) 6 7 (by decide)) (show (gu_up Gj121 6 19 y81) 44 = Gj121 44 from funext fun k_ => (show gu_un xcd [620] Gj121 (gu_up Gj121 6 19 y81) from (gu_un.up (j := 6) (k := 19) (v := y81) gu_un.rf (show (620 : Nat) ∈ ([620] : List Nat) by decide))) 44 k_ (by simp [xcd]))) (by have e9_6_13 : (gu_up Gj121 6 19 y81) 6 13 = (Gj121 6 13) := rfl; have e9_6_14 : (gu_up Gj121 6 19 y81) 6 14 = (Gj121 6 14) := rfl; (try simp only [e9_6_13, e9_6_14, true_and, and_true]) <;> (first | omega | (simp only [Int32.reduceToInt, true_and, and_true, ne_eq, not_true_eq_false, false_and, or_false, false_or, true_or, or_true, false_implies] <;> omega))) (by have e9_6_19 : (gu_up Gj121 6 19 y81) 6 19 = y81 := rfl; (try simp only [e9_6_19, true_and, and_true]) <;> (first | omega | (simp only [Int32.reduceToInt, true_and, and_true, ne_eq, not_true_eq_false, false_and, or_false, false_or, true_or, or_true, false_implies] <;> omega))) (by have e9_6_4 : (gu_up Gj121 6 19 y81) 6 4 = (G 6 4) := jU121 6 4 (by decide); (try simp only [e9_6_4, true_and, and_true]) <;> (first | omega | (simp only [Int32.reduceToInt, true_and, and_true, ne_eq, not_true_eq_false, false_and, or_false, false_or, true_or, or_true, false_implies] <;> omega))) (by (first | omega | (simp only [Int32.reduceToInt, true_and, and_true, ne_eq, not_true_eq_false, false_and, or_false, false_or, true_or, or_true, false_implies] <;> omega))) (by have e9_18_0 : (gu_up Gj121 6 19 y81) 18 0 = (G 18 0) := jU121 18 0 (by decide); (try simp only [e9_18_0, true_and, and_true]) <;> (first | omega | (simp only [Int32.reduceToInt, true_and, and_true, ne_eq, not_true_eq_false, false_and, or_false, false_or, true_or, or_true, false_implies] <;> omega)))
  refine g_aload_n F 0 dX5_run_0 rfl rfl ?_
  refine xg_6_0 F i_X5 w_1 dX5_run_1 ?_
  refine xg_2_0 F i_X7 w_7 dX5_run_4 ?_
  refine g_iconst F 0 dX5_run_7 (by decide) ?_
  refine u1_iald F 18 0 xc_18 rfl 0 rfl (by decide) (by decide) dX5_run_8 (G 18 0) (rfl) ?_
  refine g_istore F [(5, .int (G 18 0)), (0, .ref (a 6)), (1, .ref (a 62)), (2, .int p1), (3, .int p2), (4, .int p3)] dX5_run_9 (by decide) rfl ?_
  refine g_aload_n F 1 dX5_run_11 rfl rfl ?_
  refine xg_6_0 F i_X5 w_1 dX5_run_12 ?_
  refine g_aload_n F 1 dX5_run_15 rfl rfl ?_
  refine xg_6_1 F i_X5 w_9 dX5_run_16 (G 6 1) (rfl) ?_
  refine u_callVi (k := 0) (n := 0) (b := a 2) (As := [.int (G 6 1)]) (st := []) F (fun sz => S_X7_hasRing_2 l D K a G (G 6 1) (G 6 1).toInt rfl hI sz) (cwV 1 hts gX5_run_X7_hasRing rfl rfl rfl (by decide +kernel) ⟨Nat.le_of_ble_eq_true rfl, Nat.le_of_ble_eq_true rfl⟩) rfl 2 xc_2 rfl (Nat.le_of_ble_eq_true rfl) ⟨Nat.zero_le _, Nat.zero_le _⟩ dX5_run_19 (fun r82 _ hw83 => ?_)
  rcases hw83 with ⟨rfl, q85⟩ | ⟨rfl, q86⟩
  · have q85 : (0 ≤ (G 6 1).toInt ∧ (G 6 1).toInt < (G 18 1).toInt) := q85
    refine v_if_eq F 45 dX5_run_22 (by decide) 1 rfl (fun c87 => absurd c87 (by decide)) (fun c87 => ?_)
    refine g_iload F 0 dX5_run_25 rfl ?_
    refine g_iconst F 1 dX5_run_27 (by decide) ?_
    refine v_icmp_lt F 45 dX5_run_28 (by decide) (G 18 0).toInt 1 rfl rfl (fun c88 => absurd c88 (by omega)) (fun c88 => ?_)
    refine g_iload F 0 dX5_run_31 rfl ?_
    refine g_bipush F 16 dX5_run_33 (by decide) ?_
    refine v_icmp_gt F 45 dX5_run_35 (by decide) (G 18 0).toInt 16 rfl rfl (fun c89 => absurd c89 (by omega)) (fun c89 => ?_)
    refine g_aload_n F 2 dX5_run_38 rfl rfl ?_
    refine g_alen F 62 0 xc_62 rfl 96 rfl dX5_run_39 ?_
    refine g_bipush F 96 dX5_run_40 (by decide) ?_
    refine v_icmp_ge F 48 dX5_run_42 (by decide) 96 96 rfl rfl (fun c90 => ?_) (fun c90 => absurd c90 (by decide))
    refine g_aload_n F 2 dX5_run_48 rfl rfl ?_
    refine g_aload_n F 1 dX5_run_49 rfl rfl ?_
    refine xg_6_1 F i_X5 w_9 dX5_run_50 (G 6 1) (rfl) ?_
    refine g_iconst F 0 dX5_run_53 (by decide) ?_
    refine u_call0 (k := 0) (n := 0) (As := [.int (G 6 1), .int 0]) (st := [.ref (a 62)]) F (fun sz => S_X6_placeOf_b5_b15 l D (G 6 1) (G 6 1).toInt 0 0 rfl (by omega) rfl (by decide) sz) (va_cwS 2 hts gX5_run_X6_placeOf rfl rfl rfl (by decide +kernel) ⟨Nat.le_of_ble_eq_true rfl, Nat.le_of_ble_eq_true rfl⟩) rfl (Nat.le_of_ble_eq_true rfl) ⟨Nat.zero_le _, Nat.zero_le _⟩ dX5_run_54 (fun r91 _ hw92 => ?_)
    have rg94 := hw92.1
    have rg95 := hw92.2
    clear hw92
    refine g_aload_n F 1 dX5_run_57 rfl rfl ?_
    refine xg_6_8 F i_X5 w_3 dX5_run_58 ?_
    refine g_iconst F 0 dX5_run_61 (by decide) ?_
    refine g_iload F 0 dX5_run_62 rfl ?_
    refine u_copyi F w_10 w_11 w_12 w_13 62 45 0 xc_62 xc_45 rfl r91.toInt 0 (G 18 0).toInt rfl rfl rfl (by omega) (by decide) (by omega) (by omega) (by omega) (Nat.le_of_ble_eq_true rfl) (Nat.le_of_ble_eq_true rfl) (xW K a (gu_st G 45 (va_cpy (G 62) (G 45) (r91.toInt).toNat 0 ((G 18 0).toInt).toNat))) (xs_45 _) dX5_run_64 ?_
    refine g_aload_n F 1 dX5_run_67 rfl rfl ?_
    refine xg_6_8 F i_X5 w_3 dX5_run_68 ?_
    refine g_iconst F 0 dX5_run_71 (by decide) ?_
    refine g_iload F 0 dX5_run_72 rfl ?_
    refine u_callSi (k := 0) (n := 0) (As := [.ref (a 45), .int 0, .int (G 18 0)]) (st := []) F (fun sz => S_X5_greatest_45 l D K a (gu_st G 45 (va_cpy (G 62) (G 45) (r91.toInt).toNat 0 ((G 18 0).toInt).toNat)) 0 0 (G 18 0) (G 18 0).toInt rfl (by decide) rfl (by omega) (gu_I.cpy (j := 45) (f := G 62) (sp := (r91.toInt).toNat) (dp := 0) hI (fun k_ => (show ((-9998) : Int) ≤ (G 62 ((r91.toInt).toNat + k_)).toInt ∧ (G 62 ((r91.toInt).toNat + k_)).toInt ≤ 5000 from ⟨Int.le_trans (show ((-9998) : Int) ≤ (-9998) by decide) (hI 62 _).1, Int.le_trans (hI 62 _).2 (show (5000 : Int) ≤ 5000 by decide)⟩))) sz) (va_cwS 3 hts gX5_run_X5_greatest rfl rfl rfl (by decide +kernel) ⟨Nat.le_of_ble_eq_true rfl, Nat.le_of_ble_eq_true rfl⟩) rfl (Nat.le_of_ble_eq_true rfl) ⟨Nat.zero_le _, Nat.zero_le _⟩ dX5_run_74 (fun r96 _ hw97 => ?_)
    have q99 : ((0 : Int) = 0 ∧ 1 ≤ (G 18 0).toInt ∧ (G 18 0).toInt ≤ 16 → r96.toInt = psMx ((gu_st G 45 (va_cpy (G 62) (G 45) (r91.toInt).toNat 0 ((G 18 0).toInt).toNat)) 45) ((G 18 0).toInt - 1).toNat) := hw97.2
    have rg100 := hw97.1
    clear hw97
    refine g_istore F [(6, .int r96), (5, .int (G 18 0)), (0, .ref (a 6)), (1, .ref (a 62)), (2, .int p1), (3, .int p2), (4, .int p3)] dX5_run_77 (by decide) rfl ?_
    refine g_iload F 0 dX5_run_79 rfl ?_
    refine g_aload_n F 2 dX5_run_81 rfl rfl ?_
    refine xg_6_3 F i_X5 w_0 dX5_run_82 (G 6 3) (rfl) ?_
    refine g_aload_n F 2 dX5_run_85 rfl rfl ?_
    refine xg_6_4 F i_X5 w_5 dX5_run_86 (G 6 4) (rfl) ?_
    refine g_imul F dX5_run_89 ?_
    have mp0 := Int.mul_nonneg (show (0 : Int) ≤ (G 6 3).toInt by omega) (show (0 : Int) ≤ (G 6 4).toInt by omega)
    have mp1 : (G 6 3).toInt * (G 6 4).toInt ≤ 20 * 12 := Int.mul_le_mul (by omega) (by omega) (by omega) (by omega)
    have mp : (((G 6 3) * (G 6 4)) : Int32).toInt = (G 6 3).toInt * (G 6 4).toInt := ti_mul rfl rfl (by omega) (by omega)
    refine u_isub F dX5_run_90 r96.toInt (((G 6 3) * (G 6 4)) : Int32).toInt rfl rfl (by omega) (by omega) (fun y101 ey101 => ?_)
    refine g_iconst F 1 dX5_run_91 (by decide) ?_
    refine v_icmp_ge F 98 dX5_run_92 (by decide) y101.toInt 1 rfl rfl (fun c102 => ?_) (fun c102 => ?_)
    · refine g_aload_n F 2 dX5_run_98 rfl rfl ?_
      refine g_aload_n F 3 dX5_run_99 rfl rfl ?_
      refine g_iload F 0 dX5_run_100 rfl ?_
      refine u_callVi (k := 0) (n := 0) (b := a 6) (As := [.ref (a 62), .int r96]) (st := []) F (fun sz => S_X5_gapIn_62 l D K a (gu_st G 45 (va_cpy (G 62) (G 45) (r91.toInt).toNat 0 ((G 18 0).toInt).toNat)) r96 r96.toInt rfl (by omega) (by have e9_6_1 : (gu_st G 45 (va_cpy (G 62) (G 45) (r91.toInt).toNat 0 ((G 18 0).toInt).toNat)) 6 1 = (G 6 1) := rfl; (try simp only [e9_6_1, true_and, and_true]) <;> (first | omega | (simp only [Int32.reduceToInt, true_and, and_true, ne_eq, not_true_eq_false, false_and, or_false, false_or, true_or, or_true, false_implies] <;> omega))) (by have e9_6_1 : (gu_st G 45 (va_cpy (G 62) (G 45) (r91.toInt).toNat 0 ((G 18 0).toInt).toNat)) 6 1 = (G 6 1) := rfl; have e9_18_1 : (gu_st G 45 (va_cpy (G 62) (G 45) (r91.toInt).toNat 0 ((G 18 0).toInt).toNat)) 18 1 = (G 18 1) := rfl; (try simp only [e9_6_1, e9_18_1, true_and, and_true]) <;> (first | omega | (simp only [Int32.reduceToInt, true_and, and_true, ne_eq, not_true_eq_false, false_and, or_false, false_or, true_or, or_true, false_implies] <;> omega))) (gu_I.cpy (j := 45) (f := G 62) (sp := (r91.toInt).toNat) (dp := 0) hI (fun k_ => (show ((-9998) : Int) ≤ (G 62 ((r91.toInt).toNat + k_)).toInt ∧ (G 62 ((r91.toInt).toNat + k_)).toInt ≤ 5000 from ⟨Int.le_trans (show ((-9998) : Int) ≤ (-9998) by decide) (hI 62 _).1, Int.le_trans (hI 62 _).2 (show (5000 : Int) ≤ 5000 by decide)⟩))) sz) (cwV 2 hts gX5_run_X5_gapIn rfl rfl rfl (by decide +kernel) ⟨Nat.le_of_ble_eq_true rfl, Nat.le_of_ble_eq_true rfl⟩) rfl 6 xc_6 rfl (Nat.le_of_ble_eq_true rfl) ⟨Nat.zero_le _, Nat.zero_le _⟩ dX5_run_102 (fun r103 _ hw104 => ?_)
      have q106 : (r103.toInt = psGa (G 62) (G 6 1).toInt (G 18 1).toInt (G 18 0).toInt r96.toInt) := hw104.2
      have rg107 := hw104.1
      clear hw104
      refine g_istore F [(7, .int r103), (6, .int r96), (5, .int (G 18 0)), (0, .ref (a 6)), (1, .ref (a 62)), (2, .int p1), (3, .int p2), (4, .int p3)] dX5_run_105 (by decide) rfl ?_
      refine g_aload_n F 3 dX5_run_107 rfl rfl ?_
      refine g_iload_n F 5 dX5_run_108 rfl rfl ?_
      refine u_callVv (k := 0) (n := 0) (b := a 6) (As := [.int p1]) (st := []) F (fun sz => S_X5_begin l D K a (gu_st G 45 (va_cpy (G 62) (G 45) (r91.toInt).toNat 0 ((G 18 0).toInt).toNat)) p1 s1 e1 (by omega) (gu_I.cpy (j := 45) (f := G 62) (sp := (r91.toInt).toNat) (dp := 0) hI (fun k_ => (show ((-9998) : Int) ≤ (G 62 ((r91.toInt).toNat + k_)).toInt ∧ (G 62 ((r91.toInt).toNat + k_)).toInt ≤ 5000 from ⟨Int.le_trans (show ((-9998) : Int) ≤ (-9998) by decide) (hI 62 _).1, Int.le_trans (hI 62 _).2 (show (5000 : Int) ≤ 5000 by decide)⟩))) sz) (cwV 1 hts gX5_run_X5_begin rfl rfl rfl (by decide +kernel) ⟨Nat.le_of_ble_eq_true rfl, Nat.le_of_ble_eq_true rfl⟩) rfl 6 xc_6 rfl (Nat.le_of_ble_eq_true rfl) ⟨Nat.zero_le _, Nat.zero_le _⟩ dX5_run_109 (fun G110 hw109 => ?_)
      have hI111 : xI G110 := hw109.1
      have hU112 : gu_un xcd [608, 613, 614, 615, 617, 618, 619, 620, 4400, 4600] (gu_st G 45 (va_cpy (G 62) (G 45) (r91.toInt).toNat 0 ((G 18 0).toInt).toNat)) G110 := hw109.2.1
      have hp113 := hw109.2.2
      have q114 : xMt (gu_st G 45 (va_cpy (G 62) (G 45) (r91.toInt).toNat 0 ((G 18 0).toInt).toNat)) G110 := hp113.1
      have q115 : (∀ q : Nat, q < 16 → G110 46 q = -1) := hp113.2.1
      have q116 : (G110 6 12 = p1 ∧ G110 6 13 = 0 ∧ G110 6 14 = 0 ∧ G110 6 16 = 0 ∧ G110 6 17 = 0 ∧ G110 6 18 = 0 ∧ G110 6 19 = 0) := hp113.2.2
      have bz13 : (G110 6 13).toInt = 0 := by rw [q116.2.1]; rfl
      have bz14 : (G110 6 14).toInt = 0 := by rw [q116.2.2.1]; rfl
      have bz19 : (G110 6 19).toInt = 0 := by rw [q116.2.2.2.2.2.2]; rfl
      clear hp113 hw109
      refine g_iconst F 0 dX5_run_112 (by decide) ?_
      refine g_istore F [(8, .int 0), (7, .int r103), (6, .int r96), (5, .int (G 18 0)), (0, .ref (a 6)), (1, .ref (a 62)), (2, .int p1), (3, .int p2), (4, .int p3)] dX5_run_113 (by decide) rfl ?_
      refine g_iconst F 0 dX5_run_115 (by decide) ?_
      refine g_istore F [(9, .int 0), (8, .int 0), (7, .int r103), (6, .int r96), (5, .int (G 18 0)), (0, .ref (a 6)), (1, .ref (a 62)), (2, .int p1), (3, .int p2), (4, .int p3)] dX5_run_116 (by decide) rfl ?_
      refine g_iconst F 0 dX5_run_118 (by decide) ?_
      refine g_istore F [(10, .int 0), (9, .int 0), (8, .int 0), (7, .int r103), (6, .int r96), (5, .int (G 18 0)), (0, .ref (a 6)), (1, .ref (a 62)), (2, .int p1), (3, .int p2), (4, .int p3)] dX5_run_119 (by decide) rfl ?_
      refine g_locals [(0, .ref (a 6)), (3, .int p2), (4, .int p3), (5, .int (G 18 0)), (6, .int r96), (7, .int r103), (8, .int 0), (9, .int 0), (10, .int 0)] [6, 9, 10, 5, 4, 3, 2, 1, 0] rfl ?_
      exact J_121 _ r96 r103 0 0 0 G110 (Nat.lt_succ_self _) (by have h9 := ti_rng r96; omega) (by have h9 := ti_rng r103; omega) (by decide) (by decide) (by decide) hI111 (gu_un.tr (gu_un.sw (j := 45) (f := (va_cpy (G 62) (G 45) (r91.toInt).toNat 0 ((G 18 0).toInt).toNat)) gu_un.rf (fun _ => show (4500 : Nat) ∈ ([608, 613, 614, 615, 617, 618, 619, 620, 2100, 2400, 2700, 4400, 4500, 4600, 4700, 4800] : List Nat) by decide)) (gu_un.su hU112 rfl)) (⟨0, by rw [show Int32.toInt 0 = 0 from rfl, Int.zero_mul]; exact Int.le_refl 0, fun _ => ⟨by rw [show Int32.toInt 0 = 0 from rfl, Int.zero_mul]; rfl, by show (0 : Int) = 0 % _; rw [Int.zero_emod]⟩, fun hz => ⟨(xRl.at0 (fun q hq => by rw [(show G110 45 = (va_cpy (G 62) (G 45) (r91.toInt).toNat 0 ((G 18 0).toInt).toNat) from ((show G110 45 = (gu_st G 45 (va_cpy (G 62) (G 45) (r91.toInt).toNat 0 ((G 18 0).toInt).toNat)) 45 from funext fun k_ => hU112 45 k_ (by simp [xcd])).trans (show (gu_st G 45 (va_cpy (G 62) (G 45) (r91.toInt).toNat 0 ((G 18 0).toInt).toNat)) 45 = (va_cpy (G 62) (G 45) (r91.toInt).toNat 0 ((G 18 0).toInt).toNat) from rfl)))]; unfold va_cpy; rw [if_pos (by omega)]; congr 1; omega) q115 (by omega) q116).sh rfl, fun Q C _ h9 => absurd rfl h9⟩⟩) (⟨by rw [q99 ⟨rfl, by omega, by omega⟩]; exact psMx_eq (h := (gu_st G 45 (va_cpy (G 62) (G 45) (r91.toInt).toNat 0 ((G 18 0).toInt).toNat)) 45) (g := psHr (G 62) (G 6 1).toInt (G 18 0).toInt) (n := ((G 18 0).toInt - 1).toNat) (fun q hq => by show va_cpy _ _ _ _ _ q = psHr _ _ _ q; unfold va_cpy psHr; rw [if_pos (by omega), if_pos (by omega)]; congr 1; omega), q106⟩) (xMt.tr q114 (show G110 6 7 = G110 6 7 from (show gu_un xcd [] G110 G110 from gu_un.rf) 6 7 (by decide)) (show G110 44 = G110 44 from funext fun k_ => (show gu_un xcd [] G110 G110 from gu_un.rf) 44 k_ (by simp [xcd]))) (by (first | omega | (simp only [Int32.reduceToInt, true_and, and_true, ne_eq, not_true_eq_false, false_and, or_false, false_or, true_or, or_true, false_implies] <;> omega))) (by (first | omega | (simp only [Int32.reduceToInt, true_and, and_true, ne_eq, not_true_eq_false, false_and, or_false, false_or, true_or, or_true, false_implies] <;> omega))) (by have e9_6_4 : G110 6 4 = (G 6 4) := hU112 6 4 (by decide); (try simp only [e9_6_4, true_and, and_true]) <;> (first | omega | (simp only [Int32.reduceToInt, true_and, and_true, ne_eq, not_true_eq_false, false_and, or_false, false_or, true_or, or_true, false_implies] <;> omega))) (by omega)
    · refine g_bipush F (-4) dX5_run_95 (by decide) ?_
      exact u_iret F hA hQ hr (gu_st G 45 (va_cpy (G 62) (G 45) (r91.toInt).toNat 0 ((G 18 0).toInt).toNat)) (⟨(gu_I.cpy (j := 45) (f := G 62) (sp := (r91.toInt).toNat) (dp := 0) hI (fun k_ => (show ((-9998) : Int) ≤ (G 62 ((r91.toInt).toNat + k_)).toInt ∧ (G 62 ((r91.toInt).toNat + k_)).toInt ≤ 5000 from ⟨Int.le_trans (show ((-9998) : Int) ≤ (-9998) by decide) (hI 62 _).1, Int.le_trans (hI 62 _).2 (show (5000 : Int) ≤ 5000 by decide)⟩))), (gu_un.sw (j := 45) (f := (va_cpy (G 62) (G 45) (r91.toInt).toNat 0 ((G 18 0).toInt).toNat)) gu_un.rf (fun _ => show (4500 : Nat) ∈ ([608, 613, 614, 615, 616, 617, 618, 619, 620, 2100, 2400, 2700, 4400, 4500, 4600, 4700, 4800] : List Nat) by decide)), (by decide), (by show ((-4) = -4 ∨ (0 ≤ (-4) ∧ (-4) ≤ 2)); (first | omega | (simp only [Int32.reduceToInt, true_and, and_true, ne_eq, not_true_eq_false, false_and, or_false, false_or, true_or, or_true, false_implies] <;> omega))), (fun h9 => absurd rfl h9.2), (by have h7 := q99 ⟨rfl, by omega, by omega⟩; have h6 := psMx_eq (h := (gu_st G 45 (va_cpy (G 62) (G 45) (r91.toInt).toNat 0 ((G 18 0).toInt).toNat)) 45) (g := psHr (G 62) (G 6 1).toInt (G 18 0).toInt) (n := ((G 18 0).toInt - 1).toNat) (fun q hq => by show va_cpy _ _ _ _ _ q = psHr _ _ _ q; unfold va_cpy psHr; rw [if_pos (by omega), if_pos (by omega)]; congr 1; omega); rw [h6] at h7; exact Or.inl ⟨by decide, by omega⟩)⟩) rfl rfl dX5_run_97
  · have q86 : ((G 6 1).toInt < 0 ∨ (G 18 1).toInt ≤ (G 6 1).toInt) := q86
    refine v_if_eq F 45 dX5_run_22 (by decide) 0 rfl (fun c117 => ?_) (fun c117 => absurd c117 (by decide))
    refine g_bipush F (-4) dX5_run_45 (by decide) ?_
    exact u_iret F hA hQ hr G (⟨hI, gu_un.rf, (by decide), (by show ((-4) = -4 ∨ (0 ≤ (-4) ∧ (-4) ≤ 2)); (first | omega | (simp only [Int32.reduceToInt, true_and, and_true, ne_eq, not_true_eq_false, false_and, or_false, false_or, true_or, or_true, false_implies] <;> omega))), (fun h9 => absurd rfl h9.2), (by exfalso; omega)⟩) rfl rfl dX5_run_47


set_option maxHeartbeats 4000000 in
set_option maxRecDepth 100000 in
theorem S_X5_storeHeights_63 (l : Launch) (D : va_G) (K : Nat → ClassId) (a : Nat → Nat) (G : gS) (hrg : (0 ≤ (G 6 1).toInt ∧ (G 6 1).toInt ≤ 5)) (hI : xI G) (sz : Nat) : Kv l yX5_storeHeights wsX5_storeHeights 2 61 0 0 D [.ref (a 6), .ref (a 63)] (xW K a G) (tK K) sz (fun (G' : gS) => (xI G') ∧ (gu_un xcd [6300] G G') ∧ ((∀ q : Nat, G' 63 q = sHr (G 63) (G 45) (G 6 1).toInt (G 18 0).toInt q))) (fun (G' : gS) => (xW K a G')) (fun _ => (tK K)) := by
  unfold Kv
  refine g_ofW (cc := cX5_storeHeights) (lv := [(0, .ref (a 6)), (1, .ref (a 63))]) (by decide) rfl (Nat.le_of_ble_eq_true rfl) rfl ?_
  intro p e s m args below meth c A Q hA hQ F hr hnm
  have hts := F.2.2.2.2.1
  have w_0 : (Cond.fieldLink RX5 17 "QuietCut$Lathe" "heights" "[I").before args s = true := hts _ (List.mem_of_getElem? (i := 4) rfl)
  have i_X5 : ∀ w ∈ u_ws RX5 TX5 20, w ∈ wsX5_storeHeights := fun _ h => List.mem_cons_of_mem _ (List.mem_append_left _ (List.mem_append_right _ h))
  have w_1 : (Cond.fieldLink RX5 29 "QuietCut$Lathe" "shop" "LQuietCut$Shop;").before args s = true := hts _ (List.mem_of_getElem? (i := 1) rfl)
  have w_2 : (Cond.fieldLink RX5 56 "QuietCut$Shop" "numbers" "[I").before args s = true := hts _ (List.mem_of_getElem? (i := 2) rfl)
  have i_X7 : ∀ w ∈ u_ws RX7 TX7 4, w ∈ wsX5_storeHeights := fun _ h => List.mem_cons_of_mem _ (List.mem_append_right _ h)
  have w_3 : (Cond.fieldLink RX5 33 "QuietCut$Lathe" "ring" "I").before args s = true := hts _ (List.mem_of_getElem? (i := 3) rfl)
  have b1 : (4 : Int) ≤ (G 18 0).toInt ∧ (G 18 0).toInt ≤ 16 := hI 18 0
  have J_22 : ∀ (fuel : Nat) (x22_3 : Int32) (x22_4 : Int32) (Gj22 : gS), (2147483647 - x22_4.toInt).toNat < fuel → (0 ≤ x22_3.toInt ∧ x22_3.toInt ≤ 95) → (0 ≤ x22_4.toInt ∧ x22_4.toInt ≤ 16) → (xI Gj22) → (gu_un xcd [6300] G Gj22) → (∀ q : Nat, Gj22 63 q = sHr (G 63) (G 45) (G 6 1).toInt x22_4.toInt q) → ((x22_3.toInt = (G 6 1).toInt * 16)) → ((x22_4.toInt ≤ (G 18 0).toInt)) → gG p l e (gR 2 0 0 61) s m args below meth c D A 5 Q 0 0 (xW K a Gj22) (tK K) [(0, .ref (a 6)), (1, .ref (a 63)), (2, .int (G 18 0)), (3, .int x22_3), (4, .int x22_4)] 22 [] := by
    intro fuel
    induction fuel with
    | zero => intro x22_3 x22_4 Gj22 hm; exact absurd hm (Nat.not_lt_zero _)
    | succ fuel_22 ih_22 =>
      intro x22_3 x22_4 Gj22 hm_22 h22_3 h22_4 jI22 jU22 sh s3 il
      refine g_iload F 4 dX5_storeHeights_22 rfl ?_
      refine g_iload_n F 2 dX5_storeHeights_24 rfl rfl ?_
      refine v_icmp_ge F 67 dX5_storeHeights_25 (by decide) x22_4.toInt (G 18 0).toInt rfl rfl (fun c2 => ?_) (fun c2 => ?_)
      · exact u_vret F hA hQ hr Gj22 (⟨jI22, (gu_un.tr gu_un.rf (gu_un.su jU22 rfl)), (fun q => by have h9 := sh q; rw [show x22_4.toInt = (G 18 0).toInt by omega] at h9; exact h9)⟩) rfl rfl dX5_storeHeights_67
      · refine g_iload F 4 dX5_storeHeights_28 rfl ?_
        refine g_bipush F 16 dX5_storeHeights_30 (by decide) ?_
        refine v_icmp_ge F 67 dX5_storeHeights_32 (by decide) x22_4.toInt 16 rfl rfl (fun c3 => absurd c3 (by omega)) (fun c3 => ?_)
        refine g_iload_n F 3 dX5_storeHeights_35 rfl rfl ?_
        refine v_if_lt F 61 dX5_storeHeights_36 (by decide) x22_3.toInt rfl (fun c4 => absurd c4 (by omega)) (fun c4 => ?_)
        refine g_iload_n F 3 dX5_storeHeights_39 rfl rfl ?_
        refine g_iload F 4 dX5_storeHeights_40 rfl ?_
        refine u_iadd F dX5_storeHeights_42 x22_3.toInt x22_4.toInt rfl rfl (by omega) (by omega) (fun y5 ey5 => ?_)
        refine g_aload_n F 1 dX5_storeHeights_43 rfl rfl ?_
        refine g_alen F 63 0 xc_63 rfl 96 rfl dX5_storeHeights_44 ?_
        refine v_icmp_ge F 61 dX5_storeHeights_45 (by decide) y5.toInt 96 rfl rfl (fun c6 => ?_) (fun c6 => ?_)
        · refine u_iinc F (fun v_ => [(4, .int v_), (0, .ref (a 6)), (1, .ref (a 63)), (2, .int (G 18 0)), (3, .int x22_3)]) dX5_storeHeights_61 (j := 4) rfl x22_4.toInt 1 rfl rfl (by omega) (by omega) (by decide) (fun _ => rfl) (fun y7 ey7 => ?_)
          refine g_goto F 22 dX5_storeHeights_64 (by decide) ?_
          refine g_locals [(0, .ref (a 6)), (1, .ref (a 63)), (2, .int (G 18 0)), (3, .int x22_3), (4, .int y7)] [1, 2, 3, 4, 0] rfl ?_
          exact ih_22 x22_3 y7 Gj22 (by omega) (by have h9 := ti_rng x22_3; omega) (by have h9 := ti_rng y7; omega) jI22 (gu_un.tr gu_un.rf (gu_un.su jU22 rfl)) (by exfalso; omega) (by have e9_6_1 : Gj22 6 1 = (G 6 1) := jU22 6 1 (by decide); (try simp only [e9_6_1, true_and, and_true]) <;> (first | omega | (simp only [Int32.reduceToInt, true_and, and_true, ne_eq, not_true_eq_false, false_and, or_false, false_or, true_or, or_true, false_implies] <;> omega))) (by have e9_18_0 : Gj22 18 0 = (G 18 0) := jU22 18 0 (by decide); (try simp only [e9_18_0, true_and, and_true]) <;> (first | omega | (simp only [Int32.reduceToInt, true_and, and_true, ne_eq, not_true_eq_false, false_and, or_false, false_or, true_or, or_true, false_implies] <;> omega)))
        · refine g_aload_n F 1 dX5_storeHeights_48 rfl rfl ?_
          refine g_iload_n F 3 dX5_storeHeights_49 rfl rfl ?_
          refine g_iload F 4 dX5_storeHeights_50 rfl ?_
          refine u_iadd F dX5_storeHeights_52 x22_3.toInt x22_4.toInt rfl rfl (by omega) (by omega) (fun y8 ey8 => ?_)
          refine g_aload_n F 0 dX5_storeHeights_53 rfl rfl ?_
          refine xg_6_8 F i_X5 w_0 dX5_storeHeights_54 ?_
          refine g_iload F 4 dX5_storeHeights_57 rfl ?_
          refine u1_iald F 45 0 xc_45 rfl x22_4.toInt rfl (by omega) (by omega) dX5_storeHeights_59 ((G 45) (x22_4.toInt).toNat) (congrFun ((show Gj22 45 = G 45 from funext fun k_ => jU22 45 k_ (show (4500 : Nat) ∉ ([6300] : List Nat) by decide))) _) ?_
          have b9 : ((-9998) : Int) ≤ ((G 45) (x22_4.toInt).toNat).toInt ∧ ((G 45) (x22_4.toInt).toNat).toInt ≤ 5000 := hI 45 _
          refine u_iast F 63 0 xc_63 rfl y8.toInt rfl (by omega) (by omega) (xW K a (gu_up Gj22 63 (y8.toInt).toNat ((G 45) (x22_4.toInt).toNat))) (xs_63 _) dX5_storeHeights_60 ?_
          refine u_iinc F (fun v_ => [(4, .int v_), (0, .ref (a 6)), (1, .ref (a 63)), (2, .int (G 18 0)), (3, .int x22_3)]) dX5_storeHeights_61 (j := 4) rfl x22_4.toInt 1 rfl rfl (by omega) (by omega) (by decide) (fun _ => rfl) (fun y10 ey10 => ?_)
          refine g_goto F 22 dX5_storeHeights_64 (by decide) ?_
          refine g_locals [(0, .ref (a 6)), (1, .ref (a 63)), (2, .int (G 18 0)), (3, .int x22_3), (4, .int y10)] [1, 2, 3, 4, 0] rfl ?_
          exact ih_22 x22_3 y10 (gu_up Gj22 63 (y8.toInt).toNat ((G 45) (x22_4.toInt).toNat)) (by omega) (by have h9 := ti_rng x22_3; omega) (by have h9 := ti_rng y10; omega) (gu_I.up (j := 63) (k := (y8.toInt).toNat) (v := ((G 45) (x22_4.toInt).toNat)) jI22 (show ((-9998) : Int) ≤ Int32.toInt ((G 45) (x22_4.toInt).toNat) by omega) (show Int32.toInt ((G 45) (x22_4.toInt).toNat) ≤ 5000 by omega)) (gu_un.up (j := 63) (k := (y8.toInt).toNat) (v := ((G 45) (x22_4.toInt).toNat)) (gu_un.tr gu_un.rf (gu_un.su jU22 rfl)) (show (6300 : Nat) ∈ ([6300] : List Nat) by decide)) (sHr_1 (i := x22_4.toInt) (k := y8.toInt) sh (by omega) (by omega) (by omega) rfl (by omega)) (by have e9_6_1 : (gu_up Gj22 63 (y8.toInt).toNat ((G 45) (x22_4.toInt).toNat)) 6 1 = (G 6 1) := jU22 6 1 (by decide); (try simp only [e9_6_1, true_and, and_true]) <;> (first | omega | (simp only [Int32.reduceToInt, true_and, and_true, ne_eq, not_true_eq_false, false_and, or_false, false_or, true_or, or_true, false_implies] <;> omega))) (by have e9_18_0 : (gu_up Gj22 63 (y8.toInt).toNat ((G 45) (x22_4.toInt).toNat)) 18 0 = (G 18 0) := jU22 18 0 (by decide); (try simp only [e9_18_0, true_and, and_true]) <;> (first | omega | (simp only [Int32.reduceToInt, true_and, and_true, ne_eq, not_true_eq_false, false_and, or_false, false_or, true_or, or_true, false_implies] <;> omega)))
  refine g_aload_n F 0 dX5_storeHeights_0 rfl rfl ?_
  refine xg_6_0 F i_X5 w_1 dX5_storeHeights_1 ?_
  refine xg_2_0 F i_X7 w_2 dX5_storeHeights_4 ?_
  refine g_iconst F 0 dX5_storeHeights_7 (by decide) ?_
  refine u1_iald F 18 0 xc_18 rfl 0 rfl (by decide) (by decide) dX5_storeHeights_8 (G 18 0) (rfl) ?_
  refine g_istore_n F [(2, .int (G 18 0)), (0, .ref (a 6)), (1, .ref (a 63))] dX5_storeHeights_9 rfl (by decide) rfl ?_
  refine g_aload_n F 1 dX5_storeHeights_10 rfl rfl ?_
  refine xg_6_1 F i_X5 w_3 dX5_storeHeights_11 (G 6 1) (rfl) ?_
  refine g_iconst F 0 dX5_storeHeights_14 (by decide) ?_
  refine u_call0 (k := 0) (n := 0) (As := [.int (G 6 1), .int 0]) (st := []) F (fun sz => S_X6_placeOf_b5_b15 l D (G 6 1) (G 6 1).toInt 0 0 rfl (by omega) rfl (by decide) sz) (va_cwS 2 hts gX5_storeHeights_X6_placeOf rfl rfl rfl (by decide +kernel) ⟨Nat.le_of_ble_eq_true rfl, Nat.le_of_ble_eq_true rfl⟩) rfl (Nat.le_of_ble_eq_true rfl) ⟨Nat.zero_le _, Nat.zero_le _⟩ dX5_storeHeights_15 (fun r11 _ hw12 => ?_)
  have rg14 := hw12.1
  have rg15 := hw12.2
  clear hw12
  refine g_istore_n F [(3, .int r11), (2, .int (G 18 0)), (0, .ref (a 6)), (1, .ref (a 63))] dX5_storeHeights_18 rfl (by decide) rfl ?_
  refine g_iconst F 0 dX5_storeHeights_19 (by decide) ?_
  refine g_istore F [(4, .int 0), (3, .int r11), (2, .int (G 18 0)), (0, .ref (a 6)), (1, .ref (a 63))] dX5_storeHeights_20 (by decide) rfl ?_
  refine g_locals [(0, .ref (a 6)), (1, .ref (a 63)), (2, .int (G 18 0)), (3, .int r11), (4, .int 0)] [3, 4, 2, 1, 0] rfl ?_
  exact J_22 _ r11 0 G (Nat.lt_succ_self _) (by have h9 := ti_rng r11; omega) (by decide) hI gu_un.rf (sHr_0 rfl) (by (first | omega | (simp only [Int32.reduceToInt, true_and, and_true, ne_eq, not_true_eq_false, false_and, or_false, false_or, true_or, or_true, false_implies] <;> omega))) (by (first | omega | (simp only [Int32.reduceToInt, true_and, and_true, ne_eq, not_true_eq_false, false_and, or_false, false_or, true_or, or_true, false_implies] <;> omega)))


set_option maxHeartbeats 4000000 in
set_option maxRecDepth 100000 in
theorem S_X4_staysQuiet_v3 (l : Launch) (D : va_G) (K : Nat → ClassId) (a : Nat → Nat) (G : gS) (p0 : Int32) (s0 : Int) (e0 : p0.toInt = s0) (h0 : 0 ≤ s0 ∧ s0 ≤ 4) (hI : xI G) (sz : Nat) : Ki l yX4_staysQuiet wsX4_staysQuiet 5 148 0 0 D [.ref (a 8), .int p0, .int 3] (xW K a G) (tK K) sz (fun (r : Int32) (G' : gS) => (xI G') ∧ (gu_un xcd [602, 603, 604, 605, 608, 613, 614, 615, 616, 617, 618, 619, 620, 2100, 2400, 2700, 4400, 4500, 4600, 4700, 4800, 6300, 6500] G G') ∧ (0 ≤ r.toInt ∧ r.toInt ≤ 1)) (fun (G' : gS) => (xW K a G')) (fun _ => (tK K)) := by
  unfold Ki
  refine g_ofW (cc := cX4_staysQuiet) (lv := [(0, .ref (a 8)), (1, .int p0), (2, .int 3)]) (by decide) rfl (Nat.le_of_ble_eq_true rfl) rfl ?_
  intro p e s m args below meth c A Q hA hQ F hr hnm
  have hts := F.2.2.2.2.1
  have w_0 : (Cond.fieldLink RX4 33 "QuietCut$Jobs" "lathe" "LQuietCut$Lathe;").before args s = true := hts _ (List.mem_of_getElem? (i := 1) rfl)
  have i_X4 : ∀ w ∈ u_ws RX4 TX4 12, w ∈ wsX4_staysQuiet := fun _ h => List.mem_cons_of_mem _ (List.mem_append_left _ (List.mem_append_left _ (List.mem_append_left _ (List.mem_append_right _ h))))
  have w_1 : (Cond.fieldLink RX4 13 "QuietCut$Jobs" "jobs" "[[I").before args s = true := hts _ (List.mem_of_getElem? (i := 2) rfl)
  have w_2 : (Cond.fieldLink RX4 16 "QuietCut$Jobs" "heights" "[[I").before args s = true := hts _ (List.mem_of_getElem? (i := 3) rfl)
  have w_3 : (Cond.fieldLink RX4 19 "QuietCut$Jobs" "wears" "[I").before args s = true := hts _ (List.mem_of_getElem? (i := 4) rfl)
  have w_4 : (Cond.fieldLink RX4 44 "QuietCut$Jobs" "stiff" "I").before args s = true := hts _ (List.mem_of_getElem? (i := 5) rfl)
  have w_5 : (Cond.fieldLink RX4 47 "QuietCut$Jobs" "damp" "I").before args s = true := hts _ (List.mem_of_getElem? (i := 6) rfl)
  have w_6 : (Cond.methodLink RX4 64 arraycopyName).before args s = true := hts _ (List.mem_of_getElem? (i := 7) rfl)
  have w_7 : (Cond.native arraycopyName).before args s = true := hts _ (List.mem_of_getElem? (i := 8) rfl)
  have w_8 : (Cond.static arraycopyName).before args s = true := hts _ (List.mem_of_getElem? (i := 9) rfl)
  have w_9 : (Cond.initialized "java/lang/System").before args s = true := hts _ (List.mem_of_getElem? (i := 10) rfl)
  have w_10 : (Cond.fieldLink RX4 94 "QuietCut$Lathe" "wear" "I").before args s = true := hts _ (List.mem_of_getElem? (i := 11) rfl)
  have i_X5 : ∀ w ∈ u_ws RX5 TX5 20, w ∈ wsX4_staysQuiet := fun _ h => List.mem_cons_of_mem _ (List.mem_append_left _ (List.mem_append_left _ (List.mem_append_right _ h)))
  refine g_aload_n F 0 dX4_staysQuiet_0 rfl rfl ?_
  refine xg_8_1 F i_X4 w_0 dX4_staysQuiet_1 ?_
  refine g_aload_n F 0 dX4_staysQuiet_4 rfl rfl ?_
  refine xg_8_2 F i_X4 w_1 dX4_staysQuiet_5 ?_
  refine g_iconst F 0 dX4_staysQuiet_8 (by decide) ?_
  refine g_aald (b := a 54) F 53 1 xc_53 rfl (ti_in (show Int32.toInt 0 = 0 from rfl) (by decide) (by decide)) (by rw [show Int32.toNatClampNeg 0 = 0 from congrArg Int.toNat (show Int32.toInt 0 = 0 from rfl)]; rfl) dX4_staysQuiet_9 ?_
  refine g_iload_n F 1 dX4_staysQuiet_10 rfl rfl ?_
  refine u_iald F 54 0 xc_54 rfl s0 e0 (by omega) (by omega) dX4_staysQuiet_11 (fun _ => True) (fun _ => trivial) (fun y1 by1 => ?_)
  refine g_aload_n F 0 dX4_staysQuiet_12 rfl rfl ?_
  refine xg_8_2 F i_X4 w_1 dX4_staysQuiet_13 ?_
  refine g_iconst F 1 dX4_staysQuiet_16 (by decide) ?_
  refine g_aald (b := a 55) F 53 1 xc_53 rfl (ti_in (show Int32.toInt 1 = 1 from rfl) (by decide) (by decide)) (by rw [show Int32.toNatClampNeg 1 = 1 from congrArg Int.toNat (show Int32.toInt 1 = 1 from rfl)]; rfl) dX4_staysQuiet_17 ?_
  refine g_iload_n F 1 dX4_staysQuiet_18 rfl rfl ?_
  refine u_iald F 55 0 xc_55 rfl s0 e0 (by omega) (by omega) dX4_staysQuiet_19 (fun _ => True) (fun _ => trivial) (fun y2 by2 => ?_)
  refine g_aload_n F 0 dX4_staysQuiet_20 rfl rfl ?_
  refine xg_8_2 F i_X4 w_1 dX4_staysQuiet_21 ?_
  refine g_iconst F 2 dX4_staysQuiet_24 (by decide) ?_
  refine g_aald (b := a 56) F 53 1 xc_53 rfl (ti_in (show Int32.toInt 2 = 2 from rfl) (by decide) (by decide)) (by rw [show Int32.toNatClampNeg 2 = 2 from congrArg Int.toNat (show Int32.toInt 2 = 2 from rfl)]; rfl) dX4_staysQuiet_25 ?_
  refine g_iload_n F 1 dX4_staysQuiet_26 rfl rfl ?_
  refine u_iald F 56 0 xc_56 rfl s0 e0 (by omega) (by omega) dX4_staysQuiet_27 (fun _ => True) (fun _ => trivial) (fun y3 by3 => ?_)
  refine g_aload_n F 0 dX4_staysQuiet_28 rfl rfl ?_
  refine xg_8_2 F i_X4 w_1 dX4_staysQuiet_29 ?_
  refine g_iconst F 3 dX4_staysQuiet_32 (by decide) ?_
  refine g_aald (b := a 57) F 53 1 xc_53 rfl (ti_in (show Int32.toInt 3 = 3 from rfl) (by decide) (by decide)) (by rw [show Int32.toNatClampNeg 3 = 3 from congrArg Int.toNat (show Int32.toInt 3 = 3 from rfl)]; rfl) dX4_staysQuiet_33 ?_
  refine g_iload_n F 1 dX4_staysQuiet_34 rfl rfl ?_
  refine u_iald F 57 0 xc_57 rfl s0 e0 (by omega) (by omega) dX4_staysQuiet_35 (fun _ => True) (fun _ => trivial) (fun y4 by4 => ?_)
  refine u_callVi (k := 0) (n := 0) (b := a 6) (As := [.int y1, .int y2, .int y3, .int y4]) (st := []) F (fun sz => S_X5_takes l D K a G y1 y1.toInt y2 y2.toInt y3 y3.toInt y4 y4.toInt rfl rfl rfl rfl hI sz) (cwV 4 hts gX4_staysQuiet_X5_takes rfl rfl rfl (by decide +kernel) ⟨Nat.le_of_ble_eq_true rfl, Nat.le_of_ble_eq_true rfl⟩) rfl 6 xc_6 rfl (Nat.le_of_ble_eq_true rfl) ⟨Nat.zero_le _, Nat.zero_le _⟩ dX4_staysQuiet_36 (fun r5 G7 hw6 => ?_)
  have hI8 : xI G7 := hw6.1
  have hU9 : gu_un xcd [602, 603, 604, 605] G G7 := hw6.2.1
  have hp10 := hw6.2.2
  have q11 : ((G7 6 1).toInt = y1.toInt ∧ (G7 6 2).toInt = y2.toInt ∧ (G7 6 3).toInt = y3.toInt ∧ (G7 6 4).toInt = y4.toInt) := hp10.2
  rcases hp10.1 with ⟨rfl, q12⟩ | ⟨rfl, q13⟩
  · have b14 : (1 : Int) ≤ (G 18 1).toInt ∧ (G 18 1).toInt ≤ 6 := hI 18 1
    have q12 : (0 ≤ y1.toInt ∧ y1.toInt < (G 18 1).toInt ∧ 1 ≤ y2.toInt ∧ y2.toInt ≤ 9 ∧ 1 ≤ y3.toInt ∧ y3.toInt ≤ 20 ∧ 1 ≤ y4.toInt ∧ y4.toInt ≤ 12) := by have h9 := q12; (try simp only [(show G7 18 1 = (G 18 1) from hU9 18 1 (by decide))] at h9); exact h9
    refine v_if_ne F 44 dX4_staysQuiet_39 (by decide) 1 rfl (fun c15 => ?_) (fun c15 => absurd c15 (by decide))
    refine g_aload_n F 0 dX4_staysQuiet_44 rfl rfl ?_
    refine xg_8_1 F i_X4 w_0 dX4_staysQuiet_45 ?_
    refine g_aload_n F 0 dX4_staysQuiet_48 rfl rfl ?_
    refine xg_8_4 F i_X4 w_2 dX4_staysQuiet_49 ?_
    refine g_iload_n F 2 dX4_staysQuiet_52 rfl rfl ?_
    refine g_aald (b := a 62) F 58 1 xc_58 rfl (ti_in (show Int32.toInt 3 = 3 from rfl) (by decide) (by decide)) (by rw [show Int32.toNatClampNeg 3 = 3 from congrArg Int.toNat (show Int32.toInt 3 = 3 from rfl)]; rfl) dX4_staysQuiet_53 ?_
    refine g_aload_n F 0 dX4_staysQuiet_54 rfl rfl ?_
    refine xg_8_5 F i_X4 w_3 dX4_staysQuiet_55 ?_
    refine g_iload_n F 2 dX4_staysQuiet_58 rfl rfl ?_
    refine u1_iald F 65 0 xc_65 rfl 3 rfl (by decide) (by decide) dX4_staysQuiet_59 (G 65 3) (hU9 65 3 (by decide)) ?_
    refine g_aload_n F 0 dX4_staysQuiet_60 rfl rfl ?_
    refine xg_8_10 F i_X4 w_4 dX4_staysQuiet_61 (G 8 10) (hU9 8 10 (by decide)) ?_
    refine g_aload_n F 0 dX4_staysQuiet_64 rfl rfl ?_
    refine xg_8_11 F i_X4 w_5 dX4_staysQuiet_65 (G 8 11) (hU9 8 11 (by decide)) ?_
    have b16 : (0 : Int) ≤ (G 65 3).toInt ∧ (G 65 3).toInt ≤ 30000 := hI 65 3
    have b17 : (0 : Int) ≤ (G 8 10).toInt ∧ (G 8 10).toInt ≤ 300 := hI 8 10
    have b18 : (0 : Int) ≤ (G 8 11).toInt ∧ (G 8 11).toInt ≤ 300 := hI 8 11
    refine u_callVi (k := 0) (n := 0) (b := a 6) (As := [.ref (a 62), .int (G 65 3), .int (G 8 10), .int (G 8 11)]) (st := []) F (fun sz => S_X5_run_62 l D K a G7 (G 65 3) (G 65 3).toInt (G 8 10) (G 8 10).toInt (G 8 11) (G 8 11).toInt rfl (by omega) rfl (by omega) rfl (by omega) (by have e9_18_1 : G7 18 1 = (G 18 1) := hU9 18 1 (by decide); (try simp only [e9_18_1, true_and, and_true]) <;> (first | omega | (simp only [Int32.reduceToInt, true_and, and_true, ne_eq, not_true_eq_false, false_and, or_false, false_or, true_or, or_true, false_implies] <;> omega))) hI8 sz) (cwV 4 hts gX4_staysQuiet_X5_run rfl rfl rfl (by decide +kernel) ⟨Nat.le_of_ble_eq_true rfl, Nat.le_of_ble_eq_true rfl⟩) rfl 6 xc_6 rfl (Nat.le_of_ble_eq_true rfl) ⟨Nat.zero_le _, Nat.zero_le _⟩ dX4_staysQuiet_68 (fun r19 G21 hw20 => ?_)
    have hI22 : xI G21 := hw20.1
    have hU23 : gu_un xcd [608, 613, 614, 615, 616, 617, 618, 619, 620, 2100, 2400, 2700, 4400, 4500, 4600, 4700, 4800] G7 G21 := hw20.2.1
    have hp24 := hw20.2.2
    have q25 : (r19.toInt = -4 ∨ (0 ≤ r19.toInt ∧ r19.toInt ≤ 2)) := hp24.2.1
    have q26 : ((xTok G7 ∧ r19.toInt ≠ -4) → xOut G7 (G7 62) (G 65 3) (G 8 10) (G 8 11) G21 r19.toInt) := hp24.2.2.1
    have b27 : (4 : Int) ≤ (G 18 0).toInt ∧ (G 18 0).toInt ≤ 16 := hI 18 0
    have q28 : ((r19.toInt = -4 ∧ psMx (psHr (G 62) (G7 6 1).toInt (G 18 0).toInt) ((G 18 0).toInt - 1).toNat - (G7 6 3).toInt * (G7 6 4).toInt < 1) ∨ (r19.toInt ≠ -4 ∧ 1 ≤ psMx (psHr (G 62) (G7 6 1).toInt (G 18 0).toInt) ((G 18 0).toInt - 1).toNat - (G7 6 3).toInt * (G7 6 4).toInt)) := by have h9 := hp24.2.2.2; (try simp only [(show G7 18 0 = (G 18 0) from hU9 18 0 (by decide)), (show G7 18 0 = (G 18 0) from hU9 18 0 (by decide)), (show G7 18 0 = (G 18 0) from hU9 18 0 (by decide)), (show G7 18 0 = (G 18 0) from hU9 18 0 (by decide)), (show G7 62 = (G 62) from (show G7 62 = G 62 from funext fun k_ => hU9 62 k_ (show (6200 : Nat) ∉ ([602, 603, 604, 605] : List Nat) by decide))), (show G7 62 = (G 62) from (show G7 62 = G 62 from funext fun k_ => hU9 62 k_ (show (6200 : Nat) ∉ ([602, 603, 604, 605] : List Nat) by decide)))] at h9); first | exact h9 | omega
    have rg29 := hp24.1
    clear hp24 hw20
    refine v_if_eq F 76 dX4_staysQuiet_71 (by decide) r19.toInt rfl (fun c30 => ?_) (fun c30 => ?_)
    · refine g_aload_n F 0 dX4_staysQuiet_76 rfl rfl ?_
      refine xg_8_4 F i_X4 w_2 dX4_staysQuiet_77 ?_
      refine g_iload_n F 2 dX4_staysQuiet_80 rfl rfl ?_
      refine g_aald (b := a 62) F 58 1 xc_58 rfl (ti_in (show Int32.toInt 3 = 3 from rfl) (by decide) (by decide)) (by rw [show Int32.toNatClampNeg 3 = 3 from congrArg Int.toNat (show Int32.toInt 3 = 3 from rfl)]; rfl) dX4_staysQuiet_81 ?_
      refine g_iconst F 0 dX4_staysQuiet_82 (by decide) ?_
      refine g_aload_n F 0 dX4_staysQuiet_83 rfl rfl ?_
      refine xg_8_4 F i_X4 w_2 dX4_staysQuiet_84 ?_
      refine g_iload_n F 2 dX4_staysQuiet_87 rfl rfl ?_
      refine g_iconst F 1 dX4_staysQuiet_88 (by decide) ?_
      refine g_iadd F dX4_staysQuiet_89 ?_
      refine g_fold 4 (by decide) ?_
      refine g_aald (b := a 63) F 58 1 xc_58 rfl (ti_in (show Int32.toInt 4 = 4 from rfl) (by decide) (by decide)) (by rw [show Int32.toNatClampNeg 4 = 4 from congrArg Int.toNat (show Int32.toInt 4 = 4 from rfl)]; rfl) dX4_staysQuiet_90 ?_
      refine g_iconst F 0 dX4_staysQuiet_91 (by decide) ?_
      refine g_bipush F 96 dX4_staysQuiet_92 (by decide) ?_
      refine u_copyi F w_6 w_7 w_8 w_9 62 63 0 xc_62 xc_63 rfl 0 0 96 rfl rfl rfl (by decide) (by decide) (by decide) (by decide) (by decide) (Nat.le_of_ble_eq_true rfl) (Nat.le_of_ble_eq_true rfl) (xW K a (gu_st G21 63 (va_cpy (G21 62) (G21 63) 0 0 96))) (xs_63 _) dX4_staysQuiet_94 ?_
      refine g_aload_n F 0 dX4_staysQuiet_97 rfl rfl ?_
      refine xg_8_1 F i_X4 w_0 dX4_staysQuiet_98 ?_
      refine g_aload_n F 0 dX4_staysQuiet_101 rfl rfl ?_
      refine xg_8_4 F i_X4 w_2 dX4_staysQuiet_102 ?_
      refine g_iload_n F 2 dX4_staysQuiet_105 rfl rfl ?_
      refine g_iconst F 1 dX4_staysQuiet_106 (by decide) ?_
      refine g_iadd F dX4_staysQuiet_107 ?_
      refine g_fold 4 (by decide) ?_
      refine g_aald (b := a 63) F 58 1 xc_58 rfl (ti_in (show Int32.toInt 4 = 4 from rfl) (by decide) (by decide)) (by rw [show Int32.toNatClampNeg 4 = 4 from congrArg Int.toNat (show Int32.toInt 4 = 4 from rfl)]; rfl) dX4_staysQuiet_108 ?_
      refine u_callVv (k := 0) (n := 0) (b := a 6) (As := [.ref (a 63)]) (st := []) F (fun sz => S_X5_storeHeights_63 l D K a (gu_st G21 63 (va_cpy (G21 62) (G21 63) 0 0 96))  (by have e9_6_1 : (gu_st G21 63 (va_cpy (G21 62) (G21 63) 0 0 96)) 6 1 = (G7 6 1) := hU23 6 1 (by decide); (try simp only [e9_6_1, true_and, and_true]) <;> (first | omega | (simp only [Int32.reduceToInt, true_and, and_true, ne_eq, not_true_eq_false, false_and, or_false, false_or, true_or, or_true, false_implies] <;> omega))) (gu_I.cpy (j := 63) (f := G21 62) (sp := 0) (dp := 0) hI22 (fun k_ => hI22 62 (0 + k_))) sz) (cwV 1 hts gX4_staysQuiet_X5_storeHeights rfl rfl rfl (by decide +kernel) ⟨Nat.le_of_ble_eq_true rfl, Nat.le_of_ble_eq_true rfl⟩) rfl 6 xc_6 rfl (Nat.le_of_ble_eq_true rfl) ⟨Nat.zero_le _, Nat.zero_le _⟩ dX4_staysQuiet_109 (fun G33 hw32 => ?_)
      have hI34 : xI G33 := hw32.1
      have hU35 : gu_un xcd [6300] (gu_st G21 63 (va_cpy (G21 62) (G21 63) 0 0 96)) G33 := hw32.2.1
      have hp36 := hw32.2.2
      have q37 : (∀ q : Nat, G33 63 q = sHr ((gu_st G21 63 (va_cpy (G21 62) (G21 63) 0 0 96)) 63) (G21 45) (G7 6 1).toInt (G 18 0).toInt q) := by have h9 := hp36; (try simp only [(show (gu_st G21 63 (va_cpy (G21 62) (G21 63) 0 0 96)) 6 1 = (G7 6 1) from hU23 6 1 (by decide)), (show (gu_st G21 63 (va_cpy (G21 62) (G21 63) 0 0 96)) 18 0 = (G 18 0) from (hU23 18 0 (by decide)).trans (hU9 18 0 (by decide)))] at h9); first | exact h9 | omega
      clear hp36 hw32
      refine g_aload_n F 0 dX4_staysQuiet_112 rfl rfl ?_
      refine xg_8_5 F i_X4 w_3 dX4_staysQuiet_113 ?_
      refine g_iload_n F 2 dX4_staysQuiet_116 rfl rfl ?_
      refine g_iconst F 1 dX4_staysQuiet_117 (by decide) ?_
      refine g_iadd F dX4_staysQuiet_118 ?_
      refine g_fold 4 (by decide) ?_
      refine g_aload_n F 0 dX4_staysQuiet_119 rfl rfl ?_
      refine xg_8_1 F i_X4 w_0 dX4_staysQuiet_120 ?_
      refine xg_6_12 F i_X5 w_10 dX4_staysQuiet_123 (G21 6 12) (hU35 6 12 (by decide)) ?_
      have b38 : (0 : Int) ≤ (G21 6 12).toInt ∧ (G21 6 12).toInt ≤ 30000 := hI22 6 12
      refine u_iast F 65 0 xc_65 rfl 4 rfl (by decide) (by decide) (xW K a (gu_up G33 65 4 (G21 6 12))) (xs_65 _) dX4_staysQuiet_126 ?_
      refine g_iconst F 1 dX4_staysQuiet_127 (by decide) ?_
      exact u_zret F hA hQ hr rfl (gu_up G33 65 4 (G21 6 12)) (⟨(gu_I.up (j := 65) (k := 4) (v := (G21 6 12)) hI34 (show (0 : Int) ≤ Int32.toInt (G21 6 12) by omega) (show Int32.toInt (G21 6 12) ≤ 30000 by omega)), (gu_un.up (j := 65) (k := 4) (v := (G21 6 12)) (gu_un.tr (gu_un.sw (j := 63) (f := (va_cpy (G21 62) (G21 63) 0 0 96)) (gu_un.tr (gu_un.tr gu_un.rf (gu_un.su hU9 rfl)) (gu_un.su hU23 rfl)) (fun _ => show (6300 : Nat) ∈ ([602, 603, 604, 605, 608, 613, 614, 615, 616, 617, 618, 619, 620, 2100, 2400, 2700, 4400, 4500, 4600, 4700, 4800, 6300, 6500] : List Nat) by decide)) (gu_un.su hU35 rfl)) (show (6500 : Nat) ∈ ([602, 603, 604, 605, 608, 613, 614, 615, 616, 617, 618, 619, 620, 2100, 2400, 2700, 4400, 4500, 4600, 4700, 4800, 6300, 6500] : List Nat) by decide)), (by decide)⟩) rfl rfl dX4_staysQuiet_128
    · refine g_iconst F 0 dX4_staysQuiet_74 (by decide) ?_
      exact u_zret F hA hQ hr rfl G21 (⟨hI22, (gu_un.tr (gu_un.tr gu_un.rf (gu_un.su hU9 rfl)) (gu_un.su hU23 rfl)), (by decide)⟩) rfl rfl dX4_staysQuiet_75
  · have b39 : (1 : Int) ≤ (G 18 1).toInt ∧ (G 18 1).toInt ≤ 6 := hI 18 1
    have q13 : ¬ (0 ≤ y1.toInt ∧ y1.toInt < (G 18 1).toInt ∧ 1 ≤ y2.toInt ∧ y2.toInt ≤ 9 ∧ 1 ≤ y3.toInt ∧ y3.toInt ≤ 20 ∧ 1 ≤ y4.toInt ∧ y4.toInt ≤ 12) := by have h9 := q13; (try simp only [(show G7 18 1 = (G 18 1) from hU9 18 1 (by decide))] at h9); exact h9
    refine v_if_ne F 44 dX4_staysQuiet_39 (by decide) 0 rfl (fun c40 => absurd c40 (by decide)) (fun c40 => ?_)
    refine g_iconst F 0 dX4_staysQuiet_42 (by decide) ?_
    exact u_zret F hA hQ hr rfl G7 (⟨hI8, (gu_un.tr gu_un.rf (gu_un.su hU9 rfl)), (by decide)⟩) rfl rfl dX4_staysQuiet_43


set_option maxHeartbeats 4000000 in
set_option maxRecDepth 100000 in
theorem S_X5_least_63 (l : Launch) (D : va_G) (K : Nat → ClassId) (a : Nat → Nat) (G : gS) (p1 : Int32) (s1 : Int) (p2 : Int32) (s2 : Int) (e1 : p1.toInt = s1) (h1 : 0 ≤ s1 ∧ s1 ≤ 80) (e2 : p2.toInt = s2) (h2 : 1 ≤ s2 ∧ s2 ≤ 16) (hI : xI G) (sz : Nat) : Ki l yX5_least wsX5_least 1 40 0 0 D [.ref (a 63), .int p1, .int p2] (xW K a G) (tK K) sz (fun (r : Int32) (_ : Unit) => ((-9998) ≤ r.toInt ∧ r.toInt ≤ 1000000) ∧ ((0 ≤ s1 ∧ 1 ≤ s2 ∧ s1 + s2 ≤ 96 → r.toInt = psMn (fun q => (G 63) (s1.toNat + q)) (s2 - 1).toNat))) (fun (_ : Unit) => (xW K a G)) (fun _ => (tK K)) := by
  unfold Ki
  refine g_ofW (cc := cX5_least) (lv := [(0, .ref (a 63)), (1, .int p1), (2, .int p2)]) (by decide) rfl (Nat.le_of_ble_eq_true rfl) rfl ?_
  intro p e s m args below meth c A Q hA hQ F hr hnm
  have hts := F.2.2.2.2.1
  have w_0 : (Cond.methodLink RX5 159 Lib.Math.min.name).before args s = true := hts _ (List.mem_of_getElem? (i := 2) rfl)
  have w_1 : (Cond.static Lib.Math.min.name).before args s = true := hts _ (List.mem_of_getElem? (i := 3) rfl)
  have w_2 : (Cond.initialized "java/lang/Math").before args s = true := hts _ (List.mem_of_getElem? (i := 4) rfl)
  have w_3 : (Cond.code Lib.Math.min.name Lib.Math.min.code 2 (some .int)).before args s = true := hts _ (List.mem_of_getElem? (i := 5) rfl)
  have w_4 : (Cond.constant RX5 163 (1000000)).before args s = true := hts _ (List.mem_of_getElem? (i := 1) rfl)
  have J_6 : ∀ (fuel : Nat) (x6_3 : Int32) (x6_4 : Int32), (2147483647 - x6_4.toInt).toNat < fuel → ((-9998) ≤ x6_3.toInt ∧ x6_3.toInt ≤ 1000000) → (0 ≤ x6_4.toInt ∧ x6_4.toInt ≤ 96) → ((0 ≤ s1 → s1 ≤ x6_4.toInt ∧ ((x6_4.toInt = s1 ∧ x6_3.toInt = 1000000) ∨ (s1 + 1 ≤ x6_4.toInt ∧ x6_3.toInt = psMn (fun q => ((G 63)) (s1.toNat + q)) (x6_4.toInt - 1 - s1).toNat)))) → ((s1 < 0 ∨ s2 < 1 ∨ 96 < s1 + s2 ∨ x6_4.toInt ≤ s1 + s2)) → gG p l e (gR 1 0 0 40) s m args below meth c D A 5 Q 0 0 (xW K a G) (tK K) [(0, .ref (a 63)), (1, .int p1), (2, .int p2), (3, .int x6_3), (4, .int x6_4)] 6 [] := by
    intro fuel
    induction fuel with
    | zero => intro x6_3 x6_4 hm; exact absurd hm (Nat.not_lt_zero _)
    | succ fuel_6 ih_6 =>
      intro x6_3 x6_4 hm_6 h6_3 h6_4 lm ib
      refine g_iload F 4 dX5_least_6 rfl ?_
      refine g_iload_n F 1 dX5_least_8 rfl rfl ?_
      refine g_iload_n F 2 dX5_least_9 rfl rfl ?_
      refine u_iadd F dX5_least_10 s1 s2 e1 e2 (by omega) (by omega) (fun y1 ey1 => ?_)
      refine v_icmp_ge F 41 dX5_least_11 (by decide) x6_4.toInt y1.toInt rfl rfl (fun c2 => ?_) (fun c2 => ?_)
      · refine g_iload_n F 3 dX5_least_41 rfl rfl ?_
        exact u_iret F hA hQ hr () (⟨(by have h9 := ti_rng x6_3; omega), (fun h9 => by rcases (lm h9.1).2 with ⟨g1, g2⟩ | ⟨g1, g2⟩ <;> first | (exfalso; omega) | (rw [g2, show x6_4.toInt - 1 - s1 = s2 - 1 by omega]))⟩) rfl rfl dX5_least_42
      · refine g_iload F 4 dX5_least_14 rfl ?_
        refine v_if_lt F 41 dX5_least_16 (by decide) x6_4.toInt rfl (fun c3 => absurd c3 (by omega)) (fun c3 => ?_)
        refine g_iload F 4 dX5_least_19 rfl ?_
        refine g_aload_n F 0 dX5_least_21 rfl rfl ?_
        refine g_alen F 63 0 xc_63 rfl 96 rfl dX5_least_22 ?_
        refine v_icmp_ge F 41 dX5_least_23 (by decide) x6_4.toInt 96 rfl rfl (fun c4 => absurd c4 (by omega)) (fun c4 => ?_)
        refine g_iload_n F 3 dX5_least_26 rfl rfl ?_
        refine g_aload_n F 0 dX5_least_27 rfl rfl ?_
        refine g_iload F 4 dX5_least_28 rfl ?_
        refine u1_iald F 63 0 xc_63 rfl x6_4.toInt rfl (by omega) (by omega) dX5_least_30 ((G 63) (x6_4.toInt).toNat) (rfl) ?_
        have b5 : ((-9998) : Int) ≤ ((G 63) (x6_4.toInt).toNat).toInt ∧ ((G 63) (x6_4.toInt).toNat).toInt ≤ 5000 := hI 63 _
        refine u_mmin F w_0 w_1 w_2 w_3 (Nat.le_of_ble_eq_true rfl) (Nat.le_of_ble_eq_true rfl) (Nat.le_of_ble_eq_true rfl) (Nat.le_of_ble_eq_true rfl) dX5_least_31 x6_3.toInt ((G 63) (x6_4.toInt).toNat).toInt rfl rfl (fun y6 ey6 => ?_)
        refine g_istore_n F [(3, .int y6), (0, .ref (a 63)), (1, .int p1), (2, .int p2), (4, .int x6_4)] dX5_least_34 rfl (by decide) rfl ?_
        refine u_iinc F (fun v_ => [(4, .int v_), (3, .int y6), (0, .ref (a 63)), (1, .int p1), (2, .int p2)]) dX5_least_35 (j := 4) rfl x6_4.toInt 1 rfl rfl (by omega) (by omega) (by decide) (fun _ => rfl) (fun y7 ey7 => ?_)
        refine g_goto F 6 dX5_least_38 (by decide) ?_
        refine g_locals [(0, .ref (a 63)), (1, .int p1), (2, .int p2), (3, .int y6), (4, .int y7)] [2, 3, 4, 1, 0] rfl ?_
        exact ih_6 y6 y7 (by omega) (by have h9 := ti_rng y6; omega) (by have h9 := ti_rng y7; omega) (fun h0 => ⟨by have h9 := (lm h0).1; omega, psMn_go (i := x6_4.toInt) (m := x6_3.toInt) h0 (lm h0).1 (by omega) (lm h0).2 (by omega) (by omega)⟩) (by first | omega | (simp only [Int32.reduceToInt, true_and, and_true, ne_eq, not_true_eq_false, false_and, or_false, false_or, true_or, or_true, false_implies] <;> omega))
  refine g_ldc F w_4 dX5_least_0 ?_
  refine g_istore_n F [(3, .int 1000000), (0, .ref (a 63)), (1, .int p1), (2, .int p2)] dX5_least_2 rfl (by decide) rfl ?_
  refine g_iload_n F 2 dX5_least_3 rfl rfl ?_
  refine g_istore F [(4, .int p1), (3, .int 1000000), (0, .ref (a 63)), (1, .int p1), (2, .int p2)] dX5_least_4 (by decide) rfl ?_
  refine g_locals [(0, .ref (a 63)), (1, .int p1), (2, .int p2), (3, .int 1000000), (4, .int p1)] [2, 3, 4, 1, 0] rfl ?_
  exact J_6 _ 1000000 p1 (Nat.lt_succ_self _) (by decide) (by have h9 := ti_rng p1; omega) (fun h0 => ⟨by omega, Or.inl ⟨by omega, by decide⟩⟩) (by first | omega | (simp only [Int32.reduceToInt, true_and, and_true, ne_eq, not_true_eq_false, false_and, or_false, false_or, true_or, or_true, false_implies] <;> omega))


set_option maxHeartbeats 4000000 in
set_option maxRecDepth 100000 in
theorem S_X5_gapIn_63 (l : Launch) (D : va_G) (K : Nat → ClassId) (a : Nat → Nat) (G : gS) (p1 : Int32) (s1 : Int) (e1 : p1.toInt = s1) (h1 : (-9998) ≤ s1 ∧ s1 ≤ 5000) (hrg : (0 ≤ (G 6 1).toInt ∧ (G 6 1).toInt ≤ 5)) (rgn : ((G 6 1).toInt < (G 18 1).toInt)) (hI : xI G) (sz : Nat) : Ki l yX5_gapIn wsX5_gapIn 2 64 0 0 D [.ref (a 6), .ref (a 63), .int p1] (xW K a G) (tK K) sz (fun (r : Int32) (_ : Unit) => ((-9998) ≤ r.toInt ∧ r.toInt ≤ 1000000) ∧ ((r.toInt = psGa (G 63) (G 6 1).toInt (G 18 1).toInt (G 18 0).toInt s1))) (fun (_ : Unit) => (xW K a G)) (fun _ => (tK K)) := by
  unfold Ki
  refine g_ofW (cc := cX5_gapIn) (lv := [(0, .ref (a 6)), (1, .ref (a 63)), (2, .int p1)]) (by decide) rfl (Nat.le_of_ble_eq_true rfl) rfl ?_
  intro p e s m args below meth c A Q hA hQ F hr hnm
  have hts := F.2.2.2.2.1
  have w_0 : (Cond.fieldLink RX5 29 "QuietCut$Lathe" "shop" "LQuietCut$Shop;").before args s = true := hts _ (List.mem_of_getElem? (i := 1) rfl)
  have i_X5 : ∀ w ∈ u_ws RX5 TX5 20, w ∈ wsX5_gapIn := fun _ h => List.mem_cons_of_mem _ (List.mem_append_left _ (List.mem_append_right _ h))
  have w_1 : (Cond.fieldLink RX5 56 "QuietCut$Shop" "numbers" "[I").before args s = true := hts _ (List.mem_of_getElem? (i := 2) rfl)
  have i_X7 : ∀ w ∈ u_ws RX7 TX7 4, w ∈ wsX5_gapIn := fun _ h => List.mem_cons_of_mem _ (List.mem_append_right _ h)
  have w_2 : (Cond.fieldLink RX5 33 "QuietCut$Lathe" "ring" "I").before args s = true := hts _ (List.mem_of_getElem? (i := 3) rfl)
  have w_3 : (Cond.methodLink RX5 159 Lib.Math.min.name).before args s = true := hts _ (List.mem_of_getElem? (i := 4) rfl)
  have w_4 : (Cond.static Lib.Math.min.name).before args s = true := hts _ (List.mem_of_getElem? (i := 5) rfl)
  have w_5 : (Cond.initialized "java/lang/Math").before args s = true := hts _ (List.mem_of_getElem? (i := 6) rfl)
  have w_6 : (Cond.code Lib.Math.min.name Lib.Math.min.code 2 (some .int)).before args s = true := hts _ (List.mem_of_getElem? (i := 7) rfl)
  have b1 : (4 : Int) ≤ (G 18 0).toInt ∧ (G 18 0).toInt ≤ 16 := hI 18 0
  have b2 : (1 : Int) ≤ (G 18 1).toInt ∧ (G 18 1).toInt ≤ 6 := hI 18 1
  refine g_aload_n F 0 dX5_gapIn_0 rfl rfl ?_
  refine xg_6_0 F i_X5 w_0 dX5_gapIn_1 ?_
  refine xg_2_0 F i_X7 w_1 dX5_gapIn_4 ?_
  refine g_iconst F 0 dX5_gapIn_7 (by decide) ?_
  refine u1_iald F 18 0 xc_18 rfl 0 rfl (by decide) (by decide) dX5_gapIn_8 (G 18 0) (rfl) ?_
  refine g_istore_n F [(3, .int (G 18 0)), (0, .ref (a 6)), (1, .ref (a 63)), (2, .int p1)] dX5_gapIn_9 rfl (by decide) rfl ?_
  refine g_aload_n F 1 dX5_gapIn_10 rfl rfl ?_
  refine xg_6_0 F i_X5 w_0 dX5_gapIn_11 ?_
  refine g_aload_n F 1 dX5_gapIn_14 rfl rfl ?_
  refine xg_6_1 F i_X5 w_2 dX5_gapIn_15 (G 6 1) (rfl) ?_
  refine g_iconst F 1 dX5_gapIn_18 (by decide) ?_
  refine u_isub F dX5_gapIn_19 (G 6 1).toInt 1 rfl rfl (by omega) (by omega) (fun y3 ey3 => ?_)
  refine u_callVi (k := 0) (n := 0) (b := a 2) (As := [.int y3]) (st := []) F (fun sz => S_X7_hasRing_2 l D K a G y3 y3.toInt rfl hI sz) (cwV 1 hts gX5_gapIn_X7_hasRing rfl rfl rfl (by decide +kernel) ⟨Nat.le_of_ble_eq_true rfl, Nat.le_of_ble_eq_true rfl⟩) rfl 2 xc_2 rfl (Nat.le_of_ble_eq_true rfl) ⟨Nat.zero_le _, Nat.zero_le _⟩ dX5_gapIn_20 (fun r4 _ hw5 => ?_)
  rcases hw5 with ⟨rfl, q7⟩ | ⟨rfl, q8⟩
  · have q7 : (0 ≤ y3.toInt ∧ y3.toInt < (G 18 1).toInt) := q7
    refine g_istore F [(4, .int 1), (3, .int (G 18 0)), (0, .ref (a 6)), (1, .ref (a 63)), (2, .int p1)] dX5_gapIn_23 (by decide) rfl ?_
    refine g_aload_n F 2 dX5_gapIn_25 rfl rfl ?_
    refine xg_6_0 F i_X5 w_0 dX5_gapIn_26 ?_
    refine g_aload_n F 2 dX5_gapIn_29 rfl rfl ?_
    refine xg_6_1 F i_X5 w_2 dX5_gapIn_30 (G 6 1) (rfl) ?_
    refine g_iconst F 1 dX5_gapIn_33 (by decide) ?_
    refine u_iadd F dX5_gapIn_34 (G 6 1).toInt 1 rfl rfl (by omega) (by omega) (fun y9 ey9 => ?_)
    refine u_callVi (k := 0) (n := 0) (b := a 2) (As := [.int y9]) (st := []) F (fun sz => S_X7_hasRing_2 l D K a G y9 y9.toInt rfl hI sz) (cwV 1 hts gX5_gapIn_X7_hasRing rfl rfl rfl (by decide +kernel) ⟨Nat.le_of_ble_eq_true rfl, Nat.le_of_ble_eq_true rfl⟩) rfl 2 xc_2 rfl (Nat.le_of_ble_eq_true rfl) ⟨Nat.zero_le _, Nat.zero_le _⟩ dX5_gapIn_35 (fun r10 _ hw11 => ?_)
    rcases hw11 with ⟨rfl, q13⟩ | ⟨rfl, q14⟩
    · have q13 : (0 ≤ y9.toInt ∧ y9.toInt < (G 18 1).toInt) := q13
      refine g_istore F [(5, .int 1), (4, .int 1), (3, .int (G 18 0)), (0, .ref (a 6)), (1, .ref (a 63)), (2, .int p1)] dX5_gapIn_38 (by decide) rfl ?_
      refine g_iload F 1 dX5_gapIn_40 rfl ?_
      refine v_if_eq F 63 dX5_gapIn_42 (by decide) 1 rfl (fun c15 => absurd c15 (by decide)) (fun c15 => ?_)
      refine g_aload_n F 4 dX5_gapIn_45 rfl rfl ?_
      refine g_aload_n F 3 dX5_gapIn_46 rfl rfl ?_
      refine xg_6_1 F i_X5 w_2 dX5_gapIn_47 (G 6 1) (rfl) ?_
      refine g_iconst F 1 dX5_gapIn_50 (by decide) ?_
      refine u_isub F dX5_gapIn_51 (G 6 1).toInt 1 rfl rfl (by omega) (by omega) (fun y16 ey16 => ?_)
      refine g_iconst F 0 dX5_gapIn_52 (by decide) ?_
      refine u_call0 (k := 0) (n := 0) (As := [.int y16, .int 0]) (st := [.ref (a 63)]) F (fun sz => S_X6_placeOf_b6_b15 l D y16 y16.toInt 0 0 rfl (by omega) rfl (by decide) sz) (va_cwS 2 hts gX5_gapIn_X6_placeOf rfl rfl rfl (by decide +kernel) ⟨Nat.le_of_ble_eq_true rfl, Nat.le_of_ble_eq_true rfl⟩) rfl (Nat.le_of_ble_eq_true rfl) ⟨Nat.zero_le _, Nat.zero_le _⟩ dX5_gapIn_53 (fun r17 _ hw18 => ?_)
      have rg20 := hw18.1
      have rg21 := hw18.2
      clear hw18
      refine g_iload_n F 2 dX5_gapIn_56 rfl rfl ?_
      refine u_callSi (k := 0) (n := 0) (As := [.ref (a 63), .int r17, .int (G 18 0)]) (st := []) F (fun sz => S_X5_least_63 l D K a G r17 r17.toInt (G 18 0) (G 18 0).toInt rfl (by omega) rfl (by omega) hI sz) (va_cwS 3 hts gX5_gapIn_X5_least rfl rfl rfl (by decide +kernel) ⟨Nat.le_of_ble_eq_true rfl, Nat.le_of_ble_eq_true rfl⟩) rfl (Nat.le_of_ble_eq_true rfl) ⟨Nat.zero_le _, Nat.zero_le _⟩ dX5_gapIn_57 (fun r22 _ hw23 => ?_)
      have q25 : (0 ≤ r17.toInt ∧ 1 ≤ (G 18 0).toInt ∧ r17.toInt + (G 18 0).toInt ≤ 96 → r22.toInt = psMn (fun q => (G 63) (r17.toInt.toNat + q)) ((G 18 0).toInt - 1).toNat) := hw23.2
      have rg26 := hw23.1
      clear hw23
      refine g_goto F 64 dX5_gapIn_60 (by decide) ?_
      refine g_istore F [(6, .int r22), (5, .int 1), (4, .int 1), (3, .int (G 18 0)), (0, .ref (a 6)), (1, .ref (a 63)), (2, .int p1)] dX5_gapIn_64 (by decide) rfl ?_
      refine g_iload F 1 dX5_gapIn_66 rfl ?_
      refine v_if_eq F 89 dX5_gapIn_68 (by decide) 1 rfl (fun c27 => absurd c27 (by decide)) (fun c27 => ?_)
      refine g_aload_n F 5 dX5_gapIn_71 rfl rfl ?_
      refine g_aload_n F 4 dX5_gapIn_72 rfl rfl ?_
      refine xg_6_1 F i_X5 w_2 dX5_gapIn_73 (G 6 1) (rfl) ?_
      refine g_iconst F 1 dX5_gapIn_76 (by decide) ?_
      refine u_iadd F dX5_gapIn_77 (G 6 1).toInt 1 rfl rfl (by omega) (by omega) (fun y28 ey28 => ?_)
      refine g_iconst F 0 dX5_gapIn_78 (by decide) ?_
      refine u_call0 (k := 0) (n := 0) (As := [.int y28, .int 0]) (st := [.ref (a 63)]) F (fun sz => S_X6_placeOf_b6_b15 l D y28 y28.toInt 0 0 rfl (by omega) rfl (by decide) sz) (va_cwS 2 hts gX5_gapIn_X6_placeOf rfl rfl rfl (by decide +kernel) ⟨Nat.le_of_ble_eq_true rfl, Nat.le_of_ble_eq_true rfl⟩) rfl (Nat.le_of_ble_eq_true rfl) ⟨Nat.zero_le _, Nat.zero_le _⟩ dX5_gapIn_79 (fun r29 _ hw30 => ?_)
      have rg32 := hw30.1
      have rg33 := hw30.2
      clear hw30
      refine g_iload_n F 3 dX5_gapIn_82 rfl rfl ?_
      refine u_callSi (k := 0) (n := 0) (As := [.ref (a 63), .int r29, .int (G 18 0)]) (st := []) F (fun sz => S_X5_least_63 l D K a G r29 r29.toInt (G 18 0) (G 18 0).toInt rfl (by omega) rfl (by omega) hI sz) (va_cwS 3 hts gX5_gapIn_X5_least rfl rfl rfl (by decide +kernel) ⟨Nat.le_of_ble_eq_true rfl, Nat.le_of_ble_eq_true rfl⟩) rfl (Nat.le_of_ble_eq_true rfl) ⟨Nat.zero_le _, Nat.zero_le _⟩ dX5_gapIn_83 (fun r34 _ hw35 => ?_)
      have q37 : (0 ≤ r29.toInt ∧ 1 ≤ (G 18 0).toInt ∧ r29.toInt + (G 18 0).toInt ≤ 96 → r34.toInt = psMn (fun q => (G 63) (r29.toInt.toNat + q)) ((G 18 0).toInt - 1).toNat) := hw35.2
      have rg38 := hw35.1
      clear hw35
      refine g_goto F 90 dX5_gapIn_86 (by decide) ?_
      refine g_istore F [(7, .int r34), (6, .int r22), (5, .int 1), (4, .int 1), (3, .int (G 18 0)), (0, .ref (a 6)), (1, .ref (a 63)), (2, .int p1)] dX5_gapIn_90 (by decide) rfl ?_
      refine g_iload F 3 dX5_gapIn_92 rfl ?_
      refine v_if_eq F 110 dX5_gapIn_94 (by decide) 1 rfl (fun c39 => absurd c39 (by decide)) (fun c39 => ?_)
      refine g_iload F 2 dX5_gapIn_97 rfl ?_
      refine v_if_eq F 110 dX5_gapIn_99 (by decide) 1 rfl (fun c40 => absurd c40 (by decide)) (fun c40 => ?_)
      refine g_iload F 1 dX5_gapIn_102 rfl ?_
      refine g_iload F 0 dX5_gapIn_104 rfl ?_
      refine u_mmin F w_3 w_4 w_5 w_6 (Nat.le_of_ble_eq_true rfl) (Nat.le_of_ble_eq_true rfl) (Nat.le_of_ble_eq_true rfl) (Nat.le_of_ble_eq_true rfl) dX5_gapIn_106 r22.toInt r34.toInt rfl rfl (fun y41 ey41 => ?_)
      exact u_iret F hA hQ hr () (⟨(by have h9 := ti_rng y41; omega), (by have h1 := q25 ⟨by omega, by omega, by omega⟩; rw [show r17.toInt = 16 * ((G 6 1).toInt - 1) by omega] at h1; have h2 := q37 ⟨by omega, by omega, by omega⟩; rw [show r29.toInt = 16 * ((G 6 1).toInt + 1) by omega] at h2; unfold psGa; rw [if_pos (by omega), if_pos (by omega), ← h1, ← h2]; omega)⟩) rfl rfl dX5_gapIn_109
    · have q14 : (y9.toInt < 0 ∨ (G 18 1).toInt ≤ y9.toInt) := q14
      refine g_istore F [(5, .int 0), (4, .int 1), (3, .int (G 18 0)), (0, .ref (a 6)), (1, .ref (a 63)), (2, .int p1)] dX5_gapIn_38 (by decide) rfl ?_
      refine g_iload F 1 dX5_gapIn_40 rfl ?_
      refine v_if_eq F 63 dX5_gapIn_42 (by decide) 1 rfl (fun c42 => absurd c42 (by decide)) (fun c42 => ?_)
      refine g_aload_n F 4 dX5_gapIn_45 rfl rfl ?_
      refine g_aload_n F 3 dX5_gapIn_46 rfl rfl ?_
      refine xg_6_1 F i_X5 w_2 dX5_gapIn_47 (G 6 1) (rfl) ?_
      refine g_iconst F 1 dX5_gapIn_50 (by decide) ?_
      refine u_isub F dX5_gapIn_51 (G 6 1).toInt 1 rfl rfl (by omega) (by omega) (fun y43 ey43 => ?_)
      refine g_iconst F 0 dX5_gapIn_52 (by decide) ?_
      refine u_call0 (k := 0) (n := 0) (As := [.int y43, .int 0]) (st := [.ref (a 63)]) F (fun sz => S_X6_placeOf_b6_b15 l D y43 y43.toInt 0 0 rfl (by omega) rfl (by decide) sz) (va_cwS 2 hts gX5_gapIn_X6_placeOf rfl rfl rfl (by decide +kernel) ⟨Nat.le_of_ble_eq_true rfl, Nat.le_of_ble_eq_true rfl⟩) rfl (Nat.le_of_ble_eq_true rfl) ⟨Nat.zero_le _, Nat.zero_le _⟩ dX5_gapIn_53 (fun r44 _ hw45 => ?_)
      have rg47 := hw45.1
      have rg48 := hw45.2
      clear hw45
      refine g_iload_n F 2 dX5_gapIn_56 rfl rfl ?_
      refine u_callSi (k := 0) (n := 0) (As := [.ref (a 63), .int r44, .int (G 18 0)]) (st := []) F (fun sz => S_X5_least_63 l D K a G r44 r44.toInt (G 18 0) (G 18 0).toInt rfl (by omega) rfl (by omega) hI sz) (va_cwS 3 hts gX5_gapIn_X5_least rfl rfl rfl (by decide +kernel) ⟨Nat.le_of_ble_eq_true rfl, Nat.le_of_ble_eq_true rfl⟩) rfl (Nat.le_of_ble_eq_true rfl) ⟨Nat.zero_le _, Nat.zero_le _⟩ dX5_gapIn_57 (fun r49 _ hw50 => ?_)
      have q52 : (0 ≤ r44.toInt ∧ 1 ≤ (G 18 0).toInt ∧ r44.toInt + (G 18 0).toInt ≤ 96 → r49.toInt = psMn (fun q => (G 63) (r44.toInt.toNat + q)) ((G 18 0).toInt - 1).toNat) := hw50.2
      have rg53 := hw50.1
      clear hw50
      refine g_goto F 64 dX5_gapIn_60 (by decide) ?_
      refine g_istore F [(6, .int r49), (5, .int 0), (4, .int 1), (3, .int (G 18 0)), (0, .ref (a 6)), (1, .ref (a 63)), (2, .int p1)] dX5_gapIn_64 (by decide) rfl ?_
      refine g_iload F 1 dX5_gapIn_66 rfl ?_
      refine v_if_eq F 89 dX5_gapIn_68 (by decide) 0 rfl (fun c54 => ?_) (fun c54 => absurd c54 (by decide))
      refine g_iload_n F 6 dX5_gapIn_89 rfl rfl ?_
      refine g_istore F [(7, .int p1), (6, .int r49), (5, .int 0), (4, .int 1), (3, .int (G 18 0)), (0, .ref (a 6)), (1, .ref (a 63)), (2, .int p1)] dX5_gapIn_90 (by decide) rfl ?_
      refine g_iload F 3 dX5_gapIn_92 rfl ?_
      refine v_if_eq F 110 dX5_gapIn_94 (by decide) 1 rfl (fun c55 => absurd c55 (by decide)) (fun c55 => ?_)
      refine g_iload F 2 dX5_gapIn_97 rfl ?_
      refine v_if_eq F 110 dX5_gapIn_99 (by decide) 0 rfl (fun c56 => ?_) (fun c56 => absurd c56 (by decide))
      refine g_iload F 3 dX5_gapIn_110 rfl ?_
      refine v_if_eq F 120 dX5_gapIn_112 (by decide) 1 rfl (fun c57 => absurd c57 (by decide)) (fun c57 => ?_)
      refine g_iload F 1 dX5_gapIn_115 rfl ?_
      refine g_goto F 122 dX5_gapIn_117 (by decide) ?_
      exact u_iret F hA hQ hr () (⟨(by have h9 := ti_rng r49; omega), (by first | (have h1 := q52 ⟨by omega, by omega, by omega⟩; rw [show r44.toInt = 16 * ((G 6 1).toInt - 1) by omega] at h1; unfold psGa; rw [if_pos (by omega), if_neg (by omega), ← h1]; done) | (have h1 := q52 ⟨by omega, by omega, by omega⟩; rw [show r44.toInt = 16 * ((G 6 1).toInt + 1) by omega] at h1; unfold psGa; rw [if_neg (by omega), if_pos (by omega), ← h1]; done))⟩) rfl rfl dX5_gapIn_122
  · have q8 : (y3.toInt < 0 ∨ (G 18 1).toInt ≤ y3.toInt) := q8
    refine g_istore F [(4, .int 0), (3, .int (G 18 0)), (0, .ref (a 6)), (1, .ref (a 63)), (2, .int p1)] dX5_gapIn_23 (by decide) rfl ?_
    refine g_aload_n F 2 dX5_gapIn_25 rfl rfl ?_
    refine xg_6_0 F i_X5 w_0 dX5_gapIn_26 ?_
    refine g_aload_n F 2 dX5_gapIn_29 rfl rfl ?_
    refine xg_6_1 F i_X5 w_2 dX5_gapIn_30 (G 6 1) (rfl) ?_
    refine g_iconst F 1 dX5_gapIn_33 (by decide) ?_
    refine u_iadd F dX5_gapIn_34 (G 6 1).toInt 1 rfl rfl (by omega) (by omega) (fun y58 ey58 => ?_)
    refine u_callVi (k := 0) (n := 0) (b := a 2) (As := [.int y58]) (st := []) F (fun sz => S_X7_hasRing_2 l D K a G y58 y58.toInt rfl hI sz) (cwV 1 hts gX5_gapIn_X7_hasRing rfl rfl rfl (by decide +kernel) ⟨Nat.le_of_ble_eq_true rfl, Nat.le_of_ble_eq_true rfl⟩) rfl 2 xc_2 rfl (Nat.le_of_ble_eq_true rfl) ⟨Nat.zero_le _, Nat.zero_le _⟩ dX5_gapIn_35 (fun r59 _ hw60 => ?_)
    rcases hw60 with ⟨rfl, q62⟩ | ⟨rfl, q63⟩
    · have q62 : (0 ≤ y58.toInt ∧ y58.toInt < (G 18 1).toInt) := q62
      refine g_istore F [(5, .int 1), (4, .int 0), (3, .int (G 18 0)), (0, .ref (a 6)), (1, .ref (a 63)), (2, .int p1)] dX5_gapIn_38 (by decide) rfl ?_
      refine g_iload F 1 dX5_gapIn_40 rfl ?_
      refine v_if_eq F 63 dX5_gapIn_42 (by decide) 0 rfl (fun c64 => ?_) (fun c64 => absurd c64 (by decide))
      refine g_iload_n F 5 dX5_gapIn_63 rfl rfl ?_
      refine g_istore F [(6, .int p1), (5, .int 1), (4, .int 0), (3, .int (G 18 0)), (0, .ref (a 6)), (1, .ref (a 63)), (2, .int p1)] dX5_gapIn_64 (by decide) rfl ?_
      refine g_iload F 1 dX5_gapIn_66 rfl ?_
      refine v_if_eq F 89 dX5_gapIn_68 (by decide) 1 rfl (fun c65 => absurd c65 (by decide)) (fun c65 => ?_)
      refine g_aload_n F 5 dX5_gapIn_71 rfl rfl ?_
      refine g_aload_n F 4 dX5_gapIn_72 rfl rfl ?_
      refine xg_6_1 F i_X5 w_2 dX5_gapIn_73 (G 6 1) (rfl) ?_
      refine g_iconst F 1 dX5_gapIn_76 (by decide) ?_
      refine u_iadd F dX5_gapIn_77 (G 6 1).toInt 1 rfl rfl (by omega) (by omega) (fun y66 ey66 => ?_)
      refine g_iconst F 0 dX5_gapIn_78 (by decide) ?_
      refine u_call0 (k := 0) (n := 0) (As := [.int y66, .int 0]) (st := [.ref (a 63)]) F (fun sz => S_X6_placeOf_b6_b15 l D y66 y66.toInt 0 0 rfl (by omega) rfl (by decide) sz) (va_cwS 2 hts gX5_gapIn_X6_placeOf rfl rfl rfl (by decide +kernel) ⟨Nat.le_of_ble_eq_true rfl, Nat.le_of_ble_eq_true rfl⟩) rfl (Nat.le_of_ble_eq_true rfl) ⟨Nat.zero_le _, Nat.zero_le _⟩ dX5_gapIn_79 (fun r67 _ hw68 => ?_)
      have rg70 := hw68.1
      have rg71 := hw68.2
      clear hw68
      refine g_iload_n F 3 dX5_gapIn_82 rfl rfl ?_
      refine u_callSi (k := 0) (n := 0) (As := [.ref (a 63), .int r67, .int (G 18 0)]) (st := []) F (fun sz => S_X5_least_63 l D K a G r67 r67.toInt (G 18 0) (G 18 0).toInt rfl (by omega) rfl (by omega) hI sz) (va_cwS 3 hts gX5_gapIn_X5_least rfl rfl rfl (by decide +kernel) ⟨Nat.le_of_ble_eq_true rfl, Nat.le_of_ble_eq_true rfl⟩) rfl (Nat.le_of_ble_eq_true rfl) ⟨Nat.zero_le _, Nat.zero_le _⟩ dX5_gapIn_83 (fun r72 _ hw73 => ?_)
      have q75 : (0 ≤ r67.toInt ∧ 1 ≤ (G 18 0).toInt ∧ r67.toInt + (G 18 0).toInt ≤ 96 → r72.toInt = psMn (fun q => (G 63) (r67.toInt.toNat + q)) ((G 18 0).toInt - 1).toNat) := hw73.2
      have rg76 := hw73.1
      clear hw73
      refine g_goto F 90 dX5_gapIn_86 (by decide) ?_
      refine g_istore F [(7, .int r72), (6, .int p1), (5, .int 1), (4, .int 0), (3, .int (G 18 0)), (0, .ref (a 6)), (1, .ref (a 63)), (2, .int p1)] dX5_gapIn_90 (by decide) rfl ?_
      refine g_iload F 3 dX5_gapIn_92 rfl ?_
      refine v_if_eq F 110 dX5_gapIn_94 (by decide) 0 rfl (fun c77 => ?_) (fun c77 => absurd c77 (by decide))
      refine g_iload F 3 dX5_gapIn_110 rfl ?_
      refine v_if_eq F 120 dX5_gapIn_112 (by decide) 0 rfl (fun c78 => ?_) (fun c78 => absurd c78 (by decide))
      refine g_iload F 0 dX5_gapIn_120 rfl ?_
      exact u_iret F hA hQ hr () (⟨(by have h9 := ti_rng r72; omega), (by first | (have h1 := q75 ⟨by omega, by omega, by omega⟩; rw [show r67.toInt = 16 * ((G 6 1).toInt - 1) by omega] at h1; unfold psGa; rw [if_pos (by omega), if_neg (by omega), ← h1]; done) | (have h1 := q75 ⟨by omega, by omega, by omega⟩; rw [show r67.toInt = 16 * ((G 6 1).toInt + 1) by omega] at h1; unfold psGa; rw [if_neg (by omega), if_pos (by omega), ← h1]; done))⟩) rfl rfl dX5_gapIn_122
    · have q63 : (y58.toInt < 0 ∨ (G 18 1).toInt ≤ y58.toInt) := q63
      refine g_istore F [(5, .int 0), (4, .int 0), (3, .int (G 18 0)), (0, .ref (a 6)), (1, .ref (a 63)), (2, .int p1)] dX5_gapIn_38 (by decide) rfl ?_
      refine g_iload F 1 dX5_gapIn_40 rfl ?_
      refine v_if_eq F 63 dX5_gapIn_42 (by decide) 0 rfl (fun c79 => ?_) (fun c79 => absurd c79 (by decide))
      refine g_iload_n F 5 dX5_gapIn_63 rfl rfl ?_
      refine g_istore F [(6, .int p1), (5, .int 0), (4, .int 0), (3, .int (G 18 0)), (0, .ref (a 6)), (1, .ref (a 63)), (2, .int p1)] dX5_gapIn_64 (by decide) rfl ?_
      refine g_iload F 1 dX5_gapIn_66 rfl ?_
      refine v_if_eq F 89 dX5_gapIn_68 (by decide) 0 rfl (fun c80 => ?_) (fun c80 => absurd c80 (by decide))
      refine g_iload_n F 6 dX5_gapIn_89 rfl rfl ?_
      refine g_istore F [(7, .int p1), (6, .int p1), (5, .int 0), (4, .int 0), (3, .int (G 18 0)), (0, .ref (a 6)), (1, .ref (a 63)), (2, .int p1)] dX5_gapIn_90 (by decide) rfl ?_
      refine g_iload F 3 dX5_gapIn_92 rfl ?_
      refine v_if_eq F 110 dX5_gapIn_94 (by decide) 0 rfl (fun c81 => ?_) (fun c81 => absurd c81 (by decide))
      refine g_iload F 3 dX5_gapIn_110 rfl ?_
      refine v_if_eq F 120 dX5_gapIn_112 (by decide) 0 rfl (fun c82 => ?_) (fun c82 => absurd c82 (by decide))
      refine g_iload F 0 dX5_gapIn_120 rfl ?_
      exact u_iret F hA hQ hr () (⟨(by have h9 := ti_rng p1; omega), (by unfold psGa; rw [if_neg (by omega), if_neg (by omega)]; exact e1)⟩) rfl rfl dX5_gapIn_122


set_option maxHeartbeats 4000000 in
set_option maxRecDepth 100000 in
theorem S_X5_run_63 (l : Launch) (D : va_G) (K : Nat → ClassId) (a : Nat → Nat) (G : gS) (p1 : Int32) (s1 : Int) (p2 : Int32) (s2 : Int) (p3 : Int32) (s3 : Int) (e1 : p1.toInt = s1) (h1 : 0 ≤ s1 ∧ s1 ≤ 30000) (e2 : p2.toInt = s2) (h2 : 0 ≤ s2 ∧ s2 ≤ 300) (e3 : p3.toInt = s3) (h3 : 0 ≤ s3 ∧ s3 ≤ 300) (fr : (0 ≤ (G 6 1).toInt ∧ (G 6 1).toInt < (G 18 1).toInt ∧ 1 ≤ (G 6 2).toInt ∧ (G 6 2).toInt ≤ 9 ∧ 1 ≤ (G 6 3).toInt ∧ (G 6 3).toInt ≤ 20 ∧ 1 ≤ (G 6 4).toInt ∧ (G 6 4).toInt ≤ 12)) (hI : xI G) (sz : Nat) : Ki l yX5_run wsX5_run 4 115 0 0 D [.ref (a 6), .ref (a 63), .int p1, .int p2, .int p3] (xW K a G) (tK K) sz (fun (r : Int32) (G' : gS) => (xI G') ∧ (gu_un xcd [608, 613, 614, 615, 616, 617, 618, 619, 620, 2100, 2400, 2700, 4400, 4500, 4600, 4700, 4800] G G') ∧ ((-4) ≤ r.toInt ∧ r.toInt ≤ 2) ∧ ((r.toInt = -4 ∨ (0 ≤ r.toInt ∧ r.toInt ≤ 2))) ∧ (((xTok G ∧ r.toInt ≠ -4) → xOut G (G 63) p1 p2 p3 G' r.toInt)) ∧ (((r.toInt = -4 ∧ psMx (psHr (G 63) (G 6 1).toInt (G 18 0).toInt) ((G 18 0).toInt - 1).toNat - (G 6 3).toInt * (G 6 4).toInt < 1) ∨ (r.toInt ≠ -4 ∧ 1 ≤ psMx (psHr (G 63) (G 6 1).toInt (G 18 0).toInt) ((G 18 0).toInt - 1).toNat - (G 6 3).toInt * (G 6 4).toInt)))) (fun (G' : gS) => (xW K a G')) (fun _ => (tK K)) := by
  unfold Ki
  refine g_ofW (cc := cX5_run) (lv := [(0, .ref (a 6)), (1, .ref (a 63)), (2, .int p1), (3, .int p2), (4, .int p3)]) (by decide) rfl (Nat.le_of_ble_eq_true rfl) rfl ?_
  intro p e s m args below meth c A Q hA hQ F hr hnm
  have hts := F.2.2.2.2.1
  have w_0 : (Cond.fieldLink RX5 40 "QuietCut$Lathe" "feed" "I").before args s = true := hts _ (List.mem_of_getElem? (i := 9) rfl)
  have i_X5 : ∀ w ∈ u_ws RX5 TX5 20, w ∈ wsX5_run := fun _ h => List.mem_cons_of_mem _ (List.mem_append_left _ (List.mem_append_left _ (List.mem_append_right _ h)))
  have w_1 : (Cond.fieldLink RX5 29 "QuietCut$Lathe" "shop" "LQuietCut$Shop;").before args s = true := hts _ (List.mem_of_getElem? (i := 1) rfl)
  have w_2 : (Cond.fieldLink RX5 90 "QuietCut$Shop" "wall" "LQuietCut$Formula;").before args s = true := hts _ (List.mem_of_getElem? (i := 12) rfl)
  have i_X7 : ∀ w ∈ u_ws RX7 TX7 4, w ∈ wsX5_run := fun _ h => List.mem_cons_of_mem _ (List.mem_append_left _ (List.mem_append_right _ h))
  have w_3 : (Cond.fieldLink RX5 17 "QuietCut$Lathe" "heights" "[I").before args s = true := hts _ (List.mem_of_getElem? (i := 4) rfl)
  have w_4 : (Cond.fieldLink RX5 37 "QuietCut$Lathe" "speed" "I").before args s = true := hts _ (List.mem_of_getElem? (i := 13) rfl)
  have w_5 : (Cond.fieldLink RX5 43 "QuietCut$Lathe" "turns" "I").before args s = true := hts _ (List.mem_of_getElem? (i := 10) rfl)
  have w_6 : (Cond.fieldLink RX5 116 "QuietCut$Lathe" "wave" "I").before args s = true := hts _ (List.mem_of_getElem? (i := 14) rfl)
  have w_7 : (Cond.fieldLink RX5 56 "QuietCut$Shop" "numbers" "[I").before args s = true := hts _ (List.mem_of_getElem? (i := 2) rfl)
  have w_8 : (Cond.fieldLink RX5 83 "QuietCut$Lathe" "begun" "I").before args s = true := hts _ (List.mem_of_getElem? (i := 11) rfl)
  have w_9 : (Cond.fieldLink RX5 33 "QuietCut$Lathe" "ring" "I").before args s = true := hts _ (List.mem_of_getElem? (i := 3) rfl)
  have w_10 : (Cond.methodLink RX5 65 arraycopyName).before args s = true := hts _ (List.mem_of_getElem? (i := 5) rfl)
  have w_11 : (Cond.native arraycopyName).before args s = true := hts _ (List.mem_of_getElem? (i := 6) rfl)
  have w_12 : (Cond.static arraycopyName).before args s = true := hts _ (List.mem_of_getElem? (i := 7) rfl)
  have w_13 : (Cond.initialized "java/lang/System").before args s = true := hts _ (List.mem_of_getElem? (i := 8) rfl)
  have b1 : (4 : Int) ≤ (G 18 0).toInt ∧ (G 18 0).toInt ≤ 16 := hI 18 0
  have b2 : (1 : Int) ≤ (G 18 1).toInt ∧ (G 18 1).toInt ≤ 6 := hI 18 1
  have b3 : (0 : Int) ≤ (G 18 8).toInt ∧ (G 18 8).toInt ≤ 9999 := hI 18 8
  have b4 : (1 : Int) ≤ (G 18 10).toInt ∧ (G 18 10).toInt ≤ 4 := hI 18 10
  have b5 : (1 : Int) ≤ (G 18 11).toInt ∧ (G 18 11).toInt ≤ 6 := hI 18 11
  have J_121 : ∀ (fuel : Nat) (x121_6 : Int32) (x121_7 : Int32) (x121_8 : Int32) (x121_9 : Int32) (x121_10 : Int32) (Gj121 : gS), (2147483647 - x121_10.toInt).toNat < fuel → ((-1000000) ≤ x121_6.toInt ∧ x121_6.toInt ≤ 5000) → ((-9998) ≤ x121_7.toInt ∧ x121_7.toInt ≤ 1000000) → (0 ≤ x121_8.toInt ∧ x121_8.toInt ≤ 1) → (0 ≤ x121_9.toInt ∧ x121_9.toInt ≤ 5) → (0 ≤ x121_10.toInt ∧ x121_10.toInt ≤ 12) → (xI Gj121) → (gu_un xcd [608, 613, 614, 615, 617, 618, 619, 620, 2100, 2400, 2700, 4400, 4500, 4600, 4700, 4800] G Gj121) → (∃ n9 : Nat, (n9 : Int) ≤ x121_10.toInt * (G 18 0).toInt ∧ (x121_8.toInt = 0 → (n9 : Int) = x121_10.toInt * (G 18 0).toInt ∧ x121_9.toInt = (n9 : Int) % (G 18 11).toInt) ∧ (xTok G → xRl G (G 63) p1 x121_6 x121_7 p2 p3 Gj121 n9 x121_8.toInt ∧ xBg G (G 63) p1 x121_6 x121_7 p2 p3 Gj121 n9)) → (x121_6.toInt = psMx (psHr (G 63) (G 6 1).toInt (G 18 0).toInt) ((G 18 0).toInt - 1).toNat ∧ x121_7.toInt = psGa (G 63) (G 6 1).toInt (G 18 1).toInt (G 18 0).toInt x121_6.toInt) → (xMt G Gj121) → ((x121_8.toInt ≠ 0 ∨ (-9999 ≤ (Gj121 6 13).toInt ∧ (Gj121 6 13).toInt ≤ 9999 ∧ -19998 ≤ (Gj121 6 14).toInt ∧ (Gj121 6 14).toInt ≤ 19998))) → (((Gj121 6 19).toInt = x121_10.toInt)) → ((x121_10.toInt ≤ (G 6 4).toInt)) → ((x121_6.toInt - (G 6 3).toInt * (G 6 4).toInt ≥ 1)) → gG p l e (gR 4 0 0 115) s m args below meth c D A 14 Q 0 0 (xW K a Gj121) (tK K) [(0, .ref (a 6)), (3, .int p2), (4, .int p3), (5, .int (G 18 0)), (6, .int x121_6), (7, .int x121_7), (8, .int x121_8), (9, .int x121_9), (10, .int x121_10)] 121 [] := by
    intro fuel
    induction fuel with
    | zero => intro x121_6 x121_7 x121_8 x121_9 x121_10 Gj121 hm; exact absurd hm (Nat.not_lt_zero _)
    | succ fuel_121 ih_121 =>
      intro x121_6 x121_7 x121_8 x121_9 x121_10 Gj121 hm_121 h121_6 h121_7 h121_8 h121_9 h121_10 jI121 jU121 r1 lv mt_121 xb1 bg1 tl1 lc1
      have J_148 : ∀ (fuel : Nat) (x148_8 : Int32) (x148_9 : Int32) (x148_11 : Int32) (Gj148 : gS), (2147483647 - x148_11.toInt).toNat < fuel → (0 ≤ x148_8.toInt ∧ x148_8.toInt ≤ 1) → (0 ≤ x148_9.toInt ∧ x148_9.toInt ≤ 5) → (0 ≤ x121_10.toInt ∧ x121_10.toInt ≤ 11) → (0 ≤ x148_11.toInt ∧ x148_11.toInt ≤ 16) → (xI Gj148) → (gu_un xcd [613, 614, 615, 617, 618, 619, 620, 2100, 2400, 2700, 4500, 4600, 4700, 4800] Gj121 Gj148) → ((xTok G → xRl G (G 63) p1 x121_6 x121_7 p2 p3 Gj148 (x121_10.toInt * (G 18 0).toInt + x148_11.toInt).toNat x148_8.toInt ∧ (0 < x148_11.toInt → xBg G (G 63) p1 x121_6 x121_7 p2 p3 Gj148 (x121_10.toInt * (G 18 0).toInt + x148_11.toInt).toNat))) → (x148_9.toInt = (x121_10.toInt * (G 18 0).toInt + x148_11.toInt) % (G 18 11).toInt) → (xMt G Gj148) → ((x148_8.toInt ≠ 0 ∨ (-9999 ≤ (Gj148 6 13).toInt ∧ (Gj148 6 13).toInt ≤ 9999 ∧ -19998 ≤ (Gj148 6 14).toInt ∧ (Gj148 6 14).toInt ≤ 19998))) → (((Gj148 6 19).toInt = x121_10.toInt + 1)) → ((x121_10.toInt + 1 ≤ (G 6 4).toInt)) → ((x148_8.toInt = 0 ∨ 0 < x148_11.toInt)) → ((x148_11.toInt ≤ (G 18 0).toInt)) → gG p l e (gR 4 0 0 115) s m args below meth c D A 14 Q 0 0 (xW K a Gj148) (tK K) [(0, .ref (a 6)), (3, .int p2), (4, .int p3), (5, .int (G 18 0)), (6, .int x121_6), (7, .int x121_7), (8, .int x148_8), (9, .int x148_9), (10, .int x121_10), (11, .int x148_11)] 148 [] := by
        intro fuel
        induction fuel with
        | zero => intro x148_8 x148_9 x148_11 Gj148 hm; exact absurd hm (Nat.not_lt_zero _)
        | succ fuel_148 ih_148 =>
          intro x148_8 x148_9 x148_11 Gj148 hm_148 h148_8 h148_9 k148_10 h148_11 jI148 jU148 r2 r3 mt xb2 bg2 tl2 sh2 il2
          refine g_iload F 9 dX5_run_148 rfl ?_
          refine g_iload F 3 dX5_run_150 rfl ?_
          refine v_icmp_ge F 255 dX5_run_152 (by decide) x148_11.toInt (G 18 0).toInt rfl rfl (fun c6 => ?_) (fun c6 => ?_)
          · refine u_iinc F (fun v_ => [(10, .int v_), (0, .ref (a 6)), (3, .int p2), (4, .int p3), (5, .int (G 18 0)), (6, .int x121_6), (7, .int x121_7), (8, .int x148_8), (9, .int x148_9), (11, .int x148_11)]) dX5_run_255 (j := 8) rfl x121_10.toInt 1 rfl rfl (by omega) (by omega) (by decide) (fun _ => rfl) (fun y7 ey7 => ?_)
            refine g_goto F 121 dX5_run_258 (by decide) ?_
            refine g_locals [(0, .ref (a 6)), (3, .int p2), (4, .int p3), (5, .int (G 18 0)), (6, .int x121_6), (7, .int x121_7), (8, .int x148_8), (9, .int x148_9), (10, .int y7)] [1, 2, 3, 4, 5, 6, 7, 8, 0] rfl ?_
            exact ih_121 x121_6 x121_7 x148_8 x148_9 y7 Gj148 (by omega) (by have h9 := ti_rng x121_6; omega) (by have h9 := ti_rng x121_7; omega) (by have h9 := ti_rng x148_8; omega) (by have h9 := ti_rng x148_9; omega) (by have h9 := ti_rng y7; omega) jI148 (gu_un.tr (gu_un.tr gu_un.rf (gu_un.su jU121 rfl)) (gu_un.su jU148 rfl)) (⟨(x121_10.toInt * (G 18 0).toInt + x148_11.toInt).toNat, by rw [show y7.toInt = x121_10.toInt + 1 by omega, Int.add_mul, Int.one_mul]; omega, fun h0 => ⟨by rw [show y7.toInt = x121_10.toInt + 1 by omega, Int.add_mul, Int.one_mul]; omega, by rw [Int.toNat_of_nonneg (by omega)]; exact r3⟩, fun hz => ⟨(r2 hz).1, (r2 hz).2 (by omega)⟩⟩) (lv) (mt) (by (first | omega | (simp only [Int32.reduceToInt, true_and, and_true, ne_eq, not_true_eq_false, false_and, or_false, false_or, true_or, or_true, false_implies] <;> omega))) (by (first | omega | (simp only [Int32.reduceToInt, true_and, and_true, ne_eq, not_true_eq_false, false_and, or_false, false_or, true_or, or_true, false_implies] <;> omega))) (by have e9_6_4 : Gj148 6 4 = (G 6 4) := (jU148 6 4 (by decide)).trans (jU121 6 4 (by decide)); (try simp only [e9_6_4, true_and, and_true]) <;> (first | omega | (simp only [Int32.reduceToInt, true_and, and_true, ne_eq, not_true_eq_false, false_and, or_false, false_or, true_or, or_true, false_implies] <;> omega))) (by omega)
          · refine g_iload F 6 dX5_run_155 rfl ?_
            refine v_if_ne F 255 dX5_run_157 (by decide) x148_8.toInt rfl (fun c8 => ?_) (fun c8 => ?_)
            · refine u_iinc F (fun v_ => [(10, .int v_), (0, .ref (a 6)), (3, .int p2), (4, .int p3), (5, .int (G 18 0)), (6, .int x121_6), (7, .int x121_7), (8, .int x148_8), (9, .int x148_9), (11, .int x148_11)]) dX5_run_255 (j := 8) rfl x121_10.toInt 1 rfl rfl (by omega) (by omega) (by decide) (fun _ => rfl) (fun y9 ey9 => ?_)
              refine g_goto F 121 dX5_run_258 (by decide) ?_
              refine g_locals [(0, .ref (a 6)), (3, .int p2), (4, .int p3), (5, .int (G 18 0)), (6, .int x121_6), (7, .int x121_7), (8, .int x148_8), (9, .int x148_9), (10, .int y9)] [1, 2, 3, 4, 5, 6, 7, 8, 0] rfl ?_
              exact ih_121 x121_6 x121_7 x148_8 x148_9 y9 Gj148 (by omega) (by have h9 := ti_rng x121_6; omega) (by have h9 := ti_rng x121_7; omega) (by have h9 := ti_rng x148_8; omega) (by have h9 := ti_rng x148_9; omega) (by have h9 := ti_rng y9; omega) jI148 (gu_un.tr (gu_un.tr gu_un.rf (gu_un.su jU121 rfl)) (gu_un.su jU148 rfl)) (⟨(x121_10.toInt * (G 18 0).toInt + x148_11.toInt).toNat, by rw [show y9.toInt = x121_10.toInt + 1 by omega, Int.add_mul, Int.one_mul]; omega, fun h0 => ⟨by rw [show y9.toInt = x121_10.toInt + 1 by omega, Int.add_mul, Int.one_mul]; omega, by rw [Int.toNat_of_nonneg (by omega)]; exact r3⟩, fun hz => ⟨(r2 hz).1, (r2 hz).2 (by omega)⟩⟩) (lv) (mt) (by (first | omega | (simp only [Int32.reduceToInt, true_and, and_true, ne_eq, not_true_eq_false, false_and, or_false, false_or, true_or, or_true, false_implies] <;> omega))) (by (first | omega | (simp only [Int32.reduceToInt, true_and, and_true, ne_eq, not_true_eq_false, false_and, or_false, false_or, true_or, or_true, false_implies] <;> omega))) (by have e9_6_4 : Gj148 6 4 = (G 6 4) := (jU148 6 4 (by decide)).trans (jU121 6 4 (by decide)); (try simp only [e9_6_4, true_and, and_true]) <;> (first | omega | (simp only [Int32.reduceToInt, true_and, and_true, ne_eq, not_true_eq_false, false_and, or_false, false_or, true_or, or_true, false_implies] <;> omega))) (by omega)
            · have ts0 : 0 ≤ x121_10.toInt * (G 18 0).toInt := Int.mul_nonneg (by omega) (by omega)
              have m1 : (x121_10 + 1).toInt = x121_10.toInt + 1 := ti_add rfl rfl (by omega) (by omega)
              refine g_aload_n F 0 dX5_run_160 rfl rfl ?_
              refine g_iload F 9 dX5_run_161 rfl ?_
              refine g_iload F 8 dX5_run_163 rfl ?_
              refine g_iload F 4 dX5_run_165 rfl ?_
              refine g_aload_n F 0 dX5_run_167 rfl rfl ?_
              refine xg_6_3 F i_X5 w_0 dX5_run_168 (G 6 3) ((jU148 6 3 (by decide)).trans (jU121 6 3 (by decide))) ?_
              refine g_iload F 8 dX5_run_171 rfl ?_
              refine g_iconst F 1 dX5_run_173 (by decide) ?_
              refine g_iadd F dX5_run_174 ?_
              refine g_imul F dX5_run_175 ?_
              refine g_isub F dX5_run_176 ?_
              have m2 : (G 6 3).toInt * (x121_10.toInt + 1) ≤ (G 6 3).toInt * (G 6 4).toInt := Int.mul_le_mul_of_nonneg_left (by omega) (by omega)
              have m3 := Int.mul_nonneg (show (0 : Int) ≤ (G 6 3).toInt by omega) (show (0 : Int) ≤ x121_10.toInt + 1 by omega)
              have m4 : ((G 6 3) * (x121_10 + 1)).toInt = (G 6 3).toInt * (x121_10.toInt + 1) := ti_mul rfl m1 (by omega) (by omega)
              have m5 : ((x121_6 - ((G 6 3) * (x121_10 + 1))) : Int32).toInt = x121_6.toInt - (G 6 3).toInt * (x121_10.toInt + 1) := ti_sub rfl m4 (by omega) (by omega)
              refine u_callVi (k := 0) (n := 0) (b := a 6) (As := [.int x148_11, .int x121_10, .int (x121_6 - ((G 6 3) * (x121_10 + 1)))]) (st := []) F (fun sz => S_X5_bite l D K a Gj148 x148_11 x148_11.toInt x121_10 x121_10.toInt (x121_6 - ((G 6 3) * (x121_10 + 1))) ((x121_6 - ((G 6 3) * (x121_10 + 1))) : Int32).toInt rfl (by omega) rfl rfl (by omega) (by (first | omega | (simp only [Int32.reduceToInt, true_and, and_true, ne_eq, not_true_eq_false, false_and, or_false, false_or, true_or, or_true, false_implies] <;> omega))) jI148 sz) (cwV 3 hts gX5_run_X5_bite rfl rfl rfl (by decide +kernel) ⟨Nat.le_of_ble_eq_true rfl, Nat.le_of_ble_eq_true rfl⟩) rfl 6 xc_6 rfl (Nat.le_of_ble_eq_true rfl) ⟨Nat.zero_le _, Nat.zero_le _⟩ dX5_run_177 (fun r10 G12 hw11 => ?_)
              have hI13 : xI G12 := hw11.1
              have hU14 : gu_un xcd [613, 618, 2100, 2700, 4500, 4600, 4700, 4800] Gj148 G12 := hw11.2.1
              have hp15 := hw11.2.2
              have b16 : (0 : Int) ≤ (Gj121 6 7).toInt ∧ (Gj121 6 7).toInt ≤ 4 := jI121 6 7
              have q17 : (∀ (Q S : gS) (C : Nat → List Int), xBq Gj148 Q C x121_10 (x121_6 - ((G 6 3) * (x121_10 + 1))) → (pR (G 18 0).toInt S (Gj148 45) (Gj148 6 12) (Gj148 6 13) (Gj148 6 14) (Gj148 6 17) (Gj148 6 18) (Gj148 6 16) 0 ∧ pL (G 18 0).toInt S (Gj148 46) (Gj148 47) (Gj148 48)) → (pR (G 18 0).toInt (psT Q C x148_11.toInt x121_10 ((Gj121 6 7).toInt).toNat S) (G12 45) (G12 6 12) (Gj148 6 13) (Gj148 6 14) (G12 6 17) (Gj148 6 18) (Gj148 6 16) (Int32.ofInt r10.toInt) ∧ pL (G 18 0).toInt (psT Q C x148_11.toInt x121_10 ((Gj121 6 7).toInt).toNat S) (G12 46) (G12 47) (G12 48))) := by have h9 := hp15.2.1; (try simp only [(show Gj148 18 0 = (G 18 0) from (jU148 18 0 (by decide)).trans (jU121 18 0 (by decide))), (show Gj148 18 0 = (G 18 0) from (jU148 18 0 (by decide)).trans (jU121 18 0 (by decide))), (show Gj148 18 0 = (G 18 0) from (jU148 18 0 (by decide)).trans (jU121 18 0 (by decide))), (show Gj148 6 7 = (Gj121 6 7) from jU148 6 7 (by decide)), (show Gj148 18 0 = (G 18 0) from (jU148 18 0 (by decide)).trans (jU121 18 0 (by decide))), (show Gj148 6 7 = (Gj121 6 7) from jU148 6 7 (by decide))] at h9); first | exact h9 | omega
              have q18 : (-39996 ≤ r10.toInt ∧ r10.toInt ≤ 39996) := hp15.2.2
              have rg19 := hp15.1
              clear hp15 hw11
              refine g_istore F [(12, .int r10), (0, .ref (a 6)), (3, .int p2), (4, .int p3), (5, .int (G 18 0)), (6, .int x121_6), (7, .int x121_7), (8, .int x148_8), (9, .int x148_9), (10, .int x121_10), (11, .int x148_11)] dX5_run_180 (by decide) rfl ?_
              refine g_iload_n F 2 dX5_run_182 rfl rfl ?_
              refine g_aload_n F 1 dX5_run_183 rfl rfl ?_
              refine xg_6_0 F i_X5 w_1 dX5_run_184 ?_
              refine xg_2_2 F i_X7 w_2 dX5_run_187 ?_
              refine g_aload_n F 1 dX5_run_190 rfl rfl ?_
              refine xg_6_8 F i_X5 w_3 dX5_run_191 ?_
              refine g_iload F 10 dX5_run_194 rfl ?_
              refine u1_iald F 45 0 xc_45 rfl x148_11.toInt rfl (by omega) (by omega) dX5_run_196 ((G12 45) (x148_11.toInt).toNat) (rfl) ?_
              have b20 : ((-9998) : Int) ≤ ((G12 45) (x148_11.toInt).toNat).toInt ∧ ((G12 45) (x148_11.toInt).toNat).toInt ≤ 5000 := hI13 45 _
              refine g_iload F 6 dX5_run_197 rfl ?_
              refine u_callVi (k := 0) (n := 0) (b := a 12) (As := [.int ((G12 45) (x148_11.toInt).toNat), .int x121_7]) (st := [.int p2]) F (fun sz => S_X3_value_12 l D K a G12 ((G12 45) (x148_11.toInt).toNat) ((G12 45) (x148_11.toInt).toNat).toInt x121_7 x121_7.toInt rfl rfl hI13 sz) (cwV 2 hts gX5_run_X3_value rfl rfl rfl (by decide +kernel) ⟨Nat.le_of_ble_eq_true rfl, Nat.le_of_ble_eq_true rfl⟩) rfl 12 xc_12 rfl (Nat.le_of_ble_eq_true rfl) ⟨Nat.zero_le _, Nat.zero_le _⟩ dX5_run_199 (fun r21 G23 hw22 => ?_)
              have hI24 : xI G23 := hw22.1
              have hU25 : gu_un xcd [2400] G12 G23 := hw22.2.1
              have hp26 := hw22.2.2
              have b27 : (0 : Int) ≤ (G 12 1).toInt ∧ (G 12 1).toInt ≤ 80 := hI 12 1
              have q28 : (gcOK (tkr (G 23) ((G 12 1).toInt).toNat) → r21.toInt = (eV ((G12 45) (x148_11.toInt).toNat) x121_7 (tkr (G 23) ((G 12 1).toInt).toNat)).toInt) := by have h9 := hp26; (try simp only [(show G12 12 1 = (G 12 1) from (hU14 12 1 (by decide)).trans ((jU148 12 1 (by decide)).trans (jU121 12 1 (by decide)))), (show G12 12 1 = (G 12 1) from (hU14 12 1 (by decide)).trans ((jU148 12 1 (by decide)).trans (jU121 12 1 (by decide)))), (show G12 23 = (G 23) from (show G12 23 = Gj148 23 from funext fun k_ => hU14 23 k_ (show (2300 : Nat) ∉ ([613, 618, 2100, 2700, 4500, 4600, 4700, 4800] : List Nat) by decide)).trans ((show Gj148 23 = Gj121 23 from funext fun k_ => jU148 23 k_ (show (2300 : Nat) ∉ ([613, 614, 615, 617, 618, 619, 620, 2100, 2400, 2700, 4500, 4600, 4700, 4800] : List Nat) by decide)).trans ((show Gj121 23 = G 23 from funext fun k_ => jU121 23 k_ (show (2300 : Nat) ∉ ([608, 613, 614, 615, 617, 618, 619, 620, 2100, 2400, 2700, 4400, 4500, 4600, 4700, 4800] : List Nat) by decide))))), (show G12 23 = (G 23) from (show G12 23 = Gj148 23 from funext fun k_ => hU14 23 k_ (show (2300 : Nat) ∉ ([613, 618, 2100, 2700, 4500, 4600, 4700, 4800] : List Nat) by decide)).trans ((show Gj148 23 = Gj121 23 from funext fun k_ => jU148 23 k_ (show (2300 : Nat) ∉ ([613, 614, 615, 617, 618, 619, 620, 2100, 2400, 2700, 4500, 4600, 4700, 4800] : List Nat) by decide)).trans ((show Gj121 23 = G 23 from funext fun k_ => jU121 23 k_ (show (2300 : Nat) ∉ ([608, 613, 614, 615, 617, 618, 619, 620, 2100, 2400, 2700, 4400, 4500, 4600, 4700, 4800] : List Nat) by decide)))))] at h9); first | exact h9 | omega
              clear hp26 hw22
              refine g_iconst F 0 dX5_run_202 (by decide) ?_
              refine g_sipush F 999 dX5_run_203 (by decide) ?_
              refine u_call0 (k := 0) (n := 0) (As := [.int r21, .int 0, .int 999]) (st := [.int p2]) F (fun sz => S_X5_within l D r21 r21.toInt 0 0 999 999 rfl rfl rfl sz) (va_cwS 3 hts gX5_run_X5_within rfl rfl rfl (by decide +kernel) ⟨Nat.le_of_ble_eq_true rfl, Nat.le_of_ble_eq_true rfl⟩) rfl (Nat.le_of_ble_eq_true rfl) ⟨Nat.zero_le _, Nat.zero_le _⟩ dX5_run_206 (fun r29 _ hw30 => ?_)
              have q32 : (r29.toInt = max (0 : Int) (min (999 : Int) r21.toInt)) := hw30
              clear hw30
              refine g_iadd F dX5_run_209 ?_
              have hs9 : ((p2 + r29) : Int32).toInt = _ + _ := ti_add rfl rfl (by omega) (by omega)
              refine g_istore F [(13, .int (p2 + r29)), (12, .int r10), (0, .ref (a 6)), (3, .int p2), (4, .int p3), (5, .int (G 18 0)), (6, .int x121_6), (7, .int x121_7), (8, .int x148_8), (9, .int x148_9), (10, .int x121_10), (11, .int x148_11)] dX5_run_210 (by decide) rfl ?_
              refine g_aload_n F 2 dX5_run_212 rfl rfl ?_
              refine g_aload_n F 2 dX5_run_213 rfl rfl ?_
              refine xg_6_2 F i_X5 w_4 dX5_run_214 (G 6 2) ((hU25 6 2 (by decide)).trans ((hU14 6 2 (by decide)).trans ((jU148 6 2 (by decide)).trans (jU121 6 2 (by decide))))) ?_
              refine g_aload_n F 2 dX5_run_217 rfl rfl ?_
              refine xg_6_0 F i_X5 w_1 dX5_run_218 ?_
              refine g_iload F 9 dX5_run_221 rfl ?_
              refine u_callVi (k := 0) (n := 0) (b := a 2) (As := [.int x148_9]) (st := [.int (G 6 2), .ref (a 6)]) F (fun sz => S_X7_swayAt_2 l D K a G23 x148_9 x148_9.toInt rfl (by omega) hI24 sz) (cwV 1 hts gX5_run_X7_swayAt rfl rfl rfl (by decide +kernel) ⟨Nat.le_of_ble_eq_true rfl, Nat.le_of_ble_eq_true rfl⟩) rfl 2 xc_2 rfl (Nat.le_of_ble_eq_true rfl) ⟨Nat.zero_le _, Nat.zero_le _⟩ dX5_run_223 (fun r33 _ hw34 => ?_)
              have q36 : (r33.toInt = ((G 18) (30 + (x148_9.toInt).toNat)).toInt) := by have h9 := hw34.2; (try simp only [(show G23 18 = (G 18) from (show G23 18 = G12 18 from funext fun k_ => hU25 18 k_ (show (1800 : Nat) ∉ ([2400] : List Nat) by decide)).trans ((show G12 18 = Gj148 18 from funext fun k_ => hU14 18 k_ (show (1800 : Nat) ∉ ([613, 618, 2100, 2700, 4500, 4600, 4700, 4800] : List Nat) by decide)).trans ((show Gj148 18 = Gj121 18 from funext fun k_ => jU148 18 k_ (show (1800 : Nat) ∉ ([613, 614, 615, 617, 618, 619, 620, 2100, 2400, 2700, 4500, 4600, 4700, 4800] : List Nat) by decide)).trans ((show Gj121 18 = G 18 from funext fun k_ => jU121 18 k_ (show (1800 : Nat) ∉ ([608, 613, 614, 615, 617, 618, 619, 620, 2100, 2400, 2700, 4400, 4500, 4600, 4700, 4800] : List Nat) by decide))))))] at h9); first | exact h9 | omega
              have rg37 := hw34.1
              clear hw34
              refine g_iadd F dX5_run_226 ?_
              have ss9 : (((G 6 2) + r33) : Int32).toInt = _ + _ := ti_add rfl rfl (by omega) (by omega)
              refine g_iload F 1 dX5_run_227 rfl ?_
              refine g_iload F 0 dX5_run_229 rfl ?_
              refine g_iload F 4 dX5_run_231 rfl ?_
              refine u_callVi (k := 0) (n := 0) (b := a 6) (As := [.int ((G 6 2) + r33), .int r10, .int (p2 + r29), .int p3]) (st := []) F (fun sz => S_X5_swingsTooFar l D K a G23 ((G 6 2) + r33) (((G 6 2) + r33) : Int32).toInt r10 r10.toInt (p2 + r29) ((p2 + r29) : Int32).toInt p3 s3 rfl rfl (by omega) rfl (by omega) e3 (by omega) (by have e9_6_13 : G23 6 13 = (Gj148 6 13) := (hU25 6 13 (by decide)).trans (hU14 6 13 (by decide)); have e9_6_14 : G23 6 14 = (Gj148 6 14) := (hU25 6 14 (by decide)).trans (hU14 6 14 (by decide)); (try simp only [e9_6_13, e9_6_14, true_and, and_true]) <;> (first | omega | (simp only [Int32.reduceToInt, true_and, and_true, ne_eq, not_true_eq_false, false_and, or_false, false_or, true_or, or_true, false_implies] <;> omega))) hI24 sz) (cwV 4 hts gX5_run_X5_swingsTooFar rfl rfl rfl (by decide +kernel) ⟨Nat.le_of_ble_eq_true rfl, Nat.le_of_ble_eq_true rfl⟩) rfl 6 xc_6 rfl (Nat.le_of_ble_eq_true rfl) ⟨Nat.zero_le _, Nat.zero_le _⟩ dX5_run_233 (fun r38 G40 hw39 => ?_)
              have hI41 : xI G40 := hw39.1
              have hU42 : gu_un xcd [614, 615, 617, 619] G23 G40 := hw39.2.1
              have hp43 := hw39.2.2
              have q44 : (∀ Q S : gS, (Q 0 2 = (G 18) 2 ∧ Q 0 7 = (G 18) 7 ∧ Q 3 5 = p3) → swR S (G23 6 13) (G23 6 14) (G23 6 18) (G23 6 16) 0 → swR (psJ Q r10 (p2 + r29) ((((G 6 2) + r33) : Int32).toInt).toNat S) (G40 6 13) (G40 6 14) (G40 6 18) (G40 6 16) (Int32.ofInt r38.toInt)) := by have h9 := hp43.2.1; (try simp only [(show G23 18 = (G 18) from (show G23 18 = G12 18 from funext fun k_ => hU25 18 k_ (show (1800 : Nat) ∉ ([2400] : List Nat) by decide)).trans ((show G12 18 = Gj148 18 from funext fun k_ => hU14 18 k_ (show (1800 : Nat) ∉ ([613, 618, 2100, 2700, 4500, 4600, 4700, 4800] : List Nat) by decide)).trans ((show Gj148 18 = Gj121 18 from funext fun k_ => jU148 18 k_ (show (1800 : Nat) ∉ ([613, 614, 615, 617, 618, 619, 620, 2100, 2400, 2700, 4500, 4600, 4700, 4800] : List Nat) by decide)).trans ((show Gj121 18 = G 18 from funext fun k_ => jU121 18 k_ (show (1800 : Nat) ∉ ([608, 613, 614, 615, 617, 618, 619, 620, 2100, 2400, 2700, 4400, 4500, 4600, 4700, 4800] : List Nat) by decide)))))), (show G23 18 = (G 18) from (show G23 18 = G12 18 from funext fun k_ => hU25 18 k_ (show (1800 : Nat) ∉ ([2400] : List Nat) by decide)).trans ((show G12 18 = Gj148 18 from funext fun k_ => hU14 18 k_ (show (1800 : Nat) ∉ ([613, 618, 2100, 2700, 4500, 4600, 4700, 4800] : List Nat) by decide)).trans ((show Gj148 18 = Gj121 18 from funext fun k_ => jU148 18 k_ (show (1800 : Nat) ∉ ([613, 614, 615, 617, 618, 619, 620, 2100, 2400, 2700, 4500, 4600, 4700, 4800] : List Nat) by decide)).trans ((show Gj121 18 = G 18 from funext fun k_ => jU121 18 k_ (show (1800 : Nat) ∉ ([608, 613, 614, 615, 617, 618, 619, 620, 2100, 2400, 2700, 4400, 4500, 4600, 4700, 4800] : List Nat) by decide))))))] at h9); first | exact h9 | omega
              have q45 : (r38.toInt ≠ 0 ∨ (-9999 ≤ (G40 6 13).toInt ∧ (G40 6 13).toInt ≤ 9999 ∧ -19998 ≤ (G40 6 14).toInt ∧ (G40 6 14).toInt ≤ 19998)) := hp43.2.2
              have rg46 := hp43.1
              clear hp43 hw39
              refine g_istore F [(8, .int r38), (13, .int (p2 + r29)), (12, .int r10), (0, .ref (a 6)), (3, .int p2), (4, .int p3), (5, .int (G 18 0)), (6, .int x121_6), (7, .int x121_7), (9, .int x148_9), (10, .int x121_10), (11, .int x148_11)] dX5_run_236 (by decide) rfl ?_
              refine g_aload_n F 3 dX5_run_238 rfl rfl ?_
              refine xg_6_0 F i_X5 w_1 dX5_run_239 ?_
              refine g_iload F 9 dX5_run_242 rfl ?_
              refine u_callVi (k := 0) (n := 0) (b := a 2) (As := [.int x148_9]) (st := []) F (fun sz => S_X7_swayBehind_2 l D K a G40 x148_9 x148_9.toInt rfl (by omega) hI41 sz) (cwV 1 hts gX5_run_X7_swayBehind rfl rfl rfl (by decide +kernel) ⟨Nat.le_of_ble_eq_true rfl, Nat.le_of_ble_eq_true rfl⟩) rfl 2 xc_2 rfl (Nat.le_of_ble_eq_true rfl) ⟨Nat.zero_le _, Nat.zero_le _⟩ dX5_run_244 (fun r47 _ hw48 => ?_)
              have q50 : (r47.toInt = if x148_9.toInt + 1 < (G 18 11).toInt then x148_9.toInt + 1 else 0) := by have h9 := hw48.2; (try simp only [(show G40 18 11 = (G 18 11) from (hU42 18 11 (by decide)).trans ((hU25 18 11 (by decide)).trans ((hU14 18 11 (by decide)).trans ((jU148 18 11 (by decide)).trans (jU121 18 11 (by decide))))))] at h9); first | exact h9 | omega
              have rg51 := hw48.1
              clear hw48
              refine g_istore F [(9, .int r47), (8, .int r38), (13, .int (p2 + r29)), (12, .int r10), (0, .ref (a 6)), (3, .int p2), (4, .int p3), (5, .int (G 18 0)), (6, .int x121_6), (7, .int x121_7), (10, .int x121_10), (11, .int x148_11)] dX5_run_247 (by decide) rfl ?_
              refine u_iinc F (fun v_ => [(11, .int v_), (9, .int r47), (8, .int r38), (13, .int (p2 + r29)), (12, .int r10), (0, .ref (a 6)), (3, .int p2), (4, .int p3), (5, .int (G 18 0)), (6, .int x121_6), (7, .int x121_7), (10, .int x121_10)]) dX5_run_249 (j := 11) rfl x148_11.toInt 1 rfl rfl (by omega) (by omega) (by decide) (fun _ => rfl) (fun y52 ey52 => ?_)
              refine g_goto F 148 dX5_run_252 (by decide) ?_
              refine g_locals [(0, .ref (a 6)), (3, .int p2), (4, .int p3), (5, .int (G 18 0)), (6, .int x121_6), (7, .int x121_7), (8, .int r38), (9, .int r47), (10, .int x121_10), (11, .int y52)] [5, 6, 7, 8, 9, 10, 2, 1, 11, 0] rfl ?_
              exact ih_148 r38 r47 y52 G40 (by omega) (by have h9 := ti_rng r38; omega) (by have h9 := ti_rng r47; omega) (by have h9 := ti_rng x121_10; omega) (by have h9 := ti_rng y52; omega) hI41 (gu_un.tr (gu_un.tr (gu_un.tr (gu_un.tr gu_un.rf (gu_un.su jU148 rfl)) (gu_un.su hU14 rfl)) (gu_un.su hU25 rfl)) (gu_un.su hU42 rfl)) (fun hz => by have h9 := xRl.go (n := (x121_10.toInt * (G 18 0).toInt + x148_11.toInt).toNat) (y := (x121_10.toInt * (G 18 0).toInt + y52.toInt).toNat) (T := x121_10.toInt) (i := x148_11.toInt) (s := (G 18 0).toInt) (t := x121_10) (fo := r10) (ho := (p2 + r29)) (m := ((Gj121 6 7).toInt).toNat) (rd := x148_9.toInt) (k := ((((G 6 2) + r33) : Int32).toInt).toNat) (sh := r38) ((r2 hz).1.sh (by omega)) (by omega) rfl (by omega) (by omega) rfl (fun Q C hq => xBq_of hq (show Gj148 18 = (G 18) from ((show Gj148 18 = Gj121 18 from funext fun k_ => jU148 18 k_ (by simp [xcd])).trans (show Gj121 18 = (G 18) from ((show Gj121 18 = G 18 from funext fun k_ => jU121 18 k_ (by simp [xcd])).trans (show G 18 = (G 18) from rfl))))) (show Gj148 20 = (G 20) from ((show Gj148 20 = Gj121 20 from funext fun k_ => jU148 20 k_ (by simp [xcd])).trans (show Gj121 20 = (G 20) from ((show Gj121 20 = G 20 from funext fun k_ => jU121 20 k_ (by simp [xcd])).trans (show G 20 = (G 20) from rfl))))) (show Gj148 26 = (G 26) from ((show Gj148 26 = Gj121 26 from funext fun k_ => jU148 26 k_ (by simp [xcd])).trans (show Gj121 26 = (G 26) from ((show Gj121 26 = G 26 from funext fun k_ => jU121 26 k_ (by simp [xcd])).trans (show G 26 = (G 26) from rfl))))) (show Gj148 11 1 = (G 11 1) from (jU148 11 1 (by decide)).trans (jU121 11 1 (by decide))) (show Gj148 13 1 = (G 13 1) from (jU148 13 1 (by decide)).trans (jU121 13 1 (by decide))) (mt hz) rfl) (by have h6 := (mt hz).1; rw [show Gj148 6 7 = (Gj121 6 7) from jU148 6 7 (by decide)] at h6; rw [h6]) (Int32.toInt_inj.mp (by omega)) (by have h := q17; simp only [Int32.ofInt_toInt] at h; exact h) (fun gc => congrArg (p2 + ·) (psC_of q32 (q28 gc))) (by rw [Int.toNat_of_nonneg (by omega)]; exact r3) (by omega) (by rw [← Int32.toInt_inj.mp q36]) (by have h := q44; rw [Int32.ofInt_toInt, show G23 6 13 = Gj148 6 13 from (show G23 6 13 = Gj148 6 13 from (show gu_un xcd [613, 618, 2100, 2400, 2700, 4500, 4600, 4700, 4800] Gj148 G23 from (gu_un.tr (gu_un.tr gu_un.rf (gu_un.su hU14 rfl)) (gu_un.su hU25 rfl))) 6 13 (by decide)), show G23 6 14 = Gj148 6 14 from (show G23 6 14 = Gj148 6 14 from (show gu_un xcd [613, 618, 2100, 2400, 2700, 4500, 4600, 4700, 4800] Gj148 G23 from (gu_un.tr (gu_un.tr gu_un.rf (gu_un.su hU14 rfl)) (gu_un.su hU25 rfl))) 6 14 (by decide)), show G23 6 18 = Gj148 6 18 from (show G23 6 18 = Gj148 6 18 from (show gu_un xcd [613, 618, 2100, 2400, 2700, 4500, 4600, 4700, 4800] Gj148 G23 from (gu_un.tr (gu_un.tr gu_un.rf (gu_un.su hU14 rfl)) (gu_un.su hU25 rfl))) 6 18 (by decide)), show G23 6 16 = Gj148 6 16 from (show G23 6 16 = Gj148 6 16 from (show gu_un xcd [613, 618, 2100, 2400, 2700, 4500, 4600, 4700, 4800] Gj148 G23 from (gu_un.tr (gu_un.tr gu_un.rf (gu_un.su hU14 rfl)) (gu_un.su hU25 rfl))) 6 16 (by decide))] at h; exact h) (show G40 45 = G12 45 from funext fun k_ => (show gu_un xcd [614, 615, 617, 619, 2400] G12 G40 from (gu_un.tr (gu_un.tr gu_un.rf (gu_un.su hU25 rfl)) (gu_un.su hU42 rfl))) 45 k_ (by simp [xcd])) (show G40 46 = G12 46 from funext fun k_ => (show gu_un xcd [614, 615, 617, 619, 2400] G12 G40 from (gu_un.tr (gu_un.tr gu_un.rf (gu_un.su hU25 rfl)) (gu_un.su hU42 rfl))) 46 k_ (by simp [xcd])) (show G40 47 = G12 47 from funext fun k_ => (show gu_un xcd [614, 615, 617, 619, 2400] G12 G40 from (gu_un.tr (gu_un.tr gu_un.rf (gu_un.su hU25 rfl)) (gu_un.su hU42 rfl))) 47 k_ (by simp [xcd])) (show G40 48 = G12 48 from funext fun k_ => (show gu_un xcd [614, 615, 617, 619, 2400] G12 G40 from (gu_un.tr (gu_un.tr gu_un.rf (gu_un.su hU25 rfl)) (gu_un.su hU42 rfl))) 48 k_ (by simp [xcd])) (show G40 6 12 = G12 6 12 from (show gu_un xcd [614, 615, 617, 619, 2400] G12 G40 from (gu_un.tr (gu_un.tr gu_un.rf (gu_un.su hU25 rfl)) (gu_un.su hU42 rfl))) 6 12 (by decide)) (show G40 6 17 = G12 6 17 from (show gu_un xcd [614, 615, 617, 619, 2400] G12 G40 from (gu_un.tr (gu_un.tr gu_un.rf (gu_un.su hU25 rfl)) (gu_un.su hU42 rfl))) 6 17 (by decide)) (show G40 6 19 = Gj148 6 19 from (show gu_un xcd [613, 614, 615, 617, 618, 619, 2100, 2400, 2700, 4500, 4600, 4700, 4800] Gj148 G40 from (gu_un.tr (gu_un.tr (gu_un.tr gu_un.rf (gu_un.su hU14 rfl)) (gu_un.su hU25 rfl)) (gu_un.su hU42 rfl))) 6 19 (by decide)) (by omega) rfl; exact ⟨h9.1, fun _ => h9.2⟩) (by rw [show x121_10.toInt * (G 18 0).toInt + y52.toInt = (x121_10.toInt * (G 18 0).toInt + x148_11.toInt) + 1 by omega]; exact rnd_1 r3 (by omega) (by omega) q50) (xMt.tr mt (show G40 6 7 = Gj148 6 7 from (show gu_un xcd [613, 614, 615, 617, 618, 619, 2100, 2400, 2700, 4500, 4600, 4700, 4800] Gj148 G40 from (gu_un.tr (gu_un.tr (gu_un.tr gu_un.rf (gu_un.su hU14 rfl)) (gu_un.su hU25 rfl)) (gu_un.su hU42 rfl))) 6 7 (by decide)) (show G40 44 = Gj148 44 from funext fun k_ => (show gu_un xcd [613, 614, 615, 617, 618, 619, 2100, 2400, 2700, 4500, 4600, 4700, 4800] Gj148 G40 from (gu_un.tr (gu_un.tr (gu_un.tr gu_un.rf (gu_un.su hU14 rfl)) (gu_un.su hU25 rfl)) (gu_un.su hU42 rfl))) 44 k_ (by simp [xcd]))) (by (first | omega | (simp only [Int32.reduceToInt, true_and, and_true, ne_eq, not_true_eq_false, false_and, or_false, false_or, true_or, or_true, false_implies] <;> omega))) (by have e9_6_19 : G40 6 19 = (Gj148 6 19) := (hU42 6 19 (by decide)).trans ((hU25 6 19 (by decide)).trans (hU14 6 19 (by decide))); (try simp only [e9_6_19, true_and, and_true]) <;> (first | omega | (simp only [Int32.reduceToInt, true_and, and_true, ne_eq, not_true_eq_false, false_and, or_false, false_or, true_or, or_true, false_implies] <;> omega))) (by have e9_6_4 : G40 6 4 = (G 6 4) := (hU42 6 4 (by decide)).trans ((hU25 6 4 (by decide)).trans ((hU14 6 4 (by decide)).trans ((jU148 6 4 (by decide)).trans (jU121 6 4 (by decide))))); (try simp only [e9_6_4, true_and, and_true]) <;> (first | omega | (simp only [Int32.reduceToInt, true_and, and_true, ne_eq, not_true_eq_false, false_and, or_false, false_or, true_or, or_true, false_implies] <;> omega))) (by (first | omega | (simp only [Int32.reduceToInt, true_and, and_true, ne_eq, not_true_eq_false, false_and, or_false, false_or, true_or, or_true, false_implies] <;> omega))) (by have e9_18_0 : G40 18 0 = (G 18 0) := (hU42 18 0 (by decide)).trans ((hU25 18 0 (by decide)).trans ((hU14 18 0 (by decide)).trans ((jU148 18 0 (by decide)).trans (jU121 18 0 (by decide))))); (try simp only [e9_18_0, true_and, and_true]) <;> (first | omega | (simp only [Int32.reduceToInt, true_and, and_true, ne_eq, not_true_eq_false, false_and, or_false, false_or, true_or, or_true, false_implies] <;> omega)))
      refine g_iload F 8 dX5_run_121 rfl ?_
      refine g_aload_n F 0 dX5_run_123 rfl rfl ?_
      refine xg_6_4 F i_X5 w_5 dX5_run_124 (G 6 4) (jU121 6 4 (by decide)) ?_
      have b53 := ti_rng (G 6 4)
      refine v_icmp_ge F 261 dX5_run_127 (by decide) x121_10.toInt (G 6 4).toInt rfl rfl (fun c54 => ?_) (fun c54 => ?_)
      · refine g_aload_n F 0 dX5_run_261 rfl rfl ?_
        refine g_aload_n F 0 dX5_run_262 rfl rfl ?_
        refine xg_6_8 F i_X5 w_3 dX5_run_263 ?_
        refine g_iconst F 0 dX5_run_266 (by decide) ?_
        refine g_iload F 3 dX5_run_267 rfl ?_
        refine u_callSi (k := 0) (n := 0) (As := [.ref (a 45), .int 0, .int (G 18 0)]) (st := [.ref (a 6)]) F (fun sz => S_X5_greatest_45 l D K a Gj121 0 0 (G 18 0) (G 18 0).toInt rfl (by decide) rfl (by omega) jI121 sz) (va_cwS 3 hts gX5_run_X5_greatest rfl rfl rfl (by decide +kernel) ⟨Nat.le_of_ble_eq_true rfl, Nat.le_of_ble_eq_true rfl⟩) rfl (Nat.le_of_ble_eq_true rfl) ⟨Nat.zero_le _, Nat.zero_le _⟩ dX5_run_269 (fun r55 _ hw56 => ?_)
        have q58 : ((0 : Int) = 0 ∧ 1 ≤ (G 18 0).toInt ∧ (G 18 0).toInt ≤ 16 → r55.toInt = psMx (Gj121 45) ((G 18 0).toInt - 1).toNat) := hw56.2
        have rg59 := hw56.1
        clear hw56
        refine g_aload_n F 0 dX5_run_272 rfl rfl ?_
        refine xg_6_8 F i_X5 w_3 dX5_run_273 ?_
        refine g_iconst F 0 dX5_run_276 (by decide) ?_
        refine g_iload F 3 dX5_run_277 rfl ?_
        refine u_callSi (k := 0) (n := 0) (As := [.ref (a 45), .int 0, .int (G 18 0)]) (st := [.int r55, .ref (a 6)]) F (fun sz => S_X5_least_45 l D K a Gj121 0 0 (G 18 0) (G 18 0).toInt rfl (by decide) rfl (by omega) jI121 sz) (va_cwS 3 hts gX5_run_X5_least rfl rfl rfl (by decide +kernel) ⟨Nat.le_of_ble_eq_true rfl, Nat.le_of_ble_eq_true rfl⟩) rfl (Nat.le_of_ble_eq_true rfl) ⟨Nat.zero_le _, Nat.zero_le _⟩ dX5_run_279 (fun r60 _ hw61 => ?_)
        have q63 : (0 ≤ (0 : Int) ∧ 1 ≤ (G 18 0).toInt ∧ (0 : Int) + (G 18 0).toInt ≤ 16 → r60.toInt = psMn (fun q => (Gj121 45) ((0 : Int).toNat + q)) ((G 18 0).toInt - 1).toNat) := hw61.2
        have rg64 := hw61.1
        clear hw61
        refine u_isub F dX5_run_282 r55.toInt r60.toInt rfl rfl (by omega) (by omega) (fun y65 ey65 => ?_)
        refine xp_6_15 F i_X5 w_6 dX5_run_283 ?_
        refine g_iload F 6 dX5_run_286 rfl ?_
        refine v_if_eq F 293 dX5_run_288 (by decide) x121_8.toInt rfl (fun c66 => ?_) (fun c66 => ?_)
        · refine g_aload_n F 0 dX5_run_293 rfl rfl ?_
          refine xg_6_15 F i_X5 w_6 dX5_run_294 y65 (rfl) ?_
          refine g_aload_n F 0 dX5_run_297 rfl rfl ?_
          refine xg_6_0 F i_X5 w_1 dX5_run_298 ?_
          refine xg_2_0 F i_X7 w_7 dX5_run_301 ?_
          refine g_bipush F 8 dX5_run_304 (by decide) ?_
          refine u1_iald F 18 0 xc_18 rfl 8 rfl (by decide) (by decide) dX5_run_306 (G 18 8) (jU121 18 8 (by decide)) ?_
          refine v_icmp_le F 314 dX5_run_307 (by decide) y65.toInt (G 18 8).toInt rfl rfl (fun c67 => ?_) (fun c67 => ?_)
          · refine g_iconst F 0 dX5_run_314 (by decide) ?_
            exact u_iret F hA hQ hr (gu_up Gj121 6 15 y65) (⟨(gu_I.up (j := 6) (k := 15) (v := y65) jI121 (ti_rng _).1 (ti_rng _).2), (gu_un.up (j := 6) (k := 15) (v := y65) (gu_un.tr gu_un.rf (gu_un.su jU121 rfl)) (show (616 : Nat) ∈ ([608, 613, 614, 615, 616, 617, 618, 619, 620, 2100, 2400, 2700, 4400, 4500, 4600, 4700, 4800] : List Nat) by decide)), (by decide), (by show (0 = -4 ∨ (0 ≤ 0 ∧ 0 ≤ 2)); (first | omega | (simp only [Int32.reduceToInt, true_and, and_true, ne_eq, not_true_eq_false, false_and, or_false, false_or, true_or, or_true, false_implies] <;> omega))), (fun h9 => by obtain ⟨n9, a1, a2, a3⟩ := r1; have tm := Int.mul_le_mul_of_nonneg_right (show x121_10.toInt ≤ (G 6 4).toInt by omega) (show (0 : Int) ≤ (G 18 0).toInt by omega); have hf := xRl.fin (m := ((G 6 4).toInt * (G 18 0).toInt).toNat) (a3 h9.1).1 (a3 h9.1).2 (by omega) (by by_cases e : x121_8.toInt = 0 <;> first | exact Or.inl e | (right; have a4 := a2 e; rw [show x121_10.toInt = (G 6 4).toInt by omega] at a4; omega)); exact ⟨_, _, lv.1, lv.2, hf.1.sh (by first | (rw [if_pos (by decide)]; omega) | (rw [if_neg (by decide)]; omega)), hf.2, by have g1 := q58 ⟨rfl, by omega, by omega⟩; have g2 := q63 ⟨by omega, by omega, by omega⟩; have g3 : psMn (fun q => (Gj121 45) ((0 : Int).toNat + q)) ((G 18 0).toInt - 1).toNat = psMn (Gj121 45) ((G 18 0).toInt - 1).toNat := psMn_eq (fun i _ => by rw [show (0 : Int).toNat + i = i by omega]); show y65.toInt = psMx (Gj121 45) _ - psMn (Gj121 45) _; omega, by first | exact Or.inl (by decide) | exact Or.inr (Or.inl ⟨by decide, by show (G 18 8).toInt < y65.toInt; omega⟩) | exact Or.inr (Or.inr ⟨by decide, by show y65.toInt ≤ (G 18 8).toInt; omega⟩)⟩), (by have h7 := lv.1; exact Or.inr ⟨by decide, by omega⟩)⟩) rfl rfl dX5_run_315
          · refine g_iconst F 1 dX5_run_310 (by decide) ?_
            refine g_goto F 315 dX5_run_311 (by decide) ?_
            exact u_iret F hA hQ hr (gu_up Gj121 6 15 y65) (⟨(gu_I.up (j := 6) (k := 15) (v := y65) jI121 (ti_rng _).1 (ti_rng _).2), (gu_un.up (j := 6) (k := 15) (v := y65) (gu_un.tr gu_un.rf (gu_un.su jU121 rfl)) (show (616 : Nat) ∈ ([608, 613, 614, 615, 616, 617, 618, 619, 620, 2100, 2400, 2700, 4400, 4500, 4600, 4700, 4800] : List Nat) by decide)), (by decide), (by show (1 = -4 ∨ (0 ≤ 1 ∧ 1 ≤ 2)); (first | omega | (simp only [Int32.reduceToInt, true_and, and_true, ne_eq, not_true_eq_false, false_and, or_false, false_or, true_or, or_true, false_implies] <;> omega))), (fun h9 => by obtain ⟨n9, a1, a2, a3⟩ := r1; have tm := Int.mul_le_mul_of_nonneg_right (show x121_10.toInt ≤ (G 6 4).toInt by omega) (show (0 : Int) ≤ (G 18 0).toInt by omega); have hf := xRl.fin (m := ((G 6 4).toInt * (G 18 0).toInt).toNat) (a3 h9.1).1 (a3 h9.1).2 (by omega) (by by_cases e : x121_8.toInt = 0 <;> first | exact Or.inl e | (right; have a4 := a2 e; rw [show x121_10.toInt = (G 6 4).toInt by omega] at a4; omega)); exact ⟨_, _, lv.1, lv.2, hf.1.sh (by first | (rw [if_pos (by decide)]; omega) | (rw [if_neg (by decide)]; omega)), hf.2, by have g1 := q58 ⟨rfl, by omega, by omega⟩; have g2 := q63 ⟨by omega, by omega, by omega⟩; have g3 : psMn (fun q => (Gj121 45) ((0 : Int).toNat + q)) ((G 18 0).toInt - 1).toNat = psMn (Gj121 45) ((G 18 0).toInt - 1).toNat := psMn_eq (fun i _ => by rw [show (0 : Int).toNat + i = i by omega]); show y65.toInt = psMx (Gj121 45) _ - psMn (Gj121 45) _; omega, by first | exact Or.inl (by decide) | exact Or.inr (Or.inl ⟨by decide, by show (G 18 8).toInt < y65.toInt; omega⟩) | exact Or.inr (Or.inr ⟨by decide, by show y65.toInt ≤ (G 18 8).toInt; omega⟩)⟩), (by have h7 := lv.1; exact Or.inr ⟨by decide, by omega⟩)⟩) rfl rfl dX5_run_315
        · refine g_iconst F 2 dX5_run_291 (by decide) ?_
          exact u_iret F hA hQ hr (gu_up Gj121 6 15 y65) (⟨(gu_I.up (j := 6) (k := 15) (v := y65) jI121 (ti_rng _).1 (ti_rng _).2), (gu_un.up (j := 6) (k := 15) (v := y65) (gu_un.tr gu_un.rf (gu_un.su jU121 rfl)) (show (616 : Nat) ∈ ([608, 613, 614, 615, 616, 617, 618, 619, 620, 2100, 2400, 2700, 4400, 4500, 4600, 4700, 4800] : List Nat) by decide)), (by decide), (by show (2 = -4 ∨ (0 ≤ 2 ∧ 2 ≤ 2)); (first | omega | (simp only [Int32.reduceToInt, true_and, and_true, ne_eq, not_true_eq_false, false_and, or_false, false_or, true_or, or_true, false_implies] <;> omega))), (fun h9 => by obtain ⟨n9, a1, a2, a3⟩ := r1; have tm := Int.mul_le_mul_of_nonneg_right (show x121_10.toInt ≤ (G 6 4).toInt by omega) (show (0 : Int) ≤ (G 18 0).toInt by omega); have hf := xRl.fin (m := ((G 6 4).toInt * (G 18 0).toInt).toNat) (a3 h9.1).1 (a3 h9.1).2 (by omega) (by by_cases e : x121_8.toInt = 0 <;> first | exact Or.inl e | (right; have a4 := a2 e; rw [show x121_10.toInt = (G 6 4).toInt by omega] at a4; omega)); exact ⟨_, _, lv.1, lv.2, hf.1.sh (by first | (rw [if_pos (by decide)]; omega) | (rw [if_neg (by decide)]; omega)), hf.2, by have g1 := q58 ⟨rfl, by omega, by omega⟩; have g2 := q63 ⟨by omega, by omega, by omega⟩; have g3 : psMn (fun q => (Gj121 45) ((0 : Int).toNat + q)) ((G 18 0).toInt - 1).toNat = psMn (Gj121 45) ((G 18 0).toInt - 1).toNat := psMn_eq (fun i _ => by rw [show (0 : Int).toNat + i = i by omega]); show y65.toInt = psMx (Gj121 45) _ - psMn (Gj121 45) _; omega, by first | exact Or.inl (by decide) | exact Or.inr (Or.inl ⟨by decide, by show (G 18 8).toInt < y65.toInt; omega⟩) | exact Or.inr (Or.inr ⟨by decide, by show y65.toInt ≤ (G 18 8).toInt; omega⟩)⟩), (by have h7 := lv.1; exact Or.inr ⟨by decide, by omega⟩)⟩) rfl rfl dX5_run_292
      · refine g_iload F 6 dX5_run_130 rfl ?_
        refine v_if_ne F 261 dX5_run_132 (by decide) x121_8.toInt rfl (fun c68 => ?_) (fun c68 => ?_)
        · refine g_aload_n F 0 dX5_run_261 rfl rfl ?_
          refine g_aload_n F 0 dX5_run_262 rfl rfl ?_
          refine xg_6_8 F i_X5 w_3 dX5_run_263 ?_
          refine g_iconst F 0 dX5_run_266 (by decide) ?_
          refine g_iload F 3 dX5_run_267 rfl ?_
          refine u_callSi (k := 0) (n := 0) (As := [.ref (a 45), .int 0, .int (G 18 0)]) (st := [.ref (a 6)]) F (fun sz => S_X5_greatest_45 l D K a Gj121 0 0 (G 18 0) (G 18 0).toInt rfl (by decide) rfl (by omega) jI121 sz) (va_cwS 3 hts gX5_run_X5_greatest rfl rfl rfl (by decide +kernel) ⟨Nat.le_of_ble_eq_true rfl, Nat.le_of_ble_eq_true rfl⟩) rfl (Nat.le_of_ble_eq_true rfl) ⟨Nat.zero_le _, Nat.zero_le _⟩ dX5_run_269 (fun r69 _ hw70 => ?_)
          have q72 : ((0 : Int) = 0 ∧ 1 ≤ (G 18 0).toInt ∧ (G 18 0).toInt ≤ 16 → r69.toInt = psMx (Gj121 45) ((G 18 0).toInt - 1).toNat) := hw70.2
          have rg73 := hw70.1
          clear hw70
          refine g_aload_n F 0 dX5_run_272 rfl rfl ?_
          refine xg_6_8 F i_X5 w_3 dX5_run_273 ?_
          refine g_iconst F 0 dX5_run_276 (by decide) ?_
          refine g_iload F 3 dX5_run_277 rfl ?_
          refine u_callSi (k := 0) (n := 0) (As := [.ref (a 45), .int 0, .int (G 18 0)]) (st := [.int r69, .ref (a 6)]) F (fun sz => S_X5_least_45 l D K a Gj121 0 0 (G 18 0) (G 18 0).toInt rfl (by decide) rfl (by omega) jI121 sz) (va_cwS 3 hts gX5_run_X5_least rfl rfl rfl (by decide +kernel) ⟨Nat.le_of_ble_eq_true rfl, Nat.le_of_ble_eq_true rfl⟩) rfl (Nat.le_of_ble_eq_true rfl) ⟨Nat.zero_le _, Nat.zero_le _⟩ dX5_run_279 (fun r74 _ hw75 => ?_)
          have q77 : (0 ≤ (0 : Int) ∧ 1 ≤ (G 18 0).toInt ∧ (0 : Int) + (G 18 0).toInt ≤ 16 → r74.toInt = psMn (fun q => (Gj121 45) ((0 : Int).toNat + q)) ((G 18 0).toInt - 1).toNat) := hw75.2
          have rg78 := hw75.1
          clear hw75
          refine u_isub F dX5_run_282 r69.toInt r74.toInt rfl rfl (by omega) (by omega) (fun y79 ey79 => ?_)
          refine xp_6_15 F i_X5 w_6 dX5_run_283 ?_
          refine g_iload F 6 dX5_run_286 rfl ?_
          refine v_if_eq F 293 dX5_run_288 (by decide) x121_8.toInt rfl (fun c80 => absurd c80 (by omega)) (fun c80 => ?_)
          refine g_iconst F 2 dX5_run_291 (by decide) ?_
          exact u_iret F hA hQ hr (gu_up Gj121 6 15 y79) (⟨(gu_I.up (j := 6) (k := 15) (v := y79) jI121 (ti_rng _).1 (ti_rng _).2), (gu_un.up (j := 6) (k := 15) (v := y79) (gu_un.tr gu_un.rf (gu_un.su jU121 rfl)) (show (616 : Nat) ∈ ([608, 613, 614, 615, 616, 617, 618, 619, 620, 2100, 2400, 2700, 4400, 4500, 4600, 4700, 4800] : List Nat) by decide)), (by decide), (by show (2 = -4 ∨ (0 ≤ 2 ∧ 2 ≤ 2)); (first | omega | (simp only [Int32.reduceToInt, true_and, and_true, ne_eq, not_true_eq_false, false_and, or_false, false_or, true_or, or_true, false_implies] <;> omega))), (fun h9 => by obtain ⟨n9, a1, a2, a3⟩ := r1; have tm := Int.mul_le_mul_of_nonneg_right (show x121_10.toInt ≤ (G 6 4).toInt by omega) (show (0 : Int) ≤ (G 18 0).toInt by omega); have hf := xRl.fin (m := ((G 6 4).toInt * (G 18 0).toInt).toNat) (a3 h9.1).1 (a3 h9.1).2 (by omega) (by by_cases e : x121_8.toInt = 0 <;> first | exact Or.inl e | (right; have a4 := a2 e; rw [show x121_10.toInt = (G 6 4).toInt by omega] at a4; omega)); exact ⟨_, _, lv.1, lv.2, hf.1.sh (by first | (rw [if_pos (by decide)]; omega) | (rw [if_neg (by decide)]; omega)), hf.2, by have g1 := q72 ⟨rfl, by omega, by omega⟩; have g2 := q77 ⟨by omega, by omega, by omega⟩; have g3 : psMn (fun q => (Gj121 45) ((0 : Int).toNat + q)) ((G 18 0).toInt - 1).toNat = psMn (Gj121 45) ((G 18 0).toInt - 1).toNat := psMn_eq (fun i _ => by rw [show (0 : Int).toNat + i = i by omega]); show y79.toInt = psMx (Gj121 45) _ - psMn (Gj121 45) _; omega, by first | exact Or.inl (by decide) | exact Or.inr (Or.inl ⟨by decide, by show (G 18 8).toInt < y79.toInt; omega⟩) | exact Or.inr (Or.inr ⟨by decide, by show y79.toInt ≤ (G 18 8).toInt; omega⟩)⟩), (by have h7 := lv.1; exact Or.inr ⟨by decide, by omega⟩)⟩) rfl rfl dX5_run_292
        · refine g_aload_n F 0 dX5_run_135 rfl rfl ?_
          refine g_dup F dX5_run_136 rfl ?_
          refine xg_6_19 F i_X5 w_8 dX5_run_137 (Gj121 6 19) (rfl) ?_
          refine g_iconst F 1 dX5_run_140 (by decide) ?_
          refine u_iaddc F dX5_run_141 (Gj121 6 19).toInt 1 rfl rfl (fun y81 ey81 => ?_)
          refine xp_6_19 F i_X5 w_8 dX5_run_142 ?_
          refine g_iconst F 0 dX5_run_145 (by decide) ?_
          refine g_istore F [(11, .int 0), (0, .ref (a 6)), (3, .int p2), (4, .int p3), (5, .int (G 18 0)), (6, .int x121_6), (7, .int x121_7), (8, .int x121_8), (9, .int x121_9), (10, .int x121_10)] dX5_run_146 (by decide) rfl ?_
          refine g_locals [(0, .ref (a 6)), (3, .int p2), (4, .int p3), (5, .int (G 18 0)), (6, .int x121_6), (7, .int x121_7), (8, .int x121_8), (9, .int x121_9), (10, .int x121_10), (11, .int 0)] [1, 2, 3, 4, 5, 6, 7, 8, 9, 0] rfl ?_
          exact J_148 _ x121_8 x121_9 0 (gu_up Gj121 6 19 y81) (Nat.lt_succ_self _) (by have h9 := ti_rng x121_8; omega) (by have h9 := ti_rng x121_9; omega) (by have h9 := ti_rng x121_10; omega) (by decide) (gu_I.up (j := 6) (k := 19) (v := y81) jI121 (ti_rng _).1 (ti_rng _).2) (gu_un.up (j := 6) (k := 19) (v := y81) gu_un.rf (show (620 : Nat) ∈ ([613, 614, 615, 617, 618, 619, 620, 2100, 2400, 2700, 4500, 4600, 4700, 4800] : List Nat) by decide)) (fun hz => by obtain ⟨n9, a1, a2, a3⟩ := r1; rw [show (x121_10.toInt * (G 18 0).toInt + Int32.toInt 0).toNat = n9 by (rw [show Int32.toInt 0 = 0 from rfl]; have a4 := a2 (by omega); omega)]; exact ⟨(a3 hz).1, fun h9 => absurd h9 (by decide)⟩) (by obtain ⟨n9, a1, a2, a3⟩ := r1; have a4 := a2 (by omega); rw [show Int32.toInt 0 = 0 from rfl, Int.add_zero, ← a4.1]; exact a4.2) (xMt.tr mt_121 (show (gu_up Gj121 6 19 y81) 6 7 = Gj121 6 7 from (show gu_un xcd [620] Gj121 (gu_up Gj121 6 19 y81) from (gu_un.up (j := 6) (k := 19) (v := y81) gu_un.rf (show (620 : Nat) ∈ ([620] : List Nat) by decide))) 6 7 (by decide)) (show (gu_up Gj121 6 19 y81) 44 = Gj121 44 from funext fun k_ => (show gu_un xcd [620] Gj121 (gu_up Gj121 6 19 y81) from (gu_un.up (j := 6) (k := 19) (v := y81) gu_un.rf (show (620 : Nat) ∈ ([620] : List Nat) by decide))) 44 k_ (by simp [xcd]))) (by have e9_6_13 : (gu_up Gj121 6 19 y81) 6 13 = (Gj121 6 13) := rfl; have e9_6_14 : (gu_up Gj121 6 19 y81) 6 14 = (Gj121 6 14) := rfl; (try simp only [e9_6_13, e9_6_14, true_and, and_true]) <;> (first | omega | (simp only [Int32.reduceToInt, true_and, and_true, ne_eq, not_true_eq_false, false_and, or_false, false_or, true_or, or_true, false_implies] <;> omega))) (by have e9_6_19 : (gu_up Gj121 6 19 y81) 6 19 = y81 := rfl; (try simp only [e9_6_19, true_and, and_true]) <;> (first | omega | (simp only [Int32.reduceToInt, true_and, and_true, ne_eq, not_true_eq_false, false_and, or_false, false_or, true_or, or_true, false_implies] <;> omega))) (by have e9_6_4 : (gu_up Gj121 6 19 y81) 6 4 = (G 6 4) := jU121 6 4 (by decide); (try simp only [e9_6_4, true_and, and_true]) <;> (first | omega | (simp only [Int32.reduceToInt, true_and, and_true, ne_eq, not_true_eq_false, false_and, or_false, false_or, true_or, or_true, false_implies] <;> omega))) (by (first | omega | (simp only [Int32.reduceToInt, true_and, and_true, ne_eq, not_true_eq_false, false_and, or_false, false_or, true_or, or_true, false_implies] <;> omega))) (by have e9_18_0 : (gu_up Gj121 6 19 y81) 18 0 = (G 18 0) := jU121 18 0 (by decide); (try simp only [e9_18_0, true_and, and_true]) <;> (first | omega | (simp only [Int32.reduceToInt, true_and, and_true, ne_eq, not_true_eq_false, false_and, or_false, false_or, true_or, or_true, false_implies] <;> omega)))
  refine g_aload_n F 0 dX5_run_0 rfl rfl ?_
  refine xg_6_0 F i_X5 w_1 dX5_run_1 ?_
  refine xg_2_0 F i_X7 w_7 dX5_run_4 ?_
  refine g_iconst F 0 dX5_run_7 (by decide) ?_
  refine u1_iald F 18 0 xc_18 rfl 0 rfl (by decide) (by decide) dX5_run_8 (G 18 0) (rfl) ?_
  refine g_istore F [(5, .int (G 18 0)), (0, .ref (a 6)), (1, .ref (a 63)), (2, .int p1), (3, .int p2), (4, .int p3)] dX5_run_9 (by decide) rfl ?_
  refine g_aload_n F 1 dX5_run_11 rfl rfl ?_
  refine xg_6_0 F i_X5 w_1 dX5_run_12 ?_
  refine g_aload_n F 1 dX5_run_15 rfl rfl ?_
  refine xg_6_1 F i_X5 w_9 dX5_run_16 (G 6 1) (rfl) ?_
  refine u_callVi (k := 0) (n := 0) (b := a 2) (As := [.int (G 6 1)]) (st := []) F (fun sz => S_X7_hasRing_2 l D K a G (G 6 1) (G 6 1).toInt rfl hI sz) (cwV 1 hts gX5_run_X7_hasRing rfl rfl rfl (by decide +kernel) ⟨Nat.le_of_ble_eq_true rfl, Nat.le_of_ble_eq_true rfl⟩) rfl 2 xc_2 rfl (Nat.le_of_ble_eq_true rfl) ⟨Nat.zero_le _, Nat.zero_le _⟩ dX5_run_19 (fun r82 _ hw83 => ?_)
  rcases hw83 with ⟨rfl, q85⟩ | ⟨rfl, q86⟩
  · have q85 : (0 ≤ (G 6 1).toInt ∧ (G 6 1).toInt < (G 18 1).toInt) := q85
    refine v_if_eq F 45 dX5_run_22 (by decide) 1 rfl (fun c87 => absurd c87 (by decide)) (fun c87 => ?_)
    refine g_iload F 0 dX5_run_25 rfl ?_
    refine g_iconst F 1 dX5_run_27 (by decide) ?_
    refine v_icmp_lt F 45 dX5_run_28 (by decide) (G 18 0).toInt 1 rfl rfl (fun c88 => absurd c88 (by omega)) (fun c88 => ?_)
    refine g_iload F 0 dX5_run_31 rfl ?_
    refine g_bipush F 16 dX5_run_33 (by decide) ?_
    refine v_icmp_gt F 45 dX5_run_35 (by decide) (G 18 0).toInt 16 rfl rfl (fun c89 => absurd c89 (by omega)) (fun c89 => ?_)
    refine g_aload_n F 2 dX5_run_38 rfl rfl ?_
    refine g_alen F 63 0 xc_63 rfl 96 rfl dX5_run_39 ?_
    refine g_bipush F 96 dX5_run_40 (by decide) ?_
    refine v_icmp_ge F 48 dX5_run_42 (by decide) 96 96 rfl rfl (fun c90 => ?_) (fun c90 => absurd c90 (by decide))
    refine g_aload_n F 2 dX5_run_48 rfl rfl ?_
    refine g_aload_n F 1 dX5_run_49 rfl rfl ?_
    refine xg_6_1 F i_X5 w_9 dX5_run_50 (G 6 1) (rfl) ?_
    refine g_iconst F 0 dX5_run_53 (by decide) ?_
    refine u_call0 (k := 0) (n := 0) (As := [.int (G 6 1), .int 0]) (st := [.ref (a 63)]) F (fun sz => S_X6_placeOf_b5_b15 l D (G 6 1) (G 6 1).toInt 0 0 rfl (by omega) rfl (by decide) sz) (va_cwS 2 hts gX5_run_X6_placeOf rfl rfl rfl (by decide +kernel) ⟨Nat.le_of_ble_eq_true rfl, Nat.le_of_ble_eq_true rfl⟩) rfl (Nat.le_of_ble_eq_true rfl) ⟨Nat.zero_le _, Nat.zero_le _⟩ dX5_run_54 (fun r91 _ hw92 => ?_)
    have rg94 := hw92.1
    have rg95 := hw92.2
    clear hw92
    refine g_aload_n F 1 dX5_run_57 rfl rfl ?_
    refine xg_6_8 F i_X5 w_3 dX5_run_58 ?_
    refine g_iconst F 0 dX5_run_61 (by decide) ?_
    refine g_iload F 0 dX5_run_62 rfl ?_
    refine u_copyi F w_10 w_11 w_12 w_13 63 45 0 xc_63 xc_45 rfl r91.toInt 0 (G 18 0).toInt rfl rfl rfl (by omega) (by decide) (by omega) (by omega) (by omega) (Nat.le_of_ble_eq_true rfl) (Nat.le_of_ble_eq_true rfl) (xW K a (gu_st G 45 (va_cpy (G 63) (G 45) (r91.toInt).toNat 0 ((G 18 0).toInt).toNat))) (xs_45 _) dX5_run_64 ?_
    refine g_aload_n F 1 dX5_run_67 rfl rfl ?_
    refine xg_6_8 F i_X5 w_3 dX5_run_68 ?_
    refine g_iconst F 0 dX5_run_71 (by decide) ?_
    refine g_iload F 0 dX5_run_72 rfl ?_
    refine u_callSi (k := 0) (n := 0) (As := [.ref (a 45), .int 0, .int (G 18 0)]) (st := []) F (fun sz => S_X5_greatest_45 l D K a (gu_st G 45 (va_cpy (G 63) (G 45) (r91.toInt).toNat 0 ((G 18 0).toInt).toNat)) 0 0 (G 18 0) (G 18 0).toInt rfl (by decide) rfl (by omega) (gu_I.cpy (j := 45) (f := G 63) (sp := (r91.toInt).toNat) (dp := 0) hI (fun k_ => (show ((-9998) : Int) ≤ (G 63 ((r91.toInt).toNat + k_)).toInt ∧ (G 63 ((r91.toInt).toNat + k_)).toInt ≤ 5000 from ⟨Int.le_trans (show ((-9998) : Int) ≤ (-9998) by decide) (hI 63 _).1, Int.le_trans (hI 63 _).2 (show (5000 : Int) ≤ 5000 by decide)⟩))) sz) (va_cwS 3 hts gX5_run_X5_greatest rfl rfl rfl (by decide +kernel) ⟨Nat.le_of_ble_eq_true rfl, Nat.le_of_ble_eq_true rfl⟩) rfl (Nat.le_of_ble_eq_true rfl) ⟨Nat.zero_le _, Nat.zero_le _⟩ dX5_run_74 (fun r96 _ hw97 => ?_)
    have q99 : ((0 : Int) = 0 ∧ 1 ≤ (G 18 0).toInt ∧ (G 18 0).toInt ≤ 16 → r96.toInt = psMx ((gu_st G 45 (va_cpy (G 63) (G 45) (r91.toInt).toNat 0 ((G 18 0).toInt).toNat)) 45) ((G 18 0).toInt - 1).toNat) := hw97.2
    have rg100 := hw97.1
    clear hw97
    refine g_istore F [(6, .int r96), (5, .int (G 18 0)), (0, .ref (a 6)), (1, .ref (a 63)), (2, .int p1), (3, .int p2), (4, .int p3)] dX5_run_77 (by decide) rfl ?_
    refine g_iload F 0 dX5_run_79 rfl ?_
    refine g_aload_n F 2 dX5_run_81 rfl rfl ?_
    refine xg_6_3 F i_X5 w_0 dX5_run_82 (G 6 3) (rfl) ?_
    refine g_aload_n F 2 dX5_run_85 rfl rfl ?_
    refine xg_6_4 F i_X5 w_5 dX5_run_86 (G 6 4) (rfl) ?_
    refine g_imul F dX5_run_89 ?_
    have mp0 := Int.mul_nonneg (show (0 : Int) ≤ (G 6 3).toInt by omega) (show (0 : Int) ≤ (G 6 4).toInt by omega)
    have mp1 : (G 6 3).toInt * (G 6 4).toInt ≤ 20 * 12 := Int.mul_le_mul (by omega) (by omega) (by omega) (by omega)
    have mp : (((G 6 3) * (G 6 4)) : Int32).toInt = (G 6 3).toInt * (G 6 4).toInt := ti_mul rfl rfl (by omega) (by omega)
    refine u_isub F dX5_run_90 r96.toInt (((G 6 3) * (G 6 4)) : Int32).toInt rfl rfl (by omega) (by omega) (fun y101 ey101 => ?_)
    refine g_iconst F 1 dX5_run_91 (by decide) ?_
    refine v_icmp_ge F 98 dX5_run_92 (by decide) y101.toInt 1 rfl rfl (fun c102 => ?_) (fun c102 => ?_)
    · refine g_aload_n F 2 dX5_run_98 rfl rfl ?_
      refine g_aload_n F 3 dX5_run_99 rfl rfl ?_
      refine g_iload F 0 dX5_run_100 rfl ?_
      refine u_callVi (k := 0) (n := 0) (b := a 6) (As := [.ref (a 63), .int r96]) (st := []) F (fun sz => S_X5_gapIn_63 l D K a (gu_st G 45 (va_cpy (G 63) (G 45) (r91.toInt).toNat 0 ((G 18 0).toInt).toNat)) r96 r96.toInt rfl (by omega) (by have e9_6_1 : (gu_st G 45 (va_cpy (G 63) (G 45) (r91.toInt).toNat 0 ((G 18 0).toInt).toNat)) 6 1 = (G 6 1) := rfl; (try simp only [e9_6_1, true_and, and_true]) <;> (first | omega | (simp only [Int32.reduceToInt, true_and, and_true, ne_eq, not_true_eq_false, false_and, or_false, false_or, true_or, or_true, false_implies] <;> omega))) (by have e9_6_1 : (gu_st G 45 (va_cpy (G 63) (G 45) (r91.toInt).toNat 0 ((G 18 0).toInt).toNat)) 6 1 = (G 6 1) := rfl; have e9_18_1 : (gu_st G 45 (va_cpy (G 63) (G 45) (r91.toInt).toNat 0 ((G 18 0).toInt).toNat)) 18 1 = (G 18 1) := rfl; (try simp only [e9_6_1, e9_18_1, true_and, and_true]) <;> (first | omega | (simp only [Int32.reduceToInt, true_and, and_true, ne_eq, not_true_eq_false, false_and, or_false, false_or, true_or, or_true, false_implies] <;> omega))) (gu_I.cpy (j := 45) (f := G 63) (sp := (r91.toInt).toNat) (dp := 0) hI (fun k_ => (show ((-9998) : Int) ≤ (G 63 ((r91.toInt).toNat + k_)).toInt ∧ (G 63 ((r91.toInt).toNat + k_)).toInt ≤ 5000 from ⟨Int.le_trans (show ((-9998) : Int) ≤ (-9998) by decide) (hI 63 _).1, Int.le_trans (hI 63 _).2 (show (5000 : Int) ≤ 5000 by decide)⟩))) sz) (cwV 2 hts gX5_run_X5_gapIn rfl rfl rfl (by decide +kernel) ⟨Nat.le_of_ble_eq_true rfl, Nat.le_of_ble_eq_true rfl⟩) rfl 6 xc_6 rfl (Nat.le_of_ble_eq_true rfl) ⟨Nat.zero_le _, Nat.zero_le _⟩ dX5_run_102 (fun r103 _ hw104 => ?_)
      have q106 : (r103.toInt = psGa (G 63) (G 6 1).toInt (G 18 1).toInt (G 18 0).toInt r96.toInt) := hw104.2
      have rg107 := hw104.1
      clear hw104
      refine g_istore F [(7, .int r103), (6, .int r96), (5, .int (G 18 0)), (0, .ref (a 6)), (1, .ref (a 63)), (2, .int p1), (3, .int p2), (4, .int p3)] dX5_run_105 (by decide) rfl ?_
      refine g_aload_n F 3 dX5_run_107 rfl rfl ?_
      refine g_iload_n F 5 dX5_run_108 rfl rfl ?_
      refine u_callVv (k := 0) (n := 0) (b := a 6) (As := [.int p1]) (st := []) F (fun sz => S_X5_begin l D K a (gu_st G 45 (va_cpy (G 63) (G 45) (r91.toInt).toNat 0 ((G 18 0).toInt).toNat)) p1 s1 e1 (by omega) (gu_I.cpy (j := 45) (f := G 63) (sp := (r91.toInt).toNat) (dp := 0) hI (fun k_ => (show ((-9998) : Int) ≤ (G 63 ((r91.toInt).toNat + k_)).toInt ∧ (G 63 ((r91.toInt).toNat + k_)).toInt ≤ 5000 from ⟨Int.le_trans (show ((-9998) : Int) ≤ (-9998) by decide) (hI 63 _).1, Int.le_trans (hI 63 _).2 (show (5000 : Int) ≤ 5000 by decide)⟩))) sz) (cwV 1 hts gX5_run_X5_begin rfl rfl rfl (by decide +kernel) ⟨Nat.le_of_ble_eq_true rfl, Nat.le_of_ble_eq_true rfl⟩) rfl 6 xc_6 rfl (Nat.le_of_ble_eq_true rfl) ⟨Nat.zero_le _, Nat.zero_le _⟩ dX5_run_109 (fun G110 hw109 => ?_)
      have hI111 : xI G110 := hw109.1
      have hU112 : gu_un xcd [608, 613, 614, 615, 617, 618, 619, 620, 4400, 4600] (gu_st G 45 (va_cpy (G 63) (G 45) (r91.toInt).toNat 0 ((G 18 0).toInt).toNat)) G110 := hw109.2.1
      have hp113 := hw109.2.2
      have q114 : xMt (gu_st G 45 (va_cpy (G 63) (G 45) (r91.toInt).toNat 0 ((G 18 0).toInt).toNat)) G110 := hp113.1
      have q115 : (∀ q : Nat, q < 16 → G110 46 q = -1) := hp113.2.1
      have q116 : (G110 6 12 = p1 ∧ G110 6 13 = 0 ∧ G110 6 14 = 0 ∧ G110 6 16 = 0 ∧ G110 6 17 = 0 ∧ G110 6 18 = 0 ∧ G110 6 19 = 0) := hp113.2.2
      have bz13 : (G110 6 13).toInt = 0 := by rw [q116.2.1]; rfl
      have bz14 : (G110 6 14).toInt = 0 := by rw [q116.2.2.1]; rfl
      have bz19 : (G110 6 19).toInt = 0 := by rw [q116.2.2.2.2.2.2]; rfl
      clear hp113 hw109
      refine g_iconst F 0 dX5_run_112 (by decide) ?_
      refine g_istore F [(8, .int 0), (7, .int r103), (6, .int r96), (5, .int (G 18 0)), (0, .ref (a 6)), (1, .ref (a 63)), (2, .int p1), (3, .int p2), (4, .int p3)] dX5_run_113 (by decide) rfl ?_
      refine g_iconst F 0 dX5_run_115 (by decide) ?_
      refine g_istore F [(9, .int 0), (8, .int 0), (7, .int r103), (6, .int r96), (5, .int (G 18 0)), (0, .ref (a 6)), (1, .ref (a 63)), (2, .int p1), (3, .int p2), (4, .int p3)] dX5_run_116 (by decide) rfl ?_
      refine g_iconst F 0 dX5_run_118 (by decide) ?_
      refine g_istore F [(10, .int 0), (9, .int 0), (8, .int 0), (7, .int r103), (6, .int r96), (5, .int (G 18 0)), (0, .ref (a 6)), (1, .ref (a 63)), (2, .int p1), (3, .int p2), (4, .int p3)] dX5_run_119 (by decide) rfl ?_
      refine g_locals [(0, .ref (a 6)), (3, .int p2), (4, .int p3), (5, .int (G 18 0)), (6, .int r96), (7, .int r103), (8, .int 0), (9, .int 0), (10, .int 0)] [6, 9, 10, 5, 4, 3, 2, 1, 0] rfl ?_
      exact J_121 _ r96 r103 0 0 0 G110 (Nat.lt_succ_self _) (by have h9 := ti_rng r96; omega) (by have h9 := ti_rng r103; omega) (by decide) (by decide) (by decide) hI111 (gu_un.tr (gu_un.sw (j := 45) (f := (va_cpy (G 63) (G 45) (r91.toInt).toNat 0 ((G 18 0).toInt).toNat)) gu_un.rf (fun _ => show (4500 : Nat) ∈ ([608, 613, 614, 615, 617, 618, 619, 620, 2100, 2400, 2700, 4400, 4500, 4600, 4700, 4800] : List Nat) by decide)) (gu_un.su hU112 rfl)) (⟨0, by rw [show Int32.toInt 0 = 0 from rfl, Int.zero_mul]; exact Int.le_refl 0, fun _ => ⟨by rw [show Int32.toInt 0 = 0 from rfl, Int.zero_mul]; rfl, by show (0 : Int) = 0 % _; rw [Int.zero_emod]⟩, fun hz => ⟨(xRl.at0 (fun q hq => by rw [(show G110 45 = (va_cpy (G 63) (G 45) (r91.toInt).toNat 0 ((G 18 0).toInt).toNat) from ((show G110 45 = (gu_st G 45 (va_cpy (G 63) (G 45) (r91.toInt).toNat 0 ((G 18 0).toInt).toNat)) 45 from funext fun k_ => hU112 45 k_ (by simp [xcd])).trans (show (gu_st G 45 (va_cpy (G 63) (G 45) (r91.toInt).toNat 0 ((G 18 0).toInt).toNat)) 45 = (va_cpy (G 63) (G 45) (r91.toInt).toNat 0 ((G 18 0).toInt).toNat) from rfl)))]; unfold va_cpy; rw [if_pos (by omega)]; congr 1; omega) q115 (by omega) q116).sh rfl, fun Q C _ h9 => absurd rfl h9⟩⟩) (⟨by rw [q99 ⟨rfl, by omega, by omega⟩]; exact psMx_eq (h := (gu_st G 45 (va_cpy (G 63) (G 45) (r91.toInt).toNat 0 ((G 18 0).toInt).toNat)) 45) (g := psHr (G 63) (G 6 1).toInt (G 18 0).toInt) (n := ((G 18 0).toInt - 1).toNat) (fun q hq => by show va_cpy _ _ _ _ _ q = psHr _ _ _ q; unfold va_cpy psHr; rw [if_pos (by omega), if_pos (by omega)]; congr 1; omega), q106⟩) (xMt.tr q114 (show G110 6 7 = G110 6 7 from (show gu_un xcd [] G110 G110 from gu_un.rf) 6 7 (by decide)) (show G110 44 = G110 44 from funext fun k_ => (show gu_un xcd [] G110 G110 from gu_un.rf) 44 k_ (by simp [xcd]))) (by (first | omega | (simp only [Int32.reduceToInt, true_and, and_true, ne_eq, not_true_eq_false, false_and, or_false, false_or, true_or, or_true, false_implies] <;> omega))) (by (first | omega | (simp only [Int32.reduceToInt, true_and, and_true, ne_eq, not_true_eq_false, false_and, or_false, false_or, true_or, or_true, false_implies] <;> omega))) (by have e9_6_4 : G110 6 4 = (G 6 4) := hU112 6 4 (by decide); (try simp only [e9_6_4, true_and, and_true]) <;> (first | omega | (simp only [Int32.reduceToInt, true_and, and_true, ne_eq, not_true_eq_false, false_and, or_false, false_or, true_or, or_true, false_implies] <;> omega))) (by omega)
    · refine g_bipush F (-4) dX5_run_95 (by decide) ?_
      exact u_iret F hA hQ hr (gu_st G 45 (va_cpy (G 63) (G 45) (r91.toInt).toNat 0 ((G 18 0).toInt).toNat)) (⟨(gu_I.cpy (j := 45) (f := G 63) (sp := (r91.toInt).toNat) (dp := 0) hI (fun k_ => (show ((-9998) : Int) ≤ (G 63 ((r91.toInt).toNat + k_)).toInt ∧ (G 63 ((r91.toInt).toNat + k_)).toInt ≤ 5000 from ⟨Int.le_trans (show ((-9998) : Int) ≤ (-9998) by decide) (hI 63 _).1, Int.le_trans (hI 63 _).2 (show (5000 : Int) ≤ 5000 by decide)⟩))), (gu_un.sw (j := 45) (f := (va_cpy (G 63) (G 45) (r91.toInt).toNat 0 ((G 18 0).toInt).toNat)) gu_un.rf (fun _ => show (4500 : Nat) ∈ ([608, 613, 614, 615, 616, 617, 618, 619, 620, 2100, 2400, 2700, 4400, 4500, 4600, 4700, 4800] : List Nat) by decide)), (by decide), (by show ((-4) = -4 ∨ (0 ≤ (-4) ∧ (-4) ≤ 2)); (first | omega | (simp only [Int32.reduceToInt, true_and, and_true, ne_eq, not_true_eq_false, false_and, or_false, false_or, true_or, or_true, false_implies] <;> omega))), (fun h9 => absurd rfl h9.2), (by have h7 := q99 ⟨rfl, by omega, by omega⟩; have h6 := psMx_eq (h := (gu_st G 45 (va_cpy (G 63) (G 45) (r91.toInt).toNat 0 ((G 18 0).toInt).toNat)) 45) (g := psHr (G 63) (G 6 1).toInt (G 18 0).toInt) (n := ((G 18 0).toInt - 1).toNat) (fun q hq => by show va_cpy _ _ _ _ _ q = psHr _ _ _ q; unfold va_cpy psHr; rw [if_pos (by omega), if_pos (by omega)]; congr 1; omega); rw [h6] at h7; exact Or.inl ⟨by decide, by omega⟩)⟩) rfl rfl dX5_run_97
  · have q86 : ((G 6 1).toInt < 0 ∨ (G 18 1).toInt ≤ (G 6 1).toInt) := q86
    refine v_if_eq F 45 dX5_run_22 (by decide) 0 rfl (fun c117 => ?_) (fun c117 => absurd c117 (by decide))
    refine g_bipush F (-4) dX5_run_45 (by decide) ?_
    exact u_iret F hA hQ hr G (⟨hI, gu_un.rf, (by decide), (by show ((-4) = -4 ∨ (0 ≤ (-4) ∧ (-4) ≤ 2)); (first | omega | (simp only [Int32.reduceToInt, true_and, and_true, ne_eq, not_true_eq_false, false_and, or_false, false_or, true_or, or_true, false_implies] <;> omega))), (fun h9 => absurd rfl h9.2), (by exfalso; omega)⟩) rfl rfl dX5_run_47


set_option maxHeartbeats 4000000 in
set_option maxRecDepth 100000 in
theorem S_X5_storeHeights_64 (l : Launch) (D : va_G) (K : Nat → ClassId) (a : Nat → Nat) (G : gS) (hrg : (0 ≤ (G 6 1).toInt ∧ (G 6 1).toInt ≤ 5)) (hI : xI G) (sz : Nat) : Kv l yX5_storeHeights wsX5_storeHeights 2 61 0 0 D [.ref (a 6), .ref (a 64)] (xW K a G) (tK K) sz (fun (G' : gS) => (xI G') ∧ (gu_un xcd [6400] G G') ∧ ((∀ q : Nat, G' 64 q = sHr (G 64) (G 45) (G 6 1).toInt (G 18 0).toInt q))) (fun (G' : gS) => (xW K a G')) (fun _ => (tK K)) := by
  unfold Kv
  refine g_ofW (cc := cX5_storeHeights) (lv := [(0, .ref (a 6)), (1, .ref (a 64))]) (by decide) rfl (Nat.le_of_ble_eq_true rfl) rfl ?_
  intro p e s m args below meth c A Q hA hQ F hr hnm
  have hts := F.2.2.2.2.1
  have w_0 : (Cond.fieldLink RX5 17 "QuietCut$Lathe" "heights" "[I").before args s = true := hts _ (List.mem_of_getElem? (i := 4) rfl)
  have i_X5 : ∀ w ∈ u_ws RX5 TX5 20, w ∈ wsX5_storeHeights := fun _ h => List.mem_cons_of_mem _ (List.mem_append_left _ (List.mem_append_right _ h))
  have w_1 : (Cond.fieldLink RX5 29 "QuietCut$Lathe" "shop" "LQuietCut$Shop;").before args s = true := hts _ (List.mem_of_getElem? (i := 1) rfl)
  have w_2 : (Cond.fieldLink RX5 56 "QuietCut$Shop" "numbers" "[I").before args s = true := hts _ (List.mem_of_getElem? (i := 2) rfl)
  have i_X7 : ∀ w ∈ u_ws RX7 TX7 4, w ∈ wsX5_storeHeights := fun _ h => List.mem_cons_of_mem _ (List.mem_append_right _ h)
  have w_3 : (Cond.fieldLink RX5 33 "QuietCut$Lathe" "ring" "I").before args s = true := hts _ (List.mem_of_getElem? (i := 3) rfl)
  have b1 : (4 : Int) ≤ (G 18 0).toInt ∧ (G 18 0).toInt ≤ 16 := hI 18 0
  have J_22 : ∀ (fuel : Nat) (x22_3 : Int32) (x22_4 : Int32) (Gj22 : gS), (2147483647 - x22_4.toInt).toNat < fuel → (0 ≤ x22_3.toInt ∧ x22_3.toInt ≤ 95) → (0 ≤ x22_4.toInt ∧ x22_4.toInt ≤ 16) → (xI Gj22) → (gu_un xcd [6400] G Gj22) → (∀ q : Nat, Gj22 64 q = sHr (G 64) (G 45) (G 6 1).toInt x22_4.toInt q) → ((x22_3.toInt = (G 6 1).toInt * 16)) → ((x22_4.toInt ≤ (G 18 0).toInt)) → gG p l e (gR 2 0 0 61) s m args below meth c D A 5 Q 0 0 (xW K a Gj22) (tK K) [(0, .ref (a 6)), (1, .ref (a 64)), (2, .int (G 18 0)), (3, .int x22_3), (4, .int x22_4)] 22 [] := by
    intro fuel
    induction fuel with
    | zero => intro x22_3 x22_4 Gj22 hm; exact absurd hm (Nat.not_lt_zero _)
    | succ fuel_22 ih_22 =>
      intro x22_3 x22_4 Gj22 hm_22 h22_3 h22_4 jI22 jU22 sh s3 il
      refine g_iload F 4 dX5_storeHeights_22 rfl ?_
      refine g_iload_n F 2 dX5_storeHeights_24 rfl rfl ?_
      refine v_icmp_ge F 67 dX5_storeHeights_25 (by decide) x22_4.toInt (G 18 0).toInt rfl rfl (fun c2 => ?_) (fun c2 => ?_)
      · exact u_vret F hA hQ hr Gj22 (⟨jI22, (gu_un.tr gu_un.rf (gu_un.su jU22 rfl)), (fun q => by have h9 := sh q; rw [show x22_4.toInt = (G 18 0).toInt by omega] at h9; exact h9)⟩) rfl rfl dX5_storeHeights_67
      · refine g_iload F 4 dX5_storeHeights_28 rfl ?_
        refine g_bipush F 16 dX5_storeHeights_30 (by decide) ?_
        refine v_icmp_ge F 67 dX5_storeHeights_32 (by decide) x22_4.toInt 16 rfl rfl (fun c3 => absurd c3 (by omega)) (fun c3 => ?_)
        refine g_iload_n F 3 dX5_storeHeights_35 rfl rfl ?_
        refine v_if_lt F 61 dX5_storeHeights_36 (by decide) x22_3.toInt rfl (fun c4 => absurd c4 (by omega)) (fun c4 => ?_)
        refine g_iload_n F 3 dX5_storeHeights_39 rfl rfl ?_
        refine g_iload F 4 dX5_storeHeights_40 rfl ?_
        refine u_iadd F dX5_storeHeights_42 x22_3.toInt x22_4.toInt rfl rfl (by omega) (by omega) (fun y5 ey5 => ?_)
        refine g_aload_n F 1 dX5_storeHeights_43 rfl rfl ?_
        refine g_alen F 64 0 xc_64 rfl 96 rfl dX5_storeHeights_44 ?_
        refine v_icmp_ge F 61 dX5_storeHeights_45 (by decide) y5.toInt 96 rfl rfl (fun c6 => ?_) (fun c6 => ?_)
        · refine u_iinc F (fun v_ => [(4, .int v_), (0, .ref (a 6)), (1, .ref (a 64)), (2, .int (G 18 0)), (3, .int x22_3)]) dX5_storeHeights_61 (j := 4) rfl x22_4.toInt 1 rfl rfl (by omega) (by omega) (by decide) (fun _ => rfl) (fun y7 ey7 => ?_)
          refine g_goto F 22 dX5_storeHeights_64 (by decide) ?_
          refine g_locals [(0, .ref (a 6)), (1, .ref (a 64)), (2, .int (G 18 0)), (3, .int x22_3), (4, .int y7)] [1, 2, 3, 4, 0] rfl ?_
          exact ih_22 x22_3 y7 Gj22 (by omega) (by have h9 := ti_rng x22_3; omega) (by have h9 := ti_rng y7; omega) jI22 (gu_un.tr gu_un.rf (gu_un.su jU22 rfl)) (by exfalso; omega) (by have e9_6_1 : Gj22 6 1 = (G 6 1) := jU22 6 1 (by decide); (try simp only [e9_6_1, true_and, and_true]) <;> (first | omega | (simp only [Int32.reduceToInt, true_and, and_true, ne_eq, not_true_eq_false, false_and, or_false, false_or, true_or, or_true, false_implies] <;> omega))) (by have e9_18_0 : Gj22 18 0 = (G 18 0) := jU22 18 0 (by decide); (try simp only [e9_18_0, true_and, and_true]) <;> (first | omega | (simp only [Int32.reduceToInt, true_and, and_true, ne_eq, not_true_eq_false, false_and, or_false, false_or, true_or, or_true, false_implies] <;> omega)))
        · refine g_aload_n F 1 dX5_storeHeights_48 rfl rfl ?_
          refine g_iload_n F 3 dX5_storeHeights_49 rfl rfl ?_
          refine g_iload F 4 dX5_storeHeights_50 rfl ?_
          refine u_iadd F dX5_storeHeights_52 x22_3.toInt x22_4.toInt rfl rfl (by omega) (by omega) (fun y8 ey8 => ?_)
          refine g_aload_n F 0 dX5_storeHeights_53 rfl rfl ?_
          refine xg_6_8 F i_X5 w_0 dX5_storeHeights_54 ?_
          refine g_iload F 4 dX5_storeHeights_57 rfl ?_
          refine u1_iald F 45 0 xc_45 rfl x22_4.toInt rfl (by omega) (by omega) dX5_storeHeights_59 ((G 45) (x22_4.toInt).toNat) (congrFun ((show Gj22 45 = G 45 from funext fun k_ => jU22 45 k_ (show (4500 : Nat) ∉ ([6400] : List Nat) by decide))) _) ?_
          have b9 : ((-9998) : Int) ≤ ((G 45) (x22_4.toInt).toNat).toInt ∧ ((G 45) (x22_4.toInt).toNat).toInt ≤ 5000 := hI 45 _
          refine u_iast F 64 0 xc_64 rfl y8.toInt rfl (by omega) (by omega) (xW K a (gu_up Gj22 64 (y8.toInt).toNat ((G 45) (x22_4.toInt).toNat))) (xs_64 _) dX5_storeHeights_60 ?_
          refine u_iinc F (fun v_ => [(4, .int v_), (0, .ref (a 6)), (1, .ref (a 64)), (2, .int (G 18 0)), (3, .int x22_3)]) dX5_storeHeights_61 (j := 4) rfl x22_4.toInt 1 rfl rfl (by omega) (by omega) (by decide) (fun _ => rfl) (fun y10 ey10 => ?_)
          refine g_goto F 22 dX5_storeHeights_64 (by decide) ?_
          refine g_locals [(0, .ref (a 6)), (1, .ref (a 64)), (2, .int (G 18 0)), (3, .int x22_3), (4, .int y10)] [1, 2, 3, 4, 0] rfl ?_
          exact ih_22 x22_3 y10 (gu_up Gj22 64 (y8.toInt).toNat ((G 45) (x22_4.toInt).toNat)) (by omega) (by have h9 := ti_rng x22_3; omega) (by have h9 := ti_rng y10; omega) (gu_I.up (j := 64) (k := (y8.toInt).toNat) (v := ((G 45) (x22_4.toInt).toNat)) jI22 (show ((-9998) : Int) ≤ Int32.toInt ((G 45) (x22_4.toInt).toNat) by omega) (show Int32.toInt ((G 45) (x22_4.toInt).toNat) ≤ 5000 by omega)) (gu_un.up (j := 64) (k := (y8.toInt).toNat) (v := ((G 45) (x22_4.toInt).toNat)) (gu_un.tr gu_un.rf (gu_un.su jU22 rfl)) (show (6400 : Nat) ∈ ([6400] : List Nat) by decide)) (sHr_1 (i := x22_4.toInt) (k := y8.toInt) sh (by omega) (by omega) (by omega) rfl (by omega)) (by have e9_6_1 : (gu_up Gj22 64 (y8.toInt).toNat ((G 45) (x22_4.toInt).toNat)) 6 1 = (G 6 1) := jU22 6 1 (by decide); (try simp only [e9_6_1, true_and, and_true]) <;> (first | omega | (simp only [Int32.reduceToInt, true_and, and_true, ne_eq, not_true_eq_false, false_and, or_false, false_or, true_or, or_true, false_implies] <;> omega))) (by have e9_18_0 : (gu_up Gj22 64 (y8.toInt).toNat ((G 45) (x22_4.toInt).toNat)) 18 0 = (G 18 0) := jU22 18 0 (by decide); (try simp only [e9_18_0, true_and, and_true]) <;> (first | omega | (simp only [Int32.reduceToInt, true_and, and_true, ne_eq, not_true_eq_false, false_and, or_false, false_or, true_or, or_true, false_implies] <;> omega)))
  refine g_aload_n F 0 dX5_storeHeights_0 rfl rfl ?_
  refine xg_6_0 F i_X5 w_1 dX5_storeHeights_1 ?_
  refine xg_2_0 F i_X7 w_2 dX5_storeHeights_4 ?_
  refine g_iconst F 0 dX5_storeHeights_7 (by decide) ?_
  refine u1_iald F 18 0 xc_18 rfl 0 rfl (by decide) (by decide) dX5_storeHeights_8 (G 18 0) (rfl) ?_
  refine g_istore_n F [(2, .int (G 18 0)), (0, .ref (a 6)), (1, .ref (a 64))] dX5_storeHeights_9 rfl (by decide) rfl ?_
  refine g_aload_n F 1 dX5_storeHeights_10 rfl rfl ?_
  refine xg_6_1 F i_X5 w_3 dX5_storeHeights_11 (G 6 1) (rfl) ?_
  refine g_iconst F 0 dX5_storeHeights_14 (by decide) ?_
  refine u_call0 (k := 0) (n := 0) (As := [.int (G 6 1), .int 0]) (st := []) F (fun sz => S_X6_placeOf_b5_b15 l D (G 6 1) (G 6 1).toInt 0 0 rfl (by omega) rfl (by decide) sz) (va_cwS 2 hts gX5_storeHeights_X6_placeOf rfl rfl rfl (by decide +kernel) ⟨Nat.le_of_ble_eq_true rfl, Nat.le_of_ble_eq_true rfl⟩) rfl (Nat.le_of_ble_eq_true rfl) ⟨Nat.zero_le _, Nat.zero_le _⟩ dX5_storeHeights_15 (fun r11 _ hw12 => ?_)
  have rg14 := hw12.1
  have rg15 := hw12.2
  clear hw12
  refine g_istore_n F [(3, .int r11), (2, .int (G 18 0)), (0, .ref (a 6)), (1, .ref (a 64))] dX5_storeHeights_18 rfl (by decide) rfl ?_
  refine g_iconst F 0 dX5_storeHeights_19 (by decide) ?_
  refine g_istore F [(4, .int 0), (3, .int r11), (2, .int (G 18 0)), (0, .ref (a 6)), (1, .ref (a 64))] dX5_storeHeights_20 (by decide) rfl ?_
  refine g_locals [(0, .ref (a 6)), (1, .ref (a 64)), (2, .int (G 18 0)), (3, .int r11), (4, .int 0)] [3, 4, 2, 1, 0] rfl ?_
  exact J_22 _ r11 0 G (Nat.lt_succ_self _) (by have h9 := ti_rng r11; omega) (by decide) hI gu_un.rf (sHr_0 rfl) (by (first | omega | (simp only [Int32.reduceToInt, true_and, and_true, ne_eq, not_true_eq_false, false_and, or_false, false_or, true_or, or_true, false_implies] <;> omega))) (by (first | omega | (simp only [Int32.reduceToInt, true_and, and_true, ne_eq, not_true_eq_false, false_and, or_false, false_or, true_or, or_true, false_implies] <;> omega)))


set_option maxHeartbeats 4000000 in
set_option maxRecDepth 100000 in
theorem S_X4_staysQuiet_v4 (l : Launch) (D : va_G) (K : Nat → ClassId) (a : Nat → Nat) (G : gS) (p0 : Int32) (s0 : Int) (e0 : p0.toInt = s0) (h0 : 0 ≤ s0 ∧ s0 ≤ 4) (hI : xI G) (sz : Nat) : Ki l yX4_staysQuiet wsX4_staysQuiet 5 148 0 0 D [.ref (a 8), .int p0, .int 4] (xW K a G) (tK K) sz (fun (r : Int32) (G' : gS) => (xI G') ∧ (gu_un xcd [602, 603, 604, 605, 608, 613, 614, 615, 616, 617, 618, 619, 620, 2100, 2400, 2700, 4400, 4500, 4600, 4700, 4800, 6400, 6500] G G') ∧ (0 ≤ r.toInt ∧ r.toInt ≤ 1)) (fun (G' : gS) => (xW K a G')) (fun _ => (tK K)) := by
  unfold Ki
  refine g_ofW (cc := cX4_staysQuiet) (lv := [(0, .ref (a 8)), (1, .int p0), (2, .int 4)]) (by decide) rfl (Nat.le_of_ble_eq_true rfl) rfl ?_
  intro p e s m args below meth c A Q hA hQ F hr hnm
  have hts := F.2.2.2.2.1
  have w_0 : (Cond.fieldLink RX4 33 "QuietCut$Jobs" "lathe" "LQuietCut$Lathe;").before args s = true := hts _ (List.mem_of_getElem? (i := 1) rfl)
  have i_X4 : ∀ w ∈ u_ws RX4 TX4 12, w ∈ wsX4_staysQuiet := fun _ h => List.mem_cons_of_mem _ (List.mem_append_left _ (List.mem_append_left _ (List.mem_append_left _ (List.mem_append_right _ h))))
  have w_1 : (Cond.fieldLink RX4 13 "QuietCut$Jobs" "jobs" "[[I").before args s = true := hts _ (List.mem_of_getElem? (i := 2) rfl)
  have w_2 : (Cond.fieldLink RX4 16 "QuietCut$Jobs" "heights" "[[I").before args s = true := hts _ (List.mem_of_getElem? (i := 3) rfl)
  have w_3 : (Cond.fieldLink RX4 19 "QuietCut$Jobs" "wears" "[I").before args s = true := hts _ (List.mem_of_getElem? (i := 4) rfl)
  have w_4 : (Cond.fieldLink RX4 44 "QuietCut$Jobs" "stiff" "I").before args s = true := hts _ (List.mem_of_getElem? (i := 5) rfl)
  have w_5 : (Cond.fieldLink RX4 47 "QuietCut$Jobs" "damp" "I").before args s = true := hts _ (List.mem_of_getElem? (i := 6) rfl)
  have w_6 : (Cond.methodLink RX4 64 arraycopyName).before args s = true := hts _ (List.mem_of_getElem? (i := 7) rfl)
  have w_7 : (Cond.native arraycopyName).before args s = true := hts _ (List.mem_of_getElem? (i := 8) rfl)
  have w_8 : (Cond.static arraycopyName).before args s = true := hts _ (List.mem_of_getElem? (i := 9) rfl)
  have w_9 : (Cond.initialized "java/lang/System").before args s = true := hts _ (List.mem_of_getElem? (i := 10) rfl)
  have w_10 : (Cond.fieldLink RX4 94 "QuietCut$Lathe" "wear" "I").before args s = true := hts _ (List.mem_of_getElem? (i := 11) rfl)
  have i_X5 : ∀ w ∈ u_ws RX5 TX5 20, w ∈ wsX4_staysQuiet := fun _ h => List.mem_cons_of_mem _ (List.mem_append_left _ (List.mem_append_left _ (List.mem_append_right _ h)))
  refine g_aload_n F 0 dX4_staysQuiet_0 rfl rfl ?_
  refine xg_8_1 F i_X4 w_0 dX4_staysQuiet_1 ?_
  refine g_aload_n F 0 dX4_staysQuiet_4 rfl rfl ?_
  refine xg_8_2 F i_X4 w_1 dX4_staysQuiet_5 ?_
  refine g_iconst F 0 dX4_staysQuiet_8 (by decide) ?_
  refine g_aald (b := a 54) F 53 1 xc_53 rfl (ti_in (show Int32.toInt 0 = 0 from rfl) (by decide) (by decide)) (by rw [show Int32.toNatClampNeg 0 = 0 from congrArg Int.toNat (show Int32.toInt 0 = 0 from rfl)]; rfl) dX4_staysQuiet_9 ?_
  refine g_iload_n F 1 dX4_staysQuiet_10 rfl rfl ?_
  refine u_iald F 54 0 xc_54 rfl s0 e0 (by omega) (by omega) dX4_staysQuiet_11 (fun _ => True) (fun _ => trivial) (fun y1 by1 => ?_)
  refine g_aload_n F 0 dX4_staysQuiet_12 rfl rfl ?_
  refine xg_8_2 F i_X4 w_1 dX4_staysQuiet_13 ?_
  refine g_iconst F 1 dX4_staysQuiet_16 (by decide) ?_
  refine g_aald (b := a 55) F 53 1 xc_53 rfl (ti_in (show Int32.toInt 1 = 1 from rfl) (by decide) (by decide)) (by rw [show Int32.toNatClampNeg 1 = 1 from congrArg Int.toNat (show Int32.toInt 1 = 1 from rfl)]; rfl) dX4_staysQuiet_17 ?_
  refine g_iload_n F 1 dX4_staysQuiet_18 rfl rfl ?_
  refine u_iald F 55 0 xc_55 rfl s0 e0 (by omega) (by omega) dX4_staysQuiet_19 (fun _ => True) (fun _ => trivial) (fun y2 by2 => ?_)
  refine g_aload_n F 0 dX4_staysQuiet_20 rfl rfl ?_
  refine xg_8_2 F i_X4 w_1 dX4_staysQuiet_21 ?_
  refine g_iconst F 2 dX4_staysQuiet_24 (by decide) ?_
  refine g_aald (b := a 56) F 53 1 xc_53 rfl (ti_in (show Int32.toInt 2 = 2 from rfl) (by decide) (by decide)) (by rw [show Int32.toNatClampNeg 2 = 2 from congrArg Int.toNat (show Int32.toInt 2 = 2 from rfl)]; rfl) dX4_staysQuiet_25 ?_
  refine g_iload_n F 1 dX4_staysQuiet_26 rfl rfl ?_
  refine u_iald F 56 0 xc_56 rfl s0 e0 (by omega) (by omega) dX4_staysQuiet_27 (fun _ => True) (fun _ => trivial) (fun y3 by3 => ?_)
  refine g_aload_n F 0 dX4_staysQuiet_28 rfl rfl ?_
  refine xg_8_2 F i_X4 w_1 dX4_staysQuiet_29 ?_
  refine g_iconst F 3 dX4_staysQuiet_32 (by decide) ?_
  refine g_aald (b := a 57) F 53 1 xc_53 rfl (ti_in (show Int32.toInt 3 = 3 from rfl) (by decide) (by decide)) (by rw [show Int32.toNatClampNeg 3 = 3 from congrArg Int.toNat (show Int32.toInt 3 = 3 from rfl)]; rfl) dX4_staysQuiet_33 ?_
  refine g_iload_n F 1 dX4_staysQuiet_34 rfl rfl ?_
  refine u_iald F 57 0 xc_57 rfl s0 e0 (by omega) (by omega) dX4_staysQuiet_35 (fun _ => True) (fun _ => trivial) (fun y4 by4 => ?_)
  refine u_callVi (k := 0) (n := 0) (b := a 6) (As := [.int y1, .int y2, .int y3, .int y4]) (st := []) F (fun sz => S_X5_takes l D K a G y1 y1.toInt y2 y2.toInt y3 y3.toInt y4 y4.toInt rfl rfl rfl rfl hI sz) (cwV 4 hts gX4_staysQuiet_X5_takes rfl rfl rfl (by decide +kernel) ⟨Nat.le_of_ble_eq_true rfl, Nat.le_of_ble_eq_true rfl⟩) rfl 6 xc_6 rfl (Nat.le_of_ble_eq_true rfl) ⟨Nat.zero_le _, Nat.zero_le _⟩ dX4_staysQuiet_36 (fun r5 G7 hw6 => ?_)
  have hI8 : xI G7 := hw6.1
  have hU9 : gu_un xcd [602, 603, 604, 605] G G7 := hw6.2.1
  have hp10 := hw6.2.2
  have q11 : ((G7 6 1).toInt = y1.toInt ∧ (G7 6 2).toInt = y2.toInt ∧ (G7 6 3).toInt = y3.toInt ∧ (G7 6 4).toInt = y4.toInt) := hp10.2
  rcases hp10.1 with ⟨rfl, q12⟩ | ⟨rfl, q13⟩
  · have b14 : (1 : Int) ≤ (G 18 1).toInt ∧ (G 18 1).toInt ≤ 6 := hI 18 1
    have q12 : (0 ≤ y1.toInt ∧ y1.toInt < (G 18 1).toInt ∧ 1 ≤ y2.toInt ∧ y2.toInt ≤ 9 ∧ 1 ≤ y3.toInt ∧ y3.toInt ≤ 20 ∧ 1 ≤ y4.toInt ∧ y4.toInt ≤ 12) := by have h9 := q12; (try simp only [(show G7 18 1 = (G 18 1) from hU9 18 1 (by decide))] at h9); exact h9
    refine v_if_ne F 44 dX4_staysQuiet_39 (by decide) 1 rfl (fun c15 => ?_) (fun c15 => absurd c15 (by decide))
    refine g_aload_n F 0 dX4_staysQuiet_44 rfl rfl ?_
    refine xg_8_1 F i_X4 w_0 dX4_staysQuiet_45 ?_
    refine g_aload_n F 0 dX4_staysQuiet_48 rfl rfl ?_
    refine xg_8_4 F i_X4 w_2 dX4_staysQuiet_49 ?_
    refine g_iload_n F 2 dX4_staysQuiet_52 rfl rfl ?_
    refine g_aald (b := a 63) F 58 1 xc_58 rfl (ti_in (show Int32.toInt 4 = 4 from rfl) (by decide) (by decide)) (by rw [show Int32.toNatClampNeg 4 = 4 from congrArg Int.toNat (show Int32.toInt 4 = 4 from rfl)]; rfl) dX4_staysQuiet_53 ?_
    refine g_aload_n F 0 dX4_staysQuiet_54 rfl rfl ?_
    refine xg_8_5 F i_X4 w_3 dX4_staysQuiet_55 ?_
    refine g_iload_n F 2 dX4_staysQuiet_58 rfl rfl ?_
    refine u1_iald F 65 0 xc_65 rfl 4 rfl (by decide) (by decide) dX4_staysQuiet_59 (G 65 4) (hU9 65 4 (by decide)) ?_
    refine g_aload_n F 0 dX4_staysQuiet_60 rfl rfl ?_
    refine xg_8_10 F i_X4 w_4 dX4_staysQuiet_61 (G 8 10) (hU9 8 10 (by decide)) ?_
    refine g_aload_n F 0 dX4_staysQuiet_64 rfl rfl ?_
    refine xg_8_11 F i_X4 w_5 dX4_staysQuiet_65 (G 8 11) (hU9 8 11 (by decide)) ?_
    have b16 : (0 : Int) ≤ (G 65 4).toInt ∧ (G 65 4).toInt ≤ 30000 := hI 65 4
    have b17 : (0 : Int) ≤ (G 8 10).toInt ∧ (G 8 10).toInt ≤ 300 := hI 8 10
    have b18 : (0 : Int) ≤ (G 8 11).toInt ∧ (G 8 11).toInt ≤ 300 := hI 8 11
    refine u_callVi (k := 0) (n := 0) (b := a 6) (As := [.ref (a 63), .int (G 65 4), .int (G 8 10), .int (G 8 11)]) (st := []) F (fun sz => S_X5_run_63 l D K a G7 (G 65 4) (G 65 4).toInt (G 8 10) (G 8 10).toInt (G 8 11) (G 8 11).toInt rfl (by omega) rfl (by omega) rfl (by omega) (by have e9_18_1 : G7 18 1 = (G 18 1) := hU9 18 1 (by decide); (try simp only [e9_18_1, true_and, and_true]) <;> (first | omega | (simp only [Int32.reduceToInt, true_and, and_true, ne_eq, not_true_eq_false, false_and, or_false, false_or, true_or, or_true, false_implies] <;> omega))) hI8 sz) (cwV 4 hts gX4_staysQuiet_X5_run rfl rfl rfl (by decide +kernel) ⟨Nat.le_of_ble_eq_true rfl, Nat.le_of_ble_eq_true rfl⟩) rfl 6 xc_6 rfl (Nat.le_of_ble_eq_true rfl) ⟨Nat.zero_le _, Nat.zero_le _⟩ dX4_staysQuiet_68 (fun r19 G21 hw20 => ?_)
    have hI22 : xI G21 := hw20.1
    have hU23 : gu_un xcd [608, 613, 614, 615, 616, 617, 618, 619, 620, 2100, 2400, 2700, 4400, 4500, 4600, 4700, 4800] G7 G21 := hw20.2.1
    have hp24 := hw20.2.2
    have q25 : (r19.toInt = -4 ∨ (0 ≤ r19.toInt ∧ r19.toInt ≤ 2)) := hp24.2.1
    have q26 : ((xTok G7 ∧ r19.toInt ≠ -4) → xOut G7 (G7 63) (G 65 4) (G 8 10) (G 8 11) G21 r19.toInt) := hp24.2.2.1
    have b27 : (4 : Int) ≤ (G 18 0).toInt ∧ (G 18 0).toInt ≤ 16 := hI 18 0
    have q28 : ((r19.toInt = -4 ∧ psMx (psHr (G 63) (G7 6 1).toInt (G 18 0).toInt) ((G 18 0).toInt - 1).toNat - (G7 6 3).toInt * (G7 6 4).toInt < 1) ∨ (r19.toInt ≠ -4 ∧ 1 ≤ psMx (psHr (G 63) (G7 6 1).toInt (G 18 0).toInt) ((G 18 0).toInt - 1).toNat - (G7 6 3).toInt * (G7 6 4).toInt)) := by have h9 := hp24.2.2.2; (try simp only [(show G7 18 0 = (G 18 0) from hU9 18 0 (by decide)), (show G7 18 0 = (G 18 0) from hU9 18 0 (by decide)), (show G7 18 0 = (G 18 0) from hU9 18 0 (by decide)), (show G7 18 0 = (G 18 0) from hU9 18 0 (by decide)), (show G7 63 = (G 63) from (show G7 63 = G 63 from funext fun k_ => hU9 63 k_ (show (6300 : Nat) ∉ ([602, 603, 604, 605] : List Nat) by decide))), (show G7 63 = (G 63) from (show G7 63 = G 63 from funext fun k_ => hU9 63 k_ (show (6300 : Nat) ∉ ([602, 603, 604, 605] : List Nat) by decide)))] at h9); first | exact h9 | omega
    have rg29 := hp24.1
    clear hp24 hw20
    refine v_if_eq F 76 dX4_staysQuiet_71 (by decide) r19.toInt rfl (fun c30 => ?_) (fun c30 => ?_)
    · refine g_aload_n F 0 dX4_staysQuiet_76 rfl rfl ?_
      refine xg_8_4 F i_X4 w_2 dX4_staysQuiet_77 ?_
      refine g_iload_n F 2 dX4_staysQuiet_80 rfl rfl ?_
      refine g_aald (b := a 63) F 58 1 xc_58 rfl (ti_in (show Int32.toInt 4 = 4 from rfl) (by decide) (by decide)) (by rw [show Int32.toNatClampNeg 4 = 4 from congrArg Int.toNat (show Int32.toInt 4 = 4 from rfl)]; rfl) dX4_staysQuiet_81 ?_
      refine g_iconst F 0 dX4_staysQuiet_82 (by decide) ?_
      refine g_aload_n F 0 dX4_staysQuiet_83 rfl rfl ?_
      refine xg_8_4 F i_X4 w_2 dX4_staysQuiet_84 ?_
      refine g_iload_n F 2 dX4_staysQuiet_87 rfl rfl ?_
      refine g_iconst F 1 dX4_staysQuiet_88 (by decide) ?_
      refine g_iadd F dX4_staysQuiet_89 ?_
      refine g_fold 5 (by decide) ?_
      refine g_aald (b := a 64) F 58 1 xc_58 rfl (ti_in (show Int32.toInt 5 = 5 from rfl) (by decide) (by decide)) (by rw [show Int32.toNatClampNeg 5 = 5 from congrArg Int.toNat (show Int32.toInt 5 = 5 from rfl)]; rfl) dX4_staysQuiet_90 ?_
      refine g_iconst F 0 dX4_staysQuiet_91 (by decide) ?_
      refine g_bipush F 96 dX4_staysQuiet_92 (by decide) ?_
      refine u_copyi F w_6 w_7 w_8 w_9 63 64 0 xc_63 xc_64 rfl 0 0 96 rfl rfl rfl (by decide) (by decide) (by decide) (by decide) (by decide) (Nat.le_of_ble_eq_true rfl) (Nat.le_of_ble_eq_true rfl) (xW K a (gu_st G21 64 (va_cpy (G21 63) (G21 64) 0 0 96))) (xs_64 _) dX4_staysQuiet_94 ?_
      refine g_aload_n F 0 dX4_staysQuiet_97 rfl rfl ?_
      refine xg_8_1 F i_X4 w_0 dX4_staysQuiet_98 ?_
      refine g_aload_n F 0 dX4_staysQuiet_101 rfl rfl ?_
      refine xg_8_4 F i_X4 w_2 dX4_staysQuiet_102 ?_
      refine g_iload_n F 2 dX4_staysQuiet_105 rfl rfl ?_
      refine g_iconst F 1 dX4_staysQuiet_106 (by decide) ?_
      refine g_iadd F dX4_staysQuiet_107 ?_
      refine g_fold 5 (by decide) ?_
      refine g_aald (b := a 64) F 58 1 xc_58 rfl (ti_in (show Int32.toInt 5 = 5 from rfl) (by decide) (by decide)) (by rw [show Int32.toNatClampNeg 5 = 5 from congrArg Int.toNat (show Int32.toInt 5 = 5 from rfl)]; rfl) dX4_staysQuiet_108 ?_
      refine u_callVv (k := 0) (n := 0) (b := a 6) (As := [.ref (a 64)]) (st := []) F (fun sz => S_X5_storeHeights_64 l D K a (gu_st G21 64 (va_cpy (G21 63) (G21 64) 0 0 96))  (by have e9_6_1 : (gu_st G21 64 (va_cpy (G21 63) (G21 64) 0 0 96)) 6 1 = (G7 6 1) := hU23 6 1 (by decide); (try simp only [e9_6_1, true_and, and_true]) <;> (first | omega | (simp only [Int32.reduceToInt, true_and, and_true, ne_eq, not_true_eq_false, false_and, or_false, false_or, true_or, or_true, false_implies] <;> omega))) (gu_I.cpy (j := 64) (f := G21 63) (sp := 0) (dp := 0) hI22 (fun k_ => hI22 63 (0 + k_))) sz) (cwV 1 hts gX4_staysQuiet_X5_storeHeights rfl rfl rfl (by decide +kernel) ⟨Nat.le_of_ble_eq_true rfl, Nat.le_of_ble_eq_true rfl⟩) rfl 6 xc_6 rfl (Nat.le_of_ble_eq_true rfl) ⟨Nat.zero_le _, Nat.zero_le _⟩ dX4_staysQuiet_109 (fun G33 hw32 => ?_)
      have hI34 : xI G33 := hw32.1
      have hU35 : gu_un xcd [6400] (gu_st G21 64 (va_cpy (G21 63) (G21 64) 0 0 96)) G33 := hw32.2.1
      have hp36 := hw32.2.2
      have q37 : (∀ q : Nat, G33 64 q = sHr ((gu_st G21 64 (va_cpy (G21 63) (G21 64) 0 0 96)) 64) (G21 45) (G7 6 1).toInt (G 18 0).toInt q) := by have h9 := hp36; (try simp only [(show (gu_st G21 64 (va_cpy (G21 63) (G21 64) 0 0 96)) 6 1 = (G7 6 1) from hU23 6 1 (by decide)), (show (gu_st G21 64 (va_cpy (G21 63) (G21 64) 0 0 96)) 18 0 = (G 18 0) from (hU23 18 0 (by decide)).trans (hU9 18 0 (by decide)))] at h9); first | exact h9 | omega
      clear hp36 hw32
      refine g_aload_n F 0 dX4_staysQuiet_112 rfl rfl ?_
      refine xg_8_5 F i_X4 w_3 dX4_staysQuiet_113 ?_
      refine g_iload_n F 2 dX4_staysQuiet_116 rfl rfl ?_
      refine g_iconst F 1 dX4_staysQuiet_117 (by decide) ?_
      refine g_iadd F dX4_staysQuiet_118 ?_
      refine g_fold 5 (by decide) ?_
      refine g_aload_n F 0 dX4_staysQuiet_119 rfl rfl ?_
      refine xg_8_1 F i_X4 w_0 dX4_staysQuiet_120 ?_
      refine xg_6_12 F i_X5 w_10 dX4_staysQuiet_123 (G21 6 12) (hU35 6 12 (by decide)) ?_
      have b38 : (0 : Int) ≤ (G21 6 12).toInt ∧ (G21 6 12).toInt ≤ 30000 := hI22 6 12
      refine u_iast F 65 0 xc_65 rfl 5 rfl (by decide) (by decide) (xW K a (gu_up G33 65 5 (G21 6 12))) (xs_65 _) dX4_staysQuiet_126 ?_
      refine g_iconst F 1 dX4_staysQuiet_127 (by decide) ?_
      exact u_zret F hA hQ hr rfl (gu_up G33 65 5 (G21 6 12)) (⟨(gu_I.up (j := 65) (k := 5) (v := (G21 6 12)) hI34 (show (0 : Int) ≤ Int32.toInt (G21 6 12) by omega) (show Int32.toInt (G21 6 12) ≤ 30000 by omega)), (gu_un.up (j := 65) (k := 5) (v := (G21 6 12)) (gu_un.tr (gu_un.sw (j := 64) (f := (va_cpy (G21 63) (G21 64) 0 0 96)) (gu_un.tr (gu_un.tr gu_un.rf (gu_un.su hU9 rfl)) (gu_un.su hU23 rfl)) (fun _ => show (6400 : Nat) ∈ ([602, 603, 604, 605, 608, 613, 614, 615, 616, 617, 618, 619, 620, 2100, 2400, 2700, 4400, 4500, 4600, 4700, 4800, 6400, 6500] : List Nat) by decide)) (gu_un.su hU35 rfl)) (show (6500 : Nat) ∈ ([602, 603, 604, 605, 608, 613, 614, 615, 616, 617, 618, 619, 620, 2100, 2400, 2700, 4400, 4500, 4600, 4700, 4800, 6400, 6500] : List Nat) by decide)), (by decide)⟩) rfl rfl dX4_staysQuiet_128
    · refine g_iconst F 0 dX4_staysQuiet_74 (by decide) ?_
      exact u_zret F hA hQ hr rfl G21 (⟨hI22, (gu_un.tr (gu_un.tr gu_un.rf (gu_un.su hU9 rfl)) (gu_un.su hU23 rfl)), (by decide)⟩) rfl rfl dX4_staysQuiet_75
  · have b39 : (1 : Int) ≤ (G 18 1).toInt ∧ (G 18 1).toInt ≤ 6 := hI 18 1
    have q13 : ¬ (0 ≤ y1.toInt ∧ y1.toInt < (G 18 1).toInt ∧ 1 ≤ y2.toInt ∧ y2.toInt ≤ 9 ∧ 1 ≤ y3.toInt ∧ y3.toInt ≤ 20 ∧ 1 ≤ y4.toInt ∧ y4.toInt ≤ 12) := by have h9 := q13; (try simp only [(show G7 18 1 = (G 18 1) from hU9 18 1 (by decide))] at h9); exact h9
    refine v_if_ne F 44 dX4_staysQuiet_39 (by decide) 0 rfl (fun c40 => absurd c40 (by decide)) (fun c40 => ?_)
    refine g_iconst F 0 dX4_staysQuiet_42 (by decide) ?_
    exact u_zret F hA hQ hr rfl G7 (⟨hI8, (gu_un.tr gu_un.rf (gu_un.su hU9 rfl)), (by decide)⟩) rfl rfl dX4_staysQuiet_43

theorem dX4_extendRow_0 : decode cX4_extendRow 0 = .ok (.iload_n 1, 1) := by decide +kernel
theorem dX4_extendRow_1 : decode cX4_extendRow 1 = .ok (.aload_n 0, 1) := by decide +kernel
theorem dX4_extendRow_2 : decode cX4_extendRow 2 = .ok (.getfield 37, 3) := by decide +kernel
theorem dX4_extendRow_5 : decode cX4_extendRow 5 = .ok (.if_icmp .ge 8, 3) := by decide +kernel
theorem dX4_extendRow_8 : decode cX4_extendRow 8 = .ok (.iload_n 1, 1) := by decide +kernel
theorem dX4_extendRow_9 : decode cX4_extendRow 9 = .ok (.iconst 5, 1) := by decide +kernel
theorem dX4_extendRow_10 : decode cX4_extendRow 10 = .ok (.if_icmp .lt 31, 3) := by decide +kernel
theorem dX4_extendRow_13 : decode cX4_extendRow 13 = .ok (.aload_n 0, 1) := by decide +kernel
theorem dX4_extendRow_14 : decode cX4_extendRow 14 = .ok (.iload_n 3, 1) := by decide +kernel
theorem dX4_extendRow_15 : decode cX4_extendRow 15 = .ok (.putfield 50, 3) := by decide +kernel
theorem dX4_extendRow_18 : decode cX4_extendRow 18 = .ok (.aload_n 0, 1) := by decide +kernel
theorem dX4_extendRow_19 : decode cX4_extendRow 19 = .ok (.aload_n 0, 1) := by decide +kernel
theorem dX4_extendRow_20 : decode cX4_extendRow 20 = .ok (.getfield 37, 3) := by decide +kernel
theorem dX4_extendRow_23 : decode cX4_extendRow 23 = .ok (.putfield 41, 3) := by decide +kernel
theorem dX4_extendRow_26 : decode cX4_extendRow 26 = .ok (.aload_n 0, 1) := by decide +kernel
theorem dX4_extendRow_27 : decode cX4_extendRow 27 = .ok (.getfield 23, 3) := by decide +kernel
theorem dX4_extendRow_30 : decode cX4_extendRow 30 = .ok (.iconst 0, 1) := by decide +kernel
theorem dX4_extendRow_31 : decode cX4_extendRow 31 = .ok (.aload_n 0, 1) := by decide +kernel
theorem dX4_extendRow_32 : decode cX4_extendRow 32 = .ok (.getfield 26, 3) := by decide +kernel
theorem dX4_extendRow_35 : decode cX4_extendRow 35 = .ok (.iconst 0, 1) := by decide +kernel
theorem dX4_extendRow_36 : decode cX4_extendRow 36 = .ok (.iconst 5, 1) := by decide +kernel
theorem dX4_extendRow_37 : decode cX4_extendRow 37 = .ok (.invokestatic 64, 3) := by decide +kernel
theorem dX4_extendRow_40 : decode cX4_extendRow 40 = .ok (.return_, 1) := by decide +kernel
theorem dX4_extendRow_41 : decode cX4_extendRow 41 = .ok (.iconst 0, 1) := by decide +kernel
theorem dX4_extendRow_42 : decode cX4_extendRow 42 = .ok (.istore 4, 2) := by decide +kernel
theorem dX4_extendRow_44 : decode cX4_extendRow 44 = .ok (.iload 4, 2) := by decide +kernel
theorem dX4_extendRow_46 : decode cX4_extendRow 46 = .ok (.aload_n 0, 1) := by decide +kernel
theorem dX4_extendRow_47 : decode cX4_extendRow 47 = .ok (.getfield 37, 3) := by decide +kernel
theorem dX4_extendRow_50 : decode cX4_extendRow 50 = .ok (.if_icmp .ge 79, 3) := by decide +kernel
theorem dX4_extendRow_53 : decode cX4_extendRow 53 = .ok (.iload_n 2, 1) := by decide +kernel
theorem dX4_extendRow_54 : decode cX4_extendRow 54 = .ok (.iload 4, 2) := by decide +kernel
theorem dX4_extendRow_56 : decode cX4_extendRow 56 = .ok (.ishr, 1) := by decide +kernel
theorem dX4_extendRow_57 : decode cX4_extendRow 57 = .ok (.iconst 1, 1) := by decide +kernel
theorem dX4_extendRow_58 : decode cX4_extendRow 58 = .ok (.iand, 1) := by decide +kernel
theorem dX4_extendRow_59 : decode cX4_extendRow 59 = .ok (.ifCond .ne 64, 3) := by decide +kernel
theorem dX4_extendRow_62 : decode cX4_extendRow 62 = .ok (.aload_n 0, 1) := by decide +kernel
theorem dX4_extendRow_63 : decode cX4_extendRow 63 = .ok (.iload 4, 2) := by decide +kernel
theorem dX4_extendRow_65 : decode cX4_extendRow 65 = .ok (.iload_n 1, 1) := by decide +kernel
theorem dX4_extendRow_66 : decode cX4_extendRow 66 = .ok (.invokevirtual 73, 3) := by decide +kernel
theorem dX4_extendRow_69 : decode cX4_extendRow 69 = .ok (.ifCond .eq 54, 3) := by decide +kernel
theorem dX4_extendRow_72 : decode cX4_extendRow 72 = .ok (.aload_n 0, 1) := by decide +kernel
theorem dX4_extendRow_73 : decode cX4_extendRow 73 = .ok (.getfield 23, 3) := by decide +kernel
theorem dX4_extendRow_76 : decode cX4_extendRow 76 = .ok (.iload_n 1, 1) := by decide +kernel
theorem dX4_extendRow_77 : decode cX4_extendRow 77 = .ok (.iload 4, 2) := by decide +kernel
theorem dX4_extendRow_79 : decode cX4_extendRow 79 = .ok (.iastore, 1) := by decide +kernel
theorem dX4_extendRow_80 : decode cX4_extendRow 80 = .ok (.iload_n 3, 1) := by decide +kernel
theorem dX4_extendRow_81 : decode cX4_extendRow 81 = .ok (.aload_n 0, 1) := by decide +kernel
theorem dX4_extendRow_82 : decode cX4_extendRow 82 = .ok (.getfield 33, 3) := by decide +kernel
theorem dX4_extendRow_85 : decode cX4_extendRow 85 = .ok (.getfield 77, 3) := by decide +kernel
theorem dX4_extendRow_88 : decode cX4_extendRow 88 = .ok (.iadd, 1) := by decide +kernel
theorem dX4_extendRow_89 : decode cX4_extendRow 89 = .ok (.istore 5, 2) := by decide +kernel
theorem dX4_extendRow_91 : decode cX4_extendRow 91 = .ok (.aload_n 0, 1) := by decide +kernel
theorem dX4_extendRow_92 : decode cX4_extendRow 92 = .ok (.getfield 50, 3) := by decide +kernel
theorem dX4_extendRow_95 : decode cX4_extendRow 95 = .ok (.iconst (-1), 1) := by decide +kernel
theorem dX4_extendRow_96 : decode cX4_extendRow 96 = .ok (.if_icmp .eq 12, 3) := by decide +kernel
theorem dX4_extendRow_99 : decode cX4_extendRow 99 = .ok (.iload 5, 2) := by decide +kernel
theorem dX4_extendRow_101 : decode cX4_extendRow 101 = .ok (.aload_n 0, 1) := by decide +kernel
theorem dX4_extendRow_102 : decode cX4_extendRow 102 = .ok (.getfield 50, 3) := by decide +kernel
theorem dX4_extendRow_105 : decode cX4_extendRow 105 = .ok (.if_icmp .ge 18, 3) := by decide +kernel
theorem dX4_extendRow_108 : decode cX4_extendRow 108 = .ok (.aload_n 0, 1) := by decide +kernel
theorem dX4_extendRow_109 : decode cX4_extendRow 109 = .ok (.iload_n 1, 1) := by decide +kernel
theorem dX4_extendRow_110 : decode cX4_extendRow 110 = .ok (.iconst 1, 1) := by decide +kernel
theorem dX4_extendRow_111 : decode cX4_extendRow 111 = .ok (.iadd, 1) := by decide +kernel
theorem dX4_extendRow_112 : decode cX4_extendRow 112 = .ok (.iload_n 2, 1) := by decide +kernel
theorem dX4_extendRow_113 : decode cX4_extendRow 113 = .ok (.iconst 1, 1) := by decide +kernel
theorem dX4_extendRow_114 : decode cX4_extendRow 114 = .ok (.iload 4, 2) := by decide +kernel
theorem dX4_extendRow_116 : decode cX4_extendRow 116 = .ok (.ishl, 1) := by decide +kernel
theorem dX4_extendRow_117 : decode cX4_extendRow 117 = .ok (.ior, 1) := by decide +kernel
theorem dX4_extendRow_118 : decode cX4_extendRow 118 = .ok (.iload 5, 2) := by decide +kernel
theorem dX4_extendRow_120 : decode cX4_extendRow 120 = .ok (.invokevirtual 56, 3) := by decide +kernel
theorem dX4_extendRow_123 : decode cX4_extendRow 123 = .ok (.iinc 4 1, 3) := by decide +kernel
theorem dX4_extendRow_126 : decode cX4_extendRow 126 = .ok (.goto (-82), 3) := by decide +kernel
theorem dX4_extendRow_129 : decode cX4_extendRow 129 = .ok (.return_, 1) := by decide +kernel
set_option maxHeartbeats 4000000 in
set_option maxRecDepth 100000 in
theorem S_X4_extendRow_v5 (l : Launch) (D : va_G) (K : Nat → ClassId) (a : Nat → Nat) (G : gS) (p1 : Int32) (s1 : Int) (p2 : Int32) (s2 : Int) (e1 : p1.toInt = s1) (e2 : p2.toInt = s2) (hI : xI G) (sz : Nat) : Kv l yX4_extendRow wsX4_extendRow 1 40 0 0 D [.ref (a 8), .int 5, .int p1, .int p2] (xW K a G) (tK K) sz (fun (G' : gS) => (xI G') ∧ (gu_un xcd [809, 810, 6700] G G')) (fun (G' : gS) => (xW K a G')) (fun _ => (tK K)) := by
  unfold Kv
  refine g_ofW (cc := cX4_extendRow) (lv := [(0, .ref (a 8)), (1, .int 5), (2, .int p1), (3, .int p2)]) (by decide) rfl (Nat.le_of_ble_eq_true rfl) rfl ?_
  intro p e s m args below meth c A Q hA hQ F hr hnm
  have hts := F.2.2.2.2.1
  have w_0 : (Cond.fieldLink RX4 50 "QuietCut$Jobs" "leastSum" "I").before args s = true := hts _ (List.mem_of_getElem? (i := 2) rfl)
  have i_X4 : ∀ w ∈ u_ws RX4 TX4 12, w ∈ wsX4_extendRow := fun _ h => List.mem_cons_of_mem _ (List.mem_append_left _ (List.mem_append_left _ (List.mem_append_left _ (List.mem_append_right _ h))))
  have w_1 : (Cond.fieldLink RX4 37 "QuietCut$Jobs" "many" "I").before args s = true := hts _ (List.mem_of_getElem? (i := 1) rfl)
  have w_2 : (Cond.fieldLink RX4 41 "QuietCut$Jobs" "bestMany" "I").before args s = true := hts _ (List.mem_of_getElem? (i := 3) rfl)
  have w_3 : (Cond.fieldLink RX4 23 "QuietCut$Jobs" "row" "[I").before args s = true := hts _ (List.mem_of_getElem? (i := 4) rfl)
  have w_4 : (Cond.fieldLink RX4 26 "QuietCut$Jobs" "bestRow" "[I").before args s = true := hts _ (List.mem_of_getElem? (i := 5) rfl)
  have w_5 : (Cond.methodLink RX4 64 arraycopyName).before args s = true := hts _ (List.mem_of_getElem? (i := 6) rfl)
  have w_6 : (Cond.native arraycopyName).before args s = true := hts _ (List.mem_of_getElem? (i := 7) rfl)
  have w_7 : (Cond.static arraycopyName).before args s = true := hts _ (List.mem_of_getElem? (i := 8) rfl)
  have w_8 : (Cond.initialized "java/lang/System").before args s = true := hts _ (List.mem_of_getElem? (i := 9) rfl)
  have rg1 : -2147483648 ≤ s1 ∧ s1 ≤ 2147483647 := e1 ▸ ti_rng p1
  have rg2 : -2147483648 ≤ s2 ∧ s2 ≤ 2147483647 := e2 ▸ ti_rng p2
  have J_13 : ∀ (_ : Unit), gG p l e (gR 1 0 0 40) s m args below meth c D A 6 Q 0 0 (xW K a G) (tK K) [(0, .ref (a 8)), (3, .int p2)] 13 [] := by
    intro _ 
    refine g_aload_n F 0 dX4_extendRow_13 rfl rfl ?_
    refine g_iload_n F 1 dX4_extendRow_14 rfl rfl ?_
    refine xp_8_9 F i_X4 w_0 dX4_extendRow_15 ?_
    refine g_aload_n F 0 dX4_extendRow_18 rfl rfl ?_
    refine g_aload_n F 0 dX4_extendRow_19 rfl rfl ?_
    refine xg_8_3 F i_X4 w_1 dX4_extendRow_20 (G 8 3) (rfl) ?_
    have b1 : (0 : Int) ≤ (G 8 3).toInt ∧ (G 8 3).toInt ≤ 5 := hI 8 3
    refine xp_8_8 F i_X4 w_2 dX4_extendRow_23 ?_
    refine g_aload_n F 0 dX4_extendRow_26 rfl rfl ?_
    refine xg_8_6 F i_X4 w_3 dX4_extendRow_27 ?_
    refine g_iconst F 0 dX4_extendRow_30 (by decide) ?_
    refine g_aload_n F 0 dX4_extendRow_31 rfl rfl ?_
    refine xg_8_7 F i_X4 w_4 dX4_extendRow_32 ?_
    refine g_iconst F 0 dX4_extendRow_35 (by decide) ?_
    refine g_iconst F 5 dX4_extendRow_36 (by decide) ?_
    refine u_copyi F w_5 w_6 w_7 w_8 66 67 0 xc_66 xc_67 rfl 0 0 5 rfl rfl rfl (by decide) (by decide) (by decide) (by decide) (by decide) (Nat.le_of_ble_eq_true rfl) (Nat.le_of_ble_eq_true rfl) (xW K a (gu_st (gu_up (gu_up G 8 9 p2) 8 8 (G 8 3)) 67 (va_cpy ((gu_up (gu_up G 8 9 p2) 8 8 (G 8 3)) 66) ((gu_up (gu_up G 8 9 p2) 8 8 (G 8 3)) 67) 0 0 5))) (xs_67 _) dX4_extendRow_37 ?_
    exact u_vret F hA hQ hr (gu_st (gu_up (gu_up G 8 9 p2) 8 8 (G 8 3)) 67 (va_cpy ((gu_up (gu_up G 8 9 p2) 8 8 (G 8 3)) 66) ((gu_up (gu_up G 8 9 p2) 8 8 (G 8 3)) 67) 0 0 5)) (⟨(gu_I.sw (j := 67) (f := (va_cpy ((gu_up (gu_up G 8 9 p2) 8 8 (G 8 3)) 66) ((gu_up (gu_up G 8 9 p2) 8 8 (G 8 3)) 67) 0 0 5)) (gu_I.up (j := 8) (k := 8) (v := (G 8 3)) (gu_I.up (j := 8) (k := 9) (v := p2) hI (ti_rng _).1 (ti_rng _).2) (show (0 : Int) ≤ Int32.toInt (G 8 3) by omega) (show Int32.toInt (G 8 3) ≤ 5 by omega)) (fun _ => ti_rng _)), (gu_un.sw (j := 67) (f := (va_cpy ((gu_up (gu_up G 8 9 p2) 8 8 (G 8 3)) 66) ((gu_up (gu_up G 8 9 p2) 8 8 (G 8 3)) 67) 0 0 5)) (gu_un.up (j := 8) (k := 8) (v := (G 8 3)) (gu_un.up (j := 8) (k := 9) (v := p2) gu_un.rf (show (810 : Nat) ∈ ([809, 810, 6700] : List Nat) by decide)) (show (809 : Nat) ∈ ([809, 810, 6700] : List Nat) by decide)) (fun _ => show (6700 : Nat) ∈ ([809, 810, 6700] : List Nat) by decide))⟩) rfl rfl dX4_extendRow_40
  refine g_iload_n F 1 dX4_extendRow_0 rfl rfl ?_
  refine g_aload_n F 0 dX4_extendRow_1 rfl rfl ?_
  refine xg_8_3 F i_X4 w_1 dX4_extendRow_2 (G 8 3) (rfl) ?_
  have b2 : (0 : Int) ≤ (G 8 3).toInt ∧ (G 8 3).toInt ≤ 5 := hI 8 3
  refine v_icmp_ge F 13 dX4_extendRow_5 (by decide) 5 (G 8 3).toInt rfl rfl (fun c3 => ?_) (fun c3 => absurd c3 (by omega))
  refine g_locals [(0, .ref (a 8)), (3, .int p2)] [0, 3] rfl ?_
  exact J_13 () 

set_option maxRecDepth 20000 in
theorem ggX4_extendRow_X4_extendRow : GoodIn wsX4_extendRow wsX4_extendRow := goodIn_r _ [0, 1, 2, 3, 4, 5, 6, 7, 8, 9, 10, 11, 12, 13, 14, 15, 16, 17, 18, 19, 20, 21, 22, 23, 24, 25, 26, 27, 28, 29, 30, 31, 32, 33, 34, 35, 36, 37, 38, 39, 40, 41, 42, 43, 44, 45, 46, 47, 48, 49, 50, 51, 52, 53, 54, 55, 56, 57, 58, 59, 60, 61, 62, 63, 64, 65, 66, 67, 68, 69, 70, 71, 72, 73, 74, 75, 76, 77, 78, 79, 80, 81, 82, 83, 84, 85, 86, 87, 88, 89, 90, 91, 92, 93, 94, 95, 96, 97, 98, 99, 100, 101, 102, 103, 104, 105, 106, 107, 108, 109, 110, 111, 112, 113, 114, 115, 116, 117, 118, 119, 120, 121, 122, 123, 124, 125, 126, 127, 128, 129, 130, 131, 132, 133, 134, 135, 136, 137, 138, 139, 140, 141, 142, 143, 144, 145, 146, 147, 148, 149, 150, 151, 152, 153, 154, 155, 156, 157, 158, 159, 160, 161, 162, 163, 164, 165, 166, 167, 168, 169, 170, 171, 172, 173, 174, 175, 176, 177, 178, 179, 180, 181, 182, 183] rfl (by decide +kernel)
set_option maxRecDepth 20000 in
theorem gX4_extendRow_X4_extendRow : GoodIn wsX4_extendRow (wsV RX4 56 RX4 yX4_extendRow wsX4_extendRow) := goodIn_app (goodIn_of _ (by decide +kernel)) ggX4_extendRow_X4_extendRow
set_option maxRecDepth 20000 in
theorem ggX4_extendRow_X4_staysQuiet : GoodIn wsX4_extendRow wsX4_staysQuiet := goodIn_r _ [16, 10, 17, 18, 19, 20, 21, 6, 7, 8, 9, 22, 23, 24, 25, 26, 27, 28, 29, 30, 31, 32, 33, 34, 35, 36, 37, 38, 39, 40, 41, 42, 43, 44, 45, 46, 47, 48, 49, 50, 51, 52, 53, 54, 55, 56, 57, 58, 59, 60, 61, 62, 63, 64, 65, 66, 67, 68, 69, 70, 71, 72, 73, 74, 75, 76, 77, 78, 79, 80, 81, 82, 83, 84, 85, 86, 87, 88, 89, 90, 91, 92, 93, 94, 95, 96, 97, 98, 99, 100, 101, 102, 103, 104, 105, 106, 107, 108, 109, 110, 111, 112, 113, 114, 115, 116, 117, 118, 119, 120, 121, 122, 123, 124, 125, 126, 127, 128, 129, 130, 131, 132, 133, 134, 135, 139, 140, 141, 142, 143, 144, 145, 146, 147, 148, 149, 150, 151, 152, 153, 154, 155, 156, 157, 158, 159, 160, 161, 162, 163, 164, 165, 166, 167, 168, 169, 170, 171, 172, 173, 174, 175, 176, 177, 178, 179, 180, 181, 182, 183] rfl (by decide +kernel)
set_option maxRecDepth 20000 in
theorem gX4_extendRow_X4_staysQuiet : GoodIn wsX4_extendRow (wsV RX4 73 RX4 yX4_staysQuiet wsX4_staysQuiet) := goodIn_app (goodIn_of _ (by decide +kernel)) ggX4_extendRow_X4_staysQuiet
set_option maxHeartbeats 4000000 in
set_option maxRecDepth 100000 in
theorem S_X4_extendRow_v4 (l : Launch) (D : va_G) (K : Nat → ClassId) (a : Nat → Nat) (G : gS) (p1 : Int32) (s1 : Int) (p2 : Int32) (s2 : Int) (e1 : p1.toInt = s1) (e2 : p2.toInt = s2) (hI : xI G) (sz : Nat) : Kv l yX4_extendRow wsX4_extendRow 6 170 0 0 D [.ref (a 8), .int 4, .int p1, .int p2] (xW K a G) (tK K) sz (fun (G' : gS) => (xI G') ∧ (gu_un xcd [602, 603, 604, 605, 608, 613, 614, 615, 616, 617, 618, 619, 620, 809, 810, 2100, 2400, 2700, 4400, 4500, 4600, 4700, 4800, 6400, 6500, 6600, 6700] G G')) (fun (G' : gS) => (xW K a G')) (fun _ => (tK K)) := by
  unfold Kv
  refine g_ofW (cc := cX4_extendRow) (lv := [(0, .ref (a 8)), (1, .int 4), (2, .int p1), (3, .int p2)]) (by decide) rfl (Nat.le_of_ble_eq_true rfl) rfl ?_
  intro p e s m args below meth c A Q hA hQ F hr hnm
  have hts := F.2.2.2.2.1
  have w_0 : (Cond.fieldLink RX4 37 "QuietCut$Jobs" "many" "I").before args s = true := hts _ (List.mem_of_getElem? (i := 1) rfl)
  have i_X4 : ∀ w ∈ u_ws RX4 TX4 12, w ∈ wsX4_extendRow := fun _ h => List.mem_cons_of_mem _ (List.mem_append_left _ (List.mem_append_left _ (List.mem_append_left _ (List.mem_append_right _ h))))
  have w_1 : (Cond.fieldLink RX4 23 "QuietCut$Jobs" "row" "[I").before args s = true := hts _ (List.mem_of_getElem? (i := 4) rfl)
  have w_2 : (Cond.fieldLink RX4 33 "QuietCut$Jobs" "lathe" "LQuietCut$Lathe;").before args s = true := hts _ (List.mem_of_getElem? (i := 10) rfl)
  have w_3 : (Cond.fieldLink RX4 77 "QuietCut$Lathe" "wave" "I").before args s = true := hts _ (List.mem_of_getElem? (i := 11) rfl)
  have i_X5 : ∀ w ∈ u_ws RX5 TX5 20, w ∈ wsX4_extendRow := fun _ h => List.mem_cons_of_mem _ (List.mem_append_left _ (List.mem_append_left _ (List.mem_append_right _ h)))
  have w_4 : (Cond.fieldLink RX4 50 "QuietCut$Jobs" "leastSum" "I").before args s = true := hts _ (List.mem_of_getElem? (i := 2) rfl)
  have w_5 : (Cond.fieldLink RX4 41 "QuietCut$Jobs" "bestMany" "I").before args s = true := hts _ (List.mem_of_getElem? (i := 3) rfl)
  have w_6 : (Cond.fieldLink RX4 26 "QuietCut$Jobs" "bestRow" "[I").before args s = true := hts _ (List.mem_of_getElem? (i := 5) rfl)
  have w_7 : (Cond.methodLink RX4 64 arraycopyName).before args s = true := hts _ (List.mem_of_getElem? (i := 6) rfl)
  have w_8 : (Cond.native arraycopyName).before args s = true := hts _ (List.mem_of_getElem? (i := 7) rfl)
  have w_9 : (Cond.static arraycopyName).before args s = true := hts _ (List.mem_of_getElem? (i := 8) rfl)
  have w_10 : (Cond.initialized "java/lang/System").before args s = true := hts _ (List.mem_of_getElem? (i := 9) rfl)
  have rg1 : -2147483648 ≤ s1 ∧ s1 ≤ 2147483647 := e1 ▸ ti_rng p1
  have rg2 : -2147483648 ≤ s2 ∧ s2 ≤ 2147483647 := e2 ▸ ti_rng p2
  have J_44 : ∀ (fuel : Nat) (x44_4 : Int32) (Gj44 : gS), (2147483647 - x44_4.toInt).toNat < fuel → (0 ≤ x44_4.toInt ∧ x44_4.toInt ≤ 5) → (xI Gj44) → (gu_un xcd [602, 603, 604, 605, 608, 613, 614, 615, 616, 617, 618, 619, 620, 809, 810, 2100, 2400, 2700, 4400, 4500, 4600, 4700, 4800, 6400, 6500, 6600, 6700] G Gj44) → gG p l e (gR 6 0 0 170) s m args below meth c D A 6 Q 0 0 (xW K a Gj44) (tK K) [(0, .ref (a 8)), (1, .int 4), (2, .int p1), (3, .int p2), (4, .int x44_4)] 44 [] := by
    intro fuel
    induction fuel with
    | zero => intro x44_4 Gj44 hm; exact absurd hm (Nat.not_lt_zero _)
    | succ fuel_44 ih_44 =>
      intro x44_4 Gj44 hm_44 h44_4 jI44 jU44
      have J_123 : ∀  (Gj123 : gS), (0 ≤ x44_4.toInt ∧ x44_4.toInt ≤ 4) → (xI Gj123) → (gu_un xcd [602, 603, 604, 605, 608, 613, 614, 615, 616, 617, 618, 619, 620, 809, 810, 2100, 2400, 2700, 4400, 4500, 4600, 4700, 4800, 6400, 6500, 6600, 6700] Gj44 Gj123) → gG p l e (gR 6 0 0 170) s m args below meth c D A 6 Q 0 0 (xW K a Gj123) (tK K) [(0, .ref (a 8)), (1, .int 4), (2, .int p1), (3, .int p2), (4, .int x44_4)] 123 [] := by
        intro Gj123 k123_4 jI123 jU123
        refine u_iinc F (fun v_ => [(4, .int v_), (0, .ref (a 8)), (1, .int 4), (2, .int p1), (3, .int p2)]) dX4_extendRow_123 (j := 4) rfl x44_4.toInt 1 rfl rfl (by omega) (by omega) (by decide) (fun _ => rfl) (fun y1 ey1 => ?_)
        refine g_goto F 44 dX4_extendRow_126 (by decide) ?_
        refine g_locals [(0, .ref (a 8)), (1, .int 4), (2, .int p1), (3, .int p2), (4, .int y1)] [1, 2, 3, 4, 0] rfl ?_
        exact ih_44 y1 Gj123 (by omega) (by have h9 := ti_rng y1; omega) jI123 (gu_un.tr (gu_un.tr gu_un.rf (gu_un.su jU44 rfl)) (gu_un.su jU123 rfl))
      have J_108 : ∀  (x108_5 : Int32) (Gj108 : gS), (0 ≤ x44_4.toInt ∧ x44_4.toInt ≤ 4) → (xI Gj108) → (gu_un xcd [602, 603, 604, 605, 608, 613, 614, 615, 616, 617, 618, 619, 620, 2100, 2400, 2700, 4400, 4500, 4600, 4700, 4800, 6400, 6500, 6600] Gj44 Gj108) → gG p l e (gR 6 0 0 170) s m args below meth c D A 6 Q 0 0 (xW K a Gj108) (tK K) [(0, .ref (a 8)), (1, .int 4), (2, .int p1), (3, .int p2), (4, .int x44_4), (5, .int x108_5)] 108 [] := by
        intro x108_5 Gj108 k108_4 jI108 jU108
        refine g_aload_n F 0 dX4_extendRow_108 rfl rfl ?_
        refine g_iload_n F 1 dX4_extendRow_109 rfl rfl ?_
        refine g_iconst F 1 dX4_extendRow_110 (by decide) ?_
        refine g_iadd F dX4_extendRow_111 ?_
        refine g_fold 5 (by decide) ?_
        refine g_iload_n F 2 dX4_extendRow_112 rfl rfl ?_
        refine g_iconst F 1 dX4_extendRow_113 (by decide) ?_
        refine g_iload F 4 dX4_extendRow_114 rfl ?_
        refine u0_ishl F dX4_extendRow_116 (fun y2 => ?_)
        refine u0_ior F dX4_extendRow_117 (fun y3 => ?_)
        refine g_iload F 5 dX4_extendRow_118 rfl ?_
        refine u_callVv (k := 0) (n := 0) (b := a 8) (As := [.int 5, .int y3, .int x108_5]) (st := []) F (fun sz => S_X4_extendRow_v5 l D K a Gj108 y3 y3.toInt x108_5 x108_5.toInt rfl rfl jI108 sz) (cwV 3 hts gX4_extendRow_X4_extendRow rfl rfl rfl (by decide +kernel) ⟨Nat.le_of_ble_eq_true rfl, Nat.le_of_ble_eq_true rfl⟩) rfl 8 xc_8 rfl (Nat.le_of_ble_eq_true rfl) ⟨Nat.zero_le _, Nat.zero_le _⟩ dX4_extendRow_120 (fun G6 hw5 => ?_)
        have hI7 : xI G6 := hw5.1
        have hU8 : gu_un xcd [809, 810, 6700] Gj108 G6 := hw5.2
        refine g_locals [(0, .ref (a 8)), (1, .int 4), (2, .int p1), (3, .int p2), (4, .int x44_4)] [0, 1, 2, 3, 4] rfl ?_
        exact J_123 G6 (by have h9 := ti_rng x44_4; omega) hI7 (gu_un.tr (gu_un.tr gu_un.rf (gu_un.su jU108 rfl)) (gu_un.su hU8 rfl))
      refine g_iload F 4 dX4_extendRow_44 rfl ?_
      refine g_aload_n F 0 dX4_extendRow_46 rfl rfl ?_
      refine xg_8_3 F i_X4 w_0 dX4_extendRow_47 (G 8 3) (jU44 8 3 (by decide)) ?_
      have b10 : (0 : Int) ≤ (G 8 3).toInt ∧ (G 8 3).toInt ≤ 5 := hI 8 3
      refine v_icmp_ge F 129 dX4_extendRow_50 (by decide) x44_4.toInt (G 8 3).toInt rfl rfl (fun c11 => ?_) (fun c11 => ?_)
      · exact u_vret F hA hQ hr Gj44 (⟨jI44, (gu_un.tr gu_un.rf (gu_un.su jU44 rfl))⟩) rfl rfl dX4_extendRow_129
      · refine g_iload_n F 2 dX4_extendRow_53 rfl rfl ?_
        refine g_iload F 4 dX4_extendRow_54 rfl ?_
        refine u0_ishr F dX4_extendRow_56 (fun y12 => ?_)
        refine g_iconst F 1 dX4_extendRow_57 (by decide) ?_
        refine u_iand F dX4_extendRow_58 _ 1 rfl rfl (by omega) (fun y13 ey13 => ?_)
        refine v_if_ne F 123 dX4_extendRow_59 (by decide) y13.toInt rfl (fun c14 => ?_) (fun c14 => ?_)
        · exact J_123 Gj44 (by have h9 := ti_rng x44_4; omega) jI44 gu_un.rf
        · refine g_aload_n F 0 dX4_extendRow_62 rfl rfl ?_
          refine g_iload F 4 dX4_extendRow_63 rfl ?_
          refine g_iload_n F 1 dX4_extendRow_65 rfl rfl ?_
          refine u_callVi (k := 0) (n := 0) (b := a 8) (As := [.int x44_4, .int 4]) (st := []) F (fun sz => S_X4_staysQuiet_v4 l D K a Gj44 x44_4 x44_4.toInt rfl (by omega) jI44 sz) (cwV 2 hts gX4_extendRow_X4_staysQuiet rfl rfl rfl (by decide +kernel) ⟨Nat.le_of_ble_eq_true rfl, Nat.le_of_ble_eq_true rfl⟩) rfl 8 xc_8 rfl (Nat.le_of_ble_eq_true rfl) ⟨Nat.zero_le _, Nat.zero_le _⟩ dX4_extendRow_66 (fun r15 G17 hw16 => ?_)
          have hI18 : xI G17 := hw16.1
          have hU19 : gu_un xcd [602, 603, 604, 605, 608, 613, 614, 615, 616, 617, 618, 619, 620, 2100, 2400, 2700, 4400, 4500, 4600, 4700, 4800, 6400, 6500] Gj44 G17 := hw16.2.1
          have hp20 := hw16.2.2
          have rg21 := hp20
          clear hp20 hw16
          refine v_if_eq F 123 dX4_extendRow_69 (by decide) r15.toInt rfl (fun c22 => ?_) (fun c22 => ?_)
          · exact J_123 G17 (by have h9 := ti_rng x44_4; omega) hI18 (gu_un.tr gu_un.rf (gu_un.su hU19 rfl))
          · refine g_aload_n F 0 dX4_extendRow_72 rfl rfl ?_
            refine xg_8_6 F i_X4 w_1 dX4_extendRow_73 ?_
            refine g_iload_n F 1 dX4_extendRow_76 rfl rfl ?_
            refine g_iload F 4 dX4_extendRow_77 rfl ?_
            refine u_iast F 66 0 xc_66 rfl 4 rfl (by decide) (by decide) (xW K a (gu_up G17 66 4 x44_4)) (xs_66 _) dX4_extendRow_79 ?_
            refine g_iload_n F 3 dX4_extendRow_80 rfl rfl ?_
            refine g_aload_n F 0 dX4_extendRow_81 rfl rfl ?_
            refine xg_8_1 F i_X4 w_2 dX4_extendRow_82 ?_
            refine xg_6_15 F i_X5 w_3 dX4_extendRow_85 (G17 6 15) (rfl) ?_
            refine u0_iadd F dX4_extendRow_88 (fun y23 => ?_)
            refine g_istore F [(5, .int y23), (0, .ref (a 8)), (1, .int 4), (2, .int p1), (3, .int p2), (4, .int x44_4)] dX4_extendRow_89 (by decide) rfl ?_
            refine g_aload_n F 1 dX4_extendRow_91 rfl rfl ?_
            refine xg_8_9 F i_X4 w_4 dX4_extendRow_92 (Gj44 8 9) (hU19 8 9 (by decide)) ?_
            refine g_iconst F (-1) dX4_extendRow_95 (by decide) ?_
            refine v_icmp_eq F 108 dX4_extendRow_96 (by decide) (Gj44 8 9).toInt (-1) rfl rfl (fun c24 => ?_) (fun c24 => ?_)
            · refine g_locals [(0, .ref (a 8)), (1, .int 4), (2, .int p1), (3, .int p2), (4, .int x44_4), (5, .int y23)] [1, 2, 3, 4, 5, 0] rfl ?_
              exact J_108 y23 (gu_up G17 66 4 x44_4) (by have h9 := ti_rng x44_4; omega) (gu_I.up (j := 66) (k := 4) (v := x44_4) hI18 (ti_rng _).1 (ti_rng _).2) (gu_un.up (j := 66) (k := 4) (v := x44_4) (gu_un.tr gu_un.rf (gu_un.su hU19 rfl)) (show (6600 : Nat) ∈ ([602, 603, 604, 605, 608, 613, 614, 615, 616, 617, 618, 619, 620, 2100, 2400, 2700, 4400, 4500, 4600, 4700, 4800, 6400, 6500, 6600] : List Nat) by decide))
            · refine g_iload F 0 dX4_extendRow_99 rfl ?_
              refine g_aload_n F 1 dX4_extendRow_101 rfl rfl ?_
              refine xg_8_9 F i_X4 w_4 dX4_extendRow_102 (Gj44 8 9) (hU19 8 9 (by decide)) ?_
              have b25 := ti_rng y23
              have b26 := ti_rng (Gj44 8 9)
              refine v_icmp_ge F 123 dX4_extendRow_105 (by decide) y23.toInt (Gj44 8 9).toInt rfl rfl (fun c27 => ?_) (fun c27 => ?_)
              · refine g_locals [(0, .ref (a 8)), (1, .int 4), (2, .int p1), (3, .int p2), (4, .int x44_4)] [1, 2, 3, 4, 5] rfl ?_
                exact J_123 (gu_up G17 66 4 x44_4) (by have h9 := ti_rng x44_4; omega) (gu_I.up (j := 66) (k := 4) (v := x44_4) hI18 (ti_rng _).1 (ti_rng _).2) (gu_un.up (j := 66) (k := 4) (v := x44_4) (gu_un.tr gu_un.rf (gu_un.su hU19 rfl)) (show (6600 : Nat) ∈ ([602, 603, 604, 605, 608, 613, 614, 615, 616, 617, 618, 619, 620, 809, 810, 2100, 2400, 2700, 4400, 4500, 4600, 4700, 4800, 6400, 6500, 6600, 6700] : List Nat) by decide))
              · refine g_locals [(0, .ref (a 8)), (1, .int 4), (2, .int p1), (3, .int p2), (4, .int x44_4), (5, .int y23)] [1, 2, 3, 4, 5, 0] rfl ?_
                exact J_108 y23 (gu_up G17 66 4 x44_4) (by have h9 := ti_rng x44_4; omega) (gu_I.up (j := 66) (k := 4) (v := x44_4) hI18 (ti_rng _).1 (ti_rng _).2) (gu_un.up (j := 66) (k := 4) (v := x44_4) (gu_un.tr gu_un.rf (gu_un.su hU19 rfl)) (show (6600 : Nat) ∈ ([602, 603, 604, 605, 608, 613, 614, 615, 616, 617, 618, 619, 620, 2100, 2400, 2700, 4400, 4500, 4600, 4700, 4800, 6400, 6500, 6600] : List Nat) by decide))
  have J_13 : ∀ (_ : Unit), gG p l e (gR 6 0 0 170) s m args below meth c D A 6 Q 0 0 (xW K a G) (tK K) [(0, .ref (a 8)), (3, .int p2)] 13 [] := by
    intro _ 
    refine g_aload_n F 0 dX4_extendRow_13 rfl rfl ?_
    refine g_iload_n F 1 dX4_extendRow_14 rfl rfl ?_
    refine xp_8_9 F i_X4 w_4 dX4_extendRow_15 ?_
    refine g_aload_n F 0 dX4_extendRow_18 rfl rfl ?_
    refine g_aload_n F 0 dX4_extendRow_19 rfl rfl ?_
    refine xg_8_3 F i_X4 w_0 dX4_extendRow_20 (G 8 3) (rfl) ?_
    have b28 : (0 : Int) ≤ (G 8 3).toInt ∧ (G 8 3).toInt ≤ 5 := hI 8 3
    refine xp_8_8 F i_X4 w_5 dX4_extendRow_23 ?_
    refine g_aload_n F 0 dX4_extendRow_26 rfl rfl ?_
    refine xg_8_6 F i_X4 w_1 dX4_extendRow_27 ?_
    refine g_iconst F 0 dX4_extendRow_30 (by decide) ?_
    refine g_aload_n F 0 dX4_extendRow_31 rfl rfl ?_
    refine xg_8_7 F i_X4 w_6 dX4_extendRow_32 ?_
    refine g_iconst F 0 dX4_extendRow_35 (by decide) ?_
    refine g_iconst F 5 dX4_extendRow_36 (by decide) ?_
    refine u_copyi F w_7 w_8 w_9 w_10 66 67 0 xc_66 xc_67 rfl 0 0 5 rfl rfl rfl (by decide) (by decide) (by decide) (by decide) (by decide) (Nat.le_of_ble_eq_true rfl) (Nat.le_of_ble_eq_true rfl) (xW K a (gu_st (gu_up (gu_up G 8 9 p2) 8 8 (G 8 3)) 67 (va_cpy ((gu_up (gu_up G 8 9 p2) 8 8 (G 8 3)) 66) ((gu_up (gu_up G 8 9 p2) 8 8 (G 8 3)) 67) 0 0 5))) (xs_67 _) dX4_extendRow_37 ?_
    exact u_vret F hA hQ hr (gu_st (gu_up (gu_up G 8 9 p2) 8 8 (G 8 3)) 67 (va_cpy ((gu_up (gu_up G 8 9 p2) 8 8 (G 8 3)) 66) ((gu_up (gu_up G 8 9 p2) 8 8 (G 8 3)) 67) 0 0 5)) (⟨(gu_I.sw (j := 67) (f := (va_cpy ((gu_up (gu_up G 8 9 p2) 8 8 (G 8 3)) 66) ((gu_up (gu_up G 8 9 p2) 8 8 (G 8 3)) 67) 0 0 5)) (gu_I.up (j := 8) (k := 8) (v := (G 8 3)) (gu_I.up (j := 8) (k := 9) (v := p2) hI (ti_rng _).1 (ti_rng _).2) (show (0 : Int) ≤ Int32.toInt (G 8 3) by omega) (show Int32.toInt (G 8 3) ≤ 5 by omega)) (fun _ => ti_rng _)), (gu_un.sw (j := 67) (f := (va_cpy ((gu_up (gu_up G 8 9 p2) 8 8 (G 8 3)) 66) ((gu_up (gu_up G 8 9 p2) 8 8 (G 8 3)) 67) 0 0 5)) (gu_un.up (j := 8) (k := 8) (v := (G 8 3)) (gu_un.up (j := 8) (k := 9) (v := p2) gu_un.rf (show (810 : Nat) ∈ ([602, 603, 604, 605, 608, 613, 614, 615, 616, 617, 618, 619, 620, 809, 810, 2100, 2400, 2700, 4400, 4500, 4600, 4700, 4800, 6400, 6500, 6600, 6700] : List Nat) by decide)) (show (809 : Nat) ∈ ([602, 603, 604, 605, 608, 613, 614, 615, 616, 617, 618, 619, 620, 809, 810, 2100, 2400, 2700, 4400, 4500, 4600, 4700, 4800, 6400, 6500, 6600, 6700] : List Nat) by decide)) (fun _ => show (6700 : Nat) ∈ ([602, 603, 604, 605, 608, 613, 614, 615, 616, 617, 618, 619, 620, 809, 810, 2100, 2400, 2700, 4400, 4500, 4600, 4700, 4800, 6400, 6500, 6600, 6700] : List Nat) by decide))⟩) rfl rfl dX4_extendRow_40
  refine g_iload_n F 1 dX4_extendRow_0 rfl rfl ?_
  refine g_aload_n F 0 dX4_extendRow_1 rfl rfl ?_
  refine xg_8_3 F i_X4 w_0 dX4_extendRow_2 (G 8 3) (rfl) ?_
  have b29 : (0 : Int) ≤ (G 8 3).toInt ∧ (G 8 3).toInt ≤ 5 := hI 8 3
  refine v_icmp_ge F 13 dX4_extendRow_5 (by decide) 4 (G 8 3).toInt rfl rfl (fun c30 => ?_) (fun c30 => ?_)
  · refine g_locals [(0, .ref (a 8)), (3, .int p2)] [0, 3] rfl ?_
    exact J_13 () 
  · refine g_iload_n F 1 dX4_extendRow_8 rfl rfl ?_
    refine g_iconst F 5 dX4_extendRow_9 (by decide) ?_
    refine v_icmp_lt F 41 dX4_extendRow_10 (by decide) 4 5 rfl rfl (fun c31 => ?_) (fun c31 => absurd c31 (by decide))
    refine g_iconst F 0 dX4_extendRow_41 (by decide) ?_
    refine g_istore F [(4, .int 0), (0, .ref (a 8)), (1, .int 4), (2, .int p1), (3, .int p2)] dX4_extendRow_42 (by decide) rfl ?_
    refine g_locals [(0, .ref (a 8)), (1, .int 4), (2, .int p1), (3, .int p2), (4, .int 0)] [1, 2, 3, 4, 0] rfl ?_
    exact J_44 _ 0 G (Nat.lt_succ_self _) (by decide) hI gu_un.rf


set_option maxHeartbeats 4000000 in
set_option maxRecDepth 100000 in
theorem S_X4_extendRow_v3 (l : Launch) (D : va_G) (K : Nat → ClassId) (a : Nat → Nat) (G : gS) (p1 : Int32) (s1 : Int) (p2 : Int32) (s2 : Int) (e1 : p1.toInt = s1) (e2 : p2.toInt = s2) (hI : xI G) (sz : Nat) : Kv l yX4_extendRow wsX4_extendRow 7 195 0 0 D [.ref (a 8), .int 3, .int p1, .int p2] (xW K a G) (tK K) sz (fun (G' : gS) => (xI G') ∧ (gu_un xcd [602, 603, 604, 605, 608, 613, 614, 615, 616, 617, 618, 619, 620, 809, 810, 2100, 2400, 2700, 4400, 4500, 4600, 4700, 4800, 6300, 6400, 6500, 6600, 6700] G G')) (fun (G' : gS) => (xW K a G')) (fun _ => (tK K)) := by
  unfold Kv
  refine g_ofW (cc := cX4_extendRow) (lv := [(0, .ref (a 8)), (1, .int 3), (2, .int p1), (3, .int p2)]) (by decide) rfl (Nat.le_of_ble_eq_true rfl) rfl ?_
  intro p e s m args below meth c A Q hA hQ F hr hnm
  have hts := F.2.2.2.2.1
  have w_0 : (Cond.fieldLink RX4 37 "QuietCut$Jobs" "many" "I").before args s = true := hts _ (List.mem_of_getElem? (i := 1) rfl)
  have i_X4 : ∀ w ∈ u_ws RX4 TX4 12, w ∈ wsX4_extendRow := fun _ h => List.mem_cons_of_mem _ (List.mem_append_left _ (List.mem_append_left _ (List.mem_append_left _ (List.mem_append_right _ h))))
  have w_1 : (Cond.fieldLink RX4 23 "QuietCut$Jobs" "row" "[I").before args s = true := hts _ (List.mem_of_getElem? (i := 4) rfl)
  have w_2 : (Cond.fieldLink RX4 33 "QuietCut$Jobs" "lathe" "LQuietCut$Lathe;").before args s = true := hts _ (List.mem_of_getElem? (i := 10) rfl)
  have w_3 : (Cond.fieldLink RX4 77 "QuietCut$Lathe" "wave" "I").before args s = true := hts _ (List.mem_of_getElem? (i := 11) rfl)
  have i_X5 : ∀ w ∈ u_ws RX5 TX5 20, w ∈ wsX4_extendRow := fun _ h => List.mem_cons_of_mem _ (List.mem_append_left _ (List.mem_append_left _ (List.mem_append_right _ h)))
  have w_4 : (Cond.fieldLink RX4 50 "QuietCut$Jobs" "leastSum" "I").before args s = true := hts _ (List.mem_of_getElem? (i := 2) rfl)
  have w_5 : (Cond.fieldLink RX4 41 "QuietCut$Jobs" "bestMany" "I").before args s = true := hts _ (List.mem_of_getElem? (i := 3) rfl)
  have w_6 : (Cond.fieldLink RX4 26 "QuietCut$Jobs" "bestRow" "[I").before args s = true := hts _ (List.mem_of_getElem? (i := 5) rfl)
  have w_7 : (Cond.methodLink RX4 64 arraycopyName).before args s = true := hts _ (List.mem_of_getElem? (i := 6) rfl)
  have w_8 : (Cond.native arraycopyName).before args s = true := hts _ (List.mem_of_getElem? (i := 7) rfl)
  have w_9 : (Cond.static arraycopyName).before args s = true := hts _ (List.mem_of_getElem? (i := 8) rfl)
  have w_10 : (Cond.initialized "java/lang/System").before args s = true := hts _ (List.mem_of_getElem? (i := 9) rfl)
  have rg1 : -2147483648 ≤ s1 ∧ s1 ≤ 2147483647 := e1 ▸ ti_rng p1
  have rg2 : -2147483648 ≤ s2 ∧ s2 ≤ 2147483647 := e2 ▸ ti_rng p2
  have J_44 : ∀ (fuel : Nat) (x44_4 : Int32) (Gj44 : gS), (2147483647 - x44_4.toInt).toNat < fuel → (0 ≤ x44_4.toInt ∧ x44_4.toInt ≤ 5) → (xI Gj44) → (gu_un xcd [602, 603, 604, 605, 608, 613, 614, 615, 616, 617, 618, 619, 620, 809, 810, 2100, 2400, 2700, 4400, 4500, 4600, 4700, 4800, 6300, 6400, 6500, 6600, 6700] G Gj44) → gG p l e (gR 7 0 0 195) s m args below meth c D A 6 Q 0 0 (xW K a Gj44) (tK K) [(0, .ref (a 8)), (1, .int 3), (2, .int p1), (3, .int p2), (4, .int x44_4)] 44 [] := by
    intro fuel
    induction fuel with
    | zero => intro x44_4 Gj44 hm; exact absurd hm (Nat.not_lt_zero _)
    | succ fuel_44 ih_44 =>
      intro x44_4 Gj44 hm_44 h44_4 jI44 jU44
      have J_123 : ∀  (Gj123 : gS), (0 ≤ x44_4.toInt ∧ x44_4.toInt ≤ 4) → (xI Gj123) → (gu_un xcd [602, 603, 604, 605, 608, 613, 614, 615, 616, 617, 618, 619, 620, 809, 810, 2100, 2400, 2700, 4400, 4500, 4600, 4700, 4800, 6300, 6400, 6500, 6600, 6700] Gj44 Gj123) → gG p l e (gR 7 0 0 195) s m args below meth c D A 6 Q 0 0 (xW K a Gj123) (tK K) [(0, .ref (a 8)), (1, .int 3), (2, .int p1), (3, .int p2), (4, .int x44_4)] 123 [] := by
        intro Gj123 k123_4 jI123 jU123
        refine u_iinc F (fun v_ => [(4, .int v_), (0, .ref (a 8)), (1, .int 3), (2, .int p1), (3, .int p2)]) dX4_extendRow_123 (j := 4) rfl x44_4.toInt 1 rfl rfl (by omega) (by omega) (by decide) (fun _ => rfl) (fun y1 ey1 => ?_)
        refine g_goto F 44 dX4_extendRow_126 (by decide) ?_
        refine g_locals [(0, .ref (a 8)), (1, .int 3), (2, .int p1), (3, .int p2), (4, .int y1)] [1, 2, 3, 4, 0] rfl ?_
        exact ih_44 y1 Gj123 (by omega) (by have h9 := ti_rng y1; omega) jI123 (gu_un.tr (gu_un.tr gu_un.rf (gu_un.su jU44 rfl)) (gu_un.su jU123 rfl))
      have J_108 : ∀  (x108_5 : Int32) (Gj108 : gS), (0 ≤ x44_4.toInt ∧ x44_4.toInt ≤ 4) → (xI Gj108) → (gu_un xcd [602, 603, 604, 605, 608, 613, 614, 615, 616, 617, 618, 619, 620, 2100, 2400, 2700, 4400, 4500, 4600, 4700, 4800, 6300, 6500, 6600] Gj44 Gj108) → gG p l e (gR 7 0 0 195) s m args below meth c D A 6 Q 0 0 (xW K a Gj108) (tK K) [(0, .ref (a 8)), (1, .int 3), (2, .int p1), (3, .int p2), (4, .int x44_4), (5, .int x108_5)] 108 [] := by
        intro x108_5 Gj108 k108_4 jI108 jU108
        refine g_aload_n F 0 dX4_extendRow_108 rfl rfl ?_
        refine g_iload_n F 1 dX4_extendRow_109 rfl rfl ?_
        refine g_iconst F 1 dX4_extendRow_110 (by decide) ?_
        refine g_iadd F dX4_extendRow_111 ?_
        refine g_fold 4 (by decide) ?_
        refine g_iload_n F 2 dX4_extendRow_112 rfl rfl ?_
        refine g_iconst F 1 dX4_extendRow_113 (by decide) ?_
        refine g_iload F 4 dX4_extendRow_114 rfl ?_
        refine u0_ishl F dX4_extendRow_116 (fun y2 => ?_)
        refine u0_ior F dX4_extendRow_117 (fun y3 => ?_)
        refine g_iload F 5 dX4_extendRow_118 rfl ?_
        refine u_callVv (k := 0) (n := 0) (b := a 8) (As := [.int 4, .int y3, .int x108_5]) (st := []) F (fun sz => S_X4_extendRow_v4 l D K a Gj108 y3 y3.toInt x108_5 x108_5.toInt rfl rfl jI108 sz) (cwV 3 hts gX4_extendRow_X4_extendRow rfl rfl rfl (by decide +kernel) ⟨Nat.le_of_ble_eq_true rfl, Nat.le_of_ble_eq_true rfl⟩) rfl 8 xc_8 rfl (Nat.le_of_ble_eq_true rfl) ⟨Nat.zero_le _, Nat.zero_le _⟩ dX4_extendRow_120 (fun G6 hw5 => ?_)
        have hI7 : xI G6 := hw5.1
        have hU8 : gu_un xcd [602, 603, 604, 605, 608, 613, 614, 615, 616, 617, 618, 619, 620, 809, 810, 2100, 2400, 2700, 4400, 4500, 4600, 4700, 4800, 6400, 6500, 6600, 6700] Gj108 G6 := hw5.2
        refine g_locals [(0, .ref (a 8)), (1, .int 3), (2, .int p1), (3, .int p2), (4, .int x44_4)] [0, 1, 2, 3, 4] rfl ?_
        exact J_123 G6 (by have h9 := ti_rng x44_4; omega) hI7 (gu_un.tr (gu_un.tr gu_un.rf (gu_un.su jU108 rfl)) (gu_un.su hU8 rfl))
      refine g_iload F 4 dX4_extendRow_44 rfl ?_
      refine g_aload_n F 0 dX4_extendRow_46 rfl rfl ?_
      refine xg_8_3 F i_X4 w_0 dX4_extendRow_47 (G 8 3) (jU44 8 3 (by decide)) ?_
      have b10 : (0 : Int) ≤ (G 8 3).toInt ∧ (G 8 3).toInt ≤ 5 := hI 8 3
      refine v_icmp_ge F 129 dX4_extendRow_50 (by decide) x44_4.toInt (G 8 3).toInt rfl rfl (fun c11 => ?_) (fun c11 => ?_)
      · exact u_vret F hA hQ hr Gj44 (⟨jI44, (gu_un.tr gu_un.rf (gu_un.su jU44 rfl))⟩) rfl rfl dX4_extendRow_129
      · refine g_iload_n F 2 dX4_extendRow_53 rfl rfl ?_
        refine g_iload F 4 dX4_extendRow_54 rfl ?_
        refine u0_ishr F dX4_extendRow_56 (fun y12 => ?_)
        refine g_iconst F 1 dX4_extendRow_57 (by decide) ?_
        refine u_iand F dX4_extendRow_58 _ 1 rfl rfl (by omega) (fun y13 ey13 => ?_)
        refine v_if_ne F 123 dX4_extendRow_59 (by decide) y13.toInt rfl (fun c14 => ?_) (fun c14 => ?_)
        · exact J_123 Gj44 (by have h9 := ti_rng x44_4; omega) jI44 gu_un.rf
        · refine g_aload_n F 0 dX4_extendRow_62 rfl rfl ?_
          refine g_iload F 4 dX4_extendRow_63 rfl ?_
          refine g_iload_n F 1 dX4_extendRow_65 rfl rfl ?_
          refine u_callVi (k := 0) (n := 0) (b := a 8) (As := [.int x44_4, .int 3]) (st := []) F (fun sz => S_X4_staysQuiet_v3 l D K a Gj44 x44_4 x44_4.toInt rfl (by omega) jI44 sz) (cwV 2 hts gX4_extendRow_X4_staysQuiet rfl rfl rfl (by decide +kernel) ⟨Nat.le_of_ble_eq_true rfl, Nat.le_of_ble_eq_true rfl⟩) rfl 8 xc_8 rfl (Nat.le_of_ble_eq_true rfl) ⟨Nat.zero_le _, Nat.zero_le _⟩ dX4_extendRow_66 (fun r15 G17 hw16 => ?_)
          have hI18 : xI G17 := hw16.1
          have hU19 : gu_un xcd [602, 603, 604, 605, 608, 613, 614, 615, 616, 617, 618, 619, 620, 2100, 2400, 2700, 4400, 4500, 4600, 4700, 4800, 6300, 6500] Gj44 G17 := hw16.2.1
          have hp20 := hw16.2.2
          have rg21 := hp20
          clear hp20 hw16
          refine v_if_eq F 123 dX4_extendRow_69 (by decide) r15.toInt rfl (fun c22 => ?_) (fun c22 => ?_)
          · exact J_123 G17 (by have h9 := ti_rng x44_4; omega) hI18 (gu_un.tr gu_un.rf (gu_un.su hU19 rfl))
          · refine g_aload_n F 0 dX4_extendRow_72 rfl rfl ?_
            refine xg_8_6 F i_X4 w_1 dX4_extendRow_73 ?_
            refine g_iload_n F 1 dX4_extendRow_76 rfl rfl ?_
            refine g_iload F 4 dX4_extendRow_77 rfl ?_
            refine u_iast F 66 0 xc_66 rfl 3 rfl (by decide) (by decide) (xW K a (gu_up G17 66 3 x44_4)) (xs_66 _) dX4_extendRow_79 ?_
            refine g_iload_n F 3 dX4_extendRow_80 rfl rfl ?_
            refine g_aload_n F 0 dX4_extendRow_81 rfl rfl ?_
            refine xg_8_1 F i_X4 w_2 dX4_extendRow_82 ?_
            refine xg_6_15 F i_X5 w_3 dX4_extendRow_85 (G17 6 15) (rfl) ?_
            refine u0_iadd F dX4_extendRow_88 (fun y23 => ?_)
            refine g_istore F [(5, .int y23), (0, .ref (a 8)), (1, .int 3), (2, .int p1), (3, .int p2), (4, .int x44_4)] dX4_extendRow_89 (by decide) rfl ?_
            refine g_aload_n F 1 dX4_extendRow_91 rfl rfl ?_
            refine xg_8_9 F i_X4 w_4 dX4_extendRow_92 (Gj44 8 9) (hU19 8 9 (by decide)) ?_
            refine g_iconst F (-1) dX4_extendRow_95 (by decide) ?_
            refine v_icmp_eq F 108 dX4_extendRow_96 (by decide) (Gj44 8 9).toInt (-1) rfl rfl (fun c24 => ?_) (fun c24 => ?_)
            · refine g_locals [(0, .ref (a 8)), (1, .int 3), (2, .int p1), (3, .int p2), (4, .int x44_4), (5, .int y23)] [1, 2, 3, 4, 5, 0] rfl ?_
              exact J_108 y23 (gu_up G17 66 3 x44_4) (by have h9 := ti_rng x44_4; omega) (gu_I.up (j := 66) (k := 3) (v := x44_4) hI18 (ti_rng _).1 (ti_rng _).2) (gu_un.up (j := 66) (k := 3) (v := x44_4) (gu_un.tr gu_un.rf (gu_un.su hU19 rfl)) (show (6600 : Nat) ∈ ([602, 603, 604, 605, 608, 613, 614, 615, 616, 617, 618, 619, 620, 2100, 2400, 2700, 4400, 4500, 4600, 4700, 4800, 6300, 6500, 6600] : List Nat) by decide))
            · refine g_iload F 0 dX4_extendRow_99 rfl ?_
              refine g_aload_n F 1 dX4_extendRow_101 rfl rfl ?_
              refine xg_8_9 F i_X4 w_4 dX4_extendRow_102 (Gj44 8 9) (hU19 8 9 (by decide)) ?_
              have b25 := ti_rng y23
              have b26 := ti_rng (Gj44 8 9)
              refine v_icmp_ge F 123 dX4_extendRow_105 (by decide) y23.toInt (Gj44 8 9).toInt rfl rfl (fun c27 => ?_) (fun c27 => ?_)
              · refine g_locals [(0, .ref (a 8)), (1, .int 3), (2, .int p1), (3, .int p2), (4, .int x44_4)] [1, 2, 3, 4, 5] rfl ?_
                exact J_123 (gu_up G17 66 3 x44_4) (by have h9 := ti_rng x44_4; omega) (gu_I.up (j := 66) (k := 3) (v := x44_4) hI18 (ti_rng _).1 (ti_rng _).2) (gu_un.up (j := 66) (k := 3) (v := x44_4) (gu_un.tr gu_un.rf (gu_un.su hU19 rfl)) (show (6600 : Nat) ∈ ([602, 603, 604, 605, 608, 613, 614, 615, 616, 617, 618, 619, 620, 809, 810, 2100, 2400, 2700, 4400, 4500, 4600, 4700, 4800, 6300, 6400, 6500, 6600, 6700] : List Nat) by decide))
              · refine g_locals [(0, .ref (a 8)), (1, .int 3), (2, .int p1), (3, .int p2), (4, .int x44_4), (5, .int y23)] [1, 2, 3, 4, 5, 0] rfl ?_
                exact J_108 y23 (gu_up G17 66 3 x44_4) (by have h9 := ti_rng x44_4; omega) (gu_I.up (j := 66) (k := 3) (v := x44_4) hI18 (ti_rng _).1 (ti_rng _).2) (gu_un.up (j := 66) (k := 3) (v := x44_4) (gu_un.tr gu_un.rf (gu_un.su hU19 rfl)) (show (6600 : Nat) ∈ ([602, 603, 604, 605, 608, 613, 614, 615, 616, 617, 618, 619, 620, 2100, 2400, 2700, 4400, 4500, 4600, 4700, 4800, 6300, 6500, 6600] : List Nat) by decide))
  have J_13 : ∀ (_ : Unit), gG p l e (gR 7 0 0 195) s m args below meth c D A 6 Q 0 0 (xW K a G) (tK K) [(0, .ref (a 8)), (3, .int p2)] 13 [] := by
    intro _ 
    refine g_aload_n F 0 dX4_extendRow_13 rfl rfl ?_
    refine g_iload_n F 1 dX4_extendRow_14 rfl rfl ?_
    refine xp_8_9 F i_X4 w_4 dX4_extendRow_15 ?_
    refine g_aload_n F 0 dX4_extendRow_18 rfl rfl ?_
    refine g_aload_n F 0 dX4_extendRow_19 rfl rfl ?_
    refine xg_8_3 F i_X4 w_0 dX4_extendRow_20 (G 8 3) (rfl) ?_
    have b28 : (0 : Int) ≤ (G 8 3).toInt ∧ (G 8 3).toInt ≤ 5 := hI 8 3
    refine xp_8_8 F i_X4 w_5 dX4_extendRow_23 ?_
    refine g_aload_n F 0 dX4_extendRow_26 rfl rfl ?_
    refine xg_8_6 F i_X4 w_1 dX4_extendRow_27 ?_
    refine g_iconst F 0 dX4_extendRow_30 (by decide) ?_
    refine g_aload_n F 0 dX4_extendRow_31 rfl rfl ?_
    refine xg_8_7 F i_X4 w_6 dX4_extendRow_32 ?_
    refine g_iconst F 0 dX4_extendRow_35 (by decide) ?_
    refine g_iconst F 5 dX4_extendRow_36 (by decide) ?_
    refine u_copyi F w_7 w_8 w_9 w_10 66 67 0 xc_66 xc_67 rfl 0 0 5 rfl rfl rfl (by decide) (by decide) (by decide) (by decide) (by decide) (Nat.le_of_ble_eq_true rfl) (Nat.le_of_ble_eq_true rfl) (xW K a (gu_st (gu_up (gu_up G 8 9 p2) 8 8 (G 8 3)) 67 (va_cpy ((gu_up (gu_up G 8 9 p2) 8 8 (G 8 3)) 66) ((gu_up (gu_up G 8 9 p2) 8 8 (G 8 3)) 67) 0 0 5))) (xs_67 _) dX4_extendRow_37 ?_
    exact u_vret F hA hQ hr (gu_st (gu_up (gu_up G 8 9 p2) 8 8 (G 8 3)) 67 (va_cpy ((gu_up (gu_up G 8 9 p2) 8 8 (G 8 3)) 66) ((gu_up (gu_up G 8 9 p2) 8 8 (G 8 3)) 67) 0 0 5)) (⟨(gu_I.sw (j := 67) (f := (va_cpy ((gu_up (gu_up G 8 9 p2) 8 8 (G 8 3)) 66) ((gu_up (gu_up G 8 9 p2) 8 8 (G 8 3)) 67) 0 0 5)) (gu_I.up (j := 8) (k := 8) (v := (G 8 3)) (gu_I.up (j := 8) (k := 9) (v := p2) hI (ti_rng _).1 (ti_rng _).2) (show (0 : Int) ≤ Int32.toInt (G 8 3) by omega) (show Int32.toInt (G 8 3) ≤ 5 by omega)) (fun _ => ti_rng _)), (gu_un.sw (j := 67) (f := (va_cpy ((gu_up (gu_up G 8 9 p2) 8 8 (G 8 3)) 66) ((gu_up (gu_up G 8 9 p2) 8 8 (G 8 3)) 67) 0 0 5)) (gu_un.up (j := 8) (k := 8) (v := (G 8 3)) (gu_un.up (j := 8) (k := 9) (v := p2) gu_un.rf (show (810 : Nat) ∈ ([602, 603, 604, 605, 608, 613, 614, 615, 616, 617, 618, 619, 620, 809, 810, 2100, 2400, 2700, 4400, 4500, 4600, 4700, 4800, 6300, 6400, 6500, 6600, 6700] : List Nat) by decide)) (show (809 : Nat) ∈ ([602, 603, 604, 605, 608, 613, 614, 615, 616, 617, 618, 619, 620, 809, 810, 2100, 2400, 2700, 4400, 4500, 4600, 4700, 4800, 6300, 6400, 6500, 6600, 6700] : List Nat) by decide)) (fun _ => show (6700 : Nat) ∈ ([602, 603, 604, 605, 608, 613, 614, 615, 616, 617, 618, 619, 620, 809, 810, 2100, 2400, 2700, 4400, 4500, 4600, 4700, 4800, 6300, 6400, 6500, 6600, 6700] : List Nat) by decide))⟩) rfl rfl dX4_extendRow_40
  refine g_iload_n F 1 dX4_extendRow_0 rfl rfl ?_
  refine g_aload_n F 0 dX4_extendRow_1 rfl rfl ?_
  refine xg_8_3 F i_X4 w_0 dX4_extendRow_2 (G 8 3) (rfl) ?_
  have b29 : (0 : Int) ≤ (G 8 3).toInt ∧ (G 8 3).toInt ≤ 5 := hI 8 3
  refine v_icmp_ge F 13 dX4_extendRow_5 (by decide) 3 (G 8 3).toInt rfl rfl (fun c30 => ?_) (fun c30 => ?_)
  · refine g_locals [(0, .ref (a 8)), (3, .int p2)] [0, 3] rfl ?_
    exact J_13 () 
  · refine g_iload_n F 1 dX4_extendRow_8 rfl rfl ?_
    refine g_iconst F 5 dX4_extendRow_9 (by decide) ?_
    refine v_icmp_lt F 41 dX4_extendRow_10 (by decide) 3 5 rfl rfl (fun c31 => ?_) (fun c31 => absurd c31 (by decide))
    refine g_iconst F 0 dX4_extendRow_41 (by decide) ?_
    refine g_istore F [(4, .int 0), (0, .ref (a 8)), (1, .int 3), (2, .int p1), (3, .int p2)] dX4_extendRow_42 (by decide) rfl ?_
    refine g_locals [(0, .ref (a 8)), (1, .int 3), (2, .int p1), (3, .int p2), (4, .int 0)] [1, 2, 3, 4, 0] rfl ?_
    exact J_44 _ 0 G (Nat.lt_succ_self _) (by decide) hI gu_un.rf


set_option maxHeartbeats 4000000 in
set_option maxRecDepth 100000 in
theorem S_X4_extendRow_v2 (l : Launch) (D : va_G) (K : Nat → ClassId) (a : Nat → Nat) (G : gS) (p1 : Int32) (s1 : Int) (p2 : Int32) (s2 : Int) (e1 : p1.toInt = s1) (e2 : p2.toInt = s2) (hI : xI G) (sz : Nat) : Kv l yX4_extendRow wsX4_extendRow 8 220 0 0 D [.ref (a 8), .int 2, .int p1, .int p2] (xW K a G) (tK K) sz (fun (G' : gS) => (xI G') ∧ (gu_un xcd [602, 603, 604, 605, 608, 613, 614, 615, 616, 617, 618, 619, 620, 809, 810, 2100, 2400, 2700, 4400, 4500, 4600, 4700, 4800, 6200, 6300, 6400, 6500, 6600, 6700] G G')) (fun (G' : gS) => (xW K a G')) (fun _ => (tK K)) := by
  unfold Kv
  refine g_ofW (cc := cX4_extendRow) (lv := [(0, .ref (a 8)), (1, .int 2), (2, .int p1), (3, .int p2)]) (by decide) rfl (Nat.le_of_ble_eq_true rfl) rfl ?_
  intro p e s m args below meth c A Q hA hQ F hr hnm
  have hts := F.2.2.2.2.1
  have w_0 : (Cond.fieldLink RX4 37 "QuietCut$Jobs" "many" "I").before args s = true := hts _ (List.mem_of_getElem? (i := 1) rfl)
  have i_X4 : ∀ w ∈ u_ws RX4 TX4 12, w ∈ wsX4_extendRow := fun _ h => List.mem_cons_of_mem _ (List.mem_append_left _ (List.mem_append_left _ (List.mem_append_left _ (List.mem_append_right _ h))))
  have w_1 : (Cond.fieldLink RX4 23 "QuietCut$Jobs" "row" "[I").before args s = true := hts _ (List.mem_of_getElem? (i := 4) rfl)
  have w_2 : (Cond.fieldLink RX4 33 "QuietCut$Jobs" "lathe" "LQuietCut$Lathe;").before args s = true := hts _ (List.mem_of_getElem? (i := 10) rfl)
  have w_3 : (Cond.fieldLink RX4 77 "QuietCut$Lathe" "wave" "I").before args s = true := hts _ (List.mem_of_getElem? (i := 11) rfl)
  have i_X5 : ∀ w ∈ u_ws RX5 TX5 20, w ∈ wsX4_extendRow := fun _ h => List.mem_cons_of_mem _ (List.mem_append_left _ (List.mem_append_left _ (List.mem_append_right _ h)))
  have w_4 : (Cond.fieldLink RX4 50 "QuietCut$Jobs" "leastSum" "I").before args s = true := hts _ (List.mem_of_getElem? (i := 2) rfl)
  have w_5 : (Cond.fieldLink RX4 41 "QuietCut$Jobs" "bestMany" "I").before args s = true := hts _ (List.mem_of_getElem? (i := 3) rfl)
  have w_6 : (Cond.fieldLink RX4 26 "QuietCut$Jobs" "bestRow" "[I").before args s = true := hts _ (List.mem_of_getElem? (i := 5) rfl)
  have w_7 : (Cond.methodLink RX4 64 arraycopyName).before args s = true := hts _ (List.mem_of_getElem? (i := 6) rfl)
  have w_8 : (Cond.native arraycopyName).before args s = true := hts _ (List.mem_of_getElem? (i := 7) rfl)
  have w_9 : (Cond.static arraycopyName).before args s = true := hts _ (List.mem_of_getElem? (i := 8) rfl)
  have w_10 : (Cond.initialized "java/lang/System").before args s = true := hts _ (List.mem_of_getElem? (i := 9) rfl)
  have rg1 : -2147483648 ≤ s1 ∧ s1 ≤ 2147483647 := e1 ▸ ti_rng p1
  have rg2 : -2147483648 ≤ s2 ∧ s2 ≤ 2147483647 := e2 ▸ ti_rng p2
  have J_44 : ∀ (fuel : Nat) (x44_4 : Int32) (Gj44 : gS), (2147483647 - x44_4.toInt).toNat < fuel → (0 ≤ x44_4.toInt ∧ x44_4.toInt ≤ 5) → (xI Gj44) → (gu_un xcd [602, 603, 604, 605, 608, 613, 614, 615, 616, 617, 618, 619, 620, 809, 810, 2100, 2400, 2700, 4400, 4500, 4600, 4700, 4800, 6200, 6300, 6400, 6500, 6600, 6700] G Gj44) → gG p l e (gR 8 0 0 220) s m args below meth c D A 6 Q 0 0 (xW K a Gj44) (tK K) [(0, .ref (a 8)), (1, .int 2), (2, .int p1), (3, .int p2), (4, .int x44_4)] 44 [] := by
    intro fuel
    induction fuel with
    | zero => intro x44_4 Gj44 hm; exact absurd hm (Nat.not_lt_zero _)
    | succ fuel_44 ih_44 =>
      intro x44_4 Gj44 hm_44 h44_4 jI44 jU44
      have J_123 : ∀  (Gj123 : gS), (0 ≤ x44_4.toInt ∧ x44_4.toInt ≤ 4) → (xI Gj123) → (gu_un xcd [602, 603, 604, 605, 608, 613, 614, 615, 616, 617, 618, 619, 620, 809, 810, 2100, 2400, 2700, 4400, 4500, 4600, 4700, 4800, 6200, 6300, 6400, 6500, 6600, 6700] Gj44 Gj123) → gG p l e (gR 8 0 0 220) s m args below meth c D A 6 Q 0 0 (xW K a Gj123) (tK K) [(0, .ref (a 8)), (1, .int 2), (2, .int p1), (3, .int p2), (4, .int x44_4)] 123 [] := by
        intro Gj123 k123_4 jI123 jU123
        refine u_iinc F (fun v_ => [(4, .int v_), (0, .ref (a 8)), (1, .int 2), (2, .int p1), (3, .int p2)]) dX4_extendRow_123 (j := 4) rfl x44_4.toInt 1 rfl rfl (by omega) (by omega) (by decide) (fun _ => rfl) (fun y1 ey1 => ?_)
        refine g_goto F 44 dX4_extendRow_126 (by decide) ?_
        refine g_locals [(0, .ref (a 8)), (1, .int 2), (2, .int p1), (3, .int p2), (4, .int y1)] [1, 2, 3, 4, 0] rfl ?_
        exact ih_44 y1 Gj123 (by omega) (by have h9 := ti_rng y1; omega) jI123 (gu_un.tr (gu_un.tr gu_un.rf (gu_un.su jU44 rfl)) (gu_un.su jU123 rfl))
      have J_108 : ∀  (x108_5 : Int32) (Gj108 : gS), (0 ≤ x44_4.toInt ∧ x44_4.toInt ≤ 4) → (xI Gj108) → (gu_un xcd [602, 603, 604, 605, 608, 613, 614, 615, 616, 617, 618, 619, 620, 2100, 2400, 2700, 4400, 4500, 4600, 4700, 4800, 6200, 6500, 6600] Gj44 Gj108) → gG p l e (gR 8 0 0 220) s m args below meth c D A 6 Q 0 0 (xW K a Gj108) (tK K) [(0, .ref (a 8)), (1, .int 2), (2, .int p1), (3, .int p2), (4, .int x44_4), (5, .int x108_5)] 108 [] := by
        intro x108_5 Gj108 k108_4 jI108 jU108
        refine g_aload_n F 0 dX4_extendRow_108 rfl rfl ?_
        refine g_iload_n F 1 dX4_extendRow_109 rfl rfl ?_
        refine g_iconst F 1 dX4_extendRow_110 (by decide) ?_
        refine g_iadd F dX4_extendRow_111 ?_
        refine g_fold 3 (by decide) ?_
        refine g_iload_n F 2 dX4_extendRow_112 rfl rfl ?_
        refine g_iconst F 1 dX4_extendRow_113 (by decide) ?_
        refine g_iload F 4 dX4_extendRow_114 rfl ?_
        refine u0_ishl F dX4_extendRow_116 (fun y2 => ?_)
        refine u0_ior F dX4_extendRow_117 (fun y3 => ?_)
        refine g_iload F 5 dX4_extendRow_118 rfl ?_
        refine u_callVv (k := 0) (n := 0) (b := a 8) (As := [.int 3, .int y3, .int x108_5]) (st := []) F (fun sz => S_X4_extendRow_v3 l D K a Gj108 y3 y3.toInt x108_5 x108_5.toInt rfl rfl jI108 sz) (cwV 3 hts gX4_extendRow_X4_extendRow rfl rfl rfl (by decide +kernel) ⟨Nat.le_of_ble_eq_true rfl, Nat.le_of_ble_eq_true rfl⟩) rfl 8 xc_8 rfl (Nat.le_of_ble_eq_true rfl) ⟨Nat.zero_le _, Nat.zero_le _⟩ dX4_extendRow_120 (fun G6 hw5 => ?_)
        have hI7 : xI G6 := hw5.1
        have hU8 : gu_un xcd [602, 603, 604, 605, 608, 613, 614, 615, 616, 617, 618, 619, 620, 809, 810, 2100, 2400, 2700, 4400, 4500, 4600, 4700, 4800, 6300, 6400, 6500, 6600, 6700] Gj108 G6 := hw5.2
        refine g_locals [(0, .ref (a 8)), (1, .int 2), (2, .int p1), (3, .int p2), (4, .int x44_4)] [0, 1, 2, 3, 4] rfl ?_
        exact J_123 G6 (by have h9 := ti_rng x44_4; omega) hI7 (gu_un.tr (gu_un.tr gu_un.rf (gu_un.su jU108 rfl)) (gu_un.su hU8 rfl))
      refine g_iload F 4 dX4_extendRow_44 rfl ?_
      refine g_aload_n F 0 dX4_extendRow_46 rfl rfl ?_
      refine xg_8_3 F i_X4 w_0 dX4_extendRow_47 (G 8 3) (jU44 8 3 (by decide)) ?_
      have b10 : (0 : Int) ≤ (G 8 3).toInt ∧ (G 8 3).toInt ≤ 5 := hI 8 3
      refine v_icmp_ge F 129 dX4_extendRow_50 (by decide) x44_4.toInt (G 8 3).toInt rfl rfl (fun c11 => ?_) (fun c11 => ?_)
      · exact u_vret F hA hQ hr Gj44 (⟨jI44, (gu_un.tr gu_un.rf (gu_un.su jU44 rfl))⟩) rfl rfl dX4_extendRow_129
      · refine g_iload_n F 2 dX4_extendRow_53 rfl rfl ?_
        refine g_iload F 4 dX4_extendRow_54 rfl ?_
        refine u0_ishr F dX4_extendRow_56 (fun y12 => ?_)
        refine g_iconst F 1 dX4_extendRow_57 (by decide) ?_
        refine u_iand F dX4_extendRow_58 _ 1 rfl rfl (by omega) (fun y13 ey13 => ?_)
        refine v_if_ne F 123 dX4_extendRow_59 (by decide) y13.toInt rfl (fun c14 => ?_) (fun c14 => ?_)
        · exact J_123 Gj44 (by have h9 := ti_rng x44_4; omega) jI44 gu_un.rf
        · refine g_aload_n F 0 dX4_extendRow_62 rfl rfl ?_
          refine g_iload F 4 dX4_extendRow_63 rfl ?_
          refine g_iload_n F 1 dX4_extendRow_65 rfl rfl ?_
          refine u_callVi (k := 0) (n := 0) (b := a 8) (As := [.int x44_4, .int 2]) (st := []) F (fun sz => S_X4_staysQuiet_v2 l D K a Gj44 x44_4 x44_4.toInt rfl (by omega) jI44 sz) (cwV 2 hts gX4_extendRow_X4_staysQuiet rfl rfl rfl (by decide +kernel) ⟨Nat.le_of_ble_eq_true rfl, Nat.le_of_ble_eq_true rfl⟩) rfl 8 xc_8 rfl (Nat.le_of_ble_eq_true rfl) ⟨Nat.zero_le _, Nat.zero_le _⟩ dX4_extendRow_66 (fun r15 G17 hw16 => ?_)
          have hI18 : xI G17 := hw16.1
          have hU19 : gu_un xcd [602, 603, 604, 605, 608, 613, 614, 615, 616, 617, 618, 619, 620, 2100, 2400, 2700, 4400, 4500, 4600, 4700, 4800, 6200, 6500] Gj44 G17 := hw16.2.1
          have hp20 := hw16.2.2
          have rg21 := hp20
          clear hp20 hw16
          refine v_if_eq F 123 dX4_extendRow_69 (by decide) r15.toInt rfl (fun c22 => ?_) (fun c22 => ?_)
          · exact J_123 G17 (by have h9 := ti_rng x44_4; omega) hI18 (gu_un.tr gu_un.rf (gu_un.su hU19 rfl))
          · refine g_aload_n F 0 dX4_extendRow_72 rfl rfl ?_
            refine xg_8_6 F i_X4 w_1 dX4_extendRow_73 ?_
            refine g_iload_n F 1 dX4_extendRow_76 rfl rfl ?_
            refine g_iload F 4 dX4_extendRow_77 rfl ?_
            refine u_iast F 66 0 xc_66 rfl 2 rfl (by decide) (by decide) (xW K a (gu_up G17 66 2 x44_4)) (xs_66 _) dX4_extendRow_79 ?_
            refine g_iload_n F 3 dX4_extendRow_80 rfl rfl ?_
            refine g_aload_n F 0 dX4_extendRow_81 rfl rfl ?_
            refine xg_8_1 F i_X4 w_2 dX4_extendRow_82 ?_
            refine xg_6_15 F i_X5 w_3 dX4_extendRow_85 (G17 6 15) (rfl) ?_
            refine u0_iadd F dX4_extendRow_88 (fun y23 => ?_)
            refine g_istore F [(5, .int y23), (0, .ref (a 8)), (1, .int 2), (2, .int p1), (3, .int p2), (4, .int x44_4)] dX4_extendRow_89 (by decide) rfl ?_
            refine g_aload_n F 1 dX4_extendRow_91 rfl rfl ?_
            refine xg_8_9 F i_X4 w_4 dX4_extendRow_92 (Gj44 8 9) (hU19 8 9 (by decide)) ?_
            refine g_iconst F (-1) dX4_extendRow_95 (by decide) ?_
            refine v_icmp_eq F 108 dX4_extendRow_96 (by decide) (Gj44 8 9).toInt (-1) rfl rfl (fun c24 => ?_) (fun c24 => ?_)
            · refine g_locals [(0, .ref (a 8)), (1, .int 2), (2, .int p1), (3, .int p2), (4, .int x44_4), (5, .int y23)] [1, 2, 3, 4, 5, 0] rfl ?_
              exact J_108 y23 (gu_up G17 66 2 x44_4) (by have h9 := ti_rng x44_4; omega) (gu_I.up (j := 66) (k := 2) (v := x44_4) hI18 (ti_rng _).1 (ti_rng _).2) (gu_un.up (j := 66) (k := 2) (v := x44_4) (gu_un.tr gu_un.rf (gu_un.su hU19 rfl)) (show (6600 : Nat) ∈ ([602, 603, 604, 605, 608, 613, 614, 615, 616, 617, 618, 619, 620, 2100, 2400, 2700, 4400, 4500, 4600, 4700, 4800, 6200, 6500, 6600] : List Nat) by decide))
            · refine g_iload F 0 dX4_extendRow_99 rfl ?_
              refine g_aload_n F 1 dX4_extendRow_101 rfl rfl ?_
              refine xg_8_9 F i_X4 w_4 dX4_extendRow_102 (Gj44 8 9) (hU19 8 9 (by decide)) ?_
              have b25 := ti_rng y23
              have b26 := ti_rng (Gj44 8 9)
              refine v_icmp_ge F 123 dX4_extendRow_105 (by decide) y23.toInt (Gj44 8 9).toInt rfl rfl (fun c27 => ?_) (fun c27 => ?_)
              · refine g_locals [(0, .ref (a 8)), (1, .int 2), (2, .int p1), (3, .int p2), (4, .int x44_4)] [1, 2, 3, 4, 5] rfl ?_
                exact J_123 (gu_up G17 66 2 x44_4) (by have h9 := ti_rng x44_4; omega) (gu_I.up (j := 66) (k := 2) (v := x44_4) hI18 (ti_rng _).1 (ti_rng _).2) (gu_un.up (j := 66) (k := 2) (v := x44_4) (gu_un.tr gu_un.rf (gu_un.su hU19 rfl)) (show (6600 : Nat) ∈ ([602, 603, 604, 605, 608, 613, 614, 615, 616, 617, 618, 619, 620, 809, 810, 2100, 2400, 2700, 4400, 4500, 4600, 4700, 4800, 6200, 6300, 6400, 6500, 6600, 6700] : List Nat) by decide))
              · refine g_locals [(0, .ref (a 8)), (1, .int 2), (2, .int p1), (3, .int p2), (4, .int x44_4), (5, .int y23)] [1, 2, 3, 4, 5, 0] rfl ?_
                exact J_108 y23 (gu_up G17 66 2 x44_4) (by have h9 := ti_rng x44_4; omega) (gu_I.up (j := 66) (k := 2) (v := x44_4) hI18 (ti_rng _).1 (ti_rng _).2) (gu_un.up (j := 66) (k := 2) (v := x44_4) (gu_un.tr gu_un.rf (gu_un.su hU19 rfl)) (show (6600 : Nat) ∈ ([602, 603, 604, 605, 608, 613, 614, 615, 616, 617, 618, 619, 620, 2100, 2400, 2700, 4400, 4500, 4600, 4700, 4800, 6200, 6500, 6600] : List Nat) by decide))
  have J_13 : ∀ (_ : Unit), gG p l e (gR 8 0 0 220) s m args below meth c D A 6 Q 0 0 (xW K a G) (tK K) [(0, .ref (a 8)), (3, .int p2)] 13 [] := by
    intro _ 
    refine g_aload_n F 0 dX4_extendRow_13 rfl rfl ?_
    refine g_iload_n F 1 dX4_extendRow_14 rfl rfl ?_
    refine xp_8_9 F i_X4 w_4 dX4_extendRow_15 ?_
    refine g_aload_n F 0 dX4_extendRow_18 rfl rfl ?_
    refine g_aload_n F 0 dX4_extendRow_19 rfl rfl ?_
    refine xg_8_3 F i_X4 w_0 dX4_extendRow_20 (G 8 3) (rfl) ?_
    have b28 : (0 : Int) ≤ (G 8 3).toInt ∧ (G 8 3).toInt ≤ 5 := hI 8 3
    refine xp_8_8 F i_X4 w_5 dX4_extendRow_23 ?_
    refine g_aload_n F 0 dX4_extendRow_26 rfl rfl ?_
    refine xg_8_6 F i_X4 w_1 dX4_extendRow_27 ?_
    refine g_iconst F 0 dX4_extendRow_30 (by decide) ?_
    refine g_aload_n F 0 dX4_extendRow_31 rfl rfl ?_
    refine xg_8_7 F i_X4 w_6 dX4_extendRow_32 ?_
    refine g_iconst F 0 dX4_extendRow_35 (by decide) ?_
    refine g_iconst F 5 dX4_extendRow_36 (by decide) ?_
    refine u_copyi F w_7 w_8 w_9 w_10 66 67 0 xc_66 xc_67 rfl 0 0 5 rfl rfl rfl (by decide) (by decide) (by decide) (by decide) (by decide) (Nat.le_of_ble_eq_true rfl) (Nat.le_of_ble_eq_true rfl) (xW K a (gu_st (gu_up (gu_up G 8 9 p2) 8 8 (G 8 3)) 67 (va_cpy ((gu_up (gu_up G 8 9 p2) 8 8 (G 8 3)) 66) ((gu_up (gu_up G 8 9 p2) 8 8 (G 8 3)) 67) 0 0 5))) (xs_67 _) dX4_extendRow_37 ?_
    exact u_vret F hA hQ hr (gu_st (gu_up (gu_up G 8 9 p2) 8 8 (G 8 3)) 67 (va_cpy ((gu_up (gu_up G 8 9 p2) 8 8 (G 8 3)) 66) ((gu_up (gu_up G 8 9 p2) 8 8 (G 8 3)) 67) 0 0 5)) (⟨(gu_I.sw (j := 67) (f := (va_cpy ((gu_up (gu_up G 8 9 p2) 8 8 (G 8 3)) 66) ((gu_up (gu_up G 8 9 p2) 8 8 (G 8 3)) 67) 0 0 5)) (gu_I.up (j := 8) (k := 8) (v := (G 8 3)) (gu_I.up (j := 8) (k := 9) (v := p2) hI (ti_rng _).1 (ti_rng _).2) (show (0 : Int) ≤ Int32.toInt (G 8 3) by omega) (show Int32.toInt (G 8 3) ≤ 5 by omega)) (fun _ => ti_rng _)), (gu_un.sw (j := 67) (f := (va_cpy ((gu_up (gu_up G 8 9 p2) 8 8 (G 8 3)) 66) ((gu_up (gu_up G 8 9 p2) 8 8 (G 8 3)) 67) 0 0 5)) (gu_un.up (j := 8) (k := 8) (v := (G 8 3)) (gu_un.up (j := 8) (k := 9) (v := p2) gu_un.rf (show (810 : Nat) ∈ ([602, 603, 604, 605, 608, 613, 614, 615, 616, 617, 618, 619, 620, 809, 810, 2100, 2400, 2700, 4400, 4500, 4600, 4700, 4800, 6200, 6300, 6400, 6500, 6600, 6700] : List Nat) by decide)) (show (809 : Nat) ∈ ([602, 603, 604, 605, 608, 613, 614, 615, 616, 617, 618, 619, 620, 809, 810, 2100, 2400, 2700, 4400, 4500, 4600, 4700, 4800, 6200, 6300, 6400, 6500, 6600, 6700] : List Nat) by decide)) (fun _ => show (6700 : Nat) ∈ ([602, 603, 604, 605, 608, 613, 614, 615, 616, 617, 618, 619, 620, 809, 810, 2100, 2400, 2700, 4400, 4500, 4600, 4700, 4800, 6200, 6300, 6400, 6500, 6600, 6700] : List Nat) by decide))⟩) rfl rfl dX4_extendRow_40
  refine g_iload_n F 1 dX4_extendRow_0 rfl rfl ?_
  refine g_aload_n F 0 dX4_extendRow_1 rfl rfl ?_
  refine xg_8_3 F i_X4 w_0 dX4_extendRow_2 (G 8 3) (rfl) ?_
  have b29 : (0 : Int) ≤ (G 8 3).toInt ∧ (G 8 3).toInt ≤ 5 := hI 8 3
  refine v_icmp_ge F 13 dX4_extendRow_5 (by decide) 2 (G 8 3).toInt rfl rfl (fun c30 => ?_) (fun c30 => ?_)
  · refine g_locals [(0, .ref (a 8)), (3, .int p2)] [0, 3] rfl ?_
    exact J_13 () 
  · refine g_iload_n F 1 dX4_extendRow_8 rfl rfl ?_
    refine g_iconst F 5 dX4_extendRow_9 (by decide) ?_
    refine v_icmp_lt F 41 dX4_extendRow_10 (by decide) 2 5 rfl rfl (fun c31 => ?_) (fun c31 => absurd c31 (by decide))
    refine g_iconst F 0 dX4_extendRow_41 (by decide) ?_
    refine g_istore F [(4, .int 0), (0, .ref (a 8)), (1, .int 2), (2, .int p1), (3, .int p2)] dX4_extendRow_42 (by decide) rfl ?_
    refine g_locals [(0, .ref (a 8)), (1, .int 2), (2, .int p1), (3, .int p2), (4, .int 0)] [1, 2, 3, 4, 0] rfl ?_
    exact J_44 _ 0 G (Nat.lt_succ_self _) (by decide) hI gu_un.rf


set_option maxHeartbeats 4000000 in
set_option maxRecDepth 100000 in
theorem S_X4_extendRow_v1 (l : Launch) (D : va_G) (K : Nat → ClassId) (a : Nat → Nat) (G : gS) (p1 : Int32) (s1 : Int) (p2 : Int32) (s2 : Int) (e1 : p1.toInt = s1) (e2 : p2.toInt = s2) (hI : xI G) (sz : Nat) : Kv l yX4_extendRow wsX4_extendRow 9 245 0 0 D [.ref (a 8), .int 1, .int p1, .int p2] (xW K a G) (tK K) sz (fun (G' : gS) => (xI G') ∧ (gu_un xcd [602, 603, 604, 605, 608, 613, 614, 615, 616, 617, 618, 619, 620, 809, 810, 2100, 2400, 2700, 4400, 4500, 4600, 4700, 4800, 6100, 6200, 6300, 6400, 6500, 6600, 6700] G G')) (fun (G' : gS) => (xW K a G')) (fun _ => (tK K)) := by
  unfold Kv
  refine g_ofW (cc := cX4_extendRow) (lv := [(0, .ref (a 8)), (1, .int 1), (2, .int p1), (3, .int p2)]) (by decide) rfl (Nat.le_of_ble_eq_true rfl) rfl ?_
  intro p e s m args below meth c A Q hA hQ F hr hnm
  have hts := F.2.2.2.2.1
  have w_0 : (Cond.fieldLink RX4 37 "QuietCut$Jobs" "many" "I").before args s = true := hts _ (List.mem_of_getElem? (i := 1) rfl)
  have i_X4 : ∀ w ∈ u_ws RX4 TX4 12, w ∈ wsX4_extendRow := fun _ h => List.mem_cons_of_mem _ (List.mem_append_left _ (List.mem_append_left _ (List.mem_append_left _ (List.mem_append_right _ h))))
  have w_1 : (Cond.fieldLink RX4 23 "QuietCut$Jobs" "row" "[I").before args s = true := hts _ (List.mem_of_getElem? (i := 4) rfl)
  have w_2 : (Cond.fieldLink RX4 33 "QuietCut$Jobs" "lathe" "LQuietCut$Lathe;").before args s = true := hts _ (List.mem_of_getElem? (i := 10) rfl)
  have w_3 : (Cond.fieldLink RX4 77 "QuietCut$Lathe" "wave" "I").before args s = true := hts _ (List.mem_of_getElem? (i := 11) rfl)
  have i_X5 : ∀ w ∈ u_ws RX5 TX5 20, w ∈ wsX4_extendRow := fun _ h => List.mem_cons_of_mem _ (List.mem_append_left _ (List.mem_append_left _ (List.mem_append_right _ h)))
  have w_4 : (Cond.fieldLink RX4 50 "QuietCut$Jobs" "leastSum" "I").before args s = true := hts _ (List.mem_of_getElem? (i := 2) rfl)
  have w_5 : (Cond.fieldLink RX4 41 "QuietCut$Jobs" "bestMany" "I").before args s = true := hts _ (List.mem_of_getElem? (i := 3) rfl)
  have w_6 : (Cond.fieldLink RX4 26 "QuietCut$Jobs" "bestRow" "[I").before args s = true := hts _ (List.mem_of_getElem? (i := 5) rfl)
  have w_7 : (Cond.methodLink RX4 64 arraycopyName).before args s = true := hts _ (List.mem_of_getElem? (i := 6) rfl)
  have w_8 : (Cond.native arraycopyName).before args s = true := hts _ (List.mem_of_getElem? (i := 7) rfl)
  have w_9 : (Cond.static arraycopyName).before args s = true := hts _ (List.mem_of_getElem? (i := 8) rfl)
  have w_10 : (Cond.initialized "java/lang/System").before args s = true := hts _ (List.mem_of_getElem? (i := 9) rfl)
  have rg1 : -2147483648 ≤ s1 ∧ s1 ≤ 2147483647 := e1 ▸ ti_rng p1
  have rg2 : -2147483648 ≤ s2 ∧ s2 ≤ 2147483647 := e2 ▸ ti_rng p2
  have J_44 : ∀ (fuel : Nat) (x44_4 : Int32) (Gj44 : gS), (2147483647 - x44_4.toInt).toNat < fuel → (0 ≤ x44_4.toInt ∧ x44_4.toInt ≤ 5) → (xI Gj44) → (gu_un xcd [602, 603, 604, 605, 608, 613, 614, 615, 616, 617, 618, 619, 620, 809, 810, 2100, 2400, 2700, 4400, 4500, 4600, 4700, 4800, 6100, 6200, 6300, 6400, 6500, 6600, 6700] G Gj44) → gG p l e (gR 9 0 0 245) s m args below meth c D A 6 Q 0 0 (xW K a Gj44) (tK K) [(0, .ref (a 8)), (1, .int 1), (2, .int p1), (3, .int p2), (4, .int x44_4)] 44 [] := by
    intro fuel
    induction fuel with
    | zero => intro x44_4 Gj44 hm; exact absurd hm (Nat.not_lt_zero _)
    | succ fuel_44 ih_44 =>
      intro x44_4 Gj44 hm_44 h44_4 jI44 jU44
      have J_123 : ∀  (Gj123 : gS), (0 ≤ x44_4.toInt ∧ x44_4.toInt ≤ 4) → (xI Gj123) → (gu_un xcd [602, 603, 604, 605, 608, 613, 614, 615, 616, 617, 618, 619, 620, 809, 810, 2100, 2400, 2700, 4400, 4500, 4600, 4700, 4800, 6100, 6200, 6300, 6400, 6500, 6600, 6700] Gj44 Gj123) → gG p l e (gR 9 0 0 245) s m args below meth c D A 6 Q 0 0 (xW K a Gj123) (tK K) [(0, .ref (a 8)), (1, .int 1), (2, .int p1), (3, .int p2), (4, .int x44_4)] 123 [] := by
        intro Gj123 k123_4 jI123 jU123
        refine u_iinc F (fun v_ => [(4, .int v_), (0, .ref (a 8)), (1, .int 1), (2, .int p1), (3, .int p2)]) dX4_extendRow_123 (j := 4) rfl x44_4.toInt 1 rfl rfl (by omega) (by omega) (by decide) (fun _ => rfl) (fun y1 ey1 => ?_)
        refine g_goto F 44 dX4_extendRow_126 (by decide) ?_
        refine g_locals [(0, .ref (a 8)), (1, .int 1), (2, .int p1), (3, .int p2), (4, .int y1)] [1, 2, 3, 4, 0] rfl ?_
        exact ih_44 y1 Gj123 (by omega) (by have h9 := ti_rng y1; omega) jI123 (gu_un.tr (gu_un.tr gu_un.rf (gu_un.su jU44 rfl)) (gu_un.su jU123 rfl))
      have J_108 : ∀  (x108_5 : Int32) (Gj108 : gS), (0 ≤ x44_4.toInt ∧ x44_4.toInt ≤ 4) → (xI Gj108) → (gu_un xcd [602, 603, 604, 605, 608, 613, 614, 615, 616, 617, 618, 619, 620, 2100, 2400, 2700, 4400, 4500, 4600, 4700, 4800, 6100, 6500, 6600] Gj44 Gj108) → gG p l e (gR 9 0 0 245) s m args below meth c D A 6 Q 0 0 (xW K a Gj108) (tK K) [(0, .ref (a 8)), (1, .int 1), (2, .int p1), (3, .int p2), (4, .int x44_4), (5, .int x108_5)] 108 [] := by
        intro x108_5 Gj108 k108_4 jI108 jU108
        refine g_aload_n F 0 dX4_extendRow_108 rfl rfl ?_
        refine g_iload_n F 1 dX4_extendRow_109 rfl rfl ?_
        refine g_iconst F 1 dX4_extendRow_110 (by decide) ?_
        refine g_iadd F dX4_extendRow_111 ?_
        refine g_fold 2 (by decide) ?_
        refine g_iload_n F 2 dX4_extendRow_112 rfl rfl ?_
        refine g_iconst F 1 dX4_extendRow_113 (by decide) ?_
        refine g_iload F 4 dX4_extendRow_114 rfl ?_
        refine u0_ishl F dX4_extendRow_116 (fun y2 => ?_)
        refine u0_ior F dX4_extendRow_117 (fun y3 => ?_)
        refine g_iload F 5 dX4_extendRow_118 rfl ?_
        refine u_callVv (k := 0) (n := 0) (b := a 8) (As := [.int 2, .int y3, .int x108_5]) (st := []) F (fun sz => S_X4_extendRow_v2 l D K a Gj108 y3 y3.toInt x108_5 x108_5.toInt rfl rfl jI108 sz) (cwV 3 hts gX4_extendRow_X4_extendRow rfl rfl rfl (by decide +kernel) ⟨Nat.le_of_ble_eq_true rfl, Nat.le_of_ble_eq_true rfl⟩) rfl 8 xc_8 rfl (Nat.le_of_ble_eq_true rfl) ⟨Nat.zero_le _, Nat.zero_le _⟩ dX4_extendRow_120 (fun G6 hw5 => ?_)
        have hI7 : xI G6 := hw5.1
        have hU8 : gu_un xcd [602, 603, 604, 605, 608, 613, 614, 615, 616, 617, 618, 619, 620, 809, 810, 2100, 2400, 2700, 4400, 4500, 4600, 4700, 4800, 6200, 6300, 6400, 6500, 6600, 6700] Gj108 G6 := hw5.2
        refine g_locals [(0, .ref (a 8)), (1, .int 1), (2, .int p1), (3, .int p2), (4, .int x44_4)] [0, 1, 2, 3, 4] rfl ?_
        exact J_123 G6 (by have h9 := ti_rng x44_4; omega) hI7 (gu_un.tr (gu_un.tr gu_un.rf (gu_un.su jU108 rfl)) (gu_un.su hU8 rfl))
      refine g_iload F 4 dX4_extendRow_44 rfl ?_
      refine g_aload_n F 0 dX4_extendRow_46 rfl rfl ?_
      refine xg_8_3 F i_X4 w_0 dX4_extendRow_47 (G 8 3) (jU44 8 3 (by decide)) ?_
      have b10 : (0 : Int) ≤ (G 8 3).toInt ∧ (G 8 3).toInt ≤ 5 := hI 8 3
      refine v_icmp_ge F 129 dX4_extendRow_50 (by decide) x44_4.toInt (G 8 3).toInt rfl rfl (fun c11 => ?_) (fun c11 => ?_)
      · exact u_vret F hA hQ hr Gj44 (⟨jI44, (gu_un.tr gu_un.rf (gu_un.su jU44 rfl))⟩) rfl rfl dX4_extendRow_129
      · refine g_iload_n F 2 dX4_extendRow_53 rfl rfl ?_
        refine g_iload F 4 dX4_extendRow_54 rfl ?_
        refine u0_ishr F dX4_extendRow_56 (fun y12 => ?_)
        refine g_iconst F 1 dX4_extendRow_57 (by decide) ?_
        refine u_iand F dX4_extendRow_58 _ 1 rfl rfl (by omega) (fun y13 ey13 => ?_)
        refine v_if_ne F 123 dX4_extendRow_59 (by decide) y13.toInt rfl (fun c14 => ?_) (fun c14 => ?_)
        · exact J_123 Gj44 (by have h9 := ti_rng x44_4; omega) jI44 gu_un.rf
        · refine g_aload_n F 0 dX4_extendRow_62 rfl rfl ?_
          refine g_iload F 4 dX4_extendRow_63 rfl ?_
          refine g_iload_n F 1 dX4_extendRow_65 rfl rfl ?_
          refine u_callVi (k := 0) (n := 0) (b := a 8) (As := [.int x44_4, .int 1]) (st := []) F (fun sz => S_X4_staysQuiet_v1 l D K a Gj44 x44_4 x44_4.toInt rfl (by omega) jI44 sz) (cwV 2 hts gX4_extendRow_X4_staysQuiet rfl rfl rfl (by decide +kernel) ⟨Nat.le_of_ble_eq_true rfl, Nat.le_of_ble_eq_true rfl⟩) rfl 8 xc_8 rfl (Nat.le_of_ble_eq_true rfl) ⟨Nat.zero_le _, Nat.zero_le _⟩ dX4_extendRow_66 (fun r15 G17 hw16 => ?_)
          have hI18 : xI G17 := hw16.1
          have hU19 : gu_un xcd [602, 603, 604, 605, 608, 613, 614, 615, 616, 617, 618, 619, 620, 2100, 2400, 2700, 4400, 4500, 4600, 4700, 4800, 6100, 6500] Gj44 G17 := hw16.2.1
          have hp20 := hw16.2.2
          have rg21 := hp20
          clear hp20 hw16
          refine v_if_eq F 123 dX4_extendRow_69 (by decide) r15.toInt rfl (fun c22 => ?_) (fun c22 => ?_)
          · exact J_123 G17 (by have h9 := ti_rng x44_4; omega) hI18 (gu_un.tr gu_un.rf (gu_un.su hU19 rfl))
          · refine g_aload_n F 0 dX4_extendRow_72 rfl rfl ?_
            refine xg_8_6 F i_X4 w_1 dX4_extendRow_73 ?_
            refine g_iload_n F 1 dX4_extendRow_76 rfl rfl ?_
            refine g_iload F 4 dX4_extendRow_77 rfl ?_
            refine u_iast F 66 0 xc_66 rfl 1 rfl (by decide) (by decide) (xW K a (gu_up G17 66 1 x44_4)) (xs_66 _) dX4_extendRow_79 ?_
            refine g_iload_n F 3 dX4_extendRow_80 rfl rfl ?_
            refine g_aload_n F 0 dX4_extendRow_81 rfl rfl ?_
            refine xg_8_1 F i_X4 w_2 dX4_extendRow_82 ?_
            refine xg_6_15 F i_X5 w_3 dX4_extendRow_85 (G17 6 15) (rfl) ?_
            refine u0_iadd F dX4_extendRow_88 (fun y23 => ?_)
            refine g_istore F [(5, .int y23), (0, .ref (a 8)), (1, .int 1), (2, .int p1), (3, .int p2), (4, .int x44_4)] dX4_extendRow_89 (by decide) rfl ?_
            refine g_aload_n F 1 dX4_extendRow_91 rfl rfl ?_
            refine xg_8_9 F i_X4 w_4 dX4_extendRow_92 (Gj44 8 9) (hU19 8 9 (by decide)) ?_
            refine g_iconst F (-1) dX4_extendRow_95 (by decide) ?_
            refine v_icmp_eq F 108 dX4_extendRow_96 (by decide) (Gj44 8 9).toInt (-1) rfl rfl (fun c24 => ?_) (fun c24 => ?_)
            · refine g_locals [(0, .ref (a 8)), (1, .int 1), (2, .int p1), (3, .int p2), (4, .int x44_4), (5, .int y23)] [1, 2, 3, 4, 5, 0] rfl ?_
              exact J_108 y23 (gu_up G17 66 1 x44_4) (by have h9 := ti_rng x44_4; omega) (gu_I.up (j := 66) (k := 1) (v := x44_4) hI18 (ti_rng _).1 (ti_rng _).2) (gu_un.up (j := 66) (k := 1) (v := x44_4) (gu_un.tr gu_un.rf (gu_un.su hU19 rfl)) (show (6600 : Nat) ∈ ([602, 603, 604, 605, 608, 613, 614, 615, 616, 617, 618, 619, 620, 2100, 2400, 2700, 4400, 4500, 4600, 4700, 4800, 6100, 6500, 6600] : List Nat) by decide))
            · refine g_iload F 0 dX4_extendRow_99 rfl ?_
              refine g_aload_n F 1 dX4_extendRow_101 rfl rfl ?_
              refine xg_8_9 F i_X4 w_4 dX4_extendRow_102 (Gj44 8 9) (hU19 8 9 (by decide)) ?_
              have b25 := ti_rng y23
              have b26 := ti_rng (Gj44 8 9)
              refine v_icmp_ge F 123 dX4_extendRow_105 (by decide) y23.toInt (Gj44 8 9).toInt rfl rfl (fun c27 => ?_) (fun c27 => ?_)
              · refine g_locals [(0, .ref (a 8)), (1, .int 1), (2, .int p1), (3, .int p2), (4, .int x44_4)] [1, 2, 3, 4, 5] rfl ?_
                exact J_123 (gu_up G17 66 1 x44_4) (by have h9 := ti_rng x44_4; omega) (gu_I.up (j := 66) (k := 1) (v := x44_4) hI18 (ti_rng _).1 (ti_rng _).2) (gu_un.up (j := 66) (k := 1) (v := x44_4) (gu_un.tr gu_un.rf (gu_un.su hU19 rfl)) (show (6600 : Nat) ∈ ([602, 603, 604, 605, 608, 613, 614, 615, 616, 617, 618, 619, 620, 809, 810, 2100, 2400, 2700, 4400, 4500, 4600, 4700, 4800, 6100, 6200, 6300, 6400, 6500, 6600, 6700] : List Nat) by decide))
              · refine g_locals [(0, .ref (a 8)), (1, .int 1), (2, .int p1), (3, .int p2), (4, .int x44_4), (5, .int y23)] [1, 2, 3, 4, 5, 0] rfl ?_
                exact J_108 y23 (gu_up G17 66 1 x44_4) (by have h9 := ti_rng x44_4; omega) (gu_I.up (j := 66) (k := 1) (v := x44_4) hI18 (ti_rng _).1 (ti_rng _).2) (gu_un.up (j := 66) (k := 1) (v := x44_4) (gu_un.tr gu_un.rf (gu_un.su hU19 rfl)) (show (6600 : Nat) ∈ ([602, 603, 604, 605, 608, 613, 614, 615, 616, 617, 618, 619, 620, 2100, 2400, 2700, 4400, 4500, 4600, 4700, 4800, 6100, 6500, 6600] : List Nat) by decide))
  have J_13 : ∀ (_ : Unit), gG p l e (gR 9 0 0 245) s m args below meth c D A 6 Q 0 0 (xW K a G) (tK K) [(0, .ref (a 8)), (3, .int p2)] 13 [] := by
    intro _ 
    refine g_aload_n F 0 dX4_extendRow_13 rfl rfl ?_
    refine g_iload_n F 1 dX4_extendRow_14 rfl rfl ?_
    refine xp_8_9 F i_X4 w_4 dX4_extendRow_15 ?_
    refine g_aload_n F 0 dX4_extendRow_18 rfl rfl ?_
    refine g_aload_n F 0 dX4_extendRow_19 rfl rfl ?_
    refine xg_8_3 F i_X4 w_0 dX4_extendRow_20 (G 8 3) (rfl) ?_
    have b28 : (0 : Int) ≤ (G 8 3).toInt ∧ (G 8 3).toInt ≤ 5 := hI 8 3
    refine xp_8_8 F i_X4 w_5 dX4_extendRow_23 ?_
    refine g_aload_n F 0 dX4_extendRow_26 rfl rfl ?_
    refine xg_8_6 F i_X4 w_1 dX4_extendRow_27 ?_
    refine g_iconst F 0 dX4_extendRow_30 (by decide) ?_
    refine g_aload_n F 0 dX4_extendRow_31 rfl rfl ?_
    refine xg_8_7 F i_X4 w_6 dX4_extendRow_32 ?_
    refine g_iconst F 0 dX4_extendRow_35 (by decide) ?_
    refine g_iconst F 5 dX4_extendRow_36 (by decide) ?_
    refine u_copyi F w_7 w_8 w_9 w_10 66 67 0 xc_66 xc_67 rfl 0 0 5 rfl rfl rfl (by decide) (by decide) (by decide) (by decide) (by decide) (Nat.le_of_ble_eq_true rfl) (Nat.le_of_ble_eq_true rfl) (xW K a (gu_st (gu_up (gu_up G 8 9 p2) 8 8 (G 8 3)) 67 (va_cpy ((gu_up (gu_up G 8 9 p2) 8 8 (G 8 3)) 66) ((gu_up (gu_up G 8 9 p2) 8 8 (G 8 3)) 67) 0 0 5))) (xs_67 _) dX4_extendRow_37 ?_
    exact u_vret F hA hQ hr (gu_st (gu_up (gu_up G 8 9 p2) 8 8 (G 8 3)) 67 (va_cpy ((gu_up (gu_up G 8 9 p2) 8 8 (G 8 3)) 66) ((gu_up (gu_up G 8 9 p2) 8 8 (G 8 3)) 67) 0 0 5)) (⟨(gu_I.sw (j := 67) (f := (va_cpy ((gu_up (gu_up G 8 9 p2) 8 8 (G 8 3)) 66) ((gu_up (gu_up G 8 9 p2) 8 8 (G 8 3)) 67) 0 0 5)) (gu_I.up (j := 8) (k := 8) (v := (G 8 3)) (gu_I.up (j := 8) (k := 9) (v := p2) hI (ti_rng _).1 (ti_rng _).2) (show (0 : Int) ≤ Int32.toInt (G 8 3) by omega) (show Int32.toInt (G 8 3) ≤ 5 by omega)) (fun _ => ti_rng _)), (gu_un.sw (j := 67) (f := (va_cpy ((gu_up (gu_up G 8 9 p2) 8 8 (G 8 3)) 66) ((gu_up (gu_up G 8 9 p2) 8 8 (G 8 3)) 67) 0 0 5)) (gu_un.up (j := 8) (k := 8) (v := (G 8 3)) (gu_un.up (j := 8) (k := 9) (v := p2) gu_un.rf (show (810 : Nat) ∈ ([602, 603, 604, 605, 608, 613, 614, 615, 616, 617, 618, 619, 620, 809, 810, 2100, 2400, 2700, 4400, 4500, 4600, 4700, 4800, 6100, 6200, 6300, 6400, 6500, 6600, 6700] : List Nat) by decide)) (show (809 : Nat) ∈ ([602, 603, 604, 605, 608, 613, 614, 615, 616, 617, 618, 619, 620, 809, 810, 2100, 2400, 2700, 4400, 4500, 4600, 4700, 4800, 6100, 6200, 6300, 6400, 6500, 6600, 6700] : List Nat) by decide)) (fun _ => show (6700 : Nat) ∈ ([602, 603, 604, 605, 608, 613, 614, 615, 616, 617, 618, 619, 620, 809, 810, 2100, 2400, 2700, 4400, 4500, 4600, 4700, 4800, 6100, 6200, 6300, 6400, 6500, 6600, 6700] : List Nat) by decide))⟩) rfl rfl dX4_extendRow_40
  refine g_iload_n F 1 dX4_extendRow_0 rfl rfl ?_
  refine g_aload_n F 0 dX4_extendRow_1 rfl rfl ?_
  refine xg_8_3 F i_X4 w_0 dX4_extendRow_2 (G 8 3) (rfl) ?_
  have b29 : (0 : Int) ≤ (G 8 3).toInt ∧ (G 8 3).toInt ≤ 5 := hI 8 3
  refine v_icmp_ge F 13 dX4_extendRow_5 (by decide) 1 (G 8 3).toInt rfl rfl (fun c30 => ?_) (fun c30 => ?_)
  · refine g_locals [(0, .ref (a 8)), (3, .int p2)] [0, 3] rfl ?_
    exact J_13 () 
  · refine g_iload_n F 1 dX4_extendRow_8 rfl rfl ?_
    refine g_iconst F 5 dX4_extendRow_9 (by decide) ?_
    refine v_icmp_lt F 41 dX4_extendRow_10 (by decide) 1 5 rfl rfl (fun c31 => ?_) (fun c31 => absurd c31 (by decide))
    refine g_iconst F 0 dX4_extendRow_41 (by decide) ?_
    refine g_istore F [(4, .int 0), (0, .ref (a 8)), (1, .int 1), (2, .int p1), (3, .int p2)] dX4_extendRow_42 (by decide) rfl ?_
    refine g_locals [(0, .ref (a 8)), (1, .int 1), (2, .int p1), (3, .int p2), (4, .int 0)] [1, 2, 3, 4, 0] rfl ?_
    exact J_44 _ 0 G (Nat.lt_succ_self _) (by decide) hI gu_un.rf


set_option maxHeartbeats 4000000 in
set_option maxRecDepth 100000 in
theorem S_X4_extendRow_v0 (l : Launch) (D : va_G) (K : Nat → ClassId) (a : Nat → Nat) (G : gS) (p1 : Int32) (s1 : Int) (p2 : Int32) (s2 : Int) (e1 : p1.toInt = s1) (e2 : p2.toInt = s2) (hI : xI G) (sz : Nat) : Kv l yX4_extendRow wsX4_extendRow 10 270 0 0 D [.ref (a 8), .int 0, .int p1, .int p2] (xW K a G) (tK K) sz (fun (G' : gS) => (xI G') ∧ (gu_un xcd [602, 603, 604, 605, 608, 613, 614, 615, 616, 617, 618, 619, 620, 809, 810, 2100, 2400, 2700, 4400, 4500, 4600, 4700, 4800, 6000, 6100, 6200, 6300, 6400, 6500, 6600, 6700] G G')) (fun (G' : gS) => (xW K a G')) (fun _ => (tK K)) := by
  unfold Kv
  refine g_ofW (cc := cX4_extendRow) (lv := [(0, .ref (a 8)), (1, .int 0), (2, .int p1), (3, .int p2)]) (by decide) rfl (Nat.le_of_ble_eq_true rfl) rfl ?_
  intro p e s m args below meth c A Q hA hQ F hr hnm
  have hts := F.2.2.2.2.1
  have w_0 : (Cond.fieldLink RX4 37 "QuietCut$Jobs" "many" "I").before args s = true := hts _ (List.mem_of_getElem? (i := 1) rfl)
  have i_X4 : ∀ w ∈ u_ws RX4 TX4 12, w ∈ wsX4_extendRow := fun _ h => List.mem_cons_of_mem _ (List.mem_append_left _ (List.mem_append_left _ (List.mem_append_left _ (List.mem_append_right _ h))))
  have w_1 : (Cond.fieldLink RX4 23 "QuietCut$Jobs" "row" "[I").before args s = true := hts _ (List.mem_of_getElem? (i := 4) rfl)
  have w_2 : (Cond.fieldLink RX4 33 "QuietCut$Jobs" "lathe" "LQuietCut$Lathe;").before args s = true := hts _ (List.mem_of_getElem? (i := 10) rfl)
  have w_3 : (Cond.fieldLink RX4 77 "QuietCut$Lathe" "wave" "I").before args s = true := hts _ (List.mem_of_getElem? (i := 11) rfl)
  have i_X5 : ∀ w ∈ u_ws RX5 TX5 20, w ∈ wsX4_extendRow := fun _ h => List.mem_cons_of_mem _ (List.mem_append_left _ (List.mem_append_left _ (List.mem_append_right _ h)))
  have w_4 : (Cond.fieldLink RX4 50 "QuietCut$Jobs" "leastSum" "I").before args s = true := hts _ (List.mem_of_getElem? (i := 2) rfl)
  have w_5 : (Cond.fieldLink RX4 41 "QuietCut$Jobs" "bestMany" "I").before args s = true := hts _ (List.mem_of_getElem? (i := 3) rfl)
  have w_6 : (Cond.fieldLink RX4 26 "QuietCut$Jobs" "bestRow" "[I").before args s = true := hts _ (List.mem_of_getElem? (i := 5) rfl)
  have w_7 : (Cond.methodLink RX4 64 arraycopyName).before args s = true := hts _ (List.mem_of_getElem? (i := 6) rfl)
  have w_8 : (Cond.native arraycopyName).before args s = true := hts _ (List.mem_of_getElem? (i := 7) rfl)
  have w_9 : (Cond.static arraycopyName).before args s = true := hts _ (List.mem_of_getElem? (i := 8) rfl)
  have w_10 : (Cond.initialized "java/lang/System").before args s = true := hts _ (List.mem_of_getElem? (i := 9) rfl)
  have rg1 : -2147483648 ≤ s1 ∧ s1 ≤ 2147483647 := e1 ▸ ti_rng p1
  have rg2 : -2147483648 ≤ s2 ∧ s2 ≤ 2147483647 := e2 ▸ ti_rng p2
  have J_44 : ∀ (fuel : Nat) (x44_4 : Int32) (Gj44 : gS), (2147483647 - x44_4.toInt).toNat < fuel → (0 ≤ x44_4.toInt ∧ x44_4.toInt ≤ 5) → (xI Gj44) → (gu_un xcd [602, 603, 604, 605, 608, 613, 614, 615, 616, 617, 618, 619, 620, 809, 810, 2100, 2400, 2700, 4400, 4500, 4600, 4700, 4800, 6000, 6100, 6200, 6300, 6400, 6500, 6600, 6700] G Gj44) → gG p l e (gR 10 0 0 270) s m args below meth c D A 6 Q 0 0 (xW K a Gj44) (tK K) [(0, .ref (a 8)), (1, .int 0), (2, .int p1), (3, .int p2), (4, .int x44_4)] 44 [] := by
    intro fuel
    induction fuel with
    | zero => intro x44_4 Gj44 hm; exact absurd hm (Nat.not_lt_zero _)
    | succ fuel_44 ih_44 =>
      intro x44_4 Gj44 hm_44 h44_4 jI44 jU44
      have J_123 : ∀  (Gj123 : gS), (0 ≤ x44_4.toInt ∧ x44_4.toInt ≤ 4) → (xI Gj123) → (gu_un xcd [602, 603, 604, 605, 608, 613, 614, 615, 616, 617, 618, 619, 620, 809, 810, 2100, 2400, 2700, 4400, 4500, 4600, 4700, 4800, 6000, 6100, 6200, 6300, 6400, 6500, 6600, 6700] Gj44 Gj123) → gG p l e (gR 10 0 0 270) s m args below meth c D A 6 Q 0 0 (xW K a Gj123) (tK K) [(0, .ref (a 8)), (1, .int 0), (2, .int p1), (3, .int p2), (4, .int x44_4)] 123 [] := by
        intro Gj123 k123_4 jI123 jU123
        refine u_iinc F (fun v_ => [(4, .int v_), (0, .ref (a 8)), (1, .int 0), (2, .int p1), (3, .int p2)]) dX4_extendRow_123 (j := 4) rfl x44_4.toInt 1 rfl rfl (by omega) (by omega) (by decide) (fun _ => rfl) (fun y1 ey1 => ?_)
        refine g_goto F 44 dX4_extendRow_126 (by decide) ?_
        refine g_locals [(0, .ref (a 8)), (1, .int 0), (2, .int p1), (3, .int p2), (4, .int y1)] [1, 2, 3, 4, 0] rfl ?_
        exact ih_44 y1 Gj123 (by omega) (by have h9 := ti_rng y1; omega) jI123 (gu_un.tr (gu_un.tr gu_un.rf (gu_un.su jU44 rfl)) (gu_un.su jU123 rfl))
      have J_108 : ∀  (x108_5 : Int32) (Gj108 : gS), (0 ≤ x44_4.toInt ∧ x44_4.toInt ≤ 4) → (xI Gj108) → (gu_un xcd [602, 603, 604, 605, 608, 613, 614, 615, 616, 617, 618, 619, 620, 2100, 2400, 2700, 4400, 4500, 4600, 4700, 4800, 6000, 6500, 6600] Gj44 Gj108) → gG p l e (gR 10 0 0 270) s m args below meth c D A 6 Q 0 0 (xW K a Gj108) (tK K) [(0, .ref (a 8)), (1, .int 0), (2, .int p1), (3, .int p2), (4, .int x44_4), (5, .int x108_5)] 108 [] := by
        intro x108_5 Gj108 k108_4 jI108 jU108
        refine g_aload_n F 0 dX4_extendRow_108 rfl rfl ?_
        refine g_iload_n F 1 dX4_extendRow_109 rfl rfl ?_
        refine g_iconst F 1 dX4_extendRow_110 (by decide) ?_
        refine g_iadd F dX4_extendRow_111 ?_
        refine g_fold 1 (by decide) ?_
        refine g_iload_n F 2 dX4_extendRow_112 rfl rfl ?_
        refine g_iconst F 1 dX4_extendRow_113 (by decide) ?_
        refine g_iload F 4 dX4_extendRow_114 rfl ?_
        refine u0_ishl F dX4_extendRow_116 (fun y2 => ?_)
        refine u0_ior F dX4_extendRow_117 (fun y3 => ?_)
        refine g_iload F 5 dX4_extendRow_118 rfl ?_
        refine u_callVv (k := 0) (n := 0) (b := a 8) (As := [.int 1, .int y3, .int x108_5]) (st := []) F (fun sz => S_X4_extendRow_v1 l D K a Gj108 y3 y3.toInt x108_5 x108_5.toInt rfl rfl jI108 sz) (cwV 3 hts gX4_extendRow_X4_extendRow rfl rfl rfl (by decide +kernel) ⟨Nat.le_of_ble_eq_true rfl, Nat.le_of_ble_eq_true rfl⟩) rfl 8 xc_8 rfl (Nat.le_of_ble_eq_true rfl) ⟨Nat.zero_le _, Nat.zero_le _⟩ dX4_extendRow_120 (fun G6 hw5 => ?_)
        have hI7 : xI G6 := hw5.1
        have hU8 : gu_un xcd [602, 603, 604, 605, 608, 613, 614, 615, 616, 617, 618, 619, 620, 809, 810, 2100, 2400, 2700, 4400, 4500, 4600, 4700, 4800, 6100, 6200, 6300, 6400, 6500, 6600, 6700] Gj108 G6 := hw5.2
        refine g_locals [(0, .ref (a 8)), (1, .int 0), (2, .int p1), (3, .int p2), (4, .int x44_4)] [0, 1, 2, 3, 4] rfl ?_
        exact J_123 G6 (by have h9 := ti_rng x44_4; omega) hI7 (gu_un.tr (gu_un.tr gu_un.rf (gu_un.su jU108 rfl)) (gu_un.su hU8 rfl))
      refine g_iload F 4 dX4_extendRow_44 rfl ?_
      refine g_aload_n F 0 dX4_extendRow_46 rfl rfl ?_
      refine xg_8_3 F i_X4 w_0 dX4_extendRow_47 (G 8 3) (jU44 8 3 (by decide)) ?_
      have b10 : (0 : Int) ≤ (G 8 3).toInt ∧ (G 8 3).toInt ≤ 5 := hI 8 3
      refine v_icmp_ge F 129 dX4_extendRow_50 (by decide) x44_4.toInt (G 8 3).toInt rfl rfl (fun c11 => ?_) (fun c11 => ?_)
      · exact u_vret F hA hQ hr Gj44 (⟨jI44, (gu_un.tr gu_un.rf (gu_un.su jU44 rfl))⟩) rfl rfl dX4_extendRow_129
      · refine g_iload_n F 2 dX4_extendRow_53 rfl rfl ?_
        refine g_iload F 4 dX4_extendRow_54 rfl ?_
        refine u0_ishr F dX4_extendRow_56 (fun y12 => ?_)
        refine g_iconst F 1 dX4_extendRow_57 (by decide) ?_
        refine u_iand F dX4_extendRow_58 _ 1 rfl rfl (by omega) (fun y13 ey13 => ?_)
        refine v_if_ne F 123 dX4_extendRow_59 (by decide) y13.toInt rfl (fun c14 => ?_) (fun c14 => ?_)
        · exact J_123 Gj44 (by have h9 := ti_rng x44_4; omega) jI44 gu_un.rf
        · refine g_aload_n F 0 dX4_extendRow_62 rfl rfl ?_
          refine g_iload F 4 dX4_extendRow_63 rfl ?_
          refine g_iload_n F 1 dX4_extendRow_65 rfl rfl ?_
          refine u_callVi (k := 0) (n := 0) (b := a 8) (As := [.int x44_4, .int 0]) (st := []) F (fun sz => S_X4_staysQuiet_v0 l D K a Gj44 x44_4 x44_4.toInt rfl (by omega) jI44 sz) (cwV 2 hts gX4_extendRow_X4_staysQuiet rfl rfl rfl (by decide +kernel) ⟨Nat.le_of_ble_eq_true rfl, Nat.le_of_ble_eq_true rfl⟩) rfl 8 xc_8 rfl (Nat.le_of_ble_eq_true rfl) ⟨Nat.zero_le _, Nat.zero_le _⟩ dX4_extendRow_66 (fun r15 G17 hw16 => ?_)
          have hI18 : xI G17 := hw16.1
          have hU19 : gu_un xcd [602, 603, 604, 605, 608, 613, 614, 615, 616, 617, 618, 619, 620, 2100, 2400, 2700, 4400, 4500, 4600, 4700, 4800, 6000, 6500] Gj44 G17 := hw16.2.1
          have hp20 := hw16.2.2
          have rg21 := hp20
          clear hp20 hw16
          refine v_if_eq F 123 dX4_extendRow_69 (by decide) r15.toInt rfl (fun c22 => ?_) (fun c22 => ?_)
          · exact J_123 G17 (by have h9 := ti_rng x44_4; omega) hI18 (gu_un.tr gu_un.rf (gu_un.su hU19 rfl))
          · refine g_aload_n F 0 dX4_extendRow_72 rfl rfl ?_
            refine xg_8_6 F i_X4 w_1 dX4_extendRow_73 ?_
            refine g_iload_n F 1 dX4_extendRow_76 rfl rfl ?_
            refine g_iload F 4 dX4_extendRow_77 rfl ?_
            refine u_iast F 66 0 xc_66 rfl 0 rfl (by decide) (by decide) (xW K a (gu_up G17 66 0 x44_4)) (xs_66 _) dX4_extendRow_79 ?_
            refine g_iload_n F 3 dX4_extendRow_80 rfl rfl ?_
            refine g_aload_n F 0 dX4_extendRow_81 rfl rfl ?_
            refine xg_8_1 F i_X4 w_2 dX4_extendRow_82 ?_
            refine xg_6_15 F i_X5 w_3 dX4_extendRow_85 (G17 6 15) (rfl) ?_
            refine u0_iadd F dX4_extendRow_88 (fun y23 => ?_)
            refine g_istore F [(5, .int y23), (0, .ref (a 8)), (1, .int 0), (2, .int p1), (3, .int p2), (4, .int x44_4)] dX4_extendRow_89 (by decide) rfl ?_
            refine g_aload_n F 1 dX4_extendRow_91 rfl rfl ?_
            refine xg_8_9 F i_X4 w_4 dX4_extendRow_92 (Gj44 8 9) (hU19 8 9 (by decide)) ?_
            refine g_iconst F (-1) dX4_extendRow_95 (by decide) ?_
            refine v_icmp_eq F 108 dX4_extendRow_96 (by decide) (Gj44 8 9).toInt (-1) rfl rfl (fun c24 => ?_) (fun c24 => ?_)
            · refine g_locals [(0, .ref (a 8)), (1, .int 0), (2, .int p1), (3, .int p2), (4, .int x44_4), (5, .int y23)] [1, 2, 3, 4, 5, 0] rfl ?_
              exact J_108 y23 (gu_up G17 66 0 x44_4) (by have h9 := ti_rng x44_4; omega) (gu_I.up (j := 66) (k := 0) (v := x44_4) hI18 (ti_rng _).1 (ti_rng _).2) (gu_un.up (j := 66) (k := 0) (v := x44_4) (gu_un.tr gu_un.rf (gu_un.su hU19 rfl)) (show (6600 : Nat) ∈ ([602, 603, 604, 605, 608, 613, 614, 615, 616, 617, 618, 619, 620, 2100, 2400, 2700, 4400, 4500, 4600, 4700, 4800, 6000, 6500, 6600] : List Nat) by decide))
            · refine g_iload F 0 dX4_extendRow_99 rfl ?_
              refine g_aload_n F 1 dX4_extendRow_101 rfl rfl ?_
              refine xg_8_9 F i_X4 w_4 dX4_extendRow_102 (Gj44 8 9) (hU19 8 9 (by decide)) ?_
              have b25 := ti_rng y23
              have b26 := ti_rng (Gj44 8 9)
              refine v_icmp_ge F 123 dX4_extendRow_105 (by decide) y23.toInt (Gj44 8 9).toInt rfl rfl (fun c27 => ?_) (fun c27 => ?_)
              · refine g_locals [(0, .ref (a 8)), (1, .int 0), (2, .int p1), (3, .int p2), (4, .int x44_4)] [1, 2, 3, 4, 5] rfl ?_
                exact J_123 (gu_up G17 66 0 x44_4) (by have h9 := ti_rng x44_4; omega) (gu_I.up (j := 66) (k := 0) (v := x44_4) hI18 (ti_rng _).1 (ti_rng _).2) (gu_un.up (j := 66) (k := 0) (v := x44_4) (gu_un.tr gu_un.rf (gu_un.su hU19 rfl)) (show (6600 : Nat) ∈ ([602, 603, 604, 605, 608, 613, 614, 615, 616, 617, 618, 619, 620, 809, 810, 2100, 2400, 2700, 4400, 4500, 4600, 4700, 4800, 6000, 6100, 6200, 6300, 6400, 6500, 6600, 6700] : List Nat) by decide))
              · refine g_locals [(0, .ref (a 8)), (1, .int 0), (2, .int p1), (3, .int p2), (4, .int x44_4), (5, .int y23)] [1, 2, 3, 4, 5, 0] rfl ?_
                exact J_108 y23 (gu_up G17 66 0 x44_4) (by have h9 := ti_rng x44_4; omega) (gu_I.up (j := 66) (k := 0) (v := x44_4) hI18 (ti_rng _).1 (ti_rng _).2) (gu_un.up (j := 66) (k := 0) (v := x44_4) (gu_un.tr gu_un.rf (gu_un.su hU19 rfl)) (show (6600 : Nat) ∈ ([602, 603, 604, 605, 608, 613, 614, 615, 616, 617, 618, 619, 620, 2100, 2400, 2700, 4400, 4500, 4600, 4700, 4800, 6000, 6500, 6600] : List Nat) by decide))
  have J_13 : ∀ (_ : Unit), gG p l e (gR 10 0 0 270) s m args below meth c D A 6 Q 0 0 (xW K a G) (tK K) [(0, .ref (a 8)), (3, .int p2)] 13 [] := by
    intro _ 
    refine g_aload_n F 0 dX4_extendRow_13 rfl rfl ?_
    refine g_iload_n F 1 dX4_extendRow_14 rfl rfl ?_
    refine xp_8_9 F i_X4 w_4 dX4_extendRow_15 ?_
    refine g_aload_n F 0 dX4_extendRow_18 rfl rfl ?_
    refine g_aload_n F 0 dX4_extendRow_19 rfl rfl ?_
    refine xg_8_3 F i_X4 w_0 dX4_extendRow_20 (G 8 3) (rfl) ?_
    have b28 : (0 : Int) ≤ (G 8 3).toInt ∧ (G 8 3).toInt ≤ 5 := hI 8 3
    refine xp_8_8 F i_X4 w_5 dX4_extendRow_23 ?_
    refine g_aload_n F 0 dX4_extendRow_26 rfl rfl ?_
    refine xg_8_6 F i_X4 w_1 dX4_extendRow_27 ?_
    refine g_iconst F 0 dX4_extendRow_30 (by decide) ?_
    refine g_aload_n F 0 dX4_extendRow_31 rfl rfl ?_
    refine xg_8_7 F i_X4 w_6 dX4_extendRow_32 ?_
    refine g_iconst F 0 dX4_extendRow_35 (by decide) ?_
    refine g_iconst F 5 dX4_extendRow_36 (by decide) ?_
    refine u_copyi F w_7 w_8 w_9 w_10 66 67 0 xc_66 xc_67 rfl 0 0 5 rfl rfl rfl (by decide) (by decide) (by decide) (by decide) (by decide) (Nat.le_of_ble_eq_true rfl) (Nat.le_of_ble_eq_true rfl) (xW K a (gu_st (gu_up (gu_up G 8 9 p2) 8 8 (G 8 3)) 67 (va_cpy ((gu_up (gu_up G 8 9 p2) 8 8 (G 8 3)) 66) ((gu_up (gu_up G 8 9 p2) 8 8 (G 8 3)) 67) 0 0 5))) (xs_67 _) dX4_extendRow_37 ?_
    exact u_vret F hA hQ hr (gu_st (gu_up (gu_up G 8 9 p2) 8 8 (G 8 3)) 67 (va_cpy ((gu_up (gu_up G 8 9 p2) 8 8 (G 8 3)) 66) ((gu_up (gu_up G 8 9 p2) 8 8 (G 8 3)) 67) 0 0 5)) (⟨(gu_I.sw (j := 67) (f := (va_cpy ((gu_up (gu_up G 8 9 p2) 8 8 (G 8 3)) 66) ((gu_up (gu_up G 8 9 p2) 8 8 (G 8 3)) 67) 0 0 5)) (gu_I.up (j := 8) (k := 8) (v := (G 8 3)) (gu_I.up (j := 8) (k := 9) (v := p2) hI (ti_rng _).1 (ti_rng _).2) (show (0 : Int) ≤ Int32.toInt (G 8 3) by omega) (show Int32.toInt (G 8 3) ≤ 5 by omega)) (fun _ => ti_rng _)), (gu_un.sw (j := 67) (f := (va_cpy ((gu_up (gu_up G 8 9 p2) 8 8 (G 8 3)) 66) ((gu_up (gu_up G 8 9 p2) 8 8 (G 8 3)) 67) 0 0 5)) (gu_un.up (j := 8) (k := 8) (v := (G 8 3)) (gu_un.up (j := 8) (k := 9) (v := p2) gu_un.rf (show (810 : Nat) ∈ ([602, 603, 604, 605, 608, 613, 614, 615, 616, 617, 618, 619, 620, 809, 810, 2100, 2400, 2700, 4400, 4500, 4600, 4700, 4800, 6000, 6100, 6200, 6300, 6400, 6500, 6600, 6700] : List Nat) by decide)) (show (809 : Nat) ∈ ([602, 603, 604, 605, 608, 613, 614, 615, 616, 617, 618, 619, 620, 809, 810, 2100, 2400, 2700, 4400, 4500, 4600, 4700, 4800, 6000, 6100, 6200, 6300, 6400, 6500, 6600, 6700] : List Nat) by decide)) (fun _ => show (6700 : Nat) ∈ ([602, 603, 604, 605, 608, 613, 614, 615, 616, 617, 618, 619, 620, 809, 810, 2100, 2400, 2700, 4400, 4500, 4600, 4700, 4800, 6000, 6100, 6200, 6300, 6400, 6500, 6600, 6700] : List Nat) by decide))⟩) rfl rfl dX4_extendRow_40
  refine g_iload_n F 1 dX4_extendRow_0 rfl rfl ?_
  refine g_aload_n F 0 dX4_extendRow_1 rfl rfl ?_
  refine xg_8_3 F i_X4 w_0 dX4_extendRow_2 (G 8 3) (rfl) ?_
  have b29 : (0 : Int) ≤ (G 8 3).toInt ∧ (G 8 3).toInt ≤ 5 := hI 8 3
  refine v_icmp_ge F 13 dX4_extendRow_5 (by decide) 0 (G 8 3).toInt rfl rfl (fun c30 => ?_) (fun c30 => ?_)
  · refine g_locals [(0, .ref (a 8)), (3, .int p2)] [0, 3] rfl ?_
    exact J_13 () 
  · refine g_iload_n F 1 dX4_extendRow_8 rfl rfl ?_
    refine g_iconst F 5 dX4_extendRow_9 (by decide) ?_
    refine v_icmp_lt F 41 dX4_extendRow_10 (by decide) 0 5 rfl rfl (fun c31 => ?_) (fun c31 => absurd c31 (by decide))
    refine g_iconst F 0 dX4_extendRow_41 (by decide) ?_
    refine g_istore F [(4, .int 0), (0, .ref (a 8)), (1, .int 0), (2, .int p1), (3, .int p2)] dX4_extendRow_42 (by decide) rfl ?_
    refine g_locals [(0, .ref (a 8)), (1, .int 0), (2, .int p1), (3, .int p2), (4, .int 0)] [1, 2, 3, 4, 0] rfl ?_
    exact J_44 _ 0 G (Nat.lt_succ_self _) (by decide) hI gu_un.rf

theorem dX4_leastWaves_0 : decode cX4_leastWaves 0 = .ok (.aload_n 0, 1) := by decide +kernel
theorem dX4_leastWaves_1 : decode cX4_leastWaves 1 = .ok (.getfield 37, 3) := by decide +kernel
theorem dX4_leastWaves_4 : decode cX4_leastWaves 4 = .ok (.ifCond .ne 6, 3) := by decide +kernel
theorem dX4_leastWaves_7 : decode cX4_leastWaves 7 = .ok (.bipush (-4), 2) := by decide +kernel
theorem dX4_leastWaves_9 : decode cX4_leastWaves 9 = .ok (.ireturn, 1) := by decide +kernel
theorem dX4_leastWaves_10 : decode cX4_leastWaves 10 = .ok (.aload_n 0, 1) := by decide +kernel
theorem dX4_leastWaves_11 : decode cX4_leastWaves 11 = .ok (.iload_n 1, 1) := by decide +kernel
theorem dX4_leastWaves_12 : decode cX4_leastWaves 12 = .ok (.putfield 44, 3) := by decide +kernel
theorem dX4_leastWaves_15 : decode cX4_leastWaves 15 = .ok (.aload_n 0, 1) := by decide +kernel
theorem dX4_leastWaves_16 : decode cX4_leastWaves 16 = .ok (.iload_n 2, 1) := by decide +kernel
theorem dX4_leastWaves_17 : decode cX4_leastWaves 17 = .ok (.putfield 47, 3) := by decide +kernel
theorem dX4_leastWaves_20 : decode cX4_leastWaves 20 = .ok (.aload_n 0, 1) := by decide +kernel
theorem dX4_leastWaves_21 : decode cX4_leastWaves 21 = .ok (.iconst (-1), 1) := by decide +kernel
theorem dX4_leastWaves_22 : decode cX4_leastWaves 22 = .ok (.putfield 50, 3) := by decide +kernel
theorem dX4_leastWaves_25 : decode cX4_leastWaves 25 = .ok (.aload_n 0, 1) := by decide +kernel
theorem dX4_leastWaves_26 : decode cX4_leastWaves 26 = .ok (.invokevirtual 53, 3) := by decide +kernel
theorem dX4_leastWaves_29 : decode cX4_leastWaves 29 = .ok (.aload_n 0, 1) := by decide +kernel
theorem dX4_leastWaves_30 : decode cX4_leastWaves 30 = .ok (.iconst 0, 1) := by decide +kernel
theorem dX4_leastWaves_31 : decode cX4_leastWaves 31 = .ok (.iconst 0, 1) := by decide +kernel
theorem dX4_leastWaves_32 : decode cX4_leastWaves 32 = .ok (.iconst 0, 1) := by decide +kernel
theorem dX4_leastWaves_33 : decode cX4_leastWaves 33 = .ok (.invokevirtual 56, 3) := by decide +kernel
theorem dX4_leastWaves_36 : decode cX4_leastWaves 36 = .ok (.aload_n 0, 1) := by decide +kernel
theorem dX4_leastWaves_37 : decode cX4_leastWaves 37 = .ok (.getfield 50, 3) := by decide +kernel
theorem dX4_leastWaves_40 : decode cX4_leastWaves 40 = .ok (.ireturn, 1) := by decide +kernel
set_option maxRecDepth 20000 in
theorem ggX4_leastWaves_X4_extendRow : GoodIn wsX4_leastWaves wsX4_extendRow := goodIn_r _ [22, 1, 4, 23, 24, 25, 13, 14, 15, 16, 26, 27, 28, 29, 30, 8, 31, 32, 12, 17, 2, 3, 33, 34, 35, 36, 37, 38, 39, 40, 41, 42, 43, 44, 45, 46, 47, 48, 49, 50, 51, 52, 53, 54, 55, 56, 57, 58, 59, 60, 61, 62, 63, 64, 65, 66, 67, 68, 69, 70, 71, 72, 73, 74, 75, 76, 77, 78, 79, 80, 81, 82, 83, 84, 85, 86, 87, 88, 89, 90, 91, 92, 93, 94, 95, 96, 97, 98, 99, 100, 101, 102, 103, 104, 105, 106, 107, 108, 109, 110, 111, 112, 113, 114, 115, 116, 117, 118, 119, 120, 121, 122, 123, 124, 125, 126, 127, 128, 129, 130, 131, 132, 133, 134, 135, 136, 137, 138, 139, 140, 141, 142, 143, 144, 145, 146, 19, 20, 21, 147, 148, 149, 150, 151, 152, 153, 154, 155, 156, 157, 158, 164, 165, 166, 167, 168, 169, 170, 171, 172, 173, 174, 175, 176, 177, 178, 179, 180, 181, 182, 183, 184, 185, 186, 187, 188, 189, 190, 191, 192, 193, 194, 195, 196] rfl (by decide +kernel)
set_option maxRecDepth 20000 in
theorem gX4_leastWaves_X4_extendRow : GoodIn wsX4_leastWaves (wsV RX4 56 RX4 yX4_extendRow wsX4_extendRow) := goodIn_app (goodIn_of _ (by decide +kernel)) ggX4_leastWaves_X4_extendRow
set_option maxRecDepth 20000 in
theorem ggX4_leastWaves_X4_startFromPiece : GoodIn wsX4_leastWaves wsX4_startFromPiece := goodIn_r _ [9, 10, 11, 12, 13, 14, 15, 16, 17, 18, 147, 148, 149, 150, 151, 152, 153, 154, 155, 156, 157, 158, 159, 160, 161, 162, 163] rfl (by decide +kernel)
set_option maxRecDepth 20000 in
theorem gX4_leastWaves_X4_startFromPiece : GoodIn wsX4_leastWaves (wsV RX4 53 RX4 yX4_startFromPiece wsX4_startFromPiece) := goodIn_app (goodIn_of _ (by decide +kernel)) ggX4_leastWaves_X4_startFromPiece
set_option maxHeartbeats 4000000 in
set_option maxRecDepth 100000 in
theorem S_X4_leastWaves (l : Launch) (D : va_G) (K : Nat → ClassId) (a : Nat → Nat) (G : gS) (p0 : Int32) (s0 : Int) (p1 : Int32) (s1 : Int) (e0 : p0.toInt = s0) (h0 : 0 ≤ s0 ∧ s0 ≤ 300) (e1 : p1.toInt = s1) (h1 : 0 ≤ s1 ∧ s1 ≤ 300) (hI : xI G) (sz : Nat) : Ki l yX4_leastWaves wsX4_leastWaves 11 295 0 0 D [.ref (a 8), .int p0, .int p1] (xW K a G) (tK K) sz (fun (r : Int32) (G' : gS) => (xI G') ∧ (gu_un xcd [602, 603, 604, 605, 608, 613, 614, 615, 616, 617, 618, 619, 620, 809, 810, 811, 812, 2100, 2400, 2700, 4400, 4500, 4600, 4700, 4800, 5900, 6000, 6100, 6200, 6300, 6400, 6500, 6600, 6700] G G')) (fun (G' : gS) => (xW K a G')) (fun _ => (tK K)) := by
  unfold Ki
  refine g_ofW (cc := cX4_leastWaves) (lv := [(0, .ref (a 8)), (1, .int p0), (2, .int p1)]) (by decide) rfl (Nat.le_of_ble_eq_true rfl) rfl ?_
  intro p e s m args below meth c A Q hA hQ F hr hnm
  have hts := F.2.2.2.2.1
  have w_0 : (Cond.fieldLink RX4 37 "QuietCut$Jobs" "many" "I").before args s = true := hts _ (List.mem_of_getElem? (i := 1) rfl)
  have i_X4 : ∀ w ∈ u_ws RX4 TX4 12, w ∈ wsX4_leastWaves := fun _ h => List.mem_cons_of_mem _ (List.mem_append_left _ (List.mem_append_left _ (List.mem_append_left _ (List.mem_append_left _ (List.mem_append_right _ h)))))
  have w_1 : (Cond.fieldLink RX4 44 "QuietCut$Jobs" "stiff" "I").before args s = true := hts _ (List.mem_of_getElem? (i := 2) rfl)
  have w_2 : (Cond.fieldLink RX4 47 "QuietCut$Jobs" "damp" "I").before args s = true := hts _ (List.mem_of_getElem? (i := 3) rfl)
  have w_3 : (Cond.fieldLink RX4 50 "QuietCut$Jobs" "leastSum" "I").before args s = true := hts _ (List.mem_of_getElem? (i := 4) rfl)
  refine g_aload_n F 0 dX4_leastWaves_0 rfl rfl ?_
  refine xg_8_3 F i_X4 w_0 dX4_leastWaves_1 (G 8 3) (rfl) ?_
  have b1 : (0 : Int) ≤ (G 8 3).toInt ∧ (G 8 3).toInt ≤ 5 := hI 8 3
  refine v_if_ne F 10 dX4_leastWaves_4 (by decide) (G 8 3).toInt rfl (fun c2 => ?_) (fun c2 => ?_)
  · refine g_aload_n F 0 dX4_leastWaves_10 rfl rfl ?_
    refine g_iload_n F 1 dX4_leastWaves_11 rfl rfl ?_
    refine xp_8_10 F i_X4 w_1 dX4_leastWaves_12 ?_
    refine g_aload_n F 0 dX4_leastWaves_15 rfl rfl ?_
    refine g_iload_n F 2 dX4_leastWaves_16 rfl rfl ?_
    refine xp_8_11 F i_X4 w_2 dX4_leastWaves_17 ?_
    refine g_aload_n F 0 dX4_leastWaves_20 rfl rfl ?_
    refine g_iconst F (-1) dX4_leastWaves_21 (by decide) ?_
    refine xp_8_9 F i_X4 w_3 dX4_leastWaves_22 ?_
    refine g_aload_n F 0 dX4_leastWaves_25 rfl rfl ?_
    refine u_callVv (k := 0) (n := 0) (b := a 8) (As := []) (st := []) F (fun sz => S_X4_startFromPiece l D K a (gu_up (gu_up (gu_up G 8 10 p0) 8 11 p1) 8 9 (-1))  (gu_I.up (j := 8) (k := 9) (v := (-1)) (gu_I.up (j := 8) (k := 11) (v := p1) (gu_I.up (j := 8) (k := 10) (v := p0) hI (show (0 : Int) ≤ Int32.toInt p0 by omega) (show Int32.toInt p0 ≤ 300 by omega)) (show (0 : Int) ≤ Int32.toInt p1 by omega) (show Int32.toInt p1 ≤ 300 by omega)) (ti_rng _).1 (ti_rng _).2) sz) (cwV 0 hts gX4_leastWaves_X4_startFromPiece rfl rfl rfl (by decide +kernel) ⟨Nat.le_of_ble_eq_true rfl, Nat.le_of_ble_eq_true rfl⟩) rfl 8 xc_8 rfl (Nat.le_of_ble_eq_true rfl) ⟨Nat.zero_le _, Nat.zero_le _⟩ dX4_leastWaves_26 (fun G5 hw4 => ?_)
    have hI6 : xI G5 := hw4.1
    have hU7 : gu_un xcd [5900, 6500] (gu_up (gu_up (gu_up G 8 10 p0) 8 11 p1) 8 9 (-1)) G5 := hw4.2
    refine g_aload_n F 0 dX4_leastWaves_29 rfl rfl ?_
    refine g_iconst F 0 dX4_leastWaves_30 (by decide) ?_
    refine g_iconst F 0 dX4_leastWaves_31 (by decide) ?_
    refine g_iconst F 0 dX4_leastWaves_32 (by decide) ?_
    refine u_callVv (k := 0) (n := 0) (b := a 8) (As := [.int 0, .int 0, .int 0]) (st := []) F (fun sz => S_X4_extendRow_v0 l D K a G5 0 0 0 0 rfl rfl hI6 sz) (cwV 3 hts gX4_leastWaves_X4_extendRow rfl rfl rfl (by decide +kernel) ⟨Nat.le_of_ble_eq_true rfl, Nat.le_of_ble_eq_true rfl⟩) rfl 8 xc_8 rfl (Nat.le_of_ble_eq_true rfl) ⟨Nat.zero_le _, Nat.zero_le _⟩ dX4_leastWaves_33 (fun G11 hw10 => ?_)
    have hI12 : xI G11 := hw10.1
    have hU13 : gu_un xcd [602, 603, 604, 605, 608, 613, 614, 615, 616, 617, 618, 619, 620, 809, 810, 2100, 2400, 2700, 4400, 4500, 4600, 4700, 4800, 6000, 6100, 6200, 6300, 6400, 6500, 6600, 6700] G5 G11 := hw10.2
    refine g_aload_n F 0 dX4_leastWaves_36 rfl rfl ?_
    refine xg_8_9 F i_X4 w_3 dX4_leastWaves_37 (G11 8 9) (rfl) ?_
    exact u_iret F hA hQ hr G11 (⟨hI12, (gu_un.tr (gu_un.tr (gu_un.up (j := 8) (k := 9) (v := (-1)) (gu_un.up (j := 8) (k := 11) (v := p1) (gu_un.up (j := 8) (k := 10) (v := p0) gu_un.rf (show (811 : Nat) ∈ ([602, 603, 604, 605, 608, 613, 614, 615, 616, 617, 618, 619, 620, 809, 810, 811, 812, 2100, 2400, 2700, 4400, 4500, 4600, 4700, 4800, 5900, 6000, 6100, 6200, 6300, 6400, 6500, 6600, 6700] : List Nat) by decide)) (show (812 : Nat) ∈ ([602, 603, 604, 605, 608, 613, 614, 615, 616, 617, 618, 619, 620, 809, 810, 811, 812, 2100, 2400, 2700, 4400, 4500, 4600, 4700, 4800, 5900, 6000, 6100, 6200, 6300, 6400, 6500, 6600, 6700] : List Nat) by decide)) (show (810 : Nat) ∈ ([602, 603, 604, 605, 608, 613, 614, 615, 616, 617, 618, 619, 620, 809, 810, 811, 812, 2100, 2400, 2700, 4400, 4500, 4600, 4700, 4800, 5900, 6000, 6100, 6200, 6300, 6400, 6500, 6600, 6700] : List Nat) by decide)) (gu_un.su hU7 rfl)) (gu_un.su hU13 rfl))⟩) rfl rfl dX4_leastWaves_40
  · refine g_bipush F (-4) dX4_leastWaves_7 (by decide) ?_
    exact u_iret F hA hQ hr G (⟨hI, gu_un.rf⟩) rfl rfl dX4_leastWaves_9

theorem dX4_orderedJob_0 : decode cX4_orderedJob 0 = .ok (.iload_n 1, 1) := by decide +kernel
theorem dX4_orderedJob_1 : decode cX4_orderedJob 1 = .ok (.ifCond .lt 25, 3) := by decide +kernel
theorem dX4_orderedJob_4 : decode cX4_orderedJob 4 = .ok (.iload_n 1, 1) := by decide +kernel
theorem dX4_orderedJob_5 : decode cX4_orderedJob 5 = .ok (.aload_n 0, 1) := by decide +kernel
theorem dX4_orderedJob_6 : decode cX4_orderedJob 6 = .ok (.getfield 41, 3) := by decide +kernel
theorem dX4_orderedJob_9 : decode cX4_orderedJob 9 = .ok (.if_icmp .ge 17, 3) := by decide +kernel
theorem dX4_orderedJob_12 : decode cX4_orderedJob 12 = .ok (.iload_n 1, 1) := by decide +kernel
theorem dX4_orderedJob_13 : decode cX4_orderedJob 13 = .ok (.iconst 5, 1) := by decide +kernel
theorem dX4_orderedJob_14 : decode cX4_orderedJob 14 = .ok (.if_icmp .ge 12, 3) := by decide +kernel
theorem dX4_orderedJob_17 : decode cX4_orderedJob 17 = .ok (.aload_n 0, 1) := by decide +kernel
theorem dX4_orderedJob_18 : decode cX4_orderedJob 18 = .ok (.getfield 26, 3) := by decide +kernel
theorem dX4_orderedJob_21 : decode cX4_orderedJob 21 = .ok (.iload_n 1, 1) := by decide +kernel
theorem dX4_orderedJob_22 : decode cX4_orderedJob 22 = .ok (.iaload, 1) := by decide +kernel
theorem dX4_orderedJob_23 : decode cX4_orderedJob 23 = .ok (.goto 4, 3) := by decide +kernel
theorem dX4_orderedJob_26 : decode cX4_orderedJob 26 = .ok (.iconst (-1), 1) := by decide +kernel
theorem dX4_orderedJob_27 : decode cX4_orderedJob 27 = .ok (.ireturn, 1) := by decide +kernel
set_option maxHeartbeats 4000000 in
set_option maxRecDepth 100000 in
theorem S_X4_orderedJob (l : Launch) (D : va_G) (K : Nat → ClassId) (a : Nat → Nat) (G : gS) (p0 : Int32) (s0 : Int) (e0 : p0.toInt = s0) (hI : xI G) (sz : Nat) : Ki l yX4_orderedJob wsX4_orderedJob 1 40 0 0 D [.ref (a 8), .int p0] (xW K a G) (tK K) sz (fun (r : Int32) (_ : Unit) => True) (fun (_ : Unit) => (xW K a G)) (fun _ => (tK K)) := by
  unfold Ki
  refine g_ofW (cc := cX4_orderedJob) (lv := [(0, .ref (a 8)), (1, .int p0)]) (by decide) rfl (Nat.le_of_ble_eq_true rfl) rfl ?_
  intro p e s m args below meth c A Q hA hQ F hr hnm
  have hts := F.2.2.2.2.1
  have w_0 : (Cond.fieldLink RX4 41 "QuietCut$Jobs" "bestMany" "I").before args s = true := hts _ (List.mem_of_getElem? (i := 1) rfl)
  have i_X4 : ∀ w ∈ u_ws RX4 TX4 12, w ∈ wsX4_orderedJob := fun _ h => List.mem_cons_of_mem _ (List.mem_append_right _ h)
  have w_1 : (Cond.fieldLink RX4 26 "QuietCut$Jobs" "bestRow" "[I").before args s = true := hts _ (List.mem_of_getElem? (i := 2) rfl)
  have rg0 : -2147483648 ≤ s0 ∧ s0 ≤ 2147483647 := e0 ▸ ti_rng p0
  refine g_iload_n F 1 dX4_orderedJob_0 rfl rfl ?_
  refine v_if_lt F 26 dX4_orderedJob_1 (by decide) s0 e0 (fun c1 => ?_) (fun c1 => ?_)
  · refine g_iconst F (-1) dX4_orderedJob_26 (by decide) ?_
    exact u_iret F hA hQ hr () (trivial) rfl rfl dX4_orderedJob_27
  · refine g_iload_n F 1 dX4_orderedJob_4 rfl rfl ?_
    refine g_aload_n F 0 dX4_orderedJob_5 rfl rfl ?_
    refine xg_8_8 F i_X4 w_0 dX4_orderedJob_6 (G 8 8) (rfl) ?_
    have b2 : (0 : Int) ≤ (G 8 8).toInt ∧ (G 8 8).toInt ≤ 5 := hI 8 8
    refine v_icmp_ge F 26 dX4_orderedJob_9 (by decide) s0 (G 8 8).toInt e0 rfl (fun c3 => ?_) (fun c3 => ?_)
    · refine g_iconst F (-1) dX4_orderedJob_26 (by decide) ?_
      exact u_iret F hA hQ hr () (trivial) rfl rfl dX4_orderedJob_27
    · refine g_iload_n F 1 dX4_orderedJob_12 rfl rfl ?_
      refine g_iconst F 5 dX4_orderedJob_13 (by decide) ?_
      refine v_icmp_ge F 26 dX4_orderedJob_14 (by decide) s0 5 e0 rfl (fun c4 => absurd c4 (by omega)) (fun c4 => ?_)
      refine g_aload_n F 0 dX4_orderedJob_17 rfl rfl ?_
      refine xg_8_7 F i_X4 w_1 dX4_orderedJob_18 ?_
      refine g_iload_n F 1 dX4_orderedJob_21 rfl rfl ?_
      refine u_iald F 67 0 xc_67 rfl s0 e0 (by omega) (by omega) dX4_orderedJob_22 (fun _ => True) (fun _ => trivial) (fun y5 by5 => ?_)
      refine g_goto F 27 dX4_orderedJob_23 (by decide) ?_
      exact u_iret F hA hQ hr () (trivial) rfl rfl dX4_orderedJob_27


set_option maxHeartbeats 4000000 in
set_option maxRecDepth 100000 in
theorem S_X5_storeHeights_59 (l : Launch) (D : va_G) (K : Nat → ClassId) (a : Nat → Nat) (G : gS) (hrg : (0 ≤ (G 6 1).toInt ∧ (G 6 1).toInt ≤ 5)) (hI : xI G) (sz : Nat) : Kv l yX5_storeHeights wsX5_storeHeights 2 61 0 0 D [.ref (a 6), .ref (a 59)] (xW K a G) (tK K) sz (fun (G' : gS) => (xI G') ∧ (gu_un xcd [5900] G G') ∧ ((∀ q : Nat, G' 59 q = sHr (G 59) (G 45) (G 6 1).toInt (G 18 0).toInt q))) (fun (G' : gS) => (xW K a G')) (fun _ => (tK K)) := by
  unfold Kv
  refine g_ofW (cc := cX5_storeHeights) (lv := [(0, .ref (a 6)), (1, .ref (a 59))]) (by decide) rfl (Nat.le_of_ble_eq_true rfl) rfl ?_
  intro p e s m args below meth c A Q hA hQ F hr hnm
  have hts := F.2.2.2.2.1
  have w_0 : (Cond.fieldLink RX5 17 "QuietCut$Lathe" "heights" "[I").before args s = true := hts _ (List.mem_of_getElem? (i := 4) rfl)
  have i_X5 : ∀ w ∈ u_ws RX5 TX5 20, w ∈ wsX5_storeHeights := fun _ h => List.mem_cons_of_mem _ (List.mem_append_left _ (List.mem_append_right _ h))
  have w_1 : (Cond.fieldLink RX5 29 "QuietCut$Lathe" "shop" "LQuietCut$Shop;").before args s = true := hts _ (List.mem_of_getElem? (i := 1) rfl)
  have w_2 : (Cond.fieldLink RX5 56 "QuietCut$Shop" "numbers" "[I").before args s = true := hts _ (List.mem_of_getElem? (i := 2) rfl)
  have i_X7 : ∀ w ∈ u_ws RX7 TX7 4, w ∈ wsX5_storeHeights := fun _ h => List.mem_cons_of_mem _ (List.mem_append_right _ h)
  have w_3 : (Cond.fieldLink RX5 33 "QuietCut$Lathe" "ring" "I").before args s = true := hts _ (List.mem_of_getElem? (i := 3) rfl)
  have b1 : (4 : Int) ≤ (G 18 0).toInt ∧ (G 18 0).toInt ≤ 16 := hI 18 0
  have J_22 : ∀ (fuel : Nat) (x22_3 : Int32) (x22_4 : Int32) (Gj22 : gS), (2147483647 - x22_4.toInt).toNat < fuel → (0 ≤ x22_3.toInt ∧ x22_3.toInt ≤ 95) → (0 ≤ x22_4.toInt ∧ x22_4.toInt ≤ 16) → (xI Gj22) → (gu_un xcd [5900] G Gj22) → (∀ q : Nat, Gj22 59 q = sHr (G 59) (G 45) (G 6 1).toInt x22_4.toInt q) → ((x22_3.toInt = (G 6 1).toInt * 16)) → ((x22_4.toInt ≤ (G 18 0).toInt)) → gG p l e (gR 2 0 0 61) s m args below meth c D A 5 Q 0 0 (xW K a Gj22) (tK K) [(0, .ref (a 6)), (1, .ref (a 59)), (2, .int (G 18 0)), (3, .int x22_3), (4, .int x22_4)] 22 [] := by
    intro fuel
    induction fuel with
    | zero => intro x22_3 x22_4 Gj22 hm; exact absurd hm (Nat.not_lt_zero _)
    | succ fuel_22 ih_22 =>
      intro x22_3 x22_4 Gj22 hm_22 h22_3 h22_4 jI22 jU22 sh s3 il
      refine g_iload F 4 dX5_storeHeights_22 rfl ?_
      refine g_iload_n F 2 dX5_storeHeights_24 rfl rfl ?_
      refine v_icmp_ge F 67 dX5_storeHeights_25 (by decide) x22_4.toInt (G 18 0).toInt rfl rfl (fun c2 => ?_) (fun c2 => ?_)
      · exact u_vret F hA hQ hr Gj22 (⟨jI22, (gu_un.tr gu_un.rf (gu_un.su jU22 rfl)), (fun q => by have h9 := sh q; rw [show x22_4.toInt = (G 18 0).toInt by omega] at h9; exact h9)⟩) rfl rfl dX5_storeHeights_67
      · refine g_iload F 4 dX5_storeHeights_28 rfl ?_
        refine g_bipush F 16 dX5_storeHeights_30 (by decide) ?_
        refine v_icmp_ge F 67 dX5_storeHeights_32 (by decide) x22_4.toInt 16 rfl rfl (fun c3 => absurd c3 (by omega)) (fun c3 => ?_)
        refine g_iload_n F 3 dX5_storeHeights_35 rfl rfl ?_
        refine v_if_lt F 61 dX5_storeHeights_36 (by decide) x22_3.toInt rfl (fun c4 => absurd c4 (by omega)) (fun c4 => ?_)
        refine g_iload_n F 3 dX5_storeHeights_39 rfl rfl ?_
        refine g_iload F 4 dX5_storeHeights_40 rfl ?_
        refine u_iadd F dX5_storeHeights_42 x22_3.toInt x22_4.toInt rfl rfl (by omega) (by omega) (fun y5 ey5 => ?_)
        refine g_aload_n F 1 dX5_storeHeights_43 rfl rfl ?_
        refine g_alen F 59 0 xc_59 rfl 96 rfl dX5_storeHeights_44 ?_
        refine v_icmp_ge F 61 dX5_storeHeights_45 (by decide) y5.toInt 96 rfl rfl (fun c6 => ?_) (fun c6 => ?_)
        · refine u_iinc F (fun v_ => [(4, .int v_), (0, .ref (a 6)), (1, .ref (a 59)), (2, .int (G 18 0)), (3, .int x22_3)]) dX5_storeHeights_61 (j := 4) rfl x22_4.toInt 1 rfl rfl (by omega) (by omega) (by decide) (fun _ => rfl) (fun y7 ey7 => ?_)
          refine g_goto F 22 dX5_storeHeights_64 (by decide) ?_
          refine g_locals [(0, .ref (a 6)), (1, .ref (a 59)), (2, .int (G 18 0)), (3, .int x22_3), (4, .int y7)] [1, 2, 3, 4, 0] rfl ?_
          exact ih_22 x22_3 y7 Gj22 (by omega) (by have h9 := ti_rng x22_3; omega) (by have h9 := ti_rng y7; omega) jI22 (gu_un.tr gu_un.rf (gu_un.su jU22 rfl)) (by exfalso; omega) (by have e9_6_1 : Gj22 6 1 = (G 6 1) := jU22 6 1 (by decide); (try simp only [e9_6_1, true_and, and_true]) <;> (first | omega | (simp only [Int32.reduceToInt, true_and, and_true, ne_eq, not_true_eq_false, false_and, or_false, false_or, true_or, or_true, false_implies] <;> omega))) (by have e9_18_0 : Gj22 18 0 = (G 18 0) := jU22 18 0 (by decide); (try simp only [e9_18_0, true_and, and_true]) <;> (first | omega | (simp only [Int32.reduceToInt, true_and, and_true, ne_eq, not_true_eq_false, false_and, or_false, false_or, true_or, or_true, false_implies] <;> omega)))
        · refine g_aload_n F 1 dX5_storeHeights_48 rfl rfl ?_
          refine g_iload_n F 3 dX5_storeHeights_49 rfl rfl ?_
          refine g_iload F 4 dX5_storeHeights_50 rfl ?_
          refine u_iadd F dX5_storeHeights_52 x22_3.toInt x22_4.toInt rfl rfl (by omega) (by omega) (fun y8 ey8 => ?_)
          refine g_aload_n F 0 dX5_storeHeights_53 rfl rfl ?_
          refine xg_6_8 F i_X5 w_0 dX5_storeHeights_54 ?_
          refine g_iload F 4 dX5_storeHeights_57 rfl ?_
          refine u1_iald F 45 0 xc_45 rfl x22_4.toInt rfl (by omega) (by omega) dX5_storeHeights_59 ((G 45) (x22_4.toInt).toNat) (congrFun ((show Gj22 45 = G 45 from funext fun k_ => jU22 45 k_ (show (4500 : Nat) ∉ ([5900] : List Nat) by decide))) _) ?_
          have b9 : ((-9998) : Int) ≤ ((G 45) (x22_4.toInt).toNat).toInt ∧ ((G 45) (x22_4.toInt).toNat).toInt ≤ 5000 := hI 45 _
          refine u_iast F 59 0 xc_59 rfl y8.toInt rfl (by omega) (by omega) (xW K a (gu_up Gj22 59 (y8.toInt).toNat ((G 45) (x22_4.toInt).toNat))) (xs_59 _) dX5_storeHeights_60 ?_
          refine u_iinc F (fun v_ => [(4, .int v_), (0, .ref (a 6)), (1, .ref (a 59)), (2, .int (G 18 0)), (3, .int x22_3)]) dX5_storeHeights_61 (j := 4) rfl x22_4.toInt 1 rfl rfl (by omega) (by omega) (by decide) (fun _ => rfl) (fun y10 ey10 => ?_)
          refine g_goto F 22 dX5_storeHeights_64 (by decide) ?_
          refine g_locals [(0, .ref (a 6)), (1, .ref (a 59)), (2, .int (G 18 0)), (3, .int x22_3), (4, .int y10)] [1, 2, 3, 4, 0] rfl ?_
          exact ih_22 x22_3 y10 (gu_up Gj22 59 (y8.toInt).toNat ((G 45) (x22_4.toInt).toNat)) (by omega) (by have h9 := ti_rng x22_3; omega) (by have h9 := ti_rng y10; omega) (gu_I.up (j := 59) (k := (y8.toInt).toNat) (v := ((G 45) (x22_4.toInt).toNat)) jI22 (show ((-9998) : Int) ≤ Int32.toInt ((G 45) (x22_4.toInt).toNat) by omega) (show Int32.toInt ((G 45) (x22_4.toInt).toNat) ≤ 5000 by omega)) (gu_un.up (j := 59) (k := (y8.toInt).toNat) (v := ((G 45) (x22_4.toInt).toNat)) (gu_un.tr gu_un.rf (gu_un.su jU22 rfl)) (show (5900 : Nat) ∈ ([5900] : List Nat) by decide)) (sHr_1 (i := x22_4.toInt) (k := y8.toInt) sh (by omega) (by omega) (by omega) rfl (by omega)) (by have e9_6_1 : (gu_up Gj22 59 (y8.toInt).toNat ((G 45) (x22_4.toInt).toNat)) 6 1 = (G 6 1) := jU22 6 1 (by decide); (try simp only [e9_6_1, true_and, and_true]) <;> (first | omega | (simp only [Int32.reduceToInt, true_and, and_true, ne_eq, not_true_eq_false, false_and, or_false, false_or, true_or, or_true, false_implies] <;> omega))) (by have e9_18_0 : (gu_up Gj22 59 (y8.toInt).toNat ((G 45) (x22_4.toInt).toNat)) 18 0 = (G 18 0) := jU22 18 0 (by decide); (try simp only [e9_18_0, true_and, and_true]) <;> (first | omega | (simp only [Int32.reduceToInt, true_and, and_true, ne_eq, not_true_eq_false, false_and, or_false, false_or, true_or, or_true, false_implies] <;> omega)))
  refine g_aload_n F 0 dX5_storeHeights_0 rfl rfl ?_
  refine xg_6_0 F i_X5 w_1 dX5_storeHeights_1 ?_
  refine xg_2_0 F i_X7 w_2 dX5_storeHeights_4 ?_
  refine g_iconst F 0 dX5_storeHeights_7 (by decide) ?_
  refine u1_iald F 18 0 xc_18 rfl 0 rfl (by decide) (by decide) dX5_storeHeights_8 (G 18 0) (rfl) ?_
  refine g_istore_n F [(2, .int (G 18 0)), (0, .ref (a 6)), (1, .ref (a 59))] dX5_storeHeights_9 rfl (by decide) rfl ?_
  refine g_aload_n F 1 dX5_storeHeights_10 rfl rfl ?_
  refine xg_6_1 F i_X5 w_3 dX5_storeHeights_11 (G 6 1) (rfl) ?_
  refine g_iconst F 0 dX5_storeHeights_14 (by decide) ?_
  refine u_call0 (k := 0) (n := 0) (As := [.int (G 6 1), .int 0]) (st := []) F (fun sz => S_X6_placeOf_b5_b15 l D (G 6 1) (G 6 1).toInt 0 0 rfl (by omega) rfl (by decide) sz) (va_cwS 2 hts gX5_storeHeights_X6_placeOf rfl rfl rfl (by decide +kernel) ⟨Nat.le_of_ble_eq_true rfl, Nat.le_of_ble_eq_true rfl⟩) rfl (Nat.le_of_ble_eq_true rfl) ⟨Nat.zero_le _, Nat.zero_le _⟩ dX5_storeHeights_15 (fun r11 _ hw12 => ?_)
  have rg14 := hw12.1
  have rg15 := hw12.2
  clear hw12
  refine g_istore_n F [(3, .int r11), (2, .int (G 18 0)), (0, .ref (a 6)), (1, .ref (a 59))] dX5_storeHeights_18 rfl (by decide) rfl ?_
  refine g_iconst F 0 dX5_storeHeights_19 (by decide) ?_
  refine g_istore F [(4, .int 0), (3, .int r11), (2, .int (G 18 0)), (0, .ref (a 6)), (1, .ref (a 59))] dX5_storeHeights_20 (by decide) rfl ?_
  refine g_locals [(0, .ref (a 6)), (1, .ref (a 59)), (2, .int (G 18 0)), (3, .int r11), (4, .int 0)] [3, 4, 2, 1, 0] rfl ?_
  exact J_22 _ r11 0 G (Nat.lt_succ_self _) (by have h9 := ti_rng r11; omega) (by decide) hI gu_un.rf (sHr_0 rfl) (by (first | omega | (simp only [Int32.reduceToInt, true_and, and_true, ne_eq, not_true_eq_false, false_and, or_false, false_or, true_or, or_true, false_implies] <;> omega))) (by (first | omega | (simp only [Int32.reduceToInt, true_and, and_true, ne_eq, not_true_eq_false, false_and, or_false, false_or, true_or, or_true, false_implies] <;> omega)))

theorem dX4_quietTimes_0 : decode cX4_quietTimes 0 = .ok (.aload_n 0, 1) := by decide +kernel
theorem dX4_quietTimes_1 : decode cX4_quietTimes 1 = .ok (.invokevirtual 53, 3) := by decide +kernel
theorem dX4_quietTimes_4 : decode cX4_quietTimes 4 = .ok (.iconst 0, 1) := by decide +kernel
theorem dX4_quietTimes_5 : decode cX4_quietTimes 5 = .ok (.istore_n 3, 1) := by decide +kernel
theorem dX4_quietTimes_6 : decode cX4_quietTimes 6 = .ok (.iload_n 3, 1) := by decide +kernel
theorem dX4_quietTimes_7 : decode cX4_quietTimes 7 = .ok (.bipush 30, 2) := by decide +kernel
theorem dX4_quietTimes_9 : decode cX4_quietTimes 9 = .ok (.if_icmp .ge 61, 3) := by decide +kernel
theorem dX4_quietTimes_12 : decode cX4_quietTimes 12 = .ok (.aload_n 0, 1) := by decide +kernel
theorem dX4_quietTimes_13 : decode cX4_quietTimes 13 = .ok (.getfield 33, 3) := by decide +kernel
theorem dX4_quietTimes_16 : decode cX4_quietTimes 16 = .ok (.aload_n 0, 1) := by decide +kernel
theorem dX4_quietTimes_17 : decode cX4_quietTimes 17 = .ok (.getfield 16, 3) := by decide +kernel
theorem dX4_quietTimes_20 : decode cX4_quietTimes 20 = .ok (.iconst 0, 1) := by decide +kernel
theorem dX4_quietTimes_21 : decode cX4_quietTimes 21 = .ok (.aaload, 1) := by decide +kernel
theorem dX4_quietTimes_22 : decode cX4_quietTimes 22 = .ok (.aload_n 0, 1) := by decide +kernel
theorem dX4_quietTimes_23 : decode cX4_quietTimes 23 = .ok (.getfield 19, 3) := by decide +kernel
theorem dX4_quietTimes_26 : decode cX4_quietTimes 26 = .ok (.iconst 0, 1) := by decide +kernel
theorem dX4_quietTimes_27 : decode cX4_quietTimes 27 = .ok (.iaload, 1) := by decide +kernel
theorem dX4_quietTimes_28 : decode cX4_quietTimes 28 = .ok (.iload_n 1, 1) := by decide +kernel
theorem dX4_quietTimes_29 : decode cX4_quietTimes 29 = .ok (.iload_n 2, 1) := by decide +kernel
theorem dX4_quietTimes_30 : decode cX4_quietTimes 30 = .ok (.invokevirtual 86, 3) := by decide +kernel
theorem dX4_quietTimes_33 : decode cX4_quietTimes 33 = .ok (.ifCond .eq 5, 3) := by decide +kernel
theorem dX4_quietTimes_36 : decode cX4_quietTimes 36 = .ok (.iload_n 3, 1) := by decide +kernel
theorem dX4_quietTimes_37 : decode cX4_quietTimes 37 = .ok (.ireturn, 1) := by decide +kernel
theorem dX4_quietTimes_38 : decode cX4_quietTimes 38 = .ok (.aload_n 0, 1) := by decide +kernel
theorem dX4_quietTimes_39 : decode cX4_quietTimes 39 = .ok (.getfield 33, 3) := by decide +kernel
theorem dX4_quietTimes_42 : decode cX4_quietTimes 42 = .ok (.aload_n 0, 1) := by decide +kernel
theorem dX4_quietTimes_43 : decode cX4_quietTimes 43 = .ok (.getfield 16, 3) := by decide +kernel
theorem dX4_quietTimes_46 : decode cX4_quietTimes 46 = .ok (.iconst 0, 1) := by decide +kernel
theorem dX4_quietTimes_47 : decode cX4_quietTimes 47 = .ok (.aaload, 1) := by decide +kernel
theorem dX4_quietTimes_48 : decode cX4_quietTimes 48 = .ok (.invokevirtual 90, 3) := by decide +kernel
theorem dX4_quietTimes_51 : decode cX4_quietTimes 51 = .ok (.aload_n 0, 1) := by decide +kernel
theorem dX4_quietTimes_52 : decode cX4_quietTimes 52 = .ok (.getfield 19, 3) := by decide +kernel
theorem dX4_quietTimes_55 : decode cX4_quietTimes 55 = .ok (.iconst 0, 1) := by decide +kernel
theorem dX4_quietTimes_56 : decode cX4_quietTimes 56 = .ok (.aload_n 0, 1) := by decide +kernel
theorem dX4_quietTimes_57 : decode cX4_quietTimes 57 = .ok (.getfield 33, 3) := by decide +kernel
theorem dX4_quietTimes_60 : decode cX4_quietTimes 60 = .ok (.getfield 94, 3) := by decide +kernel
theorem dX4_quietTimes_63 : decode cX4_quietTimes 63 = .ok (.iastore, 1) := by decide +kernel
theorem dX4_quietTimes_64 : decode cX4_quietTimes 64 = .ok (.iinc 3 1, 3) := by decide +kernel
theorem dX4_quietTimes_67 : decode cX4_quietTimes 67 = .ok (.goto (-61), 3) := by decide +kernel
theorem dX4_quietTimes_70 : decode cX4_quietTimes 70 = .ok (.bipush 30, 2) := by decide +kernel
theorem dX4_quietTimes_72 : decode cX4_quietTimes 72 = .ok (.ireturn, 1) := by decide +kernel
set_option maxRecDepth 20000 in
theorem ggX4_quietTimes_X4_startFromPiece : GoodIn wsX4_quietTimes wsX4_startFromPiece := goodIn_r _ [9, 10, 11, 2, 12, 13, 14, 15, 3, 16, 126, 127, 128, 129, 130, 131, 132, 133, 134, 135, 136, 137, 158, 159, 160, 161, 162] rfl (by decide +kernel)
set_option maxRecDepth 20000 in
theorem gX4_quietTimes_X4_startFromPiece : GoodIn wsX4_quietTimes (wsV RX4 53 RX4 yX4_startFromPiece wsX4_startFromPiece) := goodIn_app (goodIn_of _ (by decide +kernel)) ggX4_quietTimes_X4_startFromPiece
set_option maxRecDepth 20000 in
theorem ggX4_quietTimes_X5_run : GoodIn wsX4_quietTimes wsX5_run := goodIn_r _ [21, 22, 23, 24, 25, 26, 13, 14, 15, 27, 28, 29, 30, 31, 32, 33, 34, 35, 36, 37, 38, 39, 40, 41, 42, 43, 44, 20, 45, 46, 47, 48, 49, 50, 51, 52, 53, 54, 55, 56, 57, 58, 59, 60, 61, 62, 63, 64, 65, 66, 67, 68, 69, 70, 71, 72, 73, 74, 75, 76, 77, 78, 79, 80, 81, 82, 83, 84, 85, 86, 87, 88, 89, 90, 91, 92, 93, 94, 95, 96, 97, 98, 99, 100, 101, 102, 103, 104, 105, 106, 107, 108, 109, 110, 111, 112, 113, 114, 115, 116, 117, 118, 119, 120, 121, 138, 139, 140, 141, 142, 143, 144, 145, 146, 147, 148, 149, 150, 151, 152, 153, 154, 155, 156, 157, 163, 164, 165, 166, 167, 168, 169, 170, 171, 172, 173, 174, 175] rfl (by decide +kernel)
set_option maxRecDepth 20000 in
theorem gX4_quietTimes_X5_run : GoodIn wsX4_quietTimes (wsV RX4 86 RX5 yX5_run wsX5_run) := goodIn_app (goodIn_of _ (by decide +kernel)) ggX4_quietTimes_X5_run
set_option maxRecDepth 20000 in
theorem ggX4_quietTimes_X5_storeHeights : GoodIn wsX4_quietTimes wsX5_storeHeights := goodIn_r _ [125, 22, 23, 24, 25, 39, 40, 41, 42, 138, 139, 140, 141, 142, 143, 144, 145, 146, 147, 148, 149, 150, 151, 152, 153, 154, 155, 156, 157, 163, 164, 165, 166] rfl (by decide +kernel)
set_option maxRecDepth 20000 in
theorem gX4_quietTimes_X5_storeHeights : GoodIn wsX4_quietTimes (wsV RX4 90 RX5 yX5_storeHeights wsX5_storeHeights) := goodIn_app (goodIn_of _ (by decide +kernel)) ggX4_quietTimes_X5_storeHeights
set_option maxHeartbeats 4000000 in
set_option maxRecDepth 100000 in
theorem S_X4_quietTimes (l : Launch) (D : va_G) (K : Nat → ClassId) (a : Nat → Nat) (G : gS) (p0 : Int32) (s0 : Int) (p1 : Int32) (s1 : Int) (e0 : p0.toInt = s0) (h0 : 0 ≤ s0 ∧ s0 ≤ 300) (e1 : p1.toInt = s1) (h1 : 0 ≤ s1 ∧ s1 ≤ 300) (fr : (0 ≤ (G 6 1).toInt ∧ (G 6 1).toInt < (G 18 1).toInt ∧ 1 ≤ (G 6 2).toInt ∧ (G 6 2).toInt ≤ 9 ∧ 1 ≤ (G 6 3).toInt ∧ (G 6 3).toInt ≤ 20 ∧ 1 ≤ (G 6 4).toInt ∧ (G 6 4).toInt ≤ 12)) (hI : xI G) (sz : Nat) : Ki l yX4_quietTimes wsX4_quietTimes 5 148 0 0 D [.ref (a 8), .int p0, .int p1] (xW K a G) (tK K) sz (fun (r : Int32) (G' : gS) => (xI G') ∧ (gu_un xcd [608, 613, 614, 615, 616, 617, 618, 619, 620, 2100, 2400, 2700, 4400, 4500, 4600, 4700, 4800, 5900, 6500] G G') ∧ (0 ≤ r.toInt ∧ r.toInt ≤ 30)) (fun (G' : gS) => (xW K a G')) (fun _ => (tK K)) := by
  unfold Ki
  refine g_ofW (cc := cX4_quietTimes) (lv := [(0, .ref (a 8)), (1, .int p0), (2, .int p1)]) (by decide) rfl (Nat.le_of_ble_eq_true rfl) rfl ?_
  intro p e s m args below meth c A Q hA hQ F hr hnm
  have hts := F.2.2.2.2.1
  have w_0 : (Cond.fieldLink RX4 33 "QuietCut$Jobs" "lathe" "LQuietCut$Lathe;").before args s = true := hts _ (List.mem_of_getElem? (i := 1) rfl)
  have i_X4 : ∀ w ∈ u_ws RX4 TX4 12, w ∈ wsX4_quietTimes := fun _ h => List.mem_cons_of_mem _ (List.mem_append_left _ (List.mem_append_left _ (List.mem_append_left _ (List.mem_append_left _ (List.mem_append_right _ h)))))
  have w_1 : (Cond.fieldLink RX4 16 "QuietCut$Jobs" "heights" "[[I").before args s = true := hts _ (List.mem_of_getElem? (i := 2) rfl)
  have w_2 : (Cond.fieldLink RX4 19 "QuietCut$Jobs" "wears" "[I").before args s = true := hts _ (List.mem_of_getElem? (i := 3) rfl)
  have w_3 : (Cond.fieldLink RX4 94 "QuietCut$Lathe" "wear" "I").before args s = true := hts _ (List.mem_of_getElem? (i := 4) rfl)
  have i_X5 : ∀ w ∈ u_ws RX5 TX5 20, w ∈ wsX4_quietTimes := fun _ h => List.mem_cons_of_mem _ (List.mem_append_left _ (List.mem_append_left _ (List.mem_append_left _ (List.mem_append_right _ h))))
  have J_6 : ∀ (fuel : Nat) (x6_3 : Int32) (Gj6 : gS), (2147483647 - x6_3.toInt).toNat < fuel → (0 ≤ x6_3.toInt ∧ x6_3.toInt ≤ 30) → (xI Gj6) → (gu_un xcd [608, 613, 614, 615, 616, 617, 618, 619, 620, 2100, 2400, 2700, 4400, 4500, 4600, 4700, 4800, 5900, 6500] G Gj6) → gG p l e (gR 5 0 0 148) s m args below meth c D A 4 Q 0 0 (xW K a Gj6) (tK K) [(0, .ref (a 8)), (1, .int p0), (2, .int p1), (3, .int x6_3)] 6 [] := by
    intro fuel
    induction fuel with
    | zero => intro x6_3 Gj6 hm; exact absurd hm (Nat.not_lt_zero _)
    | succ fuel_6 ih_6 =>
      intro x6_3 Gj6 hm_6 h6_3 jI6 jU6
      refine g_iload_n F 3 dX4_quietTimes_6 rfl rfl ?_
      refine g_bipush F 30 dX4_quietTimes_7 (by decide) ?_
      refine v_icmp_ge F 70 dX4_quietTimes_9 (by decide) x6_3.toInt 30 rfl rfl (fun c1 => ?_) (fun c1 => ?_)
      · refine g_bipush F 30 dX4_quietTimes_70 (by decide) ?_
        exact u_iret F hA hQ hr Gj6 (⟨jI6, (gu_un.tr gu_un.rf (gu_un.su jU6 rfl)), (by decide)⟩) rfl rfl dX4_quietTimes_72
      · refine g_aload_n F 0 dX4_quietTimes_12 rfl rfl ?_
        refine xg_8_1 F i_X4 w_0 dX4_quietTimes_13 ?_
        refine g_aload_n F 0 dX4_quietTimes_16 rfl rfl ?_
        refine xg_8_4 F i_X4 w_1 dX4_quietTimes_17 ?_
        refine g_iconst F 0 dX4_quietTimes_20 (by decide) ?_
        refine g_aald (b := a 59) F 58 1 xc_58 rfl (ti_in (show Int32.toInt 0 = 0 from rfl) (by decide) (by decide)) (by rw [show Int32.toNatClampNeg 0 = 0 from congrArg Int.toNat (show Int32.toInt 0 = 0 from rfl)]; rfl) dX4_quietTimes_21 ?_
        refine g_aload_n F 0 dX4_quietTimes_22 rfl rfl ?_
        refine xg_8_5 F i_X4 w_2 dX4_quietTimes_23 ?_
        refine g_iconst F 0 dX4_quietTimes_26 (by decide) ?_
        refine u1_iald F 65 0 xc_65 rfl 0 rfl (by decide) (by decide) dX4_quietTimes_27 (Gj6 65 0) (rfl) ?_
        refine g_iload_n F 1 dX4_quietTimes_28 rfl rfl ?_
        refine g_iload_n F 2 dX4_quietTimes_29 rfl rfl ?_
        have b2 : (0 : Int) ≤ (Gj6 65 0).toInt ∧ (Gj6 65 0).toInt ≤ 30000 := jI6 65 0
        have b3 : (1 : Int) ≤ (G 18 1).toInt ∧ (G 18 1).toInt ≤ 6 := hI 18 1
        refine u_callVi (k := 0) (n := 0) (b := a 6) (As := [.ref (a 59), .int (Gj6 65 0), .int p0, .int p1]) (st := []) F (fun sz => S_X5_run_59 l D K a Gj6 (Gj6 65 0) (Gj6 65 0).toInt p0 s0 p1 s1 rfl (by omega) e0 (by omega) e1 (by omega) (by have e9_6_1 : Gj6 6 1 = (G 6 1) := jU6 6 1 (by decide); have e9_6_2 : Gj6 6 2 = (G 6 2) := jU6 6 2 (by decide); have e9_6_3 : Gj6 6 3 = (G 6 3) := jU6 6 3 (by decide); have e9_6_4 : Gj6 6 4 = (G 6 4) := jU6 6 4 (by decide); have e9_18_1 : Gj6 18 1 = (G 18 1) := jU6 18 1 (by decide); (try simp only [e9_6_1, e9_6_2, e9_6_3, e9_6_4, e9_18_1, true_and, and_true]) <;> (first | omega | (simp only [Int32.reduceToInt, true_and, and_true, ne_eq, not_true_eq_false, false_and, or_false, false_or, true_or, or_true, false_implies] <;> omega))) jI6 sz) (cwV 4 hts gX4_quietTimes_X5_run rfl rfl rfl (by decide +kernel) ⟨Nat.le_of_ble_eq_true rfl, Nat.le_of_ble_eq_true rfl⟩) rfl 6 xc_6 rfl (Nat.le_of_ble_eq_true rfl) ⟨Nat.zero_le _, Nat.zero_le _⟩ dX4_quietTimes_30 (fun r4 G6 hw5 => ?_)
        have hI7 : xI G6 := hw5.1
        have hU8 : gu_un xcd [608, 613, 614, 615, 616, 617, 618, 619, 620, 2100, 2400, 2700, 4400, 4500, 4600, 4700, 4800] Gj6 G6 := hw5.2.1
        have hp9 := hw5.2.2
        have q10 : (r4.toInt = -4 ∨ (0 ≤ r4.toInt ∧ r4.toInt ≤ 2)) := hp9.2.1
        have q11 : ((xTok Gj6 ∧ r4.toInt ≠ -4) → xOut Gj6 (Gj6 59) (Gj6 65 0) p0 p1 G6 r4.toInt) := hp9.2.2.1
        have b12 : (4 : Int) ≤ (G 18 0).toInt ∧ (G 18 0).toInt ≤ 16 := hI 18 0
        have q13 : ((r4.toInt = -4 ∧ psMx (psHr (Gj6 59) (G 6 1).toInt (G 18 0).toInt) ((G 18 0).toInt - 1).toNat - (G 6 3).toInt * (G 6 4).toInt < 1) ∨ (r4.toInt ≠ -4 ∧ 1 ≤ psMx (psHr (Gj6 59) (G 6 1).toInt (G 18 0).toInt) ((G 18 0).toInt - 1).toNat - (G 6 3).toInt * (G 6 4).toInt)) := by have h9 := hp9.2.2.2; (try simp only [(show Gj6 6 1 = (G 6 1) from jU6 6 1 (by decide)), (show Gj6 18 0 = (G 18 0) from jU6 18 0 (by decide)), (show Gj6 18 0 = (G 18 0) from jU6 18 0 (by decide)), (show Gj6 6 3 = (G 6 3) from jU6 6 3 (by decide)), (show Gj6 6 4 = (G 6 4) from jU6 6 4 (by decide)), (show Gj6 6 1 = (G 6 1) from jU6 6 1 (by decide)), (show Gj6 18 0 = (G 18 0) from jU6 18 0 (by decide)), (show Gj6 18 0 = (G 18 0) from jU6 18 0 (by decide)), (show Gj6 6 3 = (G 6 3) from jU6 6 3 (by decide)), (show Gj6 6 4 = (G 6 4) from jU6 6 4 (by decide))] at h9); first | exact h9 | omega
        have rg14 := hp9.1
        clear hp9 hw5
        refine v_if_eq F 38 dX4_quietTimes_33 (by decide) r4.toInt rfl (fun c15 => ?_) (fun c15 => ?_)
        · refine g_aload_n F 0 dX4_quietTimes_38 rfl rfl ?_
          refine xg_8_1 F i_X4 w_0 dX4_quietTimes_39 ?_
          refine g_aload_n F 0 dX4_quietTimes_42 rfl rfl ?_
          refine xg_8_4 F i_X4 w_1 dX4_quietTimes_43 ?_
          refine g_iconst F 0 dX4_quietTimes_46 (by decide) ?_
          refine g_aald (b := a 59) F 58 1 xc_58 rfl (ti_in (show Int32.toInt 0 = 0 from rfl) (by decide) (by decide)) (by rw [show Int32.toNatClampNeg 0 = 0 from congrArg Int.toNat (show Int32.toInt 0 = 0 from rfl)]; rfl) dX4_quietTimes_47 ?_
          refine u_callVv (k := 0) (n := 0) (b := a 6) (As := [.ref (a 59)]) (st := []) F (fun sz => S_X5_storeHeights_59 l D K a G6  (by have e9_6_1 : G6 6 1 = (G 6 1) := (hU8 6 1 (by decide)).trans (jU6 6 1 (by decide)); (try simp only [e9_6_1, true_and, and_true]) <;> (first | omega | (simp only [Int32.reduceToInt, true_and, and_true, ne_eq, not_true_eq_false, false_and, or_false, false_or, true_or, or_true, false_implies] <;> omega))) hI7 sz) (cwV 1 hts gX4_quietTimes_X5_storeHeights rfl rfl rfl (by decide +kernel) ⟨Nat.le_of_ble_eq_true rfl, Nat.le_of_ble_eq_true rfl⟩) rfl 6 xc_6 rfl (Nat.le_of_ble_eq_true rfl) ⟨Nat.zero_le _, Nat.zero_le _⟩ dX4_quietTimes_48 (fun G18 hw17 => ?_)
          have hI19 : xI G18 := hw17.1
          have hU20 : gu_un xcd [5900] G6 G18 := hw17.2.1
          have hp21 := hw17.2.2
          have q22 : (∀ q : Nat, G18 59 q = sHr (Gj6 59) (G6 45) (G 6 1).toInt (G 18 0).toInt q) := by have h9 := hp21; (try simp only [(show G6 6 1 = (G 6 1) from (hU8 6 1 (by decide)).trans (jU6 6 1 (by decide))), (show G6 18 0 = (G 18 0) from (hU8 18 0 (by decide)).trans (jU6 18 0 (by decide))), (show G6 59 = (Gj6 59) from (show G6 59 = Gj6 59 from funext fun k_ => hU8 59 k_ (show (5900 : Nat) ∉ ([608, 613, 614, 615, 616, 617, 618, 619, 620, 2100, 2400, 2700, 4400, 4500, 4600, 4700, 4800] : List Nat) by decide)))] at h9); first | exact h9 | omega
          clear hp21 hw17
          refine g_aload_n F 0 dX4_quietTimes_51 rfl rfl ?_
          refine xg_8_5 F i_X4 w_2 dX4_quietTimes_52 ?_
          refine g_iconst F 0 dX4_quietTimes_55 (by decide) ?_
          refine g_aload_n F 0 dX4_quietTimes_56 rfl rfl ?_
          refine xg_8_1 F i_X4 w_0 dX4_quietTimes_57 ?_
          refine xg_6_12 F i_X5 w_3 dX4_quietTimes_60 (G6 6 12) (hU20 6 12 (by decide)) ?_
          have b23 : (0 : Int) ≤ (G6 6 12).toInt ∧ (G6 6 12).toInt ≤ 30000 := hI7 6 12
          refine u_iast F 65 0 xc_65 rfl 0 rfl (by decide) (by decide) (xW K a (gu_up G18 65 0 (G6 6 12))) (xs_65 _) dX4_quietTimes_63 ?_
          refine u_iinc F (fun v_ => [(3, .int v_), (0, .ref (a 8)), (1, .int p0), (2, .int p1)]) dX4_quietTimes_64 (j := 3) rfl x6_3.toInt 1 rfl rfl (by omega) (by omega) (by decide) (fun _ => rfl) (fun y24 ey24 => ?_)
          refine g_goto F 6 dX4_quietTimes_67 (by decide) ?_
          refine g_locals [(0, .ref (a 8)), (1, .int p0), (2, .int p1), (3, .int y24)] [1, 2, 3, 0] rfl ?_
          exact ih_6 y24 (gu_up G18 65 0 (G6 6 12)) (by omega) (by have h9 := ti_rng y24; omega) (gu_I.up (j := 65) (k := 0) (v := (G6 6 12)) hI19 (show (0 : Int) ≤ Int32.toInt (G6 6 12) by omega) (show Int32.toInt (G6 6 12) ≤ 30000 by omega)) (gu_un.up (j := 65) (k := 0) (v := (G6 6 12)) (gu_un.tr (gu_un.tr (gu_un.tr gu_un.rf (gu_un.su jU6 rfl)) (gu_un.su hU8 rfl)) (gu_un.su hU20 rfl)) (show (6500 : Nat) ∈ ([608, 613, 614, 615, 616, 617, 618, 619, 620, 2100, 2400, 2700, 4400, 4500, 4600, 4700, 4800, 5900, 6500] : List Nat) by decide))
        · refine g_iload_n F 3 dX4_quietTimes_36 rfl rfl ?_
          exact u_iret F hA hQ hr G6 (⟨hI7, (gu_un.tr (gu_un.tr gu_un.rf (gu_un.su jU6 rfl)) (gu_un.su hU8 rfl)), (by have h9 := ti_rng x6_3; omega)⟩) rfl rfl dX4_quietTimes_37
  refine g_aload_n F 0 dX4_quietTimes_0 rfl rfl ?_
  refine u_callVv (k := 0) (n := 0) (b := a 8) (As := []) (st := []) F (fun sz => S_X4_startFromPiece l D K a G  hI sz) (cwV 0 hts gX4_quietTimes_X4_startFromPiece rfl rfl rfl (by decide +kernel) ⟨Nat.le_of_ble_eq_true rfl, Nat.le_of_ble_eq_true rfl⟩) rfl 8 xc_8 rfl (Nat.le_of_ble_eq_true rfl) ⟨Nat.zero_le _, Nat.zero_le _⟩ dX4_quietTimes_1 (fun G27 hw26 => ?_)
  have hI28 : xI G27 := hw26.1
  have hU29 : gu_un xcd [5900, 6500] G G27 := hw26.2
  refine g_iconst F 0 dX4_quietTimes_4 (by decide) ?_
  refine g_istore_n F [(3, .int 0), (0, .ref (a 8)), (1, .int p0), (2, .int p1)] dX4_quietTimes_5 rfl (by decide) rfl ?_
  refine g_locals [(0, .ref (a 8)), (1, .int p0), (2, .int p1), (3, .int 0)] [1, 2, 3, 0] rfl ?_
  exact J_6 _ 0 G27 (Nat.lt_succ_self _) (by decide) hI28 (gu_un.tr gu_un.rf (gu_un.su hU29 rfl))
