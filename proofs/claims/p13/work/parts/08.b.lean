theorem dX13_putBy_0 : decode cX13_putBy 0 = .ok (.iconst 0, 1) := by decide +kernel
theorem dX13_putBy_1 : decode cX13_putBy 1 = .ok (.istore_n 1, 1) := by decide +kernel
theorem dX13_putBy_2 : decode cX13_putBy 2 = .ok (.iload_n 1, 1) := by decide +kernel
theorem dX13_putBy_3 : decode cX13_putBy 3 = .ok (.bipush 96, 2) := by decide +kernel
theorem dX13_putBy_5 : decode cX13_putBy 5 = .ok (.if_icmp .ge 29, 3) := by decide +kernel
theorem dX13_putBy_8 : decode cX13_putBy 8 = .ok (.aload_n 0, 1) := by decide +kernel
theorem dX13_putBy_9 : decode cX13_putBy 9 = .ok (.getfield 229, 3) := by decide +kernel
theorem dX13_putBy_12 : decode cX13_putBy 12 = .ok (.bipush 96, 2) := by decide +kernel
theorem dX13_putBy_14 : decode cX13_putBy 14 = .ok (.aload_n 0, 1) := by decide +kernel
theorem dX13_putBy_15 : decode cX13_putBy 15 = .ok (.getfield 382, 3) := by decide +kernel
theorem dX13_putBy_18 : decode cX13_putBy 18 = .ok (.imul, 1) := by decide +kernel
theorem dX13_putBy_19 : decode cX13_putBy 19 = .ok (.iload_n 1, 1) := by decide +kernel
theorem dX13_putBy_20 : decode cX13_putBy 20 = .ok (.iadd, 1) := by decide +kernel
theorem dX13_putBy_21 : decode cX13_putBy 21 = .ok (.aload_n 0, 1) := by decide +kernel
theorem dX13_putBy_22 : decode cX13_putBy 22 = .ok (.getfield 214, 3) := by decide +kernel
theorem dX13_putBy_25 : decode cX13_putBy 25 = .ok (.iload_n 1, 1) := by decide +kernel
theorem dX13_putBy_26 : decode cX13_putBy 26 = .ok (.iaload, 1) := by decide +kernel
theorem dX13_putBy_27 : decode cX13_putBy 27 = .ok (.iastore, 1) := by decide +kernel
theorem dX13_putBy_28 : decode cX13_putBy 28 = .ok (.iinc 1 1, 3) := by decide +kernel
theorem dX13_putBy_31 : decode cX13_putBy 31 = .ok (.goto (-29), 3) := by decide +kernel
theorem dX13_putBy_34 : decode cX13_putBy 34 = .ok (.aload_n 0, 1) := by decide +kernel
theorem dX13_putBy_35 : decode cX13_putBy 35 = .ok (.getfield 232, 3) := by decide +kernel
theorem dX13_putBy_38 : decode cX13_putBy 38 = .ok (.aload_n 0, 1) := by decide +kernel
theorem dX13_putBy_39 : decode cX13_putBy 39 = .ok (.getfield 382, 3) := by decide +kernel
theorem dX13_putBy_42 : decode cX13_putBy 42 = .ok (.aload_n 0, 1) := by decide +kernel
theorem dX13_putBy_43 : decode cX13_putBy 43 = .ok (.getfield 362, 3) := by decide +kernel
theorem dX13_putBy_46 : decode cX13_putBy 46 = .ok (.iastore, 1) := by decide +kernel
theorem dX13_putBy_47 : decode cX13_putBy 47 = .ok (.aload_n 0, 1) := by decide +kernel
theorem dX13_putBy_48 : decode cX13_putBy 48 = .ok (.dup, 1) := by decide +kernel
theorem dX13_putBy_49 : decode cX13_putBy 49 = .ok (.getfield 382, 3) := by decide +kernel
theorem dX13_putBy_52 : decode cX13_putBy 52 = .ok (.iconst 1, 1) := by decide +kernel
theorem dX13_putBy_53 : decode cX13_putBy 53 = .ok (.iadd, 1) := by decide +kernel
theorem dX13_putBy_54 : decode cX13_putBy 54 = .ok (.putfield 382, 3) := by decide +kernel
theorem dX13_putBy_57 : decode cX13_putBy 57 = .ok (.return_, 1) := by decide +kernel
set_option maxHeartbeats 4000000 in
set_option maxRecDepth 100000 in
theorem S_X13_putBy (l : Launch) (D : va_G) (K : Nat → ClassId) (a : Nat → Nat) (G : gS) (dp : ((G 0 32).toInt ≤ 6)) (hI : yI G) (sz : Nat) : Kv l yX13_putBy wsX13_putBy 1 40 0 0 D [.ref (a 0)] (yW K a G) (tK K) sz (fun (G' : gS) => (yI G') ∧ (gu_un ycd [33, 1900, 2000] G G') ∧ (((G' 0 32).toInt = (G 0 32).toInt + 1)) ∧ (((∀ q : Nat, G' 19 q = sRow (G 19) (G 14) (96 * (G 0 32).toInt) 96 q) ∧ G' 20 = upd (G 20) ((G 0 32).toInt).toNat (G 0 28))) ∧ (((G' 15 = G 15 ∧ G' 16 = G 16 ∧ G' 17 = G 17 ∧ G' 18 = G 18) ∧ G' 14 = G 14 ∧ G' 0 28 = G 0 28))) (fun (G' : gS) => (yW K a G')) (fun _ => (tK K)) := by
  unfold Kv
  refine g_ofW (cc := cX13_putBy) (lv := [(0, .ref (a 0))]) (by decide) rfl (Nat.le_of_ble_eq_true rfl) rfl ?_
  intro p e s m args below meth c A Q hA hQ F hr hnm
  have hts := F.2.2.2.2.1
  have w_0 : (Cond.fieldLink RX13 232 "QuietCutModel" "keptWear" "[I").before args s = true := hts _ (List.mem_of_getElem? (i := 4) rfl)
  have i_X13 : ∀ w ∈ u_ws RX13 TX13 73, w ∈ wsX13_putBy := fun _ h => List.mem_cons_of_mem _ (List.mem_append_right _ h)
  have w_1 : (Cond.fieldLink RX13 382 "QuietCutModel" "deep" "I").before args s = true := hts _ (List.mem_of_getElem? (i := 2) rfl)
  have w_2 : (Cond.fieldLink RX13 362 "QuietCutModel" "wear" "I").before args s = true := hts _ (List.mem_of_getElem? (i := 5) rfl)
  have w_3 : (Cond.fieldLink RX13 229 "QuietCutModel" "kept" "[I").before args s = true := hts _ (List.mem_of_getElem? (i := 1) rfl)
  have w_4 : (Cond.fieldLink RX13 214 "QuietCutModel" "height" "[I").before args s = true := hts _ (List.mem_of_getElem? (i := 3) rfl)
  have b1 : (0 : Int) ≤ (G 0 32).toInt ∧ (G 0 32).toInt ≤ 7 := hI 0 32
  have J_2 : ∀ (fuel : Nat) (x2_1 : Int32) (Gj2 : gS), (2147483647 - x2_1.toInt).toNat < fuel → (0 ≤ x2_1.toInt ∧ x2_1.toInt ≤ 96) → (yI Gj2) → (gu_un ycd [1900] G Gj2) → (∀ q : Nat, Gj2 19 q = sRow (G 19) (G 14) (96 * (G 0 32).toInt) x2_1.toInt q) → gG p l e (gR 1 0 0 40) s m args below meth c D A 2 Q 0 0 (yW K a Gj2) (tK K) [(0, .ref (a 0)), (1, .int x2_1)] 2 [] := by
    intro fuel
    induction fuel with
    | zero => intro x2_1 Gj2 hm; exact absurd hm (Nat.not_lt_zero _)
    | succ fuel_2 ih_2 =>
      intro x2_1 Gj2 hm_2 h2_1 jI2 jU2 pb
      refine g_iload_n F 1 dX13_putBy_2 rfl rfl ?_
      refine g_bipush F 96 dX13_putBy_3 (by decide) ?_
      refine v_icmp_ge F 34 dX13_putBy_5 (by decide) x2_1.toInt 96 rfl rfl (fun c2 => ?_) (fun c2 => ?_)
      · refine g_aload_n F 0 dX13_putBy_34 rfl rfl ?_
        refine yg_0_31 F i_X13 w_0 dX13_putBy_35 ?_
        refine g_aload_n F 0 dX13_putBy_38 rfl rfl ?_
        refine yg_0_32 F i_X13 w_1 dX13_putBy_39 (G 0 32) (jU2 0 32 (by decide)) ?_
        refine g_aload_n F 0 dX13_putBy_42 rfl rfl ?_
        refine yg_0_28 F i_X13 w_2 dX13_putBy_43 (G 0 28) (jU2 0 28 (by decide)) ?_
        have b3 : (0 : Int) ≤ (G 0 28).toInt ∧ (G 0 28).toInt ≤ 30000 := hI 0 28
        refine u_iast F 20 0 yc_20 rfl (G 0 32).toInt rfl (by omega) (by omega) (yW K a (gu_up Gj2 20 ((G 0 32).toInt).toNat (G 0 28))) (ys_20 _) dX13_putBy_46 ?_
        refine g_aload_n F 0 dX13_putBy_47 rfl rfl ?_
        refine g_dup F dX13_putBy_48 rfl ?_
        refine yg_0_32 F i_X13 w_1 dX13_putBy_49 (G 0 32) (jU2 0 32 (by decide)) ?_
        refine g_iconst F 1 dX13_putBy_52 (by decide) ?_
        refine u_iadd F dX13_putBy_53 (G 0 32).toInt 1 rfl rfl (by omega) (by omega) (fun y4 ey4 => ?_)
        refine yp_0_32 F i_X13 w_1 dX13_putBy_54 ?_
        exact u_vret F hA hQ hr (gu_up (gu_up Gj2 20 ((G 0 32).toInt).toNat (G 0 28)) 0 32 y4) (⟨(gu_I.up (j := 0) (k := 32) (v := y4) (gu_I.up (j := 20) (k := ((G 0 32).toInt).toNat) (v := (G 0 28)) jI2 (show (0 : Int) ≤ Int32.toInt (G 0 28) by omega) (show Int32.toInt (G 0 28) ≤ 30000 by omega)) (show (0 : Int) ≤ Int32.toInt y4 by omega) (show Int32.toInt y4 ≤ 7 by omega)), (gu_un.up (j := 0) (k := 32) (v := y4) (gu_un.up (j := 20) (k := ((G 0 32).toInt).toNat) (v := (G 0 28)) (gu_un.tr gu_un.rf (gu_un.su jU2 rfl)) (show (2000 : Nat) ∈ ([33, 1900, 2000] : List Nat) by decide)) (show (33 : Nat) ∈ ([33, 1900, 2000] : List Nat) by decide)), (by show (((gu_up (gu_up Gj2 20 ((G 0 32).toInt).toNat (G 0 28)) 0 32 y4) 0 32).toInt = (G 0 32).toInt + 1); have e9_0_32 : (gu_up (gu_up Gj2 20 ((G 0 32).toInt).toNat (G 0 28)) 0 32 y4) 0 32 = y4 := rfl; (try simp only [e9_0_32, true_and, and_true]) <;> (first | omega | (simp only [Int32.reduceToInt, true_and, and_true, ne_eq, not_true_eq_false, false_and, or_false, false_or, true_or, or_true, false_implies] <;> omega))), (⟨fun q => by have h9 := pb q; rw [show x2_1.toInt = 96 by omega] at h9; exact h9, (show (gu_up (gu_up Gj2 20 ((G 0 32).toInt).toNat (G 0 28)) 0 32 y4) 20 = (upd (G 20) ((G 0 32).toInt).toNat (G 0 28)) from (congrArg (fun f_ => upd f_ ((G 0 32).toInt).toNat (G 0 28)) ((show Gj2 20 = G 20 from funext fun k_ => jU2 20 k_ (by simp [ycd])).trans (show G 20 = (G 20) from rfl))))⟩), (⟨⟨(show (gu_up (gu_up Gj2 20 ((G 0 32).toInt).toNat (G 0 28)) 0 32 y4) 15 = G 15 from funext fun k_ => (show gu_un ycd [33, 1900, 2000] G (gu_up (gu_up Gj2 20 ((G 0 32).toInt).toNat (G 0 28)) 0 32 y4) from (gu_un.up (j := 0) (k := 32) (v := y4) (gu_un.up (j := 20) (k := ((G 0 32).toInt).toNat) (v := (G 0 28)) (gu_un.tr gu_un.rf (gu_un.su jU2 rfl)) (show (2000 : Nat) ∈ ([33, 1900, 2000] : List Nat) by decide)) (show (33 : Nat) ∈ ([33, 1900, 2000] : List Nat) by decide))) 15 k_ (by simp [ycd])), (show (gu_up (gu_up Gj2 20 ((G 0 32).toInt).toNat (G 0 28)) 0 32 y4) 16 = G 16 from funext fun k_ => (show gu_un ycd [33, 1900, 2000] G (gu_up (gu_up Gj2 20 ((G 0 32).toInt).toNat (G 0 28)) 0 32 y4) from (gu_un.up (j := 0) (k := 32) (v := y4) (gu_un.up (j := 20) (k := ((G 0 32).toInt).toNat) (v := (G 0 28)) (gu_un.tr gu_un.rf (gu_un.su jU2 rfl)) (show (2000 : Nat) ∈ ([33, 1900, 2000] : List Nat) by decide)) (show (33 : Nat) ∈ ([33, 1900, 2000] : List Nat) by decide))) 16 k_ (by simp [ycd])), (show (gu_up (gu_up Gj2 20 ((G 0 32).toInt).toNat (G 0 28)) 0 32 y4) 17 = G 17 from funext fun k_ => (show gu_un ycd [33, 1900, 2000] G (gu_up (gu_up Gj2 20 ((G 0 32).toInt).toNat (G 0 28)) 0 32 y4) from (gu_un.up (j := 0) (k := 32) (v := y4) (gu_un.up (j := 20) (k := ((G 0 32).toInt).toNat) (v := (G 0 28)) (gu_un.tr gu_un.rf (gu_un.su jU2 rfl)) (show (2000 : Nat) ∈ ([33, 1900, 2000] : List Nat) by decide)) (show (33 : Nat) ∈ ([33, 1900, 2000] : List Nat) by decide))) 17 k_ (by simp [ycd])), (show (gu_up (gu_up Gj2 20 ((G 0 32).toInt).toNat (G 0 28)) 0 32 y4) 18 = G 18 from funext fun k_ => (show gu_un ycd [33, 1900, 2000] G (gu_up (gu_up Gj2 20 ((G 0 32).toInt).toNat (G 0 28)) 0 32 y4) from (gu_un.up (j := 0) (k := 32) (v := y4) (gu_un.up (j := 20) (k := ((G 0 32).toInt).toNat) (v := (G 0 28)) (gu_un.tr gu_un.rf (gu_un.su jU2 rfl)) (show (2000 : Nat) ∈ ([33, 1900, 2000] : List Nat) by decide)) (show (33 : Nat) ∈ ([33, 1900, 2000] : List Nat) by decide))) 18 k_ (by simp [ycd]))⟩, (show (gu_up (gu_up Gj2 20 ((G 0 32).toInt).toNat (G 0 28)) 0 32 y4) 14 = G 14 from funext fun k_ => (show gu_un ycd [33, 1900, 2000] G (gu_up (gu_up Gj2 20 ((G 0 32).toInt).toNat (G 0 28)) 0 32 y4) from (gu_un.up (j := 0) (k := 32) (v := y4) (gu_un.up (j := 20) (k := ((G 0 32).toInt).toNat) (v := (G 0 28)) (gu_un.tr gu_un.rf (gu_un.su jU2 rfl)) (show (2000 : Nat) ∈ ([33, 1900, 2000] : List Nat) by decide)) (show (33 : Nat) ∈ ([33, 1900, 2000] : List Nat) by decide))) 14 k_ (by simp [ycd])), (show (gu_up (gu_up Gj2 20 ((G 0 32).toInt).toNat (G 0 28)) 0 32 y4) 0 28 = G 0 28 from (show gu_un ycd [33, 1900, 2000] G (gu_up (gu_up Gj2 20 ((G 0 32).toInt).toNat (G 0 28)) 0 32 y4) from (gu_un.up (j := 0) (k := 32) (v := y4) (gu_un.up (j := 20) (k := ((G 0 32).toInt).toNat) (v := (G 0 28)) (gu_un.tr gu_un.rf (gu_un.su jU2 rfl)) (show (2000 : Nat) ∈ ([33, 1900, 2000] : List Nat) by decide)) (show (33 : Nat) ∈ ([33, 1900, 2000] : List Nat) by decide))) 0 28 (by decide))⟩)⟩) rfl rfl dX13_putBy_57
      · refine g_aload_n F 0 dX13_putBy_8 rfl rfl ?_
        refine yg_0_30 F i_X13 w_3 dX13_putBy_9 ?_
        refine g_bipush F 96 dX13_putBy_12 (by decide) ?_
        refine g_aload_n F 0 dX13_putBy_14 rfl rfl ?_
        refine yg_0_32 F i_X13 w_1 dX13_putBy_15 (G 0 32) (jU2 0 32 (by decide)) ?_
        refine u_imul F dX13_putBy_18 96 (G 0 32).toInt rfl rfl (by omega) (by omega) (fun y5 ey5 => ?_)
        refine g_iload_n F 1 dX13_putBy_19 rfl rfl ?_
        refine u_iadd F dX13_putBy_20 y5.toInt x2_1.toInt rfl rfl (by omega) (by omega) (fun y6 ey6 => ?_)
        refine g_aload_n F 0 dX13_putBy_21 rfl rfl ?_
        refine yg_0_23 F i_X13 w_4 dX13_putBy_22 ?_
        refine g_iload_n F 1 dX13_putBy_25 rfl rfl ?_
        refine u1_iald F 14 0 yc_14 rfl x2_1.toInt rfl (by omega) (by omega) dX13_putBy_26 ((G 14) (x2_1.toInt).toNat) (congrFun ((show Gj2 14 = G 14 from funext fun k_ => jU2 14 k_ (show (1400 : Nat) ∉ ([1900] : List Nat) by decide))) _) ?_
        have b7 : ((-9998) : Int) ≤ ((G 14) (x2_1.toInt).toNat).toInt ∧ ((G 14) (x2_1.toInt).toNat).toInt ≤ 5000 := hI 14 _
        refine u_iast F 19 0 yc_19 rfl y6.toInt rfl (by omega) (by omega) (yW K a (gu_up Gj2 19 (y6.toInt).toNat ((G 14) (x2_1.toInt).toNat))) (ys_19 _) dX13_putBy_27 ?_
        refine u_iinc F (fun v_ => [(1, .int v_), (0, .ref (a 0))]) dX13_putBy_28 (j := 1) rfl x2_1.toInt 1 rfl rfl (by omega) (by omega) (by decide) (fun _ => rfl) (fun y8 ey8 => ?_)
        refine g_goto F 2 dX13_putBy_31 (by decide) ?_
        refine g_locals [(0, .ref (a 0)), (1, .int y8)] [1, 0] rfl ?_
        exact ih_2 y8 (gu_up Gj2 19 (y6.toInt).toNat ((G 14) (x2_1.toInt).toNat)) (by omega) (by have h9 := ti_rng y8; omega) (gu_I.up (j := 19) (k := (y6.toInt).toNat) (v := ((G 14) (x2_1.toInt).toNat)) jI2 (show ((-9998) : Int) ≤ Int32.toInt ((G 14) (x2_1.toInt).toNat) by omega) (show Int32.toInt ((G 14) (x2_1.toInt).toNat) ≤ 5000 by omega)) (gu_un.up (j := 19) (k := (y6.toInt).toNat) (v := ((G 14) (x2_1.toInt).toNat)) (gu_un.tr gu_un.rf (gu_un.su jU2 rfl)) (show (1900 : Nat) ∈ ([1900] : List Nat) by decide)) (sRow_1 (i := x2_1.toInt) (k := y6.toInt) pb (by omega) (by omega) (by omega) rfl (by omega))
  refine g_iconst F 0 dX13_putBy_0 (by decide) ?_
  refine g_istore_n F [(1, .int 0), (0, .ref (a 0))] dX13_putBy_1 rfl (by decide) rfl ?_
  refine g_locals [(0, .ref (a 0)), (1, .int 0)] [1, 0] rfl ?_
  exact J_2 _ 0 G (Nat.lt_succ_self _) (by decide) hI gu_un.rf (sRow_0 rfl)

theorem dX13_putBack_0 : decode cX13_putBack 0 = .ok (.aload_n 0, 1) := by decide +kernel
theorem dX13_putBack_1 : decode cX13_putBack 1 = .ok (.dup, 1) := by decide +kernel
theorem dX13_putBack_2 : decode cX13_putBack 2 = .ok (.getfield 382, 3) := by decide +kernel
theorem dX13_putBack_5 : decode cX13_putBack 5 = .ok (.iconst 1, 1) := by decide +kernel
theorem dX13_putBack_6 : decode cX13_putBack 6 = .ok (.isub, 1) := by decide +kernel
theorem dX13_putBack_7 : decode cX13_putBack 7 = .ok (.putfield 382, 3) := by decide +kernel
theorem dX13_putBack_10 : decode cX13_putBack 10 = .ok (.iconst 0, 1) := by decide +kernel
theorem dX13_putBack_11 : decode cX13_putBack 11 = .ok (.istore_n 1, 1) := by decide +kernel
theorem dX13_putBack_12 : decode cX13_putBack 12 = .ok (.iload_n 1, 1) := by decide +kernel
theorem dX13_putBack_13 : decode cX13_putBack 13 = .ok (.bipush 96, 2) := by decide +kernel
theorem dX13_putBack_15 : decode cX13_putBack 15 = .ok (.if_icmp .ge 29, 3) := by decide +kernel
theorem dX13_putBack_18 : decode cX13_putBack 18 = .ok (.aload_n 0, 1) := by decide +kernel
theorem dX13_putBack_19 : decode cX13_putBack 19 = .ok (.getfield 214, 3) := by decide +kernel
theorem dX13_putBack_22 : decode cX13_putBack 22 = .ok (.iload_n 1, 1) := by decide +kernel
theorem dX13_putBack_23 : decode cX13_putBack 23 = .ok (.aload_n 0, 1) := by decide +kernel
theorem dX13_putBack_24 : decode cX13_putBack 24 = .ok (.getfield 229, 3) := by decide +kernel
theorem dX13_putBack_27 : decode cX13_putBack 27 = .ok (.bipush 96, 2) := by decide +kernel
theorem dX13_putBack_29 : decode cX13_putBack 29 = .ok (.aload_n 0, 1) := by decide +kernel
theorem dX13_putBack_30 : decode cX13_putBack 30 = .ok (.getfield 382, 3) := by decide +kernel
theorem dX13_putBack_33 : decode cX13_putBack 33 = .ok (.imul, 1) := by decide +kernel
theorem dX13_putBack_34 : decode cX13_putBack 34 = .ok (.iload_n 1, 1) := by decide +kernel
theorem dX13_putBack_35 : decode cX13_putBack 35 = .ok (.iadd, 1) := by decide +kernel
theorem dX13_putBack_36 : decode cX13_putBack 36 = .ok (.iaload, 1) := by decide +kernel
theorem dX13_putBack_37 : decode cX13_putBack 37 = .ok (.iastore, 1) := by decide +kernel
theorem dX13_putBack_38 : decode cX13_putBack 38 = .ok (.iinc 1 1, 3) := by decide +kernel
theorem dX13_putBack_41 : decode cX13_putBack 41 = .ok (.goto (-29), 3) := by decide +kernel
theorem dX13_putBack_44 : decode cX13_putBack 44 = .ok (.aload_n 0, 1) := by decide +kernel
theorem dX13_putBack_45 : decode cX13_putBack 45 = .ok (.aload_n 0, 1) := by decide +kernel
theorem dX13_putBack_46 : decode cX13_putBack 46 = .ok (.getfield 232, 3) := by decide +kernel
theorem dX13_putBack_49 : decode cX13_putBack 49 = .ok (.aload_n 0, 1) := by decide +kernel
theorem dX13_putBack_50 : decode cX13_putBack 50 = .ok (.getfield 382, 3) := by decide +kernel
theorem dX13_putBack_53 : decode cX13_putBack 53 = .ok (.iaload, 1) := by decide +kernel
theorem dX13_putBack_54 : decode cX13_putBack 54 = .ok (.putfield 362, 3) := by decide +kernel
theorem dX13_putBack_57 : decode cX13_putBack 57 = .ok (.return_, 1) := by decide +kernel
set_option maxHeartbeats 4000000 in
set_option maxRecDepth 100000 in
theorem S_X13_putBack (l : Launch) (D : va_G) (K : Nat → ClassId) (a : Nat → Nat) (G : gS) (dp : (1 ≤ (G 0 32).toInt)) (hI : yI G) (sz : Nat) : Kv l yX13_putBack wsX13_putBack 1 40 0 0 D [.ref (a 0)] (yW K a G) (tK K) sz (fun (G' : gS) => (yI G') ∧ (gu_un ycd [29, 33, 1400] G G') ∧ (((G' 0 32).toInt = (G 0 32).toInt - 1)) ∧ (((∀ q : Nat, q < 96 → G' 14 q = (G 19) (96 * ((G 0 32).toInt - 1) + (q : Int)).toNat) ∧ G' 0 28 = (G 20) ((G 0 32).toInt - 1).toNat)) ∧ (((G' 15 = G 15 ∧ G' 16 = G 16 ∧ G' 17 = G 17 ∧ G' 18 = G 18) ∧ G' 19 = G 19 ∧ G' 20 = G 20))) (fun (G' : gS) => (yW K a G')) (fun _ => (tK K)) := by
  unfold Kv
  refine g_ofW (cc := cX13_putBack) (lv := [(0, .ref (a 0))]) (by decide) rfl (Nat.le_of_ble_eq_true rfl) rfl ?_
  intro p e s m args below meth c A Q hA hQ F hr hnm
  have hts := F.2.2.2.2.1
  have w_0 : (Cond.fieldLink RX13 232 "QuietCutModel" "keptWear" "[I").before args s = true := hts _ (List.mem_of_getElem? (i := 4) rfl)
  have i_X13 : ∀ w ∈ u_ws RX13 TX13 73, w ∈ wsX13_putBack := fun _ h => List.mem_cons_of_mem _ (List.mem_append_right _ h)
  have w_1 : (Cond.fieldLink RX13 382 "QuietCutModel" "deep" "I").before args s = true := hts _ (List.mem_of_getElem? (i := 1) rfl)
  have w_2 : (Cond.fieldLink RX13 362 "QuietCutModel" "wear" "I").before args s = true := hts _ (List.mem_of_getElem? (i := 5) rfl)
  have w_3 : (Cond.fieldLink RX13 214 "QuietCutModel" "height" "[I").before args s = true := hts _ (List.mem_of_getElem? (i := 2) rfl)
  have w_4 : (Cond.fieldLink RX13 229 "QuietCutModel" "kept" "[I").before args s = true := hts _ (List.mem_of_getElem? (i := 3) rfl)
  have b1 : (0 : Int) ≤ (G 0 32).toInt ∧ (G 0 32).toInt ≤ 7 := hI 0 32
  have J_12 : ∀ (fuel : Nat) (x12_1 : Int32) (Gj12 : gS), (2147483647 - x12_1.toInt).toNat < fuel → (0 ≤ x12_1.toInt ∧ x12_1.toInt ≤ 96) → (yI Gj12) → (gu_un ycd [33, 1400] G Gj12) → (∀ q : Nat, (q : Int) < x12_1.toInt → Gj12 14 q = G 19 (96 * ((G 0 32).toInt - 1) + (q : Int)).toNat) → (((Gj12 0 32).toInt = (G 0 32).toInt - 1)) → gG p l e (gR 1 0 0 40) s m args below meth c D A 2 Q 0 0 (yW K a Gj12) (tK K) [(0, .ref (a 0)), (1, .int x12_1)] 12 [] := by
    intro fuel
    induction fuel with
    | zero => intro x12_1 Gj12 hm; exact absurd hm (Nat.not_lt_zero _)
    | succ fuel_12 ih_12 =>
      intro x12_1 Gj12 hm_12 h12_1 jI12 jU12 pk dq_12
      refine g_iload_n F 1 dX13_putBack_12 rfl rfl ?_
      refine g_bipush F 96 dX13_putBack_13 (by decide) ?_
      refine v_icmp_ge F 44 dX13_putBack_15 (by decide) x12_1.toInt 96 rfl rfl (fun c2 => ?_) (fun c2 => ?_)
      · refine g_aload_n F 0 dX13_putBack_44 rfl rfl ?_
        refine g_aload_n F 0 dX13_putBack_45 rfl rfl ?_
        refine yg_0_31 F i_X13 w_0 dX13_putBack_46 ?_
        refine g_aload_n F 0 dX13_putBack_49 rfl rfl ?_
        refine yg_0_32 F i_X13 w_1 dX13_putBack_50 (Gj12 0 32) (rfl) ?_
        have b3 : (0 : Int) ≤ (Gj12 0 32).toInt ∧ (Gj12 0 32).toInt ≤ 7 := jI12 0 32
        refine u1_iald F 20 0 yc_20 rfl (Gj12 0 32).toInt rfl (by omega) (by omega) dX13_putBack_53 ((G 20) ((Gj12 0 32).toInt).toNat) (congrFun ((show Gj12 20 = G 20 from funext fun k_ => jU12 20 k_ (show (2000 : Nat) ∉ ([33, 1400] : List Nat) by decide))) _) ?_
        have b4 : (0 : Int) ≤ ((G 20) ((Gj12 0 32).toInt).toNat).toInt ∧ ((G 20) ((Gj12 0 32).toInt).toNat).toInt ≤ 30000 := hI 20 _
        refine yp_0_28 F i_X13 w_2 dX13_putBack_54 ?_
        exact u_vret F hA hQ hr (gu_up Gj12 0 28 ((G 20) ((Gj12 0 32).toInt).toNat)) (⟨(gu_I.up (j := 0) (k := 28) (v := ((G 20) ((Gj12 0 32).toInt).toNat)) jI12 (show (0 : Int) ≤ Int32.toInt ((G 20) ((Gj12 0 32).toInt).toNat) by omega) (show Int32.toInt ((G 20) ((Gj12 0 32).toInt).toNat) ≤ 30000 by omega)), (gu_un.up (j := 0) (k := 28) (v := ((G 20) ((Gj12 0 32).toInt).toNat)) (gu_un.tr gu_un.rf (gu_un.su jU12 rfl)) (show (29 : Nat) ∈ ([29, 33, 1400] : List Nat) by decide)), (by show (((gu_up Gj12 0 28 ((G 20) ((Gj12 0 32).toInt).toNat)) 0 32).toInt = (G 0 32).toInt - 1); have e9_0_32 : (gu_up Gj12 0 28 ((G 20) ((Gj12 0 32).toInt).toNat)) 0 32 = (Gj12 0 32) := rfl; (try simp only [e9_0_32, true_and, and_true]) <;> (first | omega | (simp only [Int32.reduceToInt, true_and, and_true, ne_eq, not_true_eq_false, false_and, or_false, false_or, true_or, or_true, false_implies] <;> omega))), (⟨fun q hq => pk q (by omega), by rw [show ((G 0 32).toInt - 1).toNat = ((Gj12 0 32).toInt).toNat by have e9_0_32 : (gu_up Gj12 0 28 ((G 20) ((Gj12 0 32).toInt).toNat)) 0 32 = (Gj12 0 32) := rfl; (try simp only [e9_0_32, true_and, and_true]) <;> omega]; rfl⟩), (⟨⟨(show (gu_up Gj12 0 28 ((G 20) ((Gj12 0 32).toInt).toNat)) 15 = G 15 from funext fun k_ => (show gu_un ycd [29, 33, 1400] G (gu_up Gj12 0 28 ((G 20) ((Gj12 0 32).toInt).toNat)) from (gu_un.up (j := 0) (k := 28) (v := ((G 20) ((Gj12 0 32).toInt).toNat)) (gu_un.tr gu_un.rf (gu_un.su jU12 rfl)) (show (29 : Nat) ∈ ([29, 33, 1400] : List Nat) by decide))) 15 k_ (by simp [ycd])), (show (gu_up Gj12 0 28 ((G 20) ((Gj12 0 32).toInt).toNat)) 16 = G 16 from funext fun k_ => (show gu_un ycd [29, 33, 1400] G (gu_up Gj12 0 28 ((G 20) ((Gj12 0 32).toInt).toNat)) from (gu_un.up (j := 0) (k := 28) (v := ((G 20) ((Gj12 0 32).toInt).toNat)) (gu_un.tr gu_un.rf (gu_un.su jU12 rfl)) (show (29 : Nat) ∈ ([29, 33, 1400] : List Nat) by decide))) 16 k_ (by simp [ycd])), (show (gu_up Gj12 0 28 ((G 20) ((Gj12 0 32).toInt).toNat)) 17 = G 17 from funext fun k_ => (show gu_un ycd [29, 33, 1400] G (gu_up Gj12 0 28 ((G 20) ((Gj12 0 32).toInt).toNat)) from (gu_un.up (j := 0) (k := 28) (v := ((G 20) ((Gj12 0 32).toInt).toNat)) (gu_un.tr gu_un.rf (gu_un.su jU12 rfl)) (show (29 : Nat) ∈ ([29, 33, 1400] : List Nat) by decide))) 17 k_ (by simp [ycd])), (show (gu_up Gj12 0 28 ((G 20) ((Gj12 0 32).toInt).toNat)) 18 = G 18 from funext fun k_ => (show gu_un ycd [29, 33, 1400] G (gu_up Gj12 0 28 ((G 20) ((Gj12 0 32).toInt).toNat)) from (gu_un.up (j := 0) (k := 28) (v := ((G 20) ((Gj12 0 32).toInt).toNat)) (gu_un.tr gu_un.rf (gu_un.su jU12 rfl)) (show (29 : Nat) ∈ ([29, 33, 1400] : List Nat) by decide))) 18 k_ (by simp [ycd]))⟩, (show (gu_up Gj12 0 28 ((G 20) ((Gj12 0 32).toInt).toNat)) 19 = G 19 from funext fun k_ => (show gu_un ycd [29, 33, 1400] G (gu_up Gj12 0 28 ((G 20) ((Gj12 0 32).toInt).toNat)) from (gu_un.up (j := 0) (k := 28) (v := ((G 20) ((Gj12 0 32).toInt).toNat)) (gu_un.tr gu_un.rf (gu_un.su jU12 rfl)) (show (29 : Nat) ∈ ([29, 33, 1400] : List Nat) by decide))) 19 k_ (by simp [ycd])), (show (gu_up Gj12 0 28 ((G 20) ((Gj12 0 32).toInt).toNat)) 20 = G 20 from funext fun k_ => (show gu_un ycd [29, 33, 1400] G (gu_up Gj12 0 28 ((G 20) ((Gj12 0 32).toInt).toNat)) from (gu_un.up (j := 0) (k := 28) (v := ((G 20) ((Gj12 0 32).toInt).toNat)) (gu_un.tr gu_un.rf (gu_un.su jU12 rfl)) (show (29 : Nat) ∈ ([29, 33, 1400] : List Nat) by decide))) 20 k_ (by simp [ycd]))⟩)⟩) rfl rfl dX13_putBack_57
      · refine g_aload_n F 0 dX13_putBack_18 rfl rfl ?_
        refine yg_0_23 F i_X13 w_3 dX13_putBack_19 ?_
        refine g_iload_n F 1 dX13_putBack_22 rfl rfl ?_
        refine g_aload_n F 0 dX13_putBack_23 rfl rfl ?_
        refine yg_0_30 F i_X13 w_4 dX13_putBack_24 ?_
        refine g_bipush F 96 dX13_putBack_27 (by decide) ?_
        refine g_aload_n F 0 dX13_putBack_29 rfl rfl ?_
        refine yg_0_32 F i_X13 w_1 dX13_putBack_30 (Gj12 0 32) (rfl) ?_
        have b6 : (0 : Int) ≤ (Gj12 0 32).toInt ∧ (Gj12 0 32).toInt ≤ 7 := jI12 0 32
        refine u_imul F dX13_putBack_33 96 (Gj12 0 32).toInt rfl rfl (by omega) (by omega) (fun y5 ey5 => ?_)
        refine g_iload_n F 1 dX13_putBack_34 rfl rfl ?_
        refine u_iadd F dX13_putBack_35 y5.toInt x12_1.toInt rfl rfl (by omega) (by omega) (fun y7 ey7 => ?_)
        refine u1_iald F 19 0 yc_19 rfl y7.toInt rfl (by omega) (by omega) dX13_putBack_36 ((G 19) (((96 * (Gj12 0 32).toInt) + x12_1.toInt)).toNat) (by rw [show y7.toInt = ((96 * (Gj12 0 32).toInt) + x12_1.toInt) by omega]; exact congrFun ((show Gj12 19 = G 19 from funext fun k_ => jU12 19 k_ (show (1900 : Nat) ∉ ([33, 1400] : List Nat) by decide))) _) ?_
        have b8 : ((-9998) : Int) ≤ ((G 19) (((96 * (Gj12 0 32).toInt) + x12_1.toInt)).toNat).toInt ∧ ((G 19) (((96 * (Gj12 0 32).toInt) + x12_1.toInt)).toNat).toInt ≤ 5000 := hI 19 _
        refine u_iast F 14 0 yc_14 rfl x12_1.toInt rfl (by omega) (by omega) (yW K a (gu_up Gj12 14 (x12_1.toInt).toNat ((G 19) (((96 * (Gj12 0 32).toInt) + x12_1.toInt)).toNat))) (ys_14 _) dX13_putBack_37 ?_
        refine u_iinc F (fun v_ => [(1, .int v_), (0, .ref (a 0))]) dX13_putBack_38 (j := 1) rfl x12_1.toInt 1 rfl rfl (by omega) (by omega) (by decide) (fun _ => rfl) (fun y9 ey9 => ?_)
        refine g_goto F 12 dX13_putBack_41 (by decide) ?_
        refine g_locals [(0, .ref (a 0)), (1, .int y9)] [1, 0] rfl ?_
        exact ih_12 y9 (gu_up Gj12 14 (x12_1.toInt).toNat ((G 19) (((96 * (Gj12 0 32).toInt) + x12_1.toInt)).toNat)) (by omega) (by have h9 := ti_rng y9; omega) (gu_I.up (j := 14) (k := (x12_1.toInt).toNat) (v := ((G 19) (((96 * (Gj12 0 32).toInt) + x12_1.toInt)).toNat)) jI12 (show ((-9998) : Int) ≤ Int32.toInt ((G 19) (((96 * (Gj12 0 32).toInt) + x12_1.toInt)).toNat) by omega) (show Int32.toInt ((G 19) (((96 * (Gj12 0 32).toInt) + x12_1.toInt)).toNat) ≤ 5000 by omega)) (gu_un.up (j := 14) (k := (x12_1.toInt).toNat) (v := ((G 19) (((96 * (Gj12 0 32).toInt) + x12_1.toInt)).toNat)) (gu_un.tr gu_un.rf (gu_un.su jU12 rfl)) (show (1400 : Nat) ∈ ([33, 1400] : List Nat) by decide)) (copy_1 (g := fun q => G 19 (96 * ((G 0 32).toInt - 1) + (q : Int)).toNat) (by omega) (by omega) pk (by show G 19 _ = G 19 _; congr 1; omega)) (by have e9_0_32 : (gu_up Gj12 14 (x12_1.toInt).toNat ((G 19) (((96 * (Gj12 0 32).toInt) + x12_1.toInt)).toNat)) 0 32 = (Gj12 0 32) := rfl; (try simp only [e9_0_32, true_and, and_true]) <;> (first | omega | (simp only [Int32.reduceToInt, true_and, and_true, ne_eq, not_true_eq_false, false_and, or_false, false_or, true_or, or_true, false_implies] <;> omega)))
  refine g_aload_n F 0 dX13_putBack_0 rfl rfl ?_
  refine g_dup F dX13_putBack_1 rfl ?_
  refine yg_0_32 F i_X13 w_1 dX13_putBack_2 (G 0 32) (rfl) ?_
  refine g_iconst F 1 dX13_putBack_5 (by decide) ?_
  refine u_isub F dX13_putBack_6 (G 0 32).toInt 1 rfl rfl (by omega) (by omega) (fun y10 ey10 => ?_)
  refine yp_0_32 F i_X13 w_1 dX13_putBack_7 ?_
  refine g_iconst F 0 dX13_putBack_10 (by decide) ?_
  refine g_istore_n F [(1, .int 0), (0, .ref (a 0))] dX13_putBack_11 rfl (by decide) rfl ?_
  refine g_locals [(0, .ref (a 0)), (1, .int 0)] [1, 0] rfl ?_
  exact J_12 _ 0 (gu_up G 0 32 y10) (Nat.lt_succ_self _) (by decide) (gu_I.up (j := 0) (k := 32) (v := y10) hI (show (0 : Int) ≤ Int32.toInt y10 by omega) (show Int32.toInt y10 ≤ 7 by omega)) (gu_un.up (j := 0) (k := 32) (v := y10) gu_un.rf (show (33 : Nat) ∈ ([33, 1400] : List Nat) by decide)) (fun q h1 => by have h2 : (q : Int) < 0 := h1; omega) (by have e9_0_32 : (gu_up G 0 32 y10) 0 32 = y10 := rfl; (try simp only [e9_0_32, true_and, and_true]) <;> (first | omega | (simp only [Int32.reduceToInt, true_and, and_true, ne_eq, not_true_eq_false, false_and, or_false, false_or, true_or, or_true, false_implies] <;> omega)))

theorem dX13_most_0 : decode cX13_most 0 = .ok (.aload_n 0, 1) := by decide +kernel
theorem dX13_most_1 : decode cX13_most 1 = .ok (.getfield 214, 3) := by decide +kernel
theorem dX13_most_4 : decode cX13_most 4 = .ok (.iload_n 1, 1) := by decide +kernel
theorem dX13_most_5 : decode cX13_most 5 = .ok (.iconst 0, 1) := by decide +kernel
theorem dX13_most_6 : decode cX13_most 6 = .ok (.invokestatic 378, 3) := by decide +kernel
theorem dX13_most_9 : decode cX13_most 9 = .ok (.iaload, 1) := by decide +kernel
theorem dX13_most_10 : decode cX13_most 10 = .ok (.istore_n 2, 1) := by decide +kernel
theorem dX13_most_11 : decode cX13_most 11 = .ok (.iconst 1, 1) := by decide +kernel
theorem dX13_most_12 : decode cX13_most 12 = .ok (.istore_n 3, 1) := by decide +kernel
theorem dX13_most_13 : decode cX13_most 13 = .ok (.iload_n 3, 1) := by decide +kernel
theorem dX13_most_14 : decode cX13_most 14 = .ok (.aload_n 0, 1) := by decide +kernel
theorem dX13_most_15 : decode cX13_most 15 = .ok (.getfield 199, 3) := by decide +kernel
theorem dX13_most_18 : decode cX13_most 18 = .ok (.iconst 0, 1) := by decide +kernel
theorem dX13_most_19 : decode cX13_most 19 = .ok (.iaload, 1) := by decide +kernel
theorem dX13_most_20 : decode cX13_most 20 = .ok (.if_icmp .ge 24, 3) := by decide +kernel
theorem dX13_most_23 : decode cX13_most 23 = .ok (.iload_n 2, 1) := by decide +kernel
theorem dX13_most_24 : decode cX13_most 24 = .ok (.aload_n 0, 1) := by decide +kernel
theorem dX13_most_25 : decode cX13_most 25 = .ok (.getfield 214, 3) := by decide +kernel
theorem dX13_most_28 : decode cX13_most 28 = .ok (.iload_n 1, 1) := by decide +kernel
theorem dX13_most_29 : decode cX13_most 29 = .ok (.iload_n 3, 1) := by decide +kernel
theorem dX13_most_30 : decode cX13_most 30 = .ok (.invokestatic 378, 3) := by decide +kernel
theorem dX13_most_33 : decode cX13_most 33 = .ok (.iaload, 1) := by decide +kernel
theorem dX13_most_34 : decode cX13_most 34 = .ok (.invokestatic 152, 3) := by decide +kernel
theorem dX13_most_37 : decode cX13_most 37 = .ok (.istore_n 2, 1) := by decide +kernel
theorem dX13_most_38 : decode cX13_most 38 = .ok (.iinc 3 1, 3) := by decide +kernel
theorem dX13_most_41 : decode cX13_most 41 = .ok (.goto (-28), 3) := by decide +kernel
theorem dX13_most_44 : decode cX13_most 44 = .ok (.iload_n 2, 1) := by decide +kernel
theorem dX13_most_45 : decode cX13_most 45 = .ok (.ireturn, 1) := by decide +kernel
set_option maxRecDepth 20000 in
theorem ggX13_most_X13_at : GoodIn wsX13_most wsX13_at := goodIn_r _ [10] rfl (by decide +kernel)
set_option maxRecDepth 20000 in
theorem gX13_most_X13_at : GoodIn wsX13_most (va_wsS RX13 378 yX13_at wsX13_at) := goodIn_app (goodIn_of _ (by decide +kernel)) ggX13_most_X13_at
set_option maxHeartbeats 4000000 in
set_option maxRecDepth 100000 in
theorem S_X13_most (l : Launch) (D : va_G) (K : Nat → ClassId) (a : Nat → Nat) (G : gS) (p0 : Int32) (s0 : Int) (e0 : p0.toInt = s0) (h0 : 0 ≤ s0 ∧ s0 ≤ 5) (hI : yI G) (sz : Nat) : Ki l yX13_most wsX13_most 2 61 0 0 D [.ref (a 0), .int p0] (yW K a G) (tK K) sz (fun (r : Int32) (_ : Unit) => ((-9998) ≤ r.toInt ∧ r.toInt ≤ 5000) ∧ ((r.toInt = psMx (psHr (G 14) s0 (G 3 0).toInt) ((G 3 0).toInt - 1).toNat))) (fun (_ : Unit) => (yW K a G)) (fun _ => (tK K)) := by
  unfold Ki
  refine g_ofW (cc := cX13_most) (lv := [(0, .ref (a 0)), (1, .int p0)]) (by decide) rfl (Nat.le_of_ble_eq_true rfl) rfl ?_
  intro p e s m args below meth c A Q hA hQ F hr hnm
  have hts := F.2.2.2.2.1
  have w_0 : (Cond.fieldLink RX13 199 "QuietCutModel" "rule" "[I").before args s = true := hts _ (List.mem_of_getElem? (i := 2) rfl)
  have i_X13 : ∀ w ∈ u_ws RX13 TX13 73, w ∈ wsX13_most := fun _ h => List.mem_cons_of_mem _ (List.mem_append_right _ h)
  have w_1 : (Cond.fieldLink RX13 214 "QuietCutModel" "height" "[I").before args s = true := hts _ (List.mem_of_getElem? (i := 1) rfl)
  have w_2 : (Cond.methodLink RX13 152 Lib.Math.max.name).before args s = true := hts _ (List.mem_of_getElem? (i := 3) rfl)
  have w_3 : (Cond.static Lib.Math.max.name).before args s = true := hts _ (List.mem_of_getElem? (i := 4) rfl)
  have w_4 : (Cond.initialized "java/lang/Math").before args s = true := hts _ (List.mem_of_getElem? (i := 5) rfl)
  have w_5 : (Cond.code Lib.Math.max.name Lib.Math.max.code 2 (some .int)).before args s = true := hts _ (List.mem_of_getElem? (i := 6) rfl)
  have b1 : (4 : Int) ≤ (G 3 0).toInt ∧ (G 3 0).toInt ≤ 16 := hI 3 0
  have J_13 : ∀ (fuel : Nat) (x13_2 : Int32) (x13_3 : Int32), (2147483647 - x13_3.toInt).toNat < fuel → ((-9998) ≤ x13_2.toInt ∧ x13_2.toInt ≤ 5000) → (1 ≤ x13_3.toInt ∧ x13_3.toInt ≤ 16) → ((x13_2.toInt = psMx (psHr (G 14) s0 (G 3 0).toInt) (x13_3.toInt - 1).toNat)) → ((1 ≤ x13_3.toInt ∧ x13_3.toInt ≤ (G 3 0).toInt)) → gG p l e (gR 2 0 0 61) s m args below meth c D A 4 Q 0 0 (yW K a G) (tK K) [(0, .ref (a 0)), (1, .int p0), (2, .int x13_2), (3, .int x13_3)] 13 [] := by
    intro fuel
    induction fuel with
    | zero => intro x13_2 x13_3 hm; exact absurd hm (Nat.not_lt_zero _)
    | succ fuel_13 ih_13 =>
      intro x13_2 x13_3 hm_13 h13_2 h13_3 mo il
      refine g_iload_n F 3 dX13_most_13 rfl rfl ?_
      refine g_aload_n F 0 dX13_most_14 rfl rfl ?_
      refine yg_0_10 F i_X13 w_0 dX13_most_15 ?_
      refine g_iconst F 0 dX13_most_18 (by decide) ?_
      refine u1_iald F 3 0 yc_3 rfl 0 rfl (by decide) (by decide) dX13_most_19 (G 3 0) (rfl) ?_
      refine v_icmp_ge F 44 dX13_most_20 (by decide) x13_3.toInt (G 3 0).toInt rfl rfl (fun c2 => ?_) (fun c2 => ?_)
      · refine g_iload_n F 2 dX13_most_44 rfl rfl ?_
        exact u_iret F hA hQ hr () (⟨(by have h9 := ti_rng x13_2; omega), (by have h9 := mo; rw [show x13_3.toInt = (G 3 0).toInt by omega] at h9; exact h9)⟩) rfl rfl dX13_most_45
      · refine g_iload_n F 2 dX13_most_23 rfl rfl ?_
        refine g_aload_n F 0 dX13_most_24 rfl rfl ?_
        refine yg_0_23 F i_X13 w_1 dX13_most_25 ?_
        refine g_iload_n F 1 dX13_most_28 rfl rfl ?_
        refine g_iload_n F 3 dX13_most_29 rfl rfl ?_
        refine u_call0 (k := 0) (n := 0) (As := [.int p0, .int x13_3]) (st := [.ref (a 14), .int x13_2]) F (fun sz => S_X13_at_b5_b15 l D p0 s0 x13_3 x13_3.toInt e0 (by omega) rfl (by omega) sz) (va_cwS 2 hts gX13_most_X13_at rfl rfl rfl (by decide +kernel) ⟨Nat.le_of_ble_eq_true rfl, Nat.le_of_ble_eq_true rfl⟩) rfl (Nat.le_of_ble_eq_true rfl) ⟨Nat.zero_le _, Nat.zero_le _⟩ dX13_most_30 (fun r3 _ hw4 => ?_)
        have rg6 := hw4.1
        have rg7 := hw4.2
        clear hw4
        refine u1_iald F 14 0 yc_14 rfl r3.toInt rfl (by omega) (by omega) dX13_most_33 ((G 14) ((16 * s0 + x13_3.toInt)).toNat) (by rw [show r3.toInt = (16 * s0 + x13_3.toInt) by omega] <;> rfl) ?_
        have b8 : ((-9998) : Int) ≤ ((G 14) ((16 * s0 + x13_3.toInt)).toNat).toInt ∧ ((G 14) ((16 * s0 + x13_3.toInt)).toNat).toInt ≤ 5000 := hI 14 _
        refine u_mmax F w_2 w_3 w_4 w_5 (Nat.le_of_ble_eq_true rfl) (Nat.le_of_ble_eq_true rfl) (Nat.le_of_ble_eq_true rfl) (Nat.le_of_ble_eq_true rfl) dX13_most_34 x13_2.toInt ((G 14) ((16 * s0 + x13_3.toInt)).toNat).toInt rfl rfl (fun y9 ey9 => ?_)
        refine g_istore_n F [(2, .int y9), (0, .ref (a 0)), (1, .int p0), (3, .int x13_3)] dX13_most_37 rfl (by decide) rfl ?_
        refine u_iinc F (fun v_ => [(3, .int v_), (2, .int y9), (0, .ref (a 0)), (1, .int p0)]) dX13_most_38 (j := 3) rfl x13_3.toInt 1 rfl rfl (by omega) (by omega) (by decide) (fun _ => rfl) (fun y10 ey10 => ?_)
        refine g_goto F 13 dX13_most_41 (by decide) ?_
        refine g_locals [(0, .ref (a 0)), (1, .int p0), (2, .int y9), (3, .int y10)] [2, 3, 1, 0] rfl ?_
        exact ih_13 y9 y10 (by omega) (by have h9 := ti_rng y9; omega) (by have h9 := ti_rng y10; omega) (psMx_s (i := x13_3.toInt) (by omega) mo (by rw [psHr_at (by omega) (by omega)]; omega) (by omega)) (by (first | omega | (simp only [Int32.reduceToInt, true_and, and_true, ne_eq, not_true_eq_false, false_and, or_false, false_or, true_or, or_true, false_implies] <;> omega)))
  refine g_aload_n F 0 dX13_most_0 rfl rfl ?_
  refine yg_0_23 F i_X13 w_1 dX13_most_1 ?_
  refine g_iload_n F 1 dX13_most_4 rfl rfl ?_
  refine g_iconst F 0 dX13_most_5 (by decide) ?_
  refine u_call0 (k := 0) (n := 0) (As := [.int p0, .int 0]) (st := [.ref (a 14)]) F (fun sz => S_X13_at_b5_b15 l D p0 s0 0 0 e0 (by omega) rfl (by decide) sz) (va_cwS 2 hts gX13_most_X13_at rfl rfl rfl (by decide +kernel) ⟨Nat.le_of_ble_eq_true rfl, Nat.le_of_ble_eq_true rfl⟩) rfl (Nat.le_of_ble_eq_true rfl) ⟨Nat.zero_le _, Nat.zero_le _⟩ dX13_most_6 (fun r11 _ hw12 => ?_)
  have rg14 := hw12.1
  have rg15 := hw12.2
  clear hw12
  refine u1_iald F 14 0 yc_14 rfl r11.toInt rfl (by omega) (by omega) dX13_most_9 ((G 14) ((16 * s0 + 0)).toNat) (by rw [show r11.toInt = (16 * s0 + 0) by omega] <;> rfl) ?_
  have b16 : ((-9998) : Int) ≤ ((G 14) ((16 * s0 + 0)).toNat).toInt ∧ ((G 14) ((16 * s0 + 0)).toNat).toInt ≤ 5000 := hI 14 _
  refine g_istore_n F [(2, .int ((G 14) ((16 * s0 + 0)).toNat)), (0, .ref (a 0)), (1, .int p0)] dX13_most_10 rfl (by decide) rfl ?_
  refine g_iconst F 1 dX13_most_11 (by decide) ?_
  refine g_istore_n F [(3, .int 1), (2, .int ((G 14) ((16 * s0 + 0)).toNat)), (0, .ref (a 0)), (1, .int p0)] dX13_most_12 rfl (by decide) rfl ?_
  refine g_locals [(0, .ref (a 0)), (1, .int p0), (2, .int ((G 14) ((16 * s0 + 0)).toNat)), (3, .int 1)] [2, 3, 1, 0] rfl ?_
  exact J_13 _ ((G 14) ((16 * s0 + 0)).toNat) 1 (Nat.lt_succ_self _) (by have h9 := ti_rng ((G 14) ((16 * s0 + 0)).toNat); omega) (by decide) (psMx_at0 (by omega) rfl) (by (first | omega | (simp only [Int32.reduceToInt, true_and, and_true, ne_eq, not_true_eq_false, false_and, or_false, false_or, true_or, or_true, false_implies] <;> omega)))

theorem dX13_least_0 : decode cX13_least 0 = .ok (.aload_n 0, 1) := by decide +kernel
theorem dX13_least_1 : decode cX13_least 1 = .ok (.getfield 214, 3) := by decide +kernel
theorem dX13_least_4 : decode cX13_least 4 = .ok (.iload_n 1, 1) := by decide +kernel
theorem dX13_least_5 : decode cX13_least 5 = .ok (.iconst 0, 1) := by decide +kernel
theorem dX13_least_6 : decode cX13_least 6 = .ok (.invokestatic 378, 3) := by decide +kernel
theorem dX13_least_9 : decode cX13_least 9 = .ok (.iaload, 1) := by decide +kernel
theorem dX13_least_10 : decode cX13_least 10 = .ok (.istore_n 2, 1) := by decide +kernel
theorem dX13_least_11 : decode cX13_least 11 = .ok (.iconst 1, 1) := by decide +kernel
theorem dX13_least_12 : decode cX13_least 12 = .ok (.istore_n 3, 1) := by decide +kernel
theorem dX13_least_13 : decode cX13_least 13 = .ok (.iload_n 3, 1) := by decide +kernel
theorem dX13_least_14 : decode cX13_least 14 = .ok (.aload_n 0, 1) := by decide +kernel
theorem dX13_least_15 : decode cX13_least 15 = .ok (.getfield 199, 3) := by decide +kernel
theorem dX13_least_18 : decode cX13_least 18 = .ok (.iconst 0, 1) := by decide +kernel
theorem dX13_least_19 : decode cX13_least 19 = .ok (.iaload, 1) := by decide +kernel
theorem dX13_least_20 : decode cX13_least 20 = .ok (.if_icmp .ge 24, 3) := by decide +kernel
theorem dX13_least_23 : decode cX13_least 23 = .ok (.iload_n 2, 1) := by decide +kernel
theorem dX13_least_24 : decode cX13_least 24 = .ok (.aload_n 0, 1) := by decide +kernel
theorem dX13_least_25 : decode cX13_least 25 = .ok (.getfield 214, 3) := by decide +kernel
theorem dX13_least_28 : decode cX13_least 28 = .ok (.iload_n 1, 1) := by decide +kernel
theorem dX13_least_29 : decode cX13_least 29 = .ok (.iload_n 3, 1) := by decide +kernel
theorem dX13_least_30 : decode cX13_least 30 = .ok (.invokestatic 378, 3) := by decide +kernel
theorem dX13_least_33 : decode cX13_least 33 = .ok (.iaload, 1) := by decide +kernel
theorem dX13_least_34 : decode cX13_least 34 = .ok (.invokestatic 147, 3) := by decide +kernel
theorem dX13_least_37 : decode cX13_least 37 = .ok (.istore_n 2, 1) := by decide +kernel
theorem dX13_least_38 : decode cX13_least 38 = .ok (.iinc 3 1, 3) := by decide +kernel
theorem dX13_least_41 : decode cX13_least 41 = .ok (.goto (-28), 3) := by decide +kernel
theorem dX13_least_44 : decode cX13_least 44 = .ok (.iload_n 2, 1) := by decide +kernel
theorem dX13_least_45 : decode cX13_least 45 = .ok (.ireturn, 1) := by decide +kernel
set_option maxRecDepth 20000 in
theorem ggX13_least_X13_at : GoodIn wsX13_least wsX13_at := goodIn_r _ [10] rfl (by decide +kernel)
set_option maxRecDepth 20000 in
theorem gX13_least_X13_at : GoodIn wsX13_least (va_wsS RX13 378 yX13_at wsX13_at) := goodIn_app (goodIn_of _ (by decide +kernel)) ggX13_least_X13_at
set_option maxHeartbeats 4000000 in
set_option maxRecDepth 100000 in
theorem S_X13_least (l : Launch) (D : va_G) (K : Nat → ClassId) (a : Nat → Nat) (G : gS) (p0 : Int32) (s0 : Int) (e0 : p0.toInt = s0) (h0 : 0 ≤ s0 ∧ s0 ≤ 5) (hI : yI G) (sz : Nat) : Ki l yX13_least wsX13_least 2 61 0 0 D [.ref (a 0), .int p0] (yW K a G) (tK K) sz (fun (r : Int32) (_ : Unit) => ((-9998) ≤ r.toInt ∧ r.toInt ≤ 5000) ∧ ((r.toInt = psMn (fun q => (G 14) ((16 * s0).toNat + q)) ((G 3 0).toInt - 1).toNat))) (fun (_ : Unit) => (yW K a G)) (fun _ => (tK K)) := by
  unfold Ki
  refine g_ofW (cc := cX13_least) (lv := [(0, .ref (a 0)), (1, .int p0)]) (by decide) rfl (Nat.le_of_ble_eq_true rfl) rfl ?_
  intro p e s m args below meth c A Q hA hQ F hr hnm
  have hts := F.2.2.2.2.1
  have w_0 : (Cond.fieldLink RX13 199 "QuietCutModel" "rule" "[I").before args s = true := hts _ (List.mem_of_getElem? (i := 2) rfl)
  have i_X13 : ∀ w ∈ u_ws RX13 TX13 73, w ∈ wsX13_least := fun _ h => List.mem_cons_of_mem _ (List.mem_append_right _ h)
  have w_1 : (Cond.fieldLink RX13 214 "QuietCutModel" "height" "[I").before args s = true := hts _ (List.mem_of_getElem? (i := 1) rfl)
  have w_2 : (Cond.methodLink RX13 147 Lib.Math.min.name).before args s = true := hts _ (List.mem_of_getElem? (i := 3) rfl)
  have w_3 : (Cond.static Lib.Math.min.name).before args s = true := hts _ (List.mem_of_getElem? (i := 4) rfl)
  have w_4 : (Cond.initialized "java/lang/Math").before args s = true := hts _ (List.mem_of_getElem? (i := 5) rfl)
  have w_5 : (Cond.code Lib.Math.min.name Lib.Math.min.code 2 (some .int)).before args s = true := hts _ (List.mem_of_getElem? (i := 6) rfl)
  have b1 : (4 : Int) ≤ (G 3 0).toInt ∧ (G 3 0).toInt ≤ 16 := hI 3 0
  have J_13 : ∀ (fuel : Nat) (x13_2 : Int32) (x13_3 : Int32), (2147483647 - x13_3.toInt).toNat < fuel → ((-9998) ≤ x13_2.toInt ∧ x13_2.toInt ≤ 5000) → (1 ≤ x13_3.toInt ∧ x13_3.toInt ≤ 16) → ((x13_2.toInt = psMn (fun q => G 14 ((16 * s0).toNat + q)) (x13_3.toInt - 1).toNat)) → ((1 ≤ x13_3.toInt ∧ x13_3.toInt ≤ (G 3 0).toInt)) → gG p l e (gR 2 0 0 61) s m args below meth c D A 4 Q 0 0 (yW K a G) (tK K) [(0, .ref (a 0)), (1, .int p0), (2, .int x13_2), (3, .int x13_3)] 13 [] := by
    intro fuel
    induction fuel with
    | zero => intro x13_2 x13_3 hm; exact absurd hm (Nat.not_lt_zero _)
    | succ fuel_13 ih_13 =>
      intro x13_2 x13_3 hm_13 h13_2 h13_3 mo il
      refine g_iload_n F 3 dX13_least_13 rfl rfl ?_
      refine g_aload_n F 0 dX13_least_14 rfl rfl ?_
      refine yg_0_10 F i_X13 w_0 dX13_least_15 ?_
      refine g_iconst F 0 dX13_least_18 (by decide) ?_
      refine u1_iald F 3 0 yc_3 rfl 0 rfl (by decide) (by decide) dX13_least_19 (G 3 0) (rfl) ?_
      refine v_icmp_ge F 44 dX13_least_20 (by decide) x13_3.toInt (G 3 0).toInt rfl rfl (fun c2 => ?_) (fun c2 => ?_)
      · refine g_iload_n F 2 dX13_least_44 rfl rfl ?_
        exact u_iret F hA hQ hr () (⟨(by have h9 := ti_rng x13_2; omega), (by have h9 := mo; rw [show x13_3.toInt = (G 3 0).toInt by omega] at h9; exact h9)⟩) rfl rfl dX13_least_45
      · refine g_iload_n F 2 dX13_least_23 rfl rfl ?_
        refine g_aload_n F 0 dX13_least_24 rfl rfl ?_
        refine yg_0_23 F i_X13 w_1 dX13_least_25 ?_
        refine g_iload_n F 1 dX13_least_28 rfl rfl ?_
        refine g_iload_n F 3 dX13_least_29 rfl rfl ?_
        refine u_call0 (k := 0) (n := 0) (As := [.int p0, .int x13_3]) (st := [.ref (a 14), .int x13_2]) F (fun sz => S_X13_at_b5_b15 l D p0 s0 x13_3 x13_3.toInt e0 (by omega) rfl (by omega) sz) (va_cwS 2 hts gX13_least_X13_at rfl rfl rfl (by decide +kernel) ⟨Nat.le_of_ble_eq_true rfl, Nat.le_of_ble_eq_true rfl⟩) rfl (Nat.le_of_ble_eq_true rfl) ⟨Nat.zero_le _, Nat.zero_le _⟩ dX13_least_30 (fun r3 _ hw4 => ?_)
        have rg6 := hw4.1
        have rg7 := hw4.2
        clear hw4
        refine u1_iald F 14 0 yc_14 rfl r3.toInt rfl (by omega) (by omega) dX13_least_33 ((G 14) ((16 * s0 + x13_3.toInt)).toNat) (by rw [show r3.toInt = (16 * s0 + x13_3.toInt) by omega] <;> rfl) ?_
        have b8 : ((-9998) : Int) ≤ ((G 14) ((16 * s0 + x13_3.toInt)).toNat).toInt ∧ ((G 14) ((16 * s0 + x13_3.toInt)).toNat).toInt ≤ 5000 := hI 14 _
        refine u_mmin F w_2 w_3 w_4 w_5 (Nat.le_of_ble_eq_true rfl) (Nat.le_of_ble_eq_true rfl) (Nat.le_of_ble_eq_true rfl) (Nat.le_of_ble_eq_true rfl) dX13_least_34 x13_2.toInt ((G 14) ((16 * s0 + x13_3.toInt)).toNat).toInt rfl rfl (fun y9 ey9 => ?_)
        refine g_istore_n F [(2, .int y9), (0, .ref (a 0)), (1, .int p0), (3, .int x13_3)] dX13_least_37 rfl (by decide) rfl ?_
        refine u_iinc F (fun v_ => [(3, .int v_), (2, .int y9), (0, .ref (a 0)), (1, .int p0)]) dX13_least_38 (j := 3) rfl x13_3.toInt 1 rfl rfl (by omega) (by omega) (by decide) (fun _ => rfl) (fun y10 ey10 => ?_)
        refine g_goto F 13 dX13_least_41 (by decide) ?_
        refine g_locals [(0, .ref (a 0)), (1, .int p0), (2, .int y9), (3, .int y10)] [2, 3, 1, 0] rfl ?_
        exact ih_13 y9 y10 (by omega) (by have h9 := ti_rng y9; omega) (by have h9 := ti_rng y10; omega) (psMn_s (i := x13_3.toInt) (by omega) mo (by show _ = min _ (G 14 ((16 * s0).toNat + (x13_3.toInt).toNat)).toInt; rw [show (16 * s0).toNat + (x13_3.toInt).toNat = (16 * s0 + x13_3.toInt).toNat by omega]; omega) (by omega)) (by (first | omega | (simp only [Int32.reduceToInt, true_and, and_true, ne_eq, not_true_eq_false, false_and, or_false, false_or, true_or, or_true, false_implies] <;> omega)))
  refine g_aload_n F 0 dX13_least_0 rfl rfl ?_
  refine yg_0_23 F i_X13 w_1 dX13_least_1 ?_
  refine g_iload_n F 1 dX13_least_4 rfl rfl ?_
  refine g_iconst F 0 dX13_least_5 (by decide) ?_
  refine u_call0 (k := 0) (n := 0) (As := [.int p0, .int 0]) (st := [.ref (a 14)]) F (fun sz => S_X13_at_b5_b15 l D p0 s0 0 0 e0 (by omega) rfl (by decide) sz) (va_cwS 2 hts gX13_least_X13_at rfl rfl rfl (by decide +kernel) ⟨Nat.le_of_ble_eq_true rfl, Nat.le_of_ble_eq_true rfl⟩) rfl (Nat.le_of_ble_eq_true rfl) ⟨Nat.zero_le _, Nat.zero_le _⟩ dX13_least_6 (fun r11 _ hw12 => ?_)
  have rg14 := hw12.1
  have rg15 := hw12.2
  clear hw12
  refine u1_iald F 14 0 yc_14 rfl r11.toInt rfl (by omega) (by omega) dX13_least_9 ((G 14) ((16 * s0 + 0)).toNat) (by rw [show r11.toInt = (16 * s0 + 0) by omega] <;> rfl) ?_
  have b16 : ((-9998) : Int) ≤ ((G 14) ((16 * s0 + 0)).toNat).toInt ∧ ((G 14) ((16 * s0 + 0)).toNat).toInt ≤ 5000 := hI 14 _
  refine g_istore_n F [(2, .int ((G 14) ((16 * s0 + 0)).toNat)), (0, .ref (a 0)), (1, .int p0)] dX13_least_10 rfl (by decide) rfl ?_
  refine g_iconst F 1 dX13_least_11 (by decide) ?_
  refine g_istore_n F [(3, .int 1), (2, .int ((G 14) ((16 * s0 + 0)).toNat)), (0, .ref (a 0)), (1, .int p0)] dX13_least_12 rfl (by decide) rfl ?_
  refine g_locals [(0, .ref (a 0)), (1, .int p0), (2, .int ((G 14) ((16 * s0 + 0)).toNat)), (3, .int 1)] [2, 3, 1, 0] rfl ?_
  exact J_13 _ ((G 14) ((16 * s0 + 0)).toNat) 1 (Nat.lt_succ_self _) (by have h9 := ti_rng ((G 14) ((16 * s0 + 0)).toNat); omega) (by decide) (psMn_at0 (by omega) rfl) (by (first | omega | (simp only [Int32.reduceToInt, true_and, and_true, ne_eq, not_true_eq_false, false_and, or_false, false_or, true_or, or_true, false_implies] <;> omega)))

theorem dX13_canBe_0 : decode cX13_canBe 0 = .ok (.aload_n 0, 1) := by decide +kernel
theorem dX13_canBe_1 : decode cX13_canBe 1 = .ok (.iload_n 1, 1) := by decide +kernel
theorem dX13_canBe_2 : decode cX13_canBe 2 = .ok (.invokevirtual 385, 3) := by decide +kernel
theorem dX13_canBe_5 : decode cX13_canBe 5 = .ok (.iload_n 2, 1) := by decide +kernel
theorem dX13_canBe_6 : decode cX13_canBe 6 = .ok (.iload_n 3, 1) := by decide +kernel
theorem dX13_canBe_7 : decode cX13_canBe 7 = .ok (.imul, 1) := by decide +kernel
theorem dX13_canBe_8 : decode cX13_canBe 8 = .ok (.isub, 1) := by decide +kernel
theorem dX13_canBe_9 : decode cX13_canBe 9 = .ok (.iconst 1, 1) := by decide +kernel
theorem dX13_canBe_10 : decode cX13_canBe 10 = .ok (.if_icmp .lt 7, 3) := by decide +kernel
theorem dX13_canBe_13 : decode cX13_canBe 13 = .ok (.iconst 1, 1) := by decide +kernel
theorem dX13_canBe_14 : decode cX13_canBe 14 = .ok (.goto 4, 3) := by decide +kernel
theorem dX13_canBe_17 : decode cX13_canBe 17 = .ok (.iconst 0, 1) := by decide +kernel
theorem dX13_canBe_18 : decode cX13_canBe 18 = .ok (.ireturn, 1) := by decide +kernel
set_option maxRecDepth 20000 in
theorem ggX13_canBe_X13_most : GoodIn wsX13_canBe wsX13_most := goodIn_r _ [5, 6, 7, 8, 9, 10, 11, 12, 13, 4, 14, 15, 16, 17, 18, 19, 20, 21, 22, 23, 24, 25, 26, 27, 28, 29, 30, 31, 32, 33, 34, 35, 36, 37, 38, 39, 40, 41, 42, 43, 44, 45, 46, 47, 48, 49, 50, 51, 52, 53, 54, 55, 56, 57, 58, 59, 60, 61, 62, 63, 64, 65, 66, 67, 68, 69, 70, 71, 72, 73, 74, 75, 76, 77, 78, 79, 80, 81, 82, 83, 84, 85, 86, 87] rfl (by decide +kernel)
set_option maxRecDepth 20000 in
theorem gX13_canBe_X13_most : GoodIn wsX13_canBe (wsV RX13 385 RX13 yX13_most wsX13_most) := goodIn_app (goodIn_of _ (by decide +kernel)) ggX13_canBe_X13_most
set_option maxHeartbeats 4000000 in
set_option maxRecDepth 100000 in
theorem S_X13_canBe (l : Launch) (D : va_G) (K : Nat → ClassId) (a : Nat → Nat) (G : gS) (p0 : Int32) (s0 : Int) (p1 : Int32) (s1 : Int) (p2 : Int32) (s2 : Int) (e0 : p0.toInt = s0) (h0 : 0 ≤ s0 ∧ s0 ≤ 5) (e1 : p1.toInt = s1) (h1 : 0 ≤ s1 ∧ s1 ≤ 20) (e2 : p2.toInt = s2) (h2 : 0 ≤ s2 ∧ s2 ≤ 12) (hI : yI G) (sz : Nat) : Ki l yX13_canBe wsX13_canBe 3 84 0 0 D [.ref (a 0), .int p0, .int p1, .int p2] (yW K a G) (tK K) sz (fun (r : Int32) (_ : Unit) => ((r = 1 ∧ (1 ≤ psMx (psHr (G 14) s0 (G 3 0).toInt) ((G 3 0).toInt - 1).toNat - s1 * s2)) ∨ (r = 0 ∧ (psMx (psHr (G 14) s0 (G 3 0).toInt) ((G 3 0).toInt - 1).toNat - s1 * s2 < 1)))) (fun (_ : Unit) => (yW K a G)) (fun _ => (tK K)) := by
  unfold Ki
  refine g_ofW (cc := cX13_canBe) (lv := [(0, .ref (a 0)), (1, .int p0), (2, .int p1), (3, .int p2)]) (by decide) rfl (Nat.le_of_ble_eq_true rfl) rfl ?_
  intro p e s m args below meth c A Q hA hQ F hr hnm
  have hts := F.2.2.2.2.1
  have b1 : (4 : Int) ≤ (G 3 0).toInt ∧ (G 3 0).toInt ≤ 16 := hI 3 0
  refine g_aload_n F 0 dX13_canBe_0 rfl rfl ?_
  refine g_iload_n F 1 dX13_canBe_1 rfl rfl ?_
  refine u_callVi (k := 0) (n := 0) (b := a 0) (As := [.int p0]) (st := []) F (fun sz => S_X13_most l D K a G p0 s0 e0 (by omega) hI sz) (cwV 1 hts gX13_canBe_X13_most rfl rfl rfl (by decide +kernel) ⟨Nat.le_of_ble_eq_true rfl, Nat.le_of_ble_eq_true rfl⟩) rfl 0 yc_0 rfl (Nat.le_of_ble_eq_true rfl) ⟨Nat.zero_le _, Nat.zero_le _⟩ dX13_canBe_2 (fun r2 _ hw3 => ?_)
  have q5 : (r2.toInt = psMx (psHr (G 14) s0 (G 3 0).toInt) ((G 3 0).toInt - 1).toNat) := hw3.2
  have rg6 := hw3.1
  clear hw3
  refine g_iload_n F 2 dX13_canBe_5 rfl rfl ?_
  refine g_iload_n F 3 dX13_canBe_6 rfl rfl ?_
  refine g_imul F dX13_canBe_7 ?_
  have cm0 := Int.mul_nonneg (show (0 : Int) ≤ s1 by omega) (show (0 : Int) ≤ s2 by omega)
  have cm1 : s1 * s2 ≤ 20 * 12 := Int.mul_le_mul (by omega) (by omega) (by omega) (by omega)
  have cm : ((p1 * p2) : Int32).toInt = s1 * s2 := ti_mul e1 e2 (by omega) (by omega)
  refine u_isub F dX13_canBe_8 r2.toInt ((p1 * p2) : Int32).toInt rfl rfl (by omega) (by omega) (fun y7 ey7 => ?_)
  refine g_iconst F 1 dX13_canBe_9 (by decide) ?_
  refine v_icmp_lt F 17 dX13_canBe_10 (by decide) y7.toInt 1 rfl rfl (fun c8 => ?_) (fun c8 => ?_)
  · refine g_iconst F 0 dX13_canBe_17 (by decide) ?_
    exact u_zret F hA hQ hr rfl () ((Or.inr (⟨rfl, by first | trivial | omega⟩))) rfl rfl dX13_canBe_18
  · refine g_iconst F 1 dX13_canBe_13 (by decide) ?_
    refine g_goto F 18 dX13_canBe_14 (by decide) ?_
    exact u_zret F hA hQ hr rfl () ((Or.inl (⟨rfl, by first | trivial | omega⟩))) rfl rfl dX13_canBe_18

theorem dX13_gapOf_0 : decode cX13_gapOf 0 = .ok (.aload_n 0, 1) := by decide +kernel
theorem dX13_gapOf_1 : decode cX13_gapOf 1 = .ok (.getfield 199, 3) := by decide +kernel
theorem dX13_gapOf_4 : decode cX13_gapOf 4 = .ok (.iconst 1, 1) := by decide +kernel
theorem dX13_gapOf_5 : decode cX13_gapOf 5 = .ok (.iaload, 1) := by decide +kernel
theorem dX13_gapOf_6 : decode cX13_gapOf 6 = .ok (.iconst 1, 1) := by decide +kernel
theorem dX13_gapOf_7 : decode cX13_gapOf 7 = .ok (.if_icmp .ne 9, 3) := by decide +kernel
theorem dX13_gapOf_10 : decode cX13_gapOf 10 = .ok (.aload_n 0, 1) := by decide +kernel
theorem dX13_gapOf_11 : decode cX13_gapOf 11 = .ok (.iload_n 1, 1) := by decide +kernel
theorem dX13_gapOf_12 : decode cX13_gapOf 12 = .ok (.invokevirtual 385, 3) := by decide +kernel
theorem dX13_gapOf_15 : decode cX13_gapOf 15 = .ok (.ireturn, 1) := by decide +kernel
theorem dX13_gapOf_16 : decode cX13_gapOf 16 = .ok (.iload_n 1, 1) := by decide +kernel
theorem dX13_gapOf_17 : decode cX13_gapOf 17 = .ok (.ifCond .le 13, 3) := by decide +kernel
theorem dX13_gapOf_20 : decode cX13_gapOf 20 = .ok (.aload_n 0, 1) := by decide +kernel
theorem dX13_gapOf_21 : decode cX13_gapOf 21 = .ok (.iload_n 1, 1) := by decide +kernel
theorem dX13_gapOf_22 : decode cX13_gapOf 22 = .ok (.iconst 1, 1) := by decide +kernel
theorem dX13_gapOf_23 : decode cX13_gapOf 23 = .ok (.isub, 1) := by decide +kernel
theorem dX13_gapOf_24 : decode cX13_gapOf 24 = .ok (.invokevirtual 388, 3) := by decide +kernel
theorem dX13_gapOf_27 : decode cX13_gapOf 27 = .ok (.goto 6, 3) := by decide +kernel
theorem dX13_gapOf_30 : decode cX13_gapOf 30 = .ok (.ldc_w 391, 3) := by decide +kernel
theorem dX13_gapOf_33 : decode cX13_gapOf 33 = .ok (.istore_n 2, 1) := by decide +kernel
theorem dX13_gapOf_34 : decode cX13_gapOf 34 = .ok (.iload_n 1, 1) := by decide +kernel
theorem dX13_gapOf_35 : decode cX13_gapOf 35 = .ok (.iconst 1, 1) := by decide +kernel
theorem dX13_gapOf_36 : decode cX13_gapOf 36 = .ok (.iadd, 1) := by decide +kernel
theorem dX13_gapOf_37 : decode cX13_gapOf 37 = .ok (.aload_n 0, 1) := by decide +kernel
theorem dX13_gapOf_38 : decode cX13_gapOf 38 = .ok (.getfield 199, 3) := by decide +kernel
theorem dX13_gapOf_41 : decode cX13_gapOf 41 = .ok (.iconst 1, 1) := by decide +kernel
theorem dX13_gapOf_42 : decode cX13_gapOf 42 = .ok (.iaload, 1) := by decide +kernel
theorem dX13_gapOf_43 : decode cX13_gapOf 43 = .ok (.if_icmp .ge 13, 3) := by decide +kernel
theorem dX13_gapOf_46 : decode cX13_gapOf 46 = .ok (.aload_n 0, 1) := by decide +kernel
theorem dX13_gapOf_47 : decode cX13_gapOf 47 = .ok (.iload_n 1, 1) := by decide +kernel
theorem dX13_gapOf_48 : decode cX13_gapOf 48 = .ok (.iconst 1, 1) := by decide +kernel
theorem dX13_gapOf_49 : decode cX13_gapOf 49 = .ok (.iadd, 1) := by decide +kernel
theorem dX13_gapOf_50 : decode cX13_gapOf 50 = .ok (.invokevirtual 388, 3) := by decide +kernel
theorem dX13_gapOf_53 : decode cX13_gapOf 53 = .ok (.goto 6, 3) := by decide +kernel
theorem dX13_gapOf_56 : decode cX13_gapOf 56 = .ok (.ldc_w 391, 3) := by decide +kernel
theorem dX13_gapOf_59 : decode cX13_gapOf 59 = .ok (.istore_n 3, 1) := by decide +kernel
theorem dX13_gapOf_60 : decode cX13_gapOf 60 = .ok (.iload_n 2, 1) := by decide +kernel
theorem dX13_gapOf_61 : decode cX13_gapOf 61 = .ok (.iload_n 3, 1) := by decide +kernel
theorem dX13_gapOf_62 : decode cX13_gapOf 62 = .ok (.invokestatic 147, 3) := by decide +kernel
theorem dX13_gapOf_65 : decode cX13_gapOf 65 = .ok (.ireturn, 1) := by decide +kernel
set_option maxRecDepth 20000 in
theorem ggX13_gapOf_X13_least : GoodIn wsX13_gapOf wsX13_least := goodIn_r _ [22, 12, 1, 3, 4, 5, 6, 16, 17, 10, 18, 23, 24, 25, 26, 27, 28, 29, 30, 31, 32, 33, 34, 35, 36, 37, 38, 39, 40, 41, 42, 43, 44, 45, 46, 47, 48, 49, 50, 51, 52, 53, 54, 55, 56, 57, 58, 59, 60, 61, 62, 63, 64, 65, 66, 67, 68, 69, 70, 71, 72, 73, 74, 75, 76, 77, 78, 79, 80, 81, 82, 83, 84, 85, 86, 87, 88, 89, 90, 91, 92, 93, 94, 95] rfl (by decide +kernel)
set_option maxRecDepth 20000 in
theorem gX13_gapOf_X13_least : GoodIn wsX13_gapOf (wsV RX13 388 RX13 yX13_least wsX13_least) := goodIn_app (goodIn_of _ (by decide +kernel)) ggX13_gapOf_X13_least
set_option maxRecDepth 20000 in
theorem ggX13_gapOf_X13_most : GoodIn wsX13_gapOf wsX13_most := goodIn_r _ [11, 12, 1, 13, 14, 5, 15, 16, 17, 10, 18, 23, 24, 25, 26, 27, 28, 29, 30, 31, 32, 33, 34, 35, 36, 37, 38, 39, 40, 41, 42, 43, 44, 45, 46, 47, 48, 49, 50, 51, 52, 53, 54, 55, 56, 57, 58, 59, 60, 61, 62, 63, 64, 65, 66, 67, 68, 69, 70, 71, 72, 73, 74, 75, 76, 77, 78, 79, 80, 81, 82, 83, 84, 85, 86, 87, 88, 89, 90, 91, 92, 93, 94, 95] rfl (by decide +kernel)
set_option maxRecDepth 20000 in
theorem gX13_gapOf_X13_most : GoodIn wsX13_gapOf (wsV RX13 385 RX13 yX13_most wsX13_most) := goodIn_app (goodIn_of _ (by decide +kernel)) ggX13_gapOf_X13_most
set_option maxHeartbeats 4000000 in
set_option maxRecDepth 100000 in
theorem S_X13_gapOf (l : Launch) (D : va_G) (K : Nat → ClassId) (a : Nat → Nat) (G : gS) (p0 : Int32) (s0 : Int) (e0 : p0.toInt = s0) (h0 : 0 ≤ s0 ∧ s0 ≤ 5) (hI : yI G) (sz : Nat) : Ki l yX13_gapOf wsX13_gapOf 3 84 0 0 D [.ref (a 0), .int p0] (yW K a G) (tK K) sz (fun (r : Int32) (_ : Unit) => ((-9998) ≤ r.toInt ∧ r.toInt ≤ 5000) ∧ ((s0 < (G 3 1).toInt → r.toInt = psGa (G 14) s0 (G 3 1).toInt (G 3 0).toInt (psMx (psHr (G 14) s0 (G 3 0).toInt) ((G 3 0).toInt - 1).toNat)))) (fun (_ : Unit) => (yW K a G)) (fun _ => (tK K)) := by
  unfold Ki
  refine g_ofW (cc := cX13_gapOf) (lv := [(0, .ref (a 0)), (1, .int p0)]) (by decide) rfl (Nat.le_of_ble_eq_true rfl) rfl ?_
  intro p e s m args below meth c A Q hA hQ F hr hnm
  have hts := F.2.2.2.2.1
  have w_0 : (Cond.fieldLink RX13 199 "QuietCutModel" "rule" "[I").before args s = true := hts _ (List.mem_of_getElem? (i := 1) rfl)
  have i_X13 : ∀ w ∈ u_ws RX13 TX13 73, w ∈ wsX13_gapOf := fun _ h => List.mem_cons_of_mem _ (List.mem_append_right _ h)
  have w_1 : (Cond.constant RX13 391 (1000000000)).before args s = true := hts _ (List.mem_of_getElem? (i := 2) rfl)
  have w_2 : (Cond.methodLink RX13 147 Lib.Math.min.name).before args s = true := hts _ (List.mem_of_getElem? (i := 3) rfl)
  have w_3 : (Cond.static Lib.Math.min.name).before args s = true := hts _ (List.mem_of_getElem? (i := 4) rfl)
  have w_4 : (Cond.initialized "java/lang/Math").before args s = true := hts _ (List.mem_of_getElem? (i := 5) rfl)
  have w_5 : (Cond.code Lib.Math.min.name Lib.Math.min.code 2 (some .int)).before args s = true := hts _ (List.mem_of_getElem? (i := 6) rfl)
  have b1 : (4 : Int) ≤ (G 3 0).toInt ∧ (G 3 0).toInt ≤ 16 := hI 3 0
  have b2 : (1 : Int) ≤ (G 3 1).toInt ∧ (G 3 1).toInt ≤ 6 := hI 3 1
  refine g_aload_n F 0 dX13_gapOf_0 rfl rfl ?_
  refine yg_0_10 F i_X13 w_0 dX13_gapOf_1 ?_
  refine g_iconst F 1 dX13_gapOf_4 (by decide) ?_
  refine u1_iald F 3 0 yc_3 rfl 1 rfl (by decide) (by decide) dX13_gapOf_5 (G 3 1) (rfl) ?_
  refine g_iconst F 1 dX13_gapOf_6 (by decide) ?_
  refine v_icmp_ne F 16 dX13_gapOf_7 (by decide) (G 3 1).toInt 1 rfl rfl (fun c3 => ?_) (fun c3 => ?_)
  · refine g_iload_n F 1 dX13_gapOf_16 rfl rfl ?_
    refine v_if_le F 30 dX13_gapOf_17 (by decide) s0 e0 (fun c4 => ?_) (fun c4 => ?_)
    · refine g_ldcw F w_1 dX13_gapOf_30 ?_
      refine g_istore_n F [(2, .int 1000000000), (0, .ref (a 0)), (1, .int p0)] dX13_gapOf_33 rfl (by decide) rfl ?_
      refine g_iload_n F 2 dX13_gapOf_34 rfl rfl ?_
      refine g_iconst F 1 dX13_gapOf_35 (by decide) ?_
      refine u_iadd F dX13_gapOf_36 s0 1 e0 rfl (by omega) (by omega) (fun y5 ey5 => ?_)
      refine g_aload_n F 1 dX13_gapOf_37 rfl rfl ?_
      refine yg_0_10 F i_X13 w_0 dX13_gapOf_38 ?_
      refine g_iconst F 1 dX13_gapOf_41 (by decide) ?_
      refine u1_iald F 3 0 yc_3 rfl 1 rfl (by decide) (by decide) dX13_gapOf_42 (G 3 1) (rfl) ?_
      refine v_icmp_ge F 56 dX13_gapOf_43 (by decide) y5.toInt (G 3 1).toInt rfl rfl (fun c6 => absurd c6 (by omega)) (fun c6 => ?_)
      refine g_aload_n F 1 dX13_gapOf_46 rfl rfl ?_
      refine g_iload_n F 2 dX13_gapOf_47 rfl rfl ?_
      refine g_iconst F 1 dX13_gapOf_48 (by decide) ?_
      refine u_iadd F dX13_gapOf_49 s0 1 e0 rfl (by omega) (by omega) (fun y7 ey7 => ?_)
      refine u_callVi (k := 0) (n := 0) (b := a 0) (As := [.int y7]) (st := []) F (fun sz => S_X13_least l D K a G y7 y7.toInt rfl (by omega) hI sz) (cwV 1 hts gX13_gapOf_X13_least rfl rfl rfl (by decide +kernel) ⟨Nat.le_of_ble_eq_true rfl, Nat.le_of_ble_eq_true rfl⟩) rfl 0 yc_0 rfl (Nat.le_of_ble_eq_true rfl) ⟨Nat.zero_le _, Nat.zero_le _⟩ dX13_gapOf_50 (fun r8 _ hw9 => ?_)
      have q11 : (r8.toInt = psMn (fun q => (G 14) ((16 * y7.toInt).toNat + q)) ((G 3 0).toInt - 1).toNat) := hw9.2
      have rg12 := hw9.1
      clear hw9
      refine g_goto F 59 dX13_gapOf_53 (by decide) ?_
      refine g_istore_n F [(3, .int r8), (2, .int 1000000000), (0, .ref (a 0)), (1, .int p0)] dX13_gapOf_59 rfl (by decide) rfl ?_
      refine g_iload_n F 1 dX13_gapOf_60 rfl rfl ?_
      refine g_iload_n F 0 dX13_gapOf_61 rfl rfl ?_
      refine u_mmin F w_2 w_3 w_4 w_5 (Nat.le_of_ble_eq_true rfl) (Nat.le_of_ble_eq_true rfl) (Nat.le_of_ble_eq_true rfl) (Nat.le_of_ble_eq_true rfl) dX13_gapOf_62 1000000000 r8.toInt rfl rfl (fun y13 ey13 => ?_)
      exact u_iret F hA hQ hr () (⟨(by have h9 := ti_rng y13; omega), (fun h9 => by first | (have h1 := q11; rw [show y7.toInt = s0 - 1 by omega] at h1; unfold psGa; rw [if_pos (by omega), if_neg (by omega), ← h1]; omega) | (have h1 := q11; rw [show y7.toInt = s0 + 1 by omega] at h1; unfold psGa; rw [if_neg (by omega), if_pos (by omega), ← h1]; omega))⟩) rfl rfl dX13_gapOf_65
    · refine g_aload_n F 0 dX13_gapOf_20 rfl rfl ?_
      refine g_iload_n F 1 dX13_gapOf_21 rfl rfl ?_
      refine g_iconst F 1 dX13_gapOf_22 (by decide) ?_
      refine u_isub F dX13_gapOf_23 s0 1 e0 rfl (by omega) (by omega) (fun y14 ey14 => ?_)
      refine u_callVi (k := 0) (n := 0) (b := a 0) (As := [.int y14]) (st := []) F (fun sz => S_X13_least l D K a G y14 y14.toInt rfl (by omega) hI sz) (cwV 1 hts gX13_gapOf_X13_least rfl rfl rfl (by decide +kernel) ⟨Nat.le_of_ble_eq_true rfl, Nat.le_of_ble_eq_true rfl⟩) rfl 0 yc_0 rfl (Nat.le_of_ble_eq_true rfl) ⟨Nat.zero_le _, Nat.zero_le _⟩ dX13_gapOf_24 (fun r15 _ hw16 => ?_)
      have q18 : (r15.toInt = psMn (fun q => (G 14) ((16 * y14.toInt).toNat + q)) ((G 3 0).toInt - 1).toNat) := hw16.2
      have rg19 := hw16.1
      clear hw16
      refine g_goto F 33 dX13_gapOf_27 (by decide) ?_
      refine g_istore_n F [(2, .int r15), (0, .ref (a 0)), (1, .int p0)] dX13_gapOf_33 rfl (by decide) rfl ?_
      refine g_iload_n F 2 dX13_gapOf_34 rfl rfl ?_
      refine g_iconst F 1 dX13_gapOf_35 (by decide) ?_
      refine u_iadd F dX13_gapOf_36 s0 1 e0 rfl (by omega) (by omega) (fun y20 ey20 => ?_)
      refine g_aload_n F 1 dX13_gapOf_37 rfl rfl ?_
      refine yg_0_10 F i_X13 w_0 dX13_gapOf_38 ?_
      refine g_iconst F 1 dX13_gapOf_41 (by decide) ?_
      refine u1_iald F 3 0 yc_3 rfl 1 rfl (by decide) (by decide) dX13_gapOf_42 (G 3 1) (rfl) ?_
      refine v_icmp_ge F 56 dX13_gapOf_43 (by decide) y20.toInt (G 3 1).toInt rfl rfl (fun c21 => ?_) (fun c21 => ?_)
      · refine g_ldcw F w_1 dX13_gapOf_56 ?_
        refine g_istore_n F [(3, .int 1000000000), (2, .int r15), (0, .ref (a 0)), (1, .int p0)] dX13_gapOf_59 rfl (by decide) rfl ?_
        refine g_iload_n F 1 dX13_gapOf_60 rfl rfl ?_
        refine g_iload_n F 0 dX13_gapOf_61 rfl rfl ?_
        refine u_mmin F w_2 w_3 w_4 w_5 (Nat.le_of_ble_eq_true rfl) (Nat.le_of_ble_eq_true rfl) (Nat.le_of_ble_eq_true rfl) (Nat.le_of_ble_eq_true rfl) dX13_gapOf_62 r15.toInt 1000000000 rfl rfl (fun y22 ey22 => ?_)
        exact u_iret F hA hQ hr () (⟨(by have h9 := ti_rng y22; omega), (fun h9 => by first | (have h1 := q18; rw [show y14.toInt = s0 - 1 by omega] at h1; unfold psGa; rw [if_pos (by omega), if_neg (by omega), ← h1]; omega) | (have h1 := q18; rw [show y14.toInt = s0 + 1 by omega] at h1; unfold psGa; rw [if_neg (by omega), if_pos (by omega), ← h1]; omega))⟩) rfl rfl dX13_gapOf_65
      · refine g_aload_n F 1 dX13_gapOf_46 rfl rfl ?_
        refine g_iload_n F 2 dX13_gapOf_47 rfl rfl ?_
        refine g_iconst F 1 dX13_gapOf_48 (by decide) ?_
        refine u_iadd F dX13_gapOf_49 s0 1 e0 rfl (by omega) (by omega) (fun y23 ey23 => ?_)
        refine u_callVi (k := 0) (n := 0) (b := a 0) (As := [.int y23]) (st := []) F (fun sz => S_X13_least l D K a G y23 y23.toInt rfl (by omega) hI sz) (cwV 1 hts gX13_gapOf_X13_least rfl rfl rfl (by decide +kernel) ⟨Nat.le_of_ble_eq_true rfl, Nat.le_of_ble_eq_true rfl⟩) rfl 0 yc_0 rfl (Nat.le_of_ble_eq_true rfl) ⟨Nat.zero_le _, Nat.zero_le _⟩ dX13_gapOf_50 (fun r24 _ hw25 => ?_)
        have q27 : (r24.toInt = psMn (fun q => (G 14) ((16 * y23.toInt).toNat + q)) ((G 3 0).toInt - 1).toNat) := hw25.2
        have rg28 := hw25.1
        clear hw25
        refine g_goto F 59 dX13_gapOf_53 (by decide) ?_
        refine g_istore_n F [(3, .int r24), (2, .int r15), (0, .ref (a 0)), (1, .int p0)] dX13_gapOf_59 rfl (by decide) rfl ?_
        refine g_iload_n F 1 dX13_gapOf_60 rfl rfl ?_
        refine g_iload_n F 0 dX13_gapOf_61 rfl rfl ?_
        refine u_mmin F w_2 w_3 w_4 w_5 (Nat.le_of_ble_eq_true rfl) (Nat.le_of_ble_eq_true rfl) (Nat.le_of_ble_eq_true rfl) (Nat.le_of_ble_eq_true rfl) dX13_gapOf_62 r15.toInt r24.toInt rfl rfl (fun y29 ey29 => ?_)
        exact u_iret F hA hQ hr () (⟨(by have h9 := ti_rng y29; omega), (fun h9 => by have h1 := q18; rw [show y14.toInt = s0 - 1 by omega] at h1; have h2 := q27; rw [show y23.toInt = s0 + 1 by omega] at h2; unfold psGa; rw [if_pos (by omega), if_pos (by omega), ← h1, ← h2]; omega)⟩) rfl rfl dX13_gapOf_65
  · refine g_aload_n F 0 dX13_gapOf_10 rfl rfl ?_
    refine g_iload_n F 1 dX13_gapOf_11 rfl rfl ?_
    refine u_callVi (k := 0) (n := 0) (b := a 0) (As := [.int p0]) (st := []) F (fun sz => S_X13_most l D K a G p0 s0 e0 (by omega) hI sz) (cwV 1 hts gX13_gapOf_X13_most rfl rfl rfl (by decide +kernel) ⟨Nat.le_of_ble_eq_true rfl, Nat.le_of_ble_eq_true rfl⟩) rfl 0 yc_0 rfl (Nat.le_of_ble_eq_true rfl) ⟨Nat.zero_le _, Nat.zero_le _⟩ dX13_gapOf_12 (fun r30 _ hw31 => ?_)
    have q33 : (r30.toInt = psMx (psHr (G 14) s0 (G 3 0).toInt) ((G 3 0).toInt - 1).toNat) := hw31.2
    have rg34 := hw31.1
    clear hw31
    exact u_iret F hA hQ hr () (⟨(by have h9 := ti_rng r30; omega), (fun h9 => by unfold psGa; rw [if_neg (by omega), if_neg (by omega)]; exact q33)⟩) rfl rfl dX13_gapOf_15

theorem dX13_notePassed_0 : decode cX13_notePassed 0 = .ok (.iconst 0, 1) := by decide +kernel
theorem dX13_notePassed_1 : decode cX13_notePassed 1 = .ok (.istore_n 1, 1) := by decide +kernel
theorem dX13_notePassed_2 : decode cX13_notePassed 2 = .ok (.iload_n 1, 1) := by decide +kernel
theorem dX13_notePassed_3 : decode cX13_notePassed 3 = .ok (.bipush 7, 2) := by decide +kernel
theorem dX13_notePassed_5 : decode cX13_notePassed 5 = .ok (.if_icmp .ge 21, 3) := by decide +kernel
theorem dX13_notePassed_8 : decode cX13_notePassed 8 = .ok (.aload_n 0, 1) := by decide +kernel
theorem dX13_notePassed_9 : decode cX13_notePassed 9 = .ok (.getfield 238, 3) := by decide +kernel
theorem dX13_notePassed_12 : decode cX13_notePassed 12 = .ok (.iload_n 1, 1) := by decide +kernel
theorem dX13_notePassed_13 : decode cX13_notePassed 13 = .ok (.aload_n 0, 1) := by decide +kernel
theorem dX13_notePassed_14 : decode cX13_notePassed 14 = .ok (.getfield 235, 3) := by decide +kernel
theorem dX13_notePassed_17 : decode cX13_notePassed 17 = .ok (.iload_n 1, 1) := by decide +kernel
theorem dX13_notePassed_18 : decode cX13_notePassed 18 = .ok (.iaload, 1) := by decide +kernel
theorem dX13_notePassed_19 : decode cX13_notePassed 19 = .ok (.iastore, 1) := by decide +kernel
theorem dX13_notePassed_20 : decode cX13_notePassed 20 = .ok (.iinc 1 1, 3) := by decide +kernel
theorem dX13_notePassed_23 : decode cX13_notePassed 23 = .ok (.goto (-21), 3) := by decide +kernel
theorem dX13_notePassed_26 : decode cX13_notePassed 26 = .ok (.aload_n 0, 1) := by decide +kernel
theorem dX13_notePassed_27 : decode cX13_notePassed 27 = .ok (.iconst 1, 1) := by decide +kernel
theorem dX13_notePassed_28 : decode cX13_notePassed 28 = .ok (.putfield 428, 3) := by decide +kernel
theorem dX13_notePassed_31 : decode cX13_notePassed 31 = .ok (.return_, 1) := by decide +kernel
set_option maxHeartbeats 4000000 in
set_option maxRecDepth 100000 in
theorem S_X13_notePassed (l : Launch) (D : va_G) (K : Nat → ClassId) (a : Nat → Nat) (G : gS) (hI : yI G) (sz : Nat) : Kv l yX13_notePassed wsX13_notePassed 1 40 0 0 D [.ref (a 0)] (yW K a G) (tK K) sz (fun (G' : gS) => (yI G') ∧ (gu_un ycd [38, 2200] G G') ∧ ((G' 0 37 = 1 ∧ ∀ q : Nat, q < 7 → G' 22 q = (G 21) q))) (fun (G' : gS) => (yW K a G')) (fun _ => (tK K)) := by
  unfold Kv
  refine g_ofW (cc := cX13_notePassed) (lv := [(0, .ref (a 0))]) (by decide) rfl (Nat.le_of_ble_eq_true rfl) rfl ?_
  intro p e s m args below meth c A Q hA hQ F hr hnm
  have hts := F.2.2.2.2.1
  have w_0 : (Cond.fieldLink RX13 428 "QuietCutModel" "hasPassed" "Z").before args s = true := hts _ (List.mem_of_getElem? (i := 3) rfl)
  have i_X13 : ∀ w ∈ u_ws RX13 TX13 73, w ∈ wsX13_notePassed := fun _ h => List.mem_cons_of_mem _ (List.mem_append_right _ h)
  have w_1 : (Cond.fieldLink RX13 238 "QuietCutModel" "passed" "[I").before args s = true := hts _ (List.mem_of_getElem? (i := 1) rfl)
  have w_2 : (Cond.fieldLink RX13 235 "QuietCutModel" "now" "[I").before args s = true := hts _ (List.mem_of_getElem? (i := 2) rfl)
  have J_2 : ∀ (fuel : Nat) (x2_1 : Int32) (Gj2 : gS), (2147483647 - x2_1.toInt).toNat < fuel → (0 ≤ x2_1.toInt ∧ x2_1.toInt ≤ 7) → (yI Gj2) → (gu_un ycd [2200] G Gj2) → (∀ q : Nat, (q : Int) < x2_1.toInt → Gj2 22 q = G 21 q) → gG p l e (gR 1 0 0 40) s m args below meth c D A 2 Q 0 0 (yW K a Gj2) (tK K) [(0, .ref (a 0)), (1, .int x2_1)] 2 [] := by
    intro fuel
    induction fuel with
    | zero => intro x2_1 Gj2 hm; exact absurd hm (Nat.not_lt_zero _)
    | succ fuel_2 ih_2 =>
      intro x2_1 Gj2 hm_2 h2_1 jI2 jU2 np
      refine g_iload_n F 1 dX13_notePassed_2 rfl rfl ?_
      refine g_bipush F 7 dX13_notePassed_3 (by decide) ?_
      refine v_icmp_ge F 26 dX13_notePassed_5 (by decide) x2_1.toInt 7 rfl rfl (fun c1 => ?_) (fun c1 => ?_)
      · refine g_aload_n F 0 dX13_notePassed_26 rfl rfl ?_
        refine g_iconst F 1 dX13_notePassed_27 (by decide) ?_
        refine yp_0_37 F i_X13 w_0 dX13_notePassed_28 (by decide) ?_
        exact u_vret F hA hQ hr (gu_up Gj2 0 37 1) (⟨(gu_I.up (j := 0) (k := 37) (v := 1) jI2 (show (0 : Int) ≤ (1 : Int32).toInt by decide) (show (1 : Int32).toInt ≤ 1 by decide)), (gu_un.up (j := 0) (k := 37) (v := 1) (gu_un.tr gu_un.rf (gu_un.su jU2 rfl)) (show (38 : Nat) ∈ ([38, 2200] : List Nat) by decide)), (⟨rfl, fun q hq => np q (by omega)⟩)⟩) rfl rfl dX13_notePassed_31
      · refine g_aload_n F 0 dX13_notePassed_8 rfl rfl ?_
        refine yg_0_34 F i_X13 w_1 dX13_notePassed_9 ?_
        refine g_iload_n F 1 dX13_notePassed_12 rfl rfl ?_
        refine g_aload_n F 0 dX13_notePassed_13 rfl rfl ?_
        refine yg_0_33 F i_X13 w_2 dX13_notePassed_14 ?_
        refine g_iload_n F 1 dX13_notePassed_17 rfl rfl ?_
        refine u1_iald F 21 0 yc_21 rfl x2_1.toInt rfl (by omega) (by omega) dX13_notePassed_18 ((G 21) (x2_1.toInt).toNat) (congrFun ((show Gj2 21 = G 21 from funext fun k_ => jU2 21 k_ (show (2100 : Nat) ∉ ([2200] : List Nat) by decide))) _) ?_
        refine u_iast F 22 0 yc_22 rfl x2_1.toInt rfl (by omega) (by omega) (yW K a (gu_up Gj2 22 (x2_1.toInt).toNat ((G 21) (x2_1.toInt).toNat))) (ys_22 _) dX13_notePassed_19 ?_
        refine u_iinc F (fun v_ => [(1, .int v_), (0, .ref (a 0))]) dX13_notePassed_20 (j := 1) rfl x2_1.toInt 1 rfl rfl (by omega) (by omega) (by decide) (fun _ => rfl) (fun y2 ey2 => ?_)
        refine g_goto F 2 dX13_notePassed_23 (by decide) ?_
        refine g_locals [(0, .ref (a 0)), (1, .int y2)] [1, 0] rfl ?_
        exact ih_2 y2 (gu_up Gj2 22 (x2_1.toInt).toNat ((G 21) (x2_1.toInt).toNat)) (by omega) (by have h9 := ti_rng y2; omega) (gu_I.up (j := 22) (k := (x2_1.toInt).toNat) (v := ((G 21) (x2_1.toInt).toNat)) jI2 (ti_rng _).1 (ti_rng _).2) (gu_un.up (j := 22) (k := (x2_1.toInt).toNat) (v := ((G 21) (x2_1.toInt).toNat)) (gu_un.tr gu_un.rf (gu_un.su jU2 rfl)) (show (2200 : Nat) ∈ ([2200] : List Nat) by decide)) (copy_1 (by omega) (by omega) np rfl)
  refine g_iconst F 0 dX13_notePassed_0 (by decide) ?_
  refine g_istore_n F [(1, .int 0), (0, .ref (a 0))] dX13_notePassed_1 rfl (by decide) rfl ?_
  refine g_locals [(0, .ref (a 0)), (1, .int 0)] [1, 0] rfl ?_
  exact J_2 _ 0 G (Nat.lt_succ_self _) (by decide) hI gu_un.rf (fun q h1 => by have h2 : (q : Int) < 0 := h1; omega)

theorem dX13_passed_0 : decode cX13_passed 0 = .ok (.aload_n 0, 1) := by decide +kernel
theorem dX13_passed_1 : decode cX13_passed 1 = .ok (.getfield 428, 3) := by decide +kernel
theorem dX13_passed_4 : decode cX13_passed 4 = .ok (.ifCond .eq 24, 3) := by decide +kernel
theorem dX13_passed_7 : decode cX13_passed 7 = .ok (.iload_n 1, 1) := by decide +kernel
theorem dX13_passed_8 : decode cX13_passed 8 = .ok (.i2l, 1) := by decide +kernel
theorem dX13_passed_9 : decode cX13_passed 9 = .ok (.lconst 0, 1) := by decide +kernel
theorem dX13_passed_10 : decode cX13_passed 10 = .ok (.ldc2_w 448, 3) := by decide +kernel
theorem dX13_passed_13 : decode cX13_passed 13 = .ok (.invokestatic 61, 3) := by decide +kernel
theorem dX13_passed_16 : decode cX13_passed 16 = .ok (.ifCond .eq 12, 3) := by decide +kernel
theorem dX13_passed_19 : decode cX13_passed 19 = .ok (.aload_n 0, 1) := by decide +kernel
theorem dX13_passed_20 : decode cX13_passed 20 = .ok (.getfield 238, 3) := by decide +kernel
theorem dX13_passed_23 : decode cX13_passed 23 = .ok (.iload_n 1, 1) := by decide +kernel
theorem dX13_passed_24 : decode cX13_passed 24 = .ok (.iaload, 1) := by decide +kernel
theorem dX13_passed_25 : decode cX13_passed 25 = .ok (.goto 6, 3) := by decide +kernel
theorem dX13_passed_28 : decode cX13_passed 28 = .ok (.ldc_w 450, 3) := by decide +kernel
theorem dX13_passed_31 : decode cX13_passed 31 = .ok (.ireturn, 1) := by decide +kernel
set_option maxRecDepth 20000 in
theorem ggX13_passed_X13_in : GoodIn wsX13_passed wsX13_in := goodIn_r _ [8] rfl (by decide +kernel)
set_option maxRecDepth 20000 in
theorem gX13_passed_X13_in : GoodIn wsX13_passed (va_wsS RX13 61 yX13_in wsX13_in) := goodIn_app (goodIn_of _ (by decide +kernel)) ggX13_passed_X13_in
set_option maxHeartbeats 4000000 in
set_option maxRecDepth 100000 in
theorem S_X13_passed (l : Launch) (D : va_G) (K : Nat → ClassId) (a : Nat → Nat) (G : gS) (p0 : Int32) (s0 : Int) (e0 : p0.toInt = s0) (hI : yI G) (sz : Nat) : Ki l yX13_passed wsX13_passed 2 65 0 0 D [.ref (a 0), .int p0] (yW K a G) (tK K) sz (fun (r : Int32) (_ : Unit) => (((((G 0 37).toInt ≠ 0 ∧ 0 ≤ s0 ∧ s0 < 7) ∧ r.toInt = ((G 22) (s0).toNat).toInt) ∨ (¬ ((G 0 37).toInt ≠ 0 ∧ 0 ≤ s0 ∧ s0 < 7) ∧ r.toInt = -1000000)))) (fun (_ : Unit) => (yW K a G)) (fun _ => (tK K)) := by
  unfold Ki
  refine g_ofW (cc := cX13_passed) (lv := [(0, .ref (a 0)), (1, .int p0)]) (by decide) rfl (Nat.le_of_ble_eq_true rfl) rfl ?_
  intro p e s m args below meth c A Q hA hQ F hr hnm
  have hts := F.2.2.2.2.1
  have w_0 : (Cond.fieldLink RX13 428 "QuietCutModel" "hasPassed" "Z").before args s = true := hts _ (List.mem_of_getElem? (i := 1) rfl)
  have i_X13 : ∀ w ∈ u_ws RX13 TX13 73, w ∈ wsX13_passed := fun _ h => List.mem_cons_of_mem _ (List.mem_append_right _ h)
  have w_1 : (Cond.constant RX13 450 (-1000000)).before args s = true := hts _ (List.mem_of_getElem? (i := 4) rfl)
  have w_2 : (Cond.constantLong RX13 448 (6)).before args s = true := hts _ (List.mem_of_getElem? (i := 2) rfl)
  have w_3 : (Cond.fieldLink RX13 238 "QuietCutModel" "passed" "[I").before args s = true := hts _ (List.mem_of_getElem? (i := 3) rfl)
  have rg0 : -2147483648 ≤ s0 ∧ s0 ≤ 2147483647 := e0 ▸ ti_rng p0
  have b1 : (0 : Int) ≤ (G 0 37).toInt ∧ (G 0 37).toInt ≤ 1 := hI 0 37
  refine g_aload_n F 0 dX13_passed_0 rfl rfl ?_
  refine yg_0_37 F i_X13 w_0 dX13_passed_1 (G 0 37) (rfl) ?_
  refine v_if_eq F 28 dX13_passed_4 (by decide) (G 0 37).toInt rfl (fun c2 => ?_) (fun c2 => ?_)
  · refine g_ldcw F w_1 dX13_passed_28 ?_
    exact u_iret F hA hQ hr () ((by show ((((G 0 37).toInt ≠ 0 ∧ 0 ≤ s0 ∧ s0 < 7) ∧ (-1000000) = ((G 22) (s0).toNat).toInt) ∨ (¬ ((G 0 37).toInt ≠ 0 ∧ 0 ≤ s0 ∧ s0 < 7) ∧ (-1000000) = -1000000)); (first | omega | (simp only [Int32.reduceToInt, true_and, and_true, ne_eq, not_true_eq_false, false_and, or_false, false_or, true_or, or_true, false_implies] <;> omega)))) rfl rfl dX13_passed_31
  · refine g_iload_n F 1 dX13_passed_7 rfl rfl ?_
    refine g_i2l F dX13_passed_8 ?_
    refine g_lconst F 0 dX13_passed_9 (by decide) ?_
    refine g_ldc2 F w_2 dX13_passed_10 ?_
    refine u_call0 (k := 0) (n := 0) (As := [.long (Int32.toInt64 p0), .long 0, .long 6]) (st := []) F (fun sz => S_X13_in l D (Int32.toInt64 p0) s0 0 0 6 6 (ti_i2l e0) rfl rfl sz) (va_cwS 3 hts gX13_passed_X13_in rfl rfl rfl (by decide +kernel) ⟨Nat.le_of_ble_eq_true rfl, Nat.le_of_ble_eq_true rfl⟩) rfl (Nat.le_of_ble_eq_true rfl) ⟨Nat.zero_le _, Nat.zero_le _⟩ dX13_passed_13 (fun r3 _ hw4 => ?_)
    rcases hw4 with ⟨rfl, q6⟩ | ⟨rfl, q7⟩
    · refine v_if_eq F 28 dX13_passed_16 (by decide) 1 rfl (fun c8 => absurd c8 (by decide)) (fun c8 => ?_)
      refine g_aload_n F 0 dX13_passed_19 rfl rfl ?_
      refine yg_0_34 F i_X13 w_3 dX13_passed_20 ?_
      refine g_iload_n F 1 dX13_passed_23 rfl rfl ?_
      refine u1_iald F 22 0 yc_22 rfl s0 e0 (by omega) (by omega) dX13_passed_24 ((G 22) (s0).toNat) (rfl) ?_
      refine g_goto F 31 dX13_passed_25 (by decide) ?_
      exact u_iret F hA hQ hr () ((by show ((((G 0 37).toInt ≠ 0 ∧ 0 ≤ s0 ∧ s0 < 7) ∧ ((G 22) (s0).toNat).toInt = ((G 22) (s0).toNat).toInt) ∨ (¬ ((G 0 37).toInt ≠ 0 ∧ 0 ≤ s0 ∧ s0 < 7) ∧ ((G 22) (s0).toNat).toInt = -1000000)); (first | omega | (simp only [Int32.reduceToInt, true_and, and_true, ne_eq, not_true_eq_false, false_and, or_false, false_or, true_or, or_true, false_implies] <;> omega)))) rfl rfl dX13_passed_31
    · refine v_if_eq F 28 dX13_passed_16 (by decide) 0 rfl (fun c9 => ?_) (fun c9 => absurd c9 (by decide))
      refine g_ldcw F w_1 dX13_passed_28 ?_
      exact u_iret F hA hQ hr () ((by show ((((G 0 37).toInt ≠ 0 ∧ 0 ≤ s0 ∧ s0 < 7) ∧ (-1000000) = ((G 22) (s0).toNat).toInt) ∨ (¬ ((G 0 37).toInt ≠ 0 ∧ 0 ≤ s0 ∧ s0 < 7) ∧ (-1000000) = -1000000)); (first | omega | (simp only [Int32.reduceToInt, true_and, and_true, ne_eq, not_true_eq_false, false_and, or_false, false_or, true_or, or_true, false_implies] <;> omega)))) rfl rfl dX13_passed_31

theorem dX13_left_0 : decode cX13_left 0 = .ok (.aload_n 0, 1) := by decide +kernel
theorem dX13_left_1 : decode cX13_left 1 = .ok (.iload_n 1, 1) := by decide +kernel
theorem dX13_left_2 : decode cX13_left 2 = .ok (.iload_n 2, 1) := by decide +kernel
theorem dX13_left_3 : decode cX13_left 3 = .ok (.invokevirtual 374, 3) := by decide +kernel
theorem dX13_left_6 : decode cX13_left 6 = .ok (.ifCond .eq 17, 3) := by decide +kernel
theorem dX13_left_9 : decode cX13_left 9 = .ok (.aload_n 0, 1) := by decide +kernel
theorem dX13_left_10 : decode cX13_left 10 = .ok (.getfield 217, 3) := by decide +kernel
theorem dX13_left_13 : decode cX13_left 13 = .ok (.iload_n 1, 1) := by decide +kernel
theorem dX13_left_14 : decode cX13_left 14 = .ok (.iload_n 2, 1) := by decide +kernel
theorem dX13_left_15 : decode cX13_left 15 = .ok (.invokestatic 378, 3) := by decide +kernel
theorem dX13_left_18 : decode cX13_left 18 = .ok (.iaload, 1) := by decide +kernel
theorem dX13_left_19 : decode cX13_left 19 = .ok (.iconst (-1), 1) := by decide +kernel
theorem dX13_left_20 : decode cX13_left 20 = .ok (.if_icmp .ne 5, 3) := by decide +kernel
theorem dX13_left_23 : decode cX13_left 23 = .ok (.iconst (-1), 1) := by decide +kernel
theorem dX13_left_24 : decode cX13_left 24 = .ok (.ireturn, 1) := by decide +kernel
theorem dX13_left_25 : decode cX13_left 25 = .ok (.iload_n 3, 1) := by decide +kernel
theorem dX13_left_26 : decode cX13_left 26 = .ok (.tableswitch 78 0 3 #[30, 41, 52, 63], 30) := by decide +kernel
theorem dX13_left_56 : decode cX13_left 56 = .ok (.aload_n 0, 1) := by decide +kernel
theorem dX13_left_57 : decode cX13_left 57 = .ok (.getfield 217, 3) := by decide +kernel
theorem dX13_left_60 : decode cX13_left 60 = .ok (.iload_n 1, 1) := by decide +kernel
theorem dX13_left_61 : decode cX13_left 61 = .ok (.iload_n 2, 1) := by decide +kernel
theorem dX13_left_62 : decode cX13_left 62 = .ok (.invokestatic 378, 3) := by decide +kernel
theorem dX13_left_65 : decode cX13_left 65 = .ok (.iaload, 1) := by decide +kernel
theorem dX13_left_66 : decode cX13_left 66 = .ok (.ireturn, 1) := by decide +kernel
theorem dX13_left_67 : decode cX13_left 67 = .ok (.aload_n 0, 1) := by decide +kernel
theorem dX13_left_68 : decode cX13_left 68 = .ok (.getfield 220, 3) := by decide +kernel
theorem dX13_left_71 : decode cX13_left 71 = .ok (.iload_n 1, 1) := by decide +kernel
theorem dX13_left_72 : decode cX13_left 72 = .ok (.iload_n 2, 1) := by decide +kernel
theorem dX13_left_73 : decode cX13_left 73 = .ok (.invokestatic 378, 3) := by decide +kernel
theorem dX13_left_76 : decode cX13_left 76 = .ok (.iaload, 1) := by decide +kernel
theorem dX13_left_77 : decode cX13_left 77 = .ok (.ireturn, 1) := by decide +kernel
theorem dX13_left_78 : decode cX13_left 78 = .ok (.aload_n 0, 1) := by decide +kernel
theorem dX13_left_79 : decode cX13_left 79 = .ok (.getfield 223, 3) := by decide +kernel
theorem dX13_left_82 : decode cX13_left 82 = .ok (.iload_n 1, 1) := by decide +kernel
theorem dX13_left_83 : decode cX13_left 83 = .ok (.iload_n 2, 1) := by decide +kernel
theorem dX13_left_84 : decode cX13_left 84 = .ok (.invokestatic 378, 3) := by decide +kernel
theorem dX13_left_87 : decode cX13_left 87 = .ok (.iaload, 1) := by decide +kernel
theorem dX13_left_88 : decode cX13_left 88 = .ok (.ireturn, 1) := by decide +kernel
theorem dX13_left_89 : decode cX13_left 89 = .ok (.aload_n 0, 1) := by decide +kernel
theorem dX13_left_90 : decode cX13_left 90 = .ok (.getfield 226, 3) := by decide +kernel
theorem dX13_left_93 : decode cX13_left 93 = .ok (.iload_n 1, 1) := by decide +kernel
theorem dX13_left_94 : decode cX13_left 94 = .ok (.iload_n 2, 1) := by decide +kernel
theorem dX13_left_95 : decode cX13_left 95 = .ok (.invokestatic 378, 3) := by decide +kernel
theorem dX13_left_98 : decode cX13_left 98 = .ok (.iaload, 1) := by decide +kernel
theorem dX13_left_99 : decode cX13_left 99 = .ok (.sipush 20000, 3) := by decide +kernel
theorem dX13_left_102 : decode cX13_left 102 = .ok (.iadd, 1) := by decide +kernel
theorem dX13_left_103 : decode cX13_left 103 = .ok (.ireturn, 1) := by decide +kernel
theorem dX13_left_104 : decode cX13_left 104 = .ok (.iconst (-1), 1) := by decide +kernel
theorem dX13_left_105 : decode cX13_left 105 = .ok (.ireturn, 1) := by decide +kernel
set_option maxRecDepth 20000 in
theorem ggX13_left_X13_at : GoodIn wsX13_left wsX13_at := goodIn_r _ [20] rfl (by decide +kernel)
set_option maxRecDepth 20000 in
theorem gX13_left_X13_at : GoodIn wsX13_left (va_wsS RX13 378 yX13_at wsX13_at) := goodIn_app (goodIn_of _ (by decide +kernel)) ggX13_left_X13_at
set_option maxRecDepth 20000 in
theorem ggX13_left_X13_isPlace : GoodIn wsX13_left wsX13_isPlace := goodIn_r _ [9, 10, 11, 12, 13, 8, 14, 15, 16, 17, 21, 22, 23, 24, 25, 26, 27, 28, 29, 30, 31, 32, 33, 34, 35, 36, 37, 38, 39, 40, 41, 42, 43, 44, 45, 46, 47, 48, 49, 50, 51, 52, 53, 54, 55, 56, 57, 58, 59, 60, 61, 62, 63, 64, 65, 66, 67, 68, 69, 70, 71, 72, 73, 74, 75, 76, 77, 78, 79, 80, 81, 82, 83, 84, 85, 86, 87, 88, 89, 90, 91, 92, 93] rfl (by decide +kernel)
set_option maxRecDepth 20000 in
theorem gX13_left_X13_isPlace : GoodIn wsX13_left (wsV RX13 374 RX13 yX13_isPlace wsX13_isPlace) := goodIn_app (goodIn_of _ (by decide +kernel)) ggX13_left_X13_isPlace
set_option maxHeartbeats 4000000 in
set_option maxRecDepth 100000 in
theorem S_X13_left (l : Launch) (D : va_G) (K : Nat → ClassId) (a : Nat → Nat) (G : gS) (p0 : Int32) (s0 : Int) (p1 : Int32) (s1 : Int) (p2 : Int32) (s2 : Int) (e0 : p0.toInt = s0) (e1 : p1.toInt = s1) (e2 : p2.toInt = s2) (hI : yI G) (sz : Nat) : Ki l yX13_left wsX13_left 4 108 0 0 D [.ref (a 0), .int p0, .int p1, .int p2] (yW K a G) (tK K) sz (fun (r : Int32) (_ : Unit) => (((((0 ≤ s0 ∧ s0 < (G 3 1).toInt ∧ 0 ≤ s1 ∧ s1 < (G 3 0).toInt) ∧ 0 ≤ s2 ∧ s2 < 4 ∧ ((G 15) (16 * s0 + s1).toNat).toInt ≠ -1) ∧ r.toInt = (yPc G (s2.toNat + 1) (16 * s0 + s1).toNat).toInt) ∨ (¬ ((0 ≤ s0 ∧ s0 < (G 3 1).toInt ∧ 0 ≤ s1 ∧ s1 < (G 3 0).toInt) ∧ 0 ≤ s2 ∧ s2 < 4 ∧ ((G 15) (16 * s0 + s1).toNat).toInt ≠ -1) ∧ r.toInt = -1)))) (fun (_ : Unit) => (yW K a G)) (fun _ => (tK K)) := by
  unfold Ki
  refine g_ofW (cc := cX13_left) (lv := [(0, .ref (a 0)), (1, .int p0), (2, .int p1), (3, .int p2)]) (by decide) rfl (Nat.le_of_ble_eq_true rfl) rfl ?_
  intro p e s m args below meth c A Q hA hQ F hr hnm
  have hts := F.2.2.2.2.1
  have w_0 : (Cond.fieldLink RX13 217 "QuietCutModel" "leftPass" "[I").before args s = true := hts _ (List.mem_of_getElem? (i := 1) rfl)
  have i_X13 : ∀ w ∈ u_ws RX13 TX13 73, w ∈ wsX13_left := fun _ h => List.mem_cons_of_mem _ (List.mem_append_right _ h)
  have w_1 : (Cond.fieldLink RX13 220 "QuietCutModel" "leftTurn" "[I").before args s = true := hts _ (List.mem_of_getElem? (i := 2) rfl)
  have w_2 : (Cond.fieldLink RX13 223 "QuietCutModel" "leftTooth" "[I").before args s = true := hts _ (List.mem_of_getElem? (i := 3) rfl)
  have w_3 : (Cond.fieldLink RX13 226 "QuietCutModel" "leftX" "[I").before args s = true := hts _ (List.mem_of_getElem? (i := 4) rfl)
  have rg0 : -2147483648 ≤ s0 ∧ s0 ≤ 2147483647 := e0 ▸ ti_rng p0
  have rg1 : -2147483648 ≤ s1 ∧ s1 ≤ 2147483647 := e1 ▸ ti_rng p1
  have rg2 : -2147483648 ≤ s2 ∧ s2 ≤ 2147483647 := e2 ▸ ti_rng p2
  have b1 : (4 : Int) ≤ (G 3 0).toInt ∧ (G 3 0).toInt ≤ 16 := hI 3 0
  have b2 : (1 : Int) ≤ (G 3 1).toInt ∧ (G 3 1).toInt ≤ 6 := hI 3 1
  refine g_aload_n F 0 dX13_left_0 rfl rfl ?_
  refine g_iload_n F 1 dX13_left_1 rfl rfl ?_
  refine g_iload_n F 2 dX13_left_2 rfl rfl ?_
  refine u_callVi (k := 0) (n := 0) (b := a 0) (As := [.int p0, .int p1]) (st := []) F (fun sz => S_X13_isPlace l D K a G p0 s0 p1 s1 e0 e1 hI sz) (cwV 2 hts gX13_left_X13_isPlace rfl rfl rfl (by decide +kernel) ⟨Nat.le_of_ble_eq_true rfl, Nat.le_of_ble_eq_true rfl⟩) rfl 0 yc_0 rfl (Nat.le_of_ble_eq_true rfl) ⟨Nat.zero_le _, Nat.zero_le _⟩ dX13_left_3 (fun r3 _ hw4 => ?_)
  rcases hw4 with ⟨rfl, q6⟩ | ⟨rfl, q7⟩
  · have q6 : (0 ≤ s0 ∧ s0 < (G 3 1).toInt ∧ 0 ≤ s1 ∧ s1 < (G 3 0).toInt) := q6
    refine v_if_eq F 23 dX13_left_6 (by decide) 1 rfl (fun c8 => absurd c8 (by decide)) (fun c8 => ?_)
    refine g_aload_n F 0 dX13_left_9 rfl rfl ?_
    refine yg_0_24 F i_X13 w_0 dX13_left_10 ?_
    refine g_iload_n F 1 dX13_left_13 rfl rfl ?_
    refine g_iload_n F 2 dX13_left_14 rfl rfl ?_
    refine u_call0 (k := 0) (n := 0) (As := [.int p0, .int p1]) (st := [.ref (a 15)]) F (fun sz => S_X13_at_b5_b15 l D p0 s0 p1 s1 e0 (by omega) e1 (by omega) sz) (va_cwS 2 hts gX13_left_X13_at rfl rfl rfl (by decide +kernel) ⟨Nat.le_of_ble_eq_true rfl, Nat.le_of_ble_eq_true rfl⟩) rfl (Nat.le_of_ble_eq_true rfl) ⟨Nat.zero_le _, Nat.zero_le _⟩ dX13_left_15 (fun r9 _ hw10 => ?_)
    have rg12 := hw10.1
    have rg13 := hw10.2
    clear hw10
    refine u1_iald F 15 0 yc_15 rfl r9.toInt rfl (by omega) (by omega) dX13_left_18 ((G 15) ((16 * s0 + s1)).toNat) (by rw [show r9.toInt = (16 * s0 + s1) by omega] <;> rfl) ?_
    refine g_iconst F (-1) dX13_left_19 (by decide) ?_
    refine v_icmp_ne F 25 dX13_left_20 (by decide) ((G 15) ((16 * s0 + s1)).toNat).toInt (-1) rfl rfl (fun c14 => ?_) (fun c14 => ?_)
    · refine g_iload_n F 3 dX13_left_25 rfl rfl ?_
      rcases (show s2 = 0 ∨ s2 = 1 ∨ s2 = 2 ∨ s2 = 3 ∨ (s2 < 0 ∨ 3 < s2) by omega) with c15 | c15 | c15 | c15 | c15
      · have c15' : Int32.toInt p2 = 0 := (e2).trans c15
        refine g_tableIn F 56 dX13_left_26 (by rw [c15']; decide) (by rw [c15']; decide) (by rw [c15']; rfl) (by decide) ?_
        refine g_aload_n F 0 dX13_left_56 rfl rfl ?_
        refine yg_0_24 F i_X13 w_0 dX13_left_57 ?_
        refine g_iload_n F 1 dX13_left_60 rfl rfl ?_
        refine g_iload_n F 2 dX13_left_61 rfl rfl ?_
        refine u_call0 (k := 0) (n := 0) (As := [.int p0, .int p1]) (st := [.ref (a 15)]) F (fun sz => S_X13_at_b5_b15 l D p0 s0 p1 s1 e0 (by omega) e1 (by omega) sz) (va_cwS 2 hts gX13_left_X13_at rfl rfl rfl (by decide +kernel) ⟨Nat.le_of_ble_eq_true rfl, Nat.le_of_ble_eq_true rfl⟩) rfl (Nat.le_of_ble_eq_true rfl) ⟨Nat.zero_le _, Nat.zero_le _⟩ dX13_left_62 (fun r16 _ hw17 => ?_)
        have rg19 := hw17.1
        have rg20 := hw17.2
        clear hw17
        refine u1_iald F 15 0 yc_15 rfl r16.toInt rfl (by omega) (by omega) dX13_left_65 ((G 15) ((16 * s0 + s1)).toNat) (by rw [show r16.toInt = (16 * s0 + s1) by omega] <;> rfl) ?_
        exact u_iret F hA hQ hr () ((by first | exact Or.inr ⟨by omega, by decide⟩ | exact Or.inl ⟨by omega, by rw [show (s2).toNat + 1 = 1 by omega]; rfl⟩ | exact Or.inl ⟨by omega, by rw [show (s2).toNat + 1 = 2 by omega]; rfl⟩ | exact Or.inl ⟨by omega, by rw [show (s2).toNat + 1 = 3 by omega]; rfl⟩ | exact Or.inl ⟨by omega, by rw [show (s2).toNat + 1 = 4 by omega]; rfl⟩)) rfl rfl dX13_left_66
      · have c15' : Int32.toInt p2 = 1 := (e2).trans c15
        refine g_tableIn F 67 dX13_left_26 (by rw [c15']; decide) (by rw [c15']; decide) (by rw [c15']; rfl) (by decide) ?_
        refine g_aload_n F 0 dX13_left_67 rfl rfl ?_
        refine yg_0_25 F i_X13 w_1 dX13_left_68 ?_
        refine g_iload_n F 1 dX13_left_71 rfl rfl ?_
        refine g_iload_n F 2 dX13_left_72 rfl rfl ?_
        refine u_call0 (k := 0) (n := 0) (As := [.int p0, .int p1]) (st := [.ref (a 16)]) F (fun sz => S_X13_at_b5_b15 l D p0 s0 p1 s1 e0 (by omega) e1 (by omega) sz) (va_cwS 2 hts gX13_left_X13_at rfl rfl rfl (by decide +kernel) ⟨Nat.le_of_ble_eq_true rfl, Nat.le_of_ble_eq_true rfl⟩) rfl (Nat.le_of_ble_eq_true rfl) ⟨Nat.zero_le _, Nat.zero_le _⟩ dX13_left_73 (fun r21 _ hw22 => ?_)
        have rg24 := hw22.1
        have rg25 := hw22.2
        clear hw22
        refine u1_iald F 16 0 yc_16 rfl r21.toInt rfl (by omega) (by omega) dX13_left_76 ((G 16) ((16 * s0 + s1)).toNat) (by rw [show r21.toInt = (16 * s0 + s1) by omega] <;> rfl) ?_
        exact u_iret F hA hQ hr () ((by first | exact Or.inr ⟨by omega, by decide⟩ | exact Or.inl ⟨by omega, by rw [show (s2).toNat + 1 = 1 by omega]; rfl⟩ | exact Or.inl ⟨by omega, by rw [show (s2).toNat + 1 = 2 by omega]; rfl⟩ | exact Or.inl ⟨by omega, by rw [show (s2).toNat + 1 = 3 by omega]; rfl⟩ | exact Or.inl ⟨by omega, by rw [show (s2).toNat + 1 = 4 by omega]; rfl⟩)) rfl rfl dX13_left_77
      · have c15' : Int32.toInt p2 = 2 := (e2).trans c15
        refine g_tableIn F 78 dX13_left_26 (by rw [c15']; decide) (by rw [c15']; decide) (by rw [c15']; rfl) (by decide) ?_
        refine g_aload_n F 0 dX13_left_78 rfl rfl ?_
        refine yg_0_26 F i_X13 w_2 dX13_left_79 ?_
        refine g_iload_n F 1 dX13_left_82 rfl rfl ?_
        refine g_iload_n F 2 dX13_left_83 rfl rfl ?_
        refine u_call0 (k := 0) (n := 0) (As := [.int p0, .int p1]) (st := [.ref (a 17)]) F (fun sz => S_X13_at_b5_b15 l D p0 s0 p1 s1 e0 (by omega) e1 (by omega) sz) (va_cwS 2 hts gX13_left_X13_at rfl rfl rfl (by decide +kernel) ⟨Nat.le_of_ble_eq_true rfl, Nat.le_of_ble_eq_true rfl⟩) rfl (Nat.le_of_ble_eq_true rfl) ⟨Nat.zero_le _, Nat.zero_le _⟩ dX13_left_84 (fun r26 _ hw27 => ?_)
        have rg29 := hw27.1
        have rg30 := hw27.2
        clear hw27
        refine u1_iald F 17 0 yc_17 rfl r26.toInt rfl (by omega) (by omega) dX13_left_87 ((G 17) ((16 * s0 + s1)).toNat) (by rw [show r26.toInt = (16 * s0 + s1) by omega] <;> rfl) ?_
        exact u_iret F hA hQ hr () ((by first | exact Or.inr ⟨by omega, by decide⟩ | exact Or.inl ⟨by omega, by rw [show (s2).toNat + 1 = 1 by omega]; rfl⟩ | exact Or.inl ⟨by omega, by rw [show (s2).toNat + 1 = 2 by omega]; rfl⟩ | exact Or.inl ⟨by omega, by rw [show (s2).toNat + 1 = 3 by omega]; rfl⟩ | exact Or.inl ⟨by omega, by rw [show (s2).toNat + 1 = 4 by omega]; rfl⟩)) rfl rfl dX13_left_88
      · have c15' : Int32.toInt p2 = 3 := (e2).trans c15
        refine g_tableIn F 89 dX13_left_26 (by rw [c15']; decide) (by rw [c15']; decide) (by rw [c15']; rfl) (by decide) ?_
        refine g_aload_n F 0 dX13_left_89 rfl rfl ?_
        refine yg_0_27 F i_X13 w_3 dX13_left_90 ?_
        refine g_iload_n F 1 dX13_left_93 rfl rfl ?_
        refine g_iload_n F 2 dX13_left_94 rfl rfl ?_
        refine u_call0 (k := 0) (n := 0) (As := [.int p0, .int p1]) (st := [.ref (a 18)]) F (fun sz => S_X13_at_b5_b15 l D p0 s0 p1 s1 e0 (by omega) e1 (by omega) sz) (va_cwS 2 hts gX13_left_X13_at rfl rfl rfl (by decide +kernel) ⟨Nat.le_of_ble_eq_true rfl, Nat.le_of_ble_eq_true rfl⟩) rfl (Nat.le_of_ble_eq_true rfl) ⟨Nat.zero_le _, Nat.zero_le _⟩ dX13_left_95 (fun r31 _ hw32 => ?_)
        have rg34 := hw32.1
        have rg35 := hw32.2
        clear hw32
        refine u1_iald F 18 0 yc_18 rfl r31.toInt rfl (by omega) (by omega) dX13_left_98 ((G 18) ((16 * s0 + s1)).toNat) (by rw [show r31.toInt = (16 * s0 + s1) by omega] <;> rfl) ?_
        refine g_sipush F 20000 dX13_left_99 (by decide) ?_
        refine g_iadd F dX13_left_102 ?_
        exact u_iret F hA hQ hr () ((by first | exact Or.inr ⟨by omega, by decide⟩ | exact Or.inl ⟨by omega, by rw [show (s2).toNat + 1 = 1 by omega]; rfl⟩ | exact Or.inl ⟨by omega, by rw [show (s2).toNat + 1 = 2 by omega]; rfl⟩ | exact Or.inl ⟨by omega, by rw [show (s2).toNat + 1 = 3 by omega]; rfl⟩ | exact Or.inl ⟨by omega, by rw [show (s2).toNat + 1 = 4 by omega]; rfl⟩)) rfl rfl dX13_left_103
      · refine g_tableOut F 104 dX13_left_26 (by rw [e2]; exact c15) (by decide) ?_
        refine g_iconst F (-1) dX13_left_104 (by decide) ?_
        exact u_iret F hA hQ hr () ((by first | exact Or.inr ⟨by omega, by decide⟩ | exact Or.inl ⟨by omega, by rw [show (s2).toNat + 1 = 1 by omega]; rfl⟩ | exact Or.inl ⟨by omega, by rw [show (s2).toNat + 1 = 2 by omega]; rfl⟩ | exact Or.inl ⟨by omega, by rw [show (s2).toNat + 1 = 3 by omega]; rfl⟩ | exact Or.inl ⟨by omega, by rw [show (s2).toNat + 1 = 4 by omega]; rfl⟩)) rfl rfl dX13_left_105
    · refine g_iconst F (-1) dX13_left_23 (by decide) ?_
      exact u_iret F hA hQ hr () ((by first | exact Or.inr ⟨by omega, by decide⟩ | exact Or.inl ⟨by omega, by rw [show (s2).toNat + 1 = 1 by omega]; rfl⟩ | exact Or.inl ⟨by omega, by rw [show (s2).toNat + 1 = 2 by omega]; rfl⟩ | exact Or.inl ⟨by omega, by rw [show (s2).toNat + 1 = 3 by omega]; rfl⟩ | exact Or.inl ⟨by omega, by rw [show (s2).toNat + 1 = 4 by omega]; rfl⟩)) rfl rfl dX13_left_24
  · have q7 : ¬ (0 ≤ s0 ∧ s0 < (G 3 1).toInt ∧ 0 ≤ s1 ∧ s1 < (G 3 0).toInt) := q7
    refine v_if_eq F 23 dX13_left_6 (by decide) 0 rfl (fun c36 => ?_) (fun c36 => absurd c36 (by decide))
    refine g_iconst F (-1) dX13_left_23 (by decide) ?_
    exact u_iret F hA hQ hr () ((by first | exact Or.inr ⟨by omega, by decide⟩ | exact Or.inl ⟨by omega, by rw [show (s2).toNat + 1 = 1 by omega]; rfl⟩ | exact Or.inl ⟨by omega, by rw [show (s2).toNat + 1 = 2 by omega]; rfl⟩ | exact Or.inl ⟨by omega, by rw [show (s2).toNat + 1 = 3 by omega]; rfl⟩ | exact Or.inl ⟨by omega, by rw [show (s2).toNat + 1 = 4 by omega]; rfl⟩)) rfl rfl dX13_left_24

theorem dX13_timeOf_0 : decode cX13_timeOf 0 = .ok (.iconst 0, 1) := by decide +kernel
theorem dX13_timeOf_1 : decode cX13_timeOf 1 = .ok (.istore_n 2, 1) := by decide +kernel
theorem dX13_timeOf_2 : decode cX13_timeOf 2 = .ok (.iconst 0, 1) := by decide +kernel
theorem dX13_timeOf_3 : decode cX13_timeOf 3 = .ok (.istore_n 3, 1) := by decide +kernel
theorem dX13_timeOf_4 : decode cX13_timeOf 4 = .ok (.iload_n 3, 1) := by decide +kernel
theorem dX13_timeOf_5 : decode cX13_timeOf 5 = .ok (.aload_n 0, 1) := by decide +kernel
theorem dX13_timeOf_6 : decode cX13_timeOf 6 = .ok (.getfield 199, 3) := by decide +kernel
theorem dX13_timeOf_9 : decode cX13_timeOf 9 = .ok (.iconst 0, 1) := by decide +kernel
theorem dX13_timeOf_10 : decode cX13_timeOf 10 = .ok (.iaload, 1) := by decide +kernel
theorem dX13_timeOf_11 : decode cX13_timeOf 11 = .ok (.aload_n 0, 1) := by decide +kernel
theorem dX13_timeOf_12 : decode cX13_timeOf 12 = .ok (.getfield 199, 3) := by decide +kernel
theorem dX13_timeOf_15 : decode cX13_timeOf 15 = .ok (.bipush 9, 2) := by decide +kernel
theorem dX13_timeOf_17 : decode cX13_timeOf 17 = .ok (.iaload, 1) := by decide +kernel
theorem dX13_timeOf_18 : decode cX13_timeOf 18 = .ok (.imul, 1) := by decide +kernel
theorem dX13_timeOf_19 : decode cX13_timeOf 19 = .ok (.if_icmp .ge 28, 3) := by decide +kernel
theorem dX13_timeOf_22 : decode cX13_timeOf 22 = .ok (.iload_n 2, 1) := by decide +kernel
theorem dX13_timeOf_23 : decode cX13_timeOf 23 = .ok (.iload_n 1, 1) := by decide +kernel
theorem dX13_timeOf_24 : decode cX13_timeOf 24 = .ok (.aload_n 0, 1) := by decide +kernel
theorem dX13_timeOf_25 : decode cX13_timeOf 25 = .ok (.getfield 204, 3) := by decide +kernel
theorem dX13_timeOf_28 : decode cX13_timeOf 28 = .ok (.iload_n 3, 1) := by decide +kernel
theorem dX13_timeOf_29 : decode cX13_timeOf 29 = .ok (.aload_n 0, 1) := by decide +kernel
theorem dX13_timeOf_30 : decode cX13_timeOf 30 = .ok (.getfield 199, 3) := by decide +kernel
theorem dX13_timeOf_33 : decode cX13_timeOf 33 = .ok (.bipush 11, 2) := by decide +kernel
theorem dX13_timeOf_35 : decode cX13_timeOf 35 = .ok (.iaload, 1) := by decide +kernel
theorem dX13_timeOf_36 : decode cX13_timeOf 36 = .ok (.irem, 1) := by decide +kernel
theorem dX13_timeOf_37 : decode cX13_timeOf 37 = .ok (.iaload, 1) := by decide +kernel
theorem dX13_timeOf_38 : decode cX13_timeOf 38 = .ok (.iadd, 1) := by decide +kernel
theorem dX13_timeOf_39 : decode cX13_timeOf 39 = .ok (.iadd, 1) := by decide +kernel
theorem dX13_timeOf_40 : decode cX13_timeOf 40 = .ok (.istore_n 2, 1) := by decide +kernel
theorem dX13_timeOf_41 : decode cX13_timeOf 41 = .ok (.iinc 3 1, 3) := by decide +kernel
theorem dX13_timeOf_44 : decode cX13_timeOf 44 = .ok (.goto (-40), 3) := by decide +kernel
theorem dX13_timeOf_47 : decode cX13_timeOf 47 = .ok (.iload_n 2, 1) := by decide +kernel
theorem dX13_timeOf_48 : decode cX13_timeOf 48 = .ok (.ireturn, 1) := by decide +kernel
set_option maxHeartbeats 4000000 in
set_option maxRecDepth 100000 in
theorem S_X13_timeOf (l : Launch) (D : va_G) (K : Nat → ClassId) (a : Nat → Nat) (G : gS) (p0 : Int32) (s0 : Int) (e0 : p0.toInt = s0) (hI : yI G) (sz : Nat) : Ki l yX13_timeOf wsX13_timeOf 1 40 0 0 D [.ref (a 0), .int p0] (yW K a G) (tK K) sz (fun (r : Int32) (_ : Unit) => True) (fun (_ : Unit) => (yW K a G)) (fun _ => (tK K)) := by
  unfold Ki
  refine g_ofW (cc := cX13_timeOf) (lv := [(0, .ref (a 0)), (1, .int p0)]) (by decide) rfl (Nat.le_of_ble_eq_true rfl) rfl ?_
  intro p e s m args below meth c A Q hA hQ F hr hnm
  have hts := F.2.2.2.2.1
  have w_0 : (Cond.fieldLink RX13 199 "QuietCutModel" "rule" "[I").before args s = true := hts _ (List.mem_of_getElem? (i := 1) rfl)
  have i_X13 : ∀ w ∈ u_ws RX13 TX13 73, w ∈ wsX13_timeOf := fun _ h => List.mem_cons_of_mem _ (List.mem_append_right _ h)
  have w_1 : (Cond.fieldLink RX13 204 "QuietCutModel" "sway" "[I").before args s = true := hts _ (List.mem_of_getElem? (i := 2) rfl)
  have rg0 : -2147483648 ≤ s0 ∧ s0 ≤ 2147483647 := e0 ▸ ti_rng p0
  have J_4 : ∀ (fuel : Nat) (x4_2 : Int32) (x4_3 : Int32), (2147483647 - x4_3.toInt).toNat < fuel → (0 ≤ x4_3.toInt ∧ x4_3.toInt ≤ 192) → gG p l e (gR 1 0 0 40) s m args below meth c D A 4 Q 0 0 (yW K a G) (tK K) [(0, .ref (a 0)), (1, .int p0), (2, .int x4_2), (3, .int x4_3)] 4 [] := by
    intro fuel
    induction fuel with
    | zero => intro x4_2 x4_3 hm; exact absurd hm (Nat.not_lt_zero _)
    | succ fuel_4 ih_4 =>
      intro x4_2 x4_3 hm_4 h4_3
      refine g_iload_n F 3 dX13_timeOf_4 rfl rfl ?_
      refine g_aload_n F 0 dX13_timeOf_5 rfl rfl ?_
      refine yg_0_10 F i_X13 w_0 dX13_timeOf_6 ?_
      refine g_iconst F 0 dX13_timeOf_9 (by decide) ?_
      refine u1_iald F 3 0 yc_3 rfl 0 rfl (by decide) (by decide) dX13_timeOf_10 (G 3 0) (rfl) ?_
      refine g_aload_n F 0 dX13_timeOf_11 rfl rfl ?_
      refine yg_0_10 F i_X13 w_0 dX13_timeOf_12 ?_
      refine g_bipush F 9 dX13_timeOf_15 (by decide) ?_
      refine u1_iald F 3 0 yc_3 rfl 9 rfl (by decide) (by decide) dX13_timeOf_17 (G 3 9) (rfl) ?_
      have b2 : (4 : Int) ≤ (G 3 0).toInt ∧ (G 3 0).toInt ≤ 16 := hI 3 0
      have b3 : (1 : Int) ≤ (G 3 9).toInt ∧ (G 3 9).toInt ≤ 12 := hI 3 9
      refine u_imulb F dX13_timeOf_18 (G 3 0).toInt (G 3 9).toInt rfl rfl 16 12 (by omega) (by omega) (by omega) (by omega) (by decide) (fun y1 ey1 => ?_)
      refine v_icmp_ge F 47 dX13_timeOf_19 (by decide) x4_3.toInt y1.toInt rfl rfl (fun c4 => ?_) (fun c4 => ?_)
      · refine g_iload_n F 2 dX13_timeOf_47 rfl rfl ?_
        exact u_iret F hA hQ hr () (trivial) rfl rfl dX13_timeOf_48
      · refine g_iload_n F 2 dX13_timeOf_22 rfl rfl ?_
        refine g_iload_n F 1 dX13_timeOf_23 rfl rfl ?_
        refine g_aload_n F 0 dX13_timeOf_24 rfl rfl ?_
        refine yg_0_14 F i_X13 w_1 dX13_timeOf_25 ?_
        refine g_iload_n F 3 dX13_timeOf_28 rfl rfl ?_
        refine g_aload_n F 0 dX13_timeOf_29 rfl rfl ?_
        refine yg_0_10 F i_X13 w_0 dX13_timeOf_30 ?_
        refine g_bipush F 11 dX13_timeOf_33 (by decide) ?_
        refine u1_iald F 3 0 yc_3 rfl 11 rfl (by decide) (by decide) dX13_timeOf_35 (G 3 11) (rfl) ?_
        have b6 : (1 : Int) ≤ (G 3 11).toInt ∧ (G 3 11).toInt ≤ 6 := hI 3 11
        refine u_iremb F dX13_timeOf_36 (ti_ne0 rfl (by omega)) x4_3.toInt (G 3 11).toInt rfl rfl (by omega) (by omega) (fun y5 ey5 => ?_)
        refine u_iald F 7 0 yc_7 rfl y5.toInt rfl (by omega) (by omega) dX13_timeOf_37 (fun z => (0 : Int) ≤ z.toInt ∧ z.toInt ≤ 9) (fun k_ => hI 7 k_) (fun y7 by7 => ?_)
        refine u0_iadd F dX13_timeOf_38 (fun y8 => ?_)
        refine u0_iadd F dX13_timeOf_39 (fun y9 => ?_)
        refine g_istore_n F [(2, .int y9), (0, .ref (a 0)), (1, .int p0), (3, .int x4_3)] dX13_timeOf_40 rfl (by decide) rfl ?_
        refine u_iinc F (fun v_ => [(3, .int v_), (2, .int y9), (0, .ref (a 0)), (1, .int p0)]) dX13_timeOf_41 (j := 3) rfl x4_3.toInt 1 rfl rfl (by omega) (by omega) (by decide) (fun _ => rfl) (fun y10 ey10 => ?_)
        refine g_goto F 4 dX13_timeOf_44 (by decide) ?_
        refine g_locals [(0, .ref (a 0)), (1, .int p0), (2, .int y9), (3, .int y10)] [2, 3, 1, 0] rfl ?_
        exact ih_4 y9 y10 (by omega) (by have h9 := ti_rng y10; omega)
  refine g_iconst F 0 dX13_timeOf_0 (by decide) ?_
  refine g_istore_n F [(2, .int 0), (0, .ref (a 0)), (1, .int p0)] dX13_timeOf_1 rfl (by decide) rfl ?_
  refine g_iconst F 0 dX13_timeOf_2 (by decide) ?_
  refine g_istore_n F [(3, .int 0), (2, .int 0), (0, .ref (a 0)), (1, .int p0)] dX13_timeOf_3 rfl (by decide) rfl ?_
  refine g_locals [(0, .ref (a 0)), (1, .int p0), (2, .int 0), (3, .int 0)] [2, 3, 1, 0] rfl ?_
  exact J_4 _ 0 0 (Nat.lt_succ_self _) (by decide)

theorem dX13_planned_0 : decode cX13_planned 0 = .ok (.aload_n 0, 1) := by decide +kernel
theorem dX13_planned_1 : decode cX13_planned 1 = .ok (.getfield 478, 3) := by decide +kernel
theorem dX13_planned_4 : decode cX13_planned 4 = .ok (.ifCond .ne 7, 3) := by decide +kernel
theorem dX13_planned_7 : decode cX13_planned 7 = .ok (.iconst (-1), 1) := by decide +kernel
theorem dX13_planned_8 : decode cX13_planned 8 = .ok (.goto 47, 3) := by decide +kernel
theorem dX13_planned_11 : decode cX13_planned 11 = .ok (.iload_n 1, 1) := by decide +kernel
theorem dX13_planned_12 : decode cX13_planned 12 = .ok (.ifCond .ne 10, 3) := by decide +kernel
theorem dX13_planned_15 : decode cX13_planned 15 = .ok (.aload_n 0, 1) := by decide +kernel
theorem dX13_planned_16 : decode cX13_planned 16 = .ok (.getfield 469, 3) := by decide +kernel
theorem dX13_planned_19 : decode cX13_planned 19 = .ok (.goto 36, 3) := by decide +kernel
theorem dX13_planned_22 : decode cX13_planned 22 = .ok (.iload_n 1, 1) := by decide +kernel
theorem dX13_planned_23 : decode cX13_planned 23 = .ok (.i2l, 1) := by decide +kernel
theorem dX13_planned_24 : decode cX13_planned 24 = .ok (.ldc2_w 484, 3) := by decide +kernel
theorem dX13_planned_27 : decode cX13_planned 27 = .ok (.ldc2_w 422, 3) := by decide +kernel
theorem dX13_planned_30 : decode cX13_planned 30 = .ok (.aload_n 0, 1) := by decide +kernel
theorem dX13_planned_31 : decode cX13_planned 31 = .ok (.getfield 469, 3) := by decide +kernel
theorem dX13_planned_34 : decode cX13_planned 34 = .ok (.i2l, 1) := by decide +kernel
theorem dX13_planned_35 : decode cX13_planned 35 = .ok (.ladd, 1) := by decide +kernel
theorem dX13_planned_36 : decode cX13_planned 36 = .ok (.invokestatic 61, 3) := by decide +kernel
theorem dX13_planned_39 : decode cX13_planned 39 = .ok (.ifCond .eq 15, 3) := by decide +kernel
theorem dX13_planned_42 : decode cX13_planned 42 = .ok (.aload_n 0, 1) := by decide +kernel
theorem dX13_planned_43 : decode cX13_planned 43 = .ok (.getfield 247, 3) := by decide +kernel
theorem dX13_planned_46 : decode cX13_planned 46 = .ok (.iload_n 1, 1) := by decide +kernel
theorem dX13_planned_47 : decode cX13_planned 47 = .ok (.bipush 10, 2) := by decide +kernel
theorem dX13_planned_49 : decode cX13_planned 49 = .ok (.isub, 1) := by decide +kernel
theorem dX13_planned_50 : decode cX13_planned 50 = .ok (.iaload, 1) := by decide +kernel
theorem dX13_planned_51 : decode cX13_planned 51 = .ok (.goto 4, 3) := by decide +kernel
theorem dX13_planned_54 : decode cX13_planned 54 = .ok (.iconst (-1), 1) := by decide +kernel
theorem dX13_planned_55 : decode cX13_planned 55 = .ok (.ireturn, 1) := by decide +kernel
set_option maxRecDepth 20000 in
theorem ggX13_planned_X13_in : GoodIn wsX13_planned wsX13_in := goodIn_r _ [9] rfl (by decide +kernel)
set_option maxRecDepth 20000 in
theorem gX13_planned_X13_in : GoodIn wsX13_planned (va_wsS RX13 61 yX13_in wsX13_in) := goodIn_app (goodIn_of _ (by decide +kernel)) ggX13_planned_X13_in
set_option maxHeartbeats 4000000 in
set_option maxRecDepth 100000 in
theorem S_X13_planned (l : Launch) (D : va_G) (K : Nat → ClassId) (a : Nat → Nat) (G : gS) (p0 : Int32) (s0 : Int) (e0 : p0.toInt = s0) (hI : yI G) (sz : Nat) : Ki l yX13_planned wsX13_planned 2 65 0 0 D [.ref (a 0), .int p0] (yW K a G) (tK K) sz (fun (r : Int32) (_ : Unit) => True) (fun (_ : Unit) => (yW K a G)) (fun _ => (tK K)) := by
  unfold Ki
  refine g_ofW (cc := cX13_planned) (lv := [(0, .ref (a 0)), (1, .int p0)]) (by decide) rfl (Nat.le_of_ble_eq_true rfl) rfl ?_
  intro p e s m args below meth c A Q hA hQ F hr hnm
  have hts := F.2.2.2.2.1
  have w_0 : (Cond.fieldLink RX13 478 "QuietCutModel" "hasPlan" "Z").before args s = true := hts _ (List.mem_of_getElem? (i := 1) rfl)
  have i_X13 : ∀ w ∈ u_ws RX13 TX13 73, w ∈ wsX13_planned := fun _ h => List.mem_cons_of_mem _ (List.mem_append_right _ h)
  have w_1 : (Cond.constantLong RX13 484 (10)).before args s = true := hts _ (List.mem_of_getElem? (i := 3) rfl)
  have w_2 : (Cond.constantLong RX13 422 (9)).before args s = true := hts _ (List.mem_of_getElem? (i := 4) rfl)
  have w_3 : (Cond.fieldLink RX13 469 "QuietCutModel" "plans" "I").before args s = true := hts _ (List.mem_of_getElem? (i := 2) rfl)
  have w_4 : (Cond.fieldLink RX13 247 "QuietCutModel" "planned" "[I").before args s = true := hts _ (List.mem_of_getElem? (i := 5) rfl)
  have rg0 : -2147483648 ≤ s0 ∧ s0 ≤ 2147483647 := e0 ▸ ti_rng p0
  refine g_aload_n F 0 dX13_planned_0 rfl rfl ?_
  refine yg_0_43 F i_X13 w_0 dX13_planned_1 (G 0 43) (rfl) ?_
  have b1 : (0 : Int) ≤ (G 0 43).toInt ∧ (G 0 43).toInt ≤ 1 := hI 0 43
  refine v_if_ne F 11 dX13_planned_4 (by decide) (G 0 43).toInt rfl (fun c2 => ?_) (fun c2 => ?_)
  · refine g_iload_n F 1 dX13_planned_11 rfl rfl ?_
    refine v_if_ne F 22 dX13_planned_12 (by decide) s0 e0 (fun c3 => ?_) (fun c3 => ?_)
    · refine g_iload_n F 1 dX13_planned_22 rfl rfl ?_
      refine g_i2l F dX13_planned_23 ?_
      refine g_ldc2 F w_1 dX13_planned_24 ?_
      refine g_ldc2 F w_2 dX13_planned_27 ?_
      refine g_aload_n F 0 dX13_planned_30 rfl rfl ?_
      refine yg_0_42 F i_X13 w_3 dX13_planned_31 (G 0 42) (rfl) ?_
      refine g_i2l F dX13_planned_34 ?_
      have b4 : (0 : Int) ≤ (G 0 42).toInt ∧ (G 0 42).toInt ≤ 400 := hI 0 42
      refine g_ladd F dX13_planned_35 ?_
      refine u_call0 (k := 0) (n := 0) (As := [.long (Int32.toInt64 p0), .long 10, .long ((9 : Int64) + (Int32.toInt64 (G 0 42)))]) (st := []) F (fun sz => S_X13_in l D (Int32.toInt64 p0) s0 10 10 ((9 : Int64) + (Int32.toInt64 (G 0 42))) (9 + (G 0 42).toInt) (ti_i2l e0) rfl (ti_addL rfl (ti_i2l rfl) (by omega) (by omega)) sz) (va_cwS 3 hts gX13_planned_X13_in rfl rfl rfl (by decide +kernel) ⟨Nat.le_of_ble_eq_true rfl, Nat.le_of_ble_eq_true rfl⟩) rfl (Nat.le_of_ble_eq_true rfl) ⟨Nat.zero_le _, Nat.zero_le _⟩ dX13_planned_36 (fun r5 _ hw6 => ?_)
      rcases hw6 with ⟨rfl, q8⟩ | ⟨rfl, q9⟩
      · refine v_if_eq F 54 dX13_planned_39 (by decide) 1 rfl (fun c10 => absurd c10 (by decide)) (fun c10 => ?_)
        refine g_aload_n F 0 dX13_planned_42 rfl rfl ?_
        refine yg_0_40 F i_X13 w_4 dX13_planned_43 ?_
        refine g_iload_n F 1 dX13_planned_46 rfl rfl ?_
        refine g_bipush F 10 dX13_planned_47 (by decide) ?_
        refine u_isub F dX13_planned_49 s0 10 e0 rfl (by omega) (by omega) (fun y11 ey11 => ?_)
        refine u_iald F 25 0 yc_25 rfl y11.toInt rfl (by omega) (by omega) dX13_planned_50 (fun _ => True) (fun _ => trivial) (fun y12 by12 => ?_)
        refine g_goto F 55 dX13_planned_51 (by decide) ?_
        exact u_iret F hA hQ hr () (trivial) rfl rfl dX13_planned_55
      · refine v_if_eq F 54 dX13_planned_39 (by decide) 0 rfl (fun c13 => ?_) (fun c13 => absurd c13 (by decide))
        refine g_iconst F (-1) dX13_planned_54 (by decide) ?_
        exact u_iret F hA hQ hr () (trivial) rfl rfl dX13_planned_55
    · refine g_aload_n F 0 dX13_planned_15 rfl rfl ?_
      refine yg_0_42 F i_X13 w_3 dX13_planned_16 (G 0 42) (rfl) ?_
      refine g_goto F 55 dX13_planned_19 (by decide) ?_
      have b14 : (0 : Int) ≤ (G 0 42).toInt ∧ (G 0 42).toInt ≤ 400 := hI 0 42
      exact u_iret F hA hQ hr () (trivial) rfl rfl dX13_planned_55
  · refine g_iconst F (-1) dX13_planned_7 (by decide) ?_
    refine g_goto F 55 dX13_planned_8 (by decide) ?_
    exact u_iret F hA hQ hr () (trivial) rfl rfl dX13_planned_55

theorem dX13_job_0 : decode cX13_job 0 = .ok (.aload_n 0, 1) := by decide +kernel
theorem dX13_job_1 : decode cX13_job 1 = .ok (.iload_n 1, 1) := by decide +kernel
theorem dX13_job_2 : decode cX13_job 2 = .ok (.iload_n 2, 1) := by decide +kernel
theorem dX13_job_3 : decode cX13_job 3 = .ok (.iload_n 3, 1) := by decide +kernel
theorem dX13_job_4 : decode cX13_job 4 = .ok (.iload 4, 2) := by decide +kernel
theorem dX13_job_6 : decode cX13_job 6 = .ok (.invokevirtual 431, 3) := by decide +kernel
theorem dX13_job_9 : decode cX13_job 9 = .ok (.ifCond .ne 6, 3) := by decide +kernel
theorem dX13_job_12 : decode cX13_job 12 = .ok (.bipush (-2), 2) := by decide +kernel
theorem dX13_job_14 : decode cX13_job 14 = .ok (.ireturn, 1) := by decide +kernel
theorem dX13_job_15 : decode cX13_job 15 = .ok (.aload_n 0, 1) := by decide +kernel
theorem dX13_job_16 : decode cX13_job 16 = .ok (.getfield 331, 3) := by decide +kernel
theorem dX13_job_19 : decode cX13_job 19 = .ok (.iconst 5, 1) := by decide +kernel
theorem dX13_job_20 : decode cX13_job 20 = .ok (.if_icmp .ne 6, 3) := by decide +kernel
theorem dX13_job_23 : decode cX13_job 23 = .ok (.bipush (-3), 2) := by decide +kernel
theorem dX13_job_25 : decode cX13_job 25 = .ok (.ireturn, 1) := by decide +kernel
theorem dX13_job_26 : decode cX13_job 26 = .ok (.aload_n 0, 1) := by decide +kernel
theorem dX13_job_27 : decode cX13_job 27 = .ok (.getfield 256, 3) := by decide +kernel
theorem dX13_job_30 : decode cX13_job 30 = .ok (.aload_n 0, 1) := by decide +kernel
theorem dX13_job_31 : decode cX13_job 31 = .ok (.getfield 331, 3) := by decide +kernel
theorem dX13_job_34 : decode cX13_job 34 = .ok (.iload_n 1, 1) := by decide +kernel
theorem dX13_job_35 : decode cX13_job 35 = .ok (.iastore, 1) := by decide +kernel
theorem dX13_job_36 : decode cX13_job 36 = .ok (.aload_n 0, 1) := by decide +kernel
theorem dX13_job_37 : decode cX13_job 37 = .ok (.getfield 259, 3) := by decide +kernel
theorem dX13_job_40 : decode cX13_job 40 = .ok (.aload_n 0, 1) := by decide +kernel
theorem dX13_job_41 : decode cX13_job 41 = .ok (.getfield 331, 3) := by decide +kernel
theorem dX13_job_44 : decode cX13_job 44 = .ok (.iload_n 2, 1) := by decide +kernel
theorem dX13_job_45 : decode cX13_job 45 = .ok (.iastore, 1) := by decide +kernel
theorem dX13_job_46 : decode cX13_job 46 = .ok (.aload_n 0, 1) := by decide +kernel
theorem dX13_job_47 : decode cX13_job 47 = .ok (.getfield 262, 3) := by decide +kernel
theorem dX13_job_50 : decode cX13_job 50 = .ok (.aload_n 0, 1) := by decide +kernel
theorem dX13_job_51 : decode cX13_job 51 = .ok (.getfield 331, 3) := by decide +kernel
theorem dX13_job_54 : decode cX13_job 54 = .ok (.iload_n 3, 1) := by decide +kernel
theorem dX13_job_55 : decode cX13_job 55 = .ok (.iastore, 1) := by decide +kernel
theorem dX13_job_56 : decode cX13_job 56 = .ok (.aload_n 0, 1) := by decide +kernel
theorem dX13_job_57 : decode cX13_job 57 = .ok (.getfield 265, 3) := by decide +kernel
theorem dX13_job_60 : decode cX13_job 60 = .ok (.aload_n 0, 1) := by decide +kernel
theorem dX13_job_61 : decode cX13_job 61 = .ok (.getfield 331, 3) := by decide +kernel
theorem dX13_job_64 : decode cX13_job 64 = .ok (.iload 4, 2) := by decide +kernel
theorem dX13_job_66 : decode cX13_job 66 = .ok (.iastore, 1) := by decide +kernel
theorem dX13_job_67 : decode cX13_job 67 = .ok (.aload_n 0, 1) := by decide +kernel
theorem dX13_job_68 : decode cX13_job 68 = .ok (.dup, 1) := by decide +kernel
theorem dX13_job_69 : decode cX13_job 69 = .ok (.getfield 331, 3) := by decide +kernel
theorem dX13_job_72 : decode cX13_job 72 = .ok (.iconst 1, 1) := by decide +kernel
theorem dX13_job_73 : decode cX13_job 73 = .ok (.iadd, 1) := by decide +kernel
theorem dX13_job_74 : decode cX13_job 74 = .ok (.putfield 331, 3) := by decide +kernel
theorem dX13_job_77 : decode cX13_job 77 = .ok (.aload_n 0, 1) := by decide +kernel
theorem dX13_job_78 : decode cX13_job 78 = .ok (.iconst 0, 1) := by decide +kernel
theorem dX13_job_79 : decode cX13_job 79 = .ok (.putfield 334, 3) := by decide +kernel
theorem dX13_job_82 : decode cX13_job 82 = .ok (.aload_n 0, 1) := by decide +kernel
theorem dX13_job_83 : decode cX13_job 83 = .ok (.getfield 331, 3) := by decide +kernel
theorem dX13_job_86 : decode cX13_job 86 = .ok (.iconst 1, 1) := by decide +kernel
theorem dX13_job_87 : decode cX13_job 87 = .ok (.isub, 1) := by decide +kernel
theorem dX13_job_88 : decode cX13_job 88 = .ok (.ireturn, 1) := by decide +kernel
set_option maxRecDepth 20000 in
theorem ggX13_job_X13_isPass : GoodIn wsX13_job wsX13_isPass := goodIn_r _ [11, 12, 13, 14, 15, 16, 17, 10, 18, 19, 20, 21, 22, 23, 24, 25, 26, 27, 28, 29, 30, 31, 32, 33, 34, 35, 36, 37, 38, 39, 40, 41, 42, 43, 44, 45, 46, 47, 48, 49, 50, 51, 52, 53, 54, 55, 56, 57, 58, 59, 60, 61, 62, 63, 64, 65, 66, 67, 68, 69, 70, 71, 72, 73, 74, 75, 76, 77, 78, 79, 80, 81, 82, 83, 84, 85, 86, 87, 88, 89, 90, 91, 92, 93, 94, 95] rfl (by decide +kernel)
set_option maxRecDepth 20000 in
theorem gX13_job_X13_isPass : GoodIn wsX13_job (wsV RX13 431 RX13 yX13_isPass wsX13_isPass) := goodIn_app (goodIn_of _ (by decide +kernel)) ggX13_job_X13_isPass
set_option maxHeartbeats 4000000 in
set_option maxRecDepth 100000 in
theorem S_X13_job (l : Launch) (D : va_G) (K : Nat → ClassId) (a : Nat → Nat) (G : gS) (p0 : Int32) (s0 : Int) (p1 : Int32) (s1 : Int) (p2 : Int32) (s2 : Int) (p3 : Int32) (s3 : Int) (e0 : p0.toInt = s0) (e1 : p1.toInt = s1) (e2 : p2.toInt = s2) (e3 : p3.toInt = s3) (hI : yI G) (sz : Nat) : Ki l yX13_job wsX13_job 4 110 0 0 D [.ref (a 0), .int p0, .int p1, .int p2, .int p3] (yW K a G) (tK K) sz (fun (r : Int32) (G' : gS) => (yI G') ∧ (gu_un ycd [46, 54, 2800, 2900, 3000, 3100] G G') ∧ ((-3) ≤ r.toInt ∧ r.toInt ≤ 4) ∧ (((¬ (0 ≤ s0 ∧ s0 < (G 3 1).toInt ∧ 1 ≤ s1 ∧ s1 ≤ 9 ∧ 1 ≤ s2 ∧ s2 ≤ 20 ∧ 1 ≤ s3 ∧ s3 ≤ 12) ∧ r.toInt = -2 ∧ (G' 0 45).toInt = (G 0 45).toInt) ∨ ((0 ≤ s0 ∧ s0 < (G 3 1).toInt ∧ 1 ≤ s1 ∧ s1 ≤ 9 ∧ 1 ≤ s2 ∧ s2 ≤ 20 ∧ 1 ≤ s3 ∧ s3 ≤ 12) ∧ 5 ≤ (G 0 45).toInt ∧ r.toInt = -3 ∧ (G' 0 45).toInt = (G 0 45).toInt) ∨ ((0 ≤ s0 ∧ s0 < (G 3 1).toInt ∧ 1 ≤ s1 ∧ s1 ≤ 9 ∧ 1 ≤ s2 ∧ s2 ≤ 20 ∧ 1 ≤ s3 ∧ s3 ≤ 12) ∧ (G 0 45).toInt < 5 ∧ r.toInt = (G 0 45).toInt ∧ (G' 0 45).toInt = (G 0 45).toInt + 1)))) (fun (G' : gS) => (yW K a G')) (fun _ => (tK K)) := by
  unfold Ki
  refine g_ofW (cc := cX13_job) (lv := [(0, .ref (a 0)), (1, .int p0), (2, .int p1), (3, .int p2), (4, .int p3)]) (by decide) rfl (Nat.le_of_ble_eq_true rfl) rfl ?_
  intro p e s m args below meth c A Q hA hQ F hr hnm
  have hts := F.2.2.2.2.1
  have w_0 : (Cond.fieldLink RX13 331 "QuietCutModel" "jobs" "I").before args s = true := hts _ (List.mem_of_getElem? (i := 1) rfl)
  have i_X13 : ∀ w ∈ u_ws RX13 TX13 73, w ∈ wsX13_job := fun _ h => List.mem_cons_of_mem _ (List.mem_append_right _ h)
  have w_1 : (Cond.fieldLink RX13 256 "QuietCutModel" "jobRing" "[I").before args s = true := hts _ (List.mem_of_getElem? (i := 2) rfl)
  have w_2 : (Cond.fieldLink RX13 259 "QuietCutModel" "jobSpeed" "[I").before args s = true := hts _ (List.mem_of_getElem? (i := 3) rfl)
  have w_3 : (Cond.fieldLink RX13 262 "QuietCutModel" "jobFeed" "[I").before args s = true := hts _ (List.mem_of_getElem? (i := 4) rfl)
  have w_4 : (Cond.fieldLink RX13 265 "QuietCutModel" "jobTurns" "[I").before args s = true := hts _ (List.mem_of_getElem? (i := 5) rfl)
  have w_5 : (Cond.fieldLink RX13 334 "QuietCutModel" "hasOrder" "Z").before args s = true := hts _ (List.mem_of_getElem? (i := 6) rfl)
  have rg0 : -2147483648 ≤ s0 ∧ s0 ≤ 2147483647 := e0 ▸ ti_rng p0
  have rg1 : -2147483648 ≤ s1 ∧ s1 ≤ 2147483647 := e1 ▸ ti_rng p1
  have rg2 : -2147483648 ≤ s2 ∧ s2 ≤ 2147483647 := e2 ▸ ti_rng p2
  have rg3 : -2147483648 ≤ s3 ∧ s3 ≤ 2147483647 := e3 ▸ ti_rng p3
  have b1 : (0 : Int) ≤ (G 0 45).toInt ∧ (G 0 45).toInt ≤ 5 := hI 0 45
  have b2 : (1 : Int) ≤ (G 3 1).toInt ∧ (G 3 1).toInt ≤ 6 := hI 3 1
  refine g_aload_n F 0 dX13_job_0 rfl rfl ?_
  refine g_iload_n F 1 dX13_job_1 rfl rfl ?_
  refine g_iload_n F 2 dX13_job_2 rfl rfl ?_
  refine g_iload_n F 3 dX13_job_3 rfl rfl ?_
  refine g_iload F 4 dX13_job_4 rfl ?_
  refine u_callVi (k := 0) (n := 0) (b := a 0) (As := [.int p0, .int p1, .int p2, .int p3]) (st := []) F (fun sz => S_X13_isPass l D K a G p0 s0 p1 s1 p2 s2 p3 s3 e0 e1 e2 e3 hI sz) (cwV 4 hts gX13_job_X13_isPass rfl rfl rfl (by decide +kernel) ⟨Nat.le_of_ble_eq_true rfl, Nat.le_of_ble_eq_true rfl⟩) rfl 0 yc_0 rfl (Nat.le_of_ble_eq_true rfl) ⟨Nat.zero_le _, Nat.zero_le _⟩ dX13_job_6 (fun r3 _ hw4 => ?_)
  rcases hw4 with ⟨rfl, q6⟩ | ⟨rfl, q7⟩
  · have q6 : (0 ≤ s0 ∧ s0 < (G 3 1).toInt ∧ 1 ≤ s1 ∧ s1 ≤ 9 ∧ 1 ≤ s2 ∧ s2 ≤ 20 ∧ 1 ≤ s3 ∧ s3 ≤ 12) := q6
    refine v_if_ne F 15 dX13_job_9 (by decide) 1 rfl (fun c8 => ?_) (fun c8 => absurd c8 (by decide))
    refine g_aload_n F 0 dX13_job_15 rfl rfl ?_
    refine yg_0_45 F i_X13 w_0 dX13_job_16 (G 0 45) (rfl) ?_
    refine g_iconst F 5 dX13_job_19 (by decide) ?_
    refine v_icmp_ne F 26 dX13_job_20 (by decide) (G 0 45).toInt 5 rfl rfl (fun c9 => ?_) (fun c9 => ?_)
    · refine g_aload_n F 0 dX13_job_26 rfl rfl ?_
      refine yg_0_47 F i_X13 w_1 dX13_job_27 ?_
      refine g_aload_n F 0 dX13_job_30 rfl rfl ?_
      refine yg_0_45 F i_X13 w_0 dX13_job_31 (G 0 45) (rfl) ?_
      refine g_iload_n F 1 dX13_job_34 rfl rfl ?_
      refine u_iast F 28 0 yc_28 rfl (G 0 45).toInt rfl (by omega) (by omega) (yW K a (gu_up G 28 ((G 0 45).toInt).toNat p0)) (ys_28 _) dX13_job_35 ?_
      refine g_aload_n F 0 dX13_job_36 rfl rfl ?_
      refine yg_0_48 F i_X13 w_2 dX13_job_37 ?_
      refine g_aload_n F 0 dX13_job_40 rfl rfl ?_
      refine yg_0_45 F i_X13 w_0 dX13_job_41 (G 0 45) (rfl) ?_
      refine g_iload_n F 2 dX13_job_44 rfl rfl ?_
      refine u_iast F 29 0 yc_29 rfl (G 0 45).toInt rfl (by omega) (by omega) (yW K a (gu_up (gu_up G 28 ((G 0 45).toInt).toNat p0) 29 ((G 0 45).toInt).toNat p1)) (ys_29 _) dX13_job_45 ?_
      refine g_aload_n F 0 dX13_job_46 rfl rfl ?_
      refine yg_0_49 F i_X13 w_3 dX13_job_47 ?_
      refine g_aload_n F 0 dX13_job_50 rfl rfl ?_
      refine yg_0_45 F i_X13 w_0 dX13_job_51 (G 0 45) (rfl) ?_
      refine g_iload_n F 3 dX13_job_54 rfl rfl ?_
      refine u_iast F 30 0 yc_30 rfl (G 0 45).toInt rfl (by omega) (by omega) (yW K a (gu_up (gu_up (gu_up G 28 ((G 0 45).toInt).toNat p0) 29 ((G 0 45).toInt).toNat p1) 30 ((G 0 45).toInt).toNat p2)) (ys_30 _) dX13_job_55 ?_
      refine g_aload_n F 0 dX13_job_56 rfl rfl ?_
      refine yg_0_50 F i_X13 w_4 dX13_job_57 ?_
      refine g_aload_n F 0 dX13_job_60 rfl rfl ?_
      refine yg_0_45 F i_X13 w_0 dX13_job_61 (G 0 45) (rfl) ?_
      refine g_iload F 4 dX13_job_64 rfl ?_
      refine u_iast F 31 0 yc_31 rfl (G 0 45).toInt rfl (by omega) (by omega) (yW K a (gu_up (gu_up (gu_up (gu_up G 28 ((G 0 45).toInt).toNat p0) 29 ((G 0 45).toInt).toNat p1) 30 ((G 0 45).toInt).toNat p2) 31 ((G 0 45).toInt).toNat p3)) (ys_31 _) dX13_job_66 ?_
      refine g_aload_n F 0 dX13_job_67 rfl rfl ?_
      refine g_dup F dX13_job_68 rfl ?_
      refine yg_0_45 F i_X13 w_0 dX13_job_69 (G 0 45) (rfl) ?_
      refine g_iconst F 1 dX13_job_72 (by decide) ?_
      refine u_iadd F dX13_job_73 (G 0 45).toInt 1 rfl rfl (by omega) (by omega) (fun y10 ey10 => ?_)
      refine yp_0_45 F i_X13 w_0 dX13_job_74 ?_
      refine g_aload_n F 0 dX13_job_77 rfl rfl ?_
      refine g_iconst F 0 dX13_job_78 (by decide) ?_
      refine yp_0_53 F i_X13 w_5 dX13_job_79 (by decide) ?_
      refine g_aload_n F 0 dX13_job_82 rfl rfl ?_
      refine yg_0_45 F i_X13 w_0 dX13_job_83 y10 (rfl) ?_
      refine g_iconst F 1 dX13_job_86 (by decide) ?_
      refine u_isub F dX13_job_87 y10.toInt 1 rfl rfl (by omega) (by omega) (fun y11 ey11 => ?_)
      exact u_iret F hA hQ hr (gu_up (gu_up (gu_up (gu_up (gu_up (gu_up G 28 ((G 0 45).toInt).toNat p0) 29 ((G 0 45).toInt).toNat p1) 30 ((G 0 45).toInt).toNat p2) 31 ((G 0 45).toInt).toNat p3) 0 45 y10) 0 53 0) (⟨(gu_I.up (j := 0) (k := 53) (v := 0) (gu_I.up (j := 0) (k := 45) (v := y10) (gu_I.up (j := 31) (k := ((G 0 45).toInt).toNat) (v := p3) (gu_I.up (j := 30) (k := ((G 0 45).toInt).toNat) (v := p2) (gu_I.up (j := 29) (k := ((G 0 45).toInt).toNat) (v := p1) (gu_I.up (j := 28) (k := ((G 0 45).toInt).toNat) (v := p0) hI (show (0 : Int) ≤ Int32.toInt p0 by omega) (show Int32.toInt p0 ≤ 5 by omega)) (show (0 : Int) ≤ Int32.toInt p1 by omega) (show Int32.toInt p1 ≤ 9 by omega)) (show (0 : Int) ≤ Int32.toInt p2 by omega) (show Int32.toInt p2 ≤ 20 by omega)) (show (0 : Int) ≤ Int32.toInt p3 by omega) (show Int32.toInt p3 ≤ 12 by omega)) (show (0 : Int) ≤ Int32.toInt y10 by omega) (show Int32.toInt y10 ≤ 5 by omega)) (show (0 : Int) ≤ (0 : Int32).toInt by decide) (show (0 : Int32).toInt ≤ 1 by decide)), (gu_un.up (j := 0) (k := 53) (v := 0) (gu_un.up (j := 0) (k := 45) (v := y10) (gu_un.up (j := 31) (k := ((G 0 45).toInt).toNat) (v := p3) (gu_un.up (j := 30) (k := ((G 0 45).toInt).toNat) (v := p2) (gu_un.up (j := 29) (k := ((G 0 45).toInt).toNat) (v := p1) (gu_un.up (j := 28) (k := ((G 0 45).toInt).toNat) (v := p0) gu_un.rf (show (2800 : Nat) ∈ ([46, 54, 2800, 2900, 3000, 3100] : List Nat) by decide)) (show (2900 : Nat) ∈ ([46, 54, 2800, 2900, 3000, 3100] : List Nat) by decide)) (show (3000 : Nat) ∈ ([46, 54, 2800, 2900, 3000, 3100] : List Nat) by decide)) (show (3100 : Nat) ∈ ([46, 54, 2800, 2900, 3000, 3100] : List Nat) by decide)) (show (46 : Nat) ∈ ([46, 54, 2800, 2900, 3000, 3100] : List Nat) by decide)) (show (54 : Nat) ∈ ([46, 54, 2800, 2900, 3000, 3100] : List Nat) by decide)), (by have h9 := ti_rng y11; omega), (by show ((¬ (0 ≤ s0 ∧ s0 < (G 3 1).toInt ∧ 1 ≤ s1 ∧ s1 ≤ 9 ∧ 1 ≤ s2 ∧ s2 ≤ 20 ∧ 1 ≤ s3 ∧ s3 ≤ 12) ∧ y11.toInt = -2 ∧ ((gu_up (gu_up (gu_up (gu_up (gu_up (gu_up G 28 ((G 0 45).toInt).toNat p0) 29 ((G 0 45).toInt).toNat p1) 30 ((G 0 45).toInt).toNat p2) 31 ((G 0 45).toInt).toNat p3) 0 45 y10) 0 53 0) 0 45).toInt = (G 0 45).toInt) ∨ ((0 ≤ s0 ∧ s0 < (G 3 1).toInt ∧ 1 ≤ s1 ∧ s1 ≤ 9 ∧ 1 ≤ s2 ∧ s2 ≤ 20 ∧ 1 ≤ s3 ∧ s3 ≤ 12) ∧ 5 ≤ (G 0 45).toInt ∧ y11.toInt = -3 ∧ ((gu_up (gu_up (gu_up (gu_up (gu_up (gu_up G 28 ((G 0 45).toInt).toNat p0) 29 ((G 0 45).toInt).toNat p1) 30 ((G 0 45).toInt).toNat p2) 31 ((G 0 45).toInt).toNat p3) 0 45 y10) 0 53 0) 0 45).toInt = (G 0 45).toInt) ∨ ((0 ≤ s0 ∧ s0 < (G 3 1).toInt ∧ 1 ≤ s1 ∧ s1 ≤ 9 ∧ 1 ≤ s2 ∧ s2 ≤ 20 ∧ 1 ≤ s3 ∧ s3 ≤ 12) ∧ (G 0 45).toInt < 5 ∧ y11.toInt = (G 0 45).toInt ∧ ((gu_up (gu_up (gu_up (gu_up (gu_up (gu_up G 28 ((G 0 45).toInt).toNat p0) 29 ((G 0 45).toInt).toNat p1) 30 ((G 0 45).toInt).toNat p2) 31 ((G 0 45).toInt).toNat p3) 0 45 y10) 0 53 0) 0 45).toInt = (G 0 45).toInt + 1)); have e9_0_45 : (gu_up (gu_up (gu_up (gu_up (gu_up (gu_up G 28 ((G 0 45).toInt).toNat p0) 29 ((G 0 45).toInt).toNat p1) 30 ((G 0 45).toInt).toNat p2) 31 ((G 0 45).toInt).toNat p3) 0 45 y10) 0 53 0) 0 45 = y10 := rfl; (try simp only [e9_0_45, true_and, and_true]) <;> (first | omega | (simp only [Int32.reduceToInt, true_and, and_true, ne_eq, not_true_eq_false, false_and, or_false, false_or, true_or, or_true, false_implies] <;> omega)))⟩) rfl rfl dX13_job_88
    · refine g_bipush F (-3) dX13_job_23 (by decide) ?_
      exact u_iret F hA hQ hr G (⟨hI, gu_un.rf, (by decide), (by show ((¬ (0 ≤ s0 ∧ s0 < (G 3 1).toInt ∧ 1 ≤ s1 ∧ s1 ≤ 9 ∧ 1 ≤ s2 ∧ s2 ≤ 20 ∧ 1 ≤ s3 ∧ s3 ≤ 12) ∧ (-3) = -2 ∧ (G 0 45).toInt = (G 0 45).toInt) ∨ ((0 ≤ s0 ∧ s0 < (G 3 1).toInt ∧ 1 ≤ s1 ∧ s1 ≤ 9 ∧ 1 ≤ s2 ∧ s2 ≤ 20 ∧ 1 ≤ s3 ∧ s3 ≤ 12) ∧ 5 ≤ (G 0 45).toInt ∧ (-3) = -3 ∧ (G 0 45).toInt = (G 0 45).toInt) ∨ ((0 ≤ s0 ∧ s0 < (G 3 1).toInt ∧ 1 ≤ s1 ∧ s1 ≤ 9 ∧ 1 ≤ s2 ∧ s2 ≤ 20 ∧ 1 ≤ s3 ∧ s3 ≤ 12) ∧ (G 0 45).toInt < 5 ∧ (-3) = (G 0 45).toInt ∧ (G 0 45).toInt = (G 0 45).toInt + 1)); (first | omega | (simp only [Int32.reduceToInt, true_and, and_true, ne_eq, not_true_eq_false, false_and, or_false, false_or, true_or, or_true, false_implies] <;> omega)))⟩) rfl rfl dX13_job_25
  · have q7 : ¬ (0 ≤ s0 ∧ s0 < (G 3 1).toInt ∧ 1 ≤ s1 ∧ s1 ≤ 9 ∧ 1 ≤ s2 ∧ s2 ≤ 20 ∧ 1 ≤ s3 ∧ s3 ≤ 12) := q7
    refine v_if_ne F 15 dX13_job_9 (by decide) 0 rfl (fun c12 => absurd c12 (by decide)) (fun c12 => ?_)
    refine g_bipush F (-2) dX13_job_12 (by decide) ?_
    exact u_iret F hA hQ hr G (⟨hI, gu_un.rf, (by decide), (by show ((¬ (0 ≤ s0 ∧ s0 < (G 3 1).toInt ∧ 1 ≤ s1 ∧ s1 ≤ 9 ∧ 1 ≤ s2 ∧ s2 ≤ 20 ∧ 1 ≤ s3 ∧ s3 ≤ 12) ∧ (-2) = -2 ∧ (G 0 45).toInt = (G 0 45).toInt) ∨ ((0 ≤ s0 ∧ s0 < (G 3 1).toInt ∧ 1 ≤ s1 ∧ s1 ≤ 9 ∧ 1 ≤ s2 ∧ s2 ≤ 20 ∧ 1 ≤ s3 ∧ s3 ≤ 12) ∧ 5 ≤ (G 0 45).toInt ∧ (-2) = -3 ∧ (G 0 45).toInt = (G 0 45).toInt) ∨ ((0 ≤ s0 ∧ s0 < (G 3 1).toInt ∧ 1 ≤ s1 ∧ s1 ≤ 9 ∧ 1 ≤ s2 ∧ s2 ≤ 20 ∧ 1 ≤ s3 ∧ s3 ≤ 12) ∧ (G 0 45).toInt < 5 ∧ (-2) = (G 0 45).toInt ∧ (G 0 45).toInt = (G 0 45).toInt + 1)); (first | omega | (simp only [Int32.reduceToInt, true_and, and_true, ne_eq, not_true_eq_false, false_and, or_false, false_or, true_or, or_true, false_implies] <;> omega)))⟩) rfl rfl dX13_job_14

theorem dX13_ordered_0 : decode cX13_ordered 0 = .ok (.aload_n 0, 1) := by decide +kernel
theorem dX13_ordered_1 : decode cX13_ordered 1 = .ok (.getfield 334, 3) := by decide +kernel
theorem dX13_ordered_4 : decode cX13_ordered 4 = .ok (.ifCond .eq 28, 3) := by decide +kernel
theorem dX13_ordered_7 : decode cX13_ordered 7 = .ok (.iload_n 1, 1) := by decide +kernel
theorem dX13_ordered_8 : decode cX13_ordered 8 = .ok (.i2l, 1) := by decide +kernel
theorem dX13_ordered_9 : decode cX13_ordered 9 = .ok (.lconst 0, 1) := by decide +kernel
theorem dX13_ordered_10 : decode cX13_ordered 10 = .ok (.aload_n 0, 1) := by decide +kernel
theorem dX13_ordered_11 : decode cX13_ordered 11 = .ok (.getfield 331, 3) := by decide +kernel
theorem dX13_ordered_14 : decode cX13_ordered 14 = .ok (.i2l, 1) := by decide +kernel
theorem dX13_ordered_15 : decode cX13_ordered 15 = .ok (.lconst 1, 1) := by decide +kernel
theorem dX13_ordered_16 : decode cX13_ordered 16 = .ok (.lsub, 1) := by decide +kernel
theorem dX13_ordered_17 : decode cX13_ordered 17 = .ok (.invokestatic 61, 3) := by decide +kernel
theorem dX13_ordered_20 : decode cX13_ordered 20 = .ok (.ifCond .eq 12, 3) := by decide +kernel
theorem dX13_ordered_23 : decode cX13_ordered 23 = .ok (.aload_n 0, 1) := by decide +kernel
theorem dX13_ordered_24 : decode cX13_ordered 24 = .ok (.getfield 274, 3) := by decide +kernel
theorem dX13_ordered_27 : decode cX13_ordered 27 = .ok (.iload_n 1, 1) := by decide +kernel
theorem dX13_ordered_28 : decode cX13_ordered 28 = .ok (.iaload, 1) := by decide +kernel
theorem dX13_ordered_29 : decode cX13_ordered 29 = .ok (.goto 4, 3) := by decide +kernel
theorem dX13_ordered_32 : decode cX13_ordered 32 = .ok (.iconst (-1), 1) := by decide +kernel
theorem dX13_ordered_33 : decode cX13_ordered 33 = .ok (.ireturn, 1) := by decide +kernel
set_option maxRecDepth 20000 in
theorem ggX13_ordered_X13_in : GoodIn wsX13_ordered wsX13_in := goodIn_r _ [7] rfl (by decide +kernel)
set_option maxRecDepth 20000 in
theorem gX13_ordered_X13_in : GoodIn wsX13_ordered (va_wsS RX13 61 yX13_in wsX13_in) := goodIn_app (goodIn_of _ (by decide +kernel)) ggX13_ordered_X13_in
set_option maxHeartbeats 4000000 in
set_option maxRecDepth 100000 in
theorem S_X13_ordered (l : Launch) (D : va_G) (K : Nat → ClassId) (a : Nat → Nat) (G : gS) (p0 : Int32) (s0 : Int) (e0 : p0.toInt = s0) (hI : yI G) (sz : Nat) : Ki l yX13_ordered wsX13_ordered 2 65 0 0 D [.ref (a 0), .int p0] (yW K a G) (tK K) sz (fun (r : Int32) (_ : Unit) => True) (fun (_ : Unit) => (yW K a G)) (fun _ => (tK K)) := by
  unfold Ki
  refine g_ofW (cc := cX13_ordered) (lv := [(0, .ref (a 0)), (1, .int p0)]) (by decide) rfl (Nat.le_of_ble_eq_true rfl) rfl ?_
  intro p e s m args below meth c A Q hA hQ F hr hnm
  have hts := F.2.2.2.2.1
  have w_0 : (Cond.fieldLink RX13 334 "QuietCutModel" "hasOrder" "Z").before args s = true := hts _ (List.mem_of_getElem? (i := 1) rfl)
  have i_X13 : ∀ w ∈ u_ws RX13 TX13 73, w ∈ wsX13_ordered := fun _ h => List.mem_cons_of_mem _ (List.mem_append_right _ h)
  have w_1 : (Cond.fieldLink RX13 331 "QuietCutModel" "jobs" "I").before args s = true := hts _ (List.mem_of_getElem? (i := 2) rfl)
  have w_2 : (Cond.fieldLink RX13 274 "QuietCutModel" "orderTold" "[I").before args s = true := hts _ (List.mem_of_getElem? (i := 3) rfl)
  have rg0 : -2147483648 ≤ s0 ∧ s0 ≤ 2147483647 := e0 ▸ ti_rng p0
  refine g_aload_n F 0 dX13_ordered_0 rfl rfl ?_
  refine yg_0_53 F i_X13 w_0 dX13_ordered_1 (G 0 53) (rfl) ?_
  have b1 : (0 : Int) ≤ (G 0 53).toInt ∧ (G 0 53).toInt ≤ 1 := hI 0 53
  refine v_if_eq F 32 dX13_ordered_4 (by decide) (G 0 53).toInt rfl (fun c2 => ?_) (fun c2 => ?_)
  · refine g_iconst F (-1) dX13_ordered_32 (by decide) ?_
    exact u_iret F hA hQ hr () (trivial) rfl rfl dX13_ordered_33
  · refine g_iload_n F 1 dX13_ordered_7 rfl rfl ?_
    refine g_i2l F dX13_ordered_8 ?_
    refine g_lconst F 0 dX13_ordered_9 (by decide) ?_
    refine g_aload_n F 0 dX13_ordered_10 rfl rfl ?_
    refine yg_0_45 F i_X13 w_1 dX13_ordered_11 (G 0 45) (rfl) ?_
    refine g_i2l F dX13_ordered_14 ?_
    have b3 : (0 : Int) ≤ (G 0 45).toInt ∧ (G 0 45).toInt ≤ 5 := hI 0 45
    refine g_lconst F 1 dX13_ordered_15 (by decide) ?_
    refine g_lsub F dX13_ordered_16 ?_
    refine u_call0 (k := 0) (n := 0) (As := [.long (Int32.toInt64 p0), .long 0, .long ((Int32.toInt64 (G 0 45)) - 1)]) (st := []) F (fun sz => S_X13_in l D (Int32.toInt64 p0) s0 0 0 ((Int32.toInt64 (G 0 45)) - 1) ((G 0 45).toInt - 1) (ti_i2l e0) rfl (ti_subL (ti_i2l rfl) rfl (by omega) (by omega)) sz) (va_cwS 3 hts gX13_ordered_X13_in rfl rfl rfl (by decide +kernel) ⟨Nat.le_of_ble_eq_true rfl, Nat.le_of_ble_eq_true rfl⟩) rfl (Nat.le_of_ble_eq_true rfl) ⟨Nat.zero_le _, Nat.zero_le _⟩ dX13_ordered_17 (fun r4 _ hw5 => ?_)
    rcases hw5 with ⟨rfl, q7⟩ | ⟨rfl, q8⟩
    · refine v_if_eq F 32 dX13_ordered_20 (by decide) 1 rfl (fun c9 => absurd c9 (by decide)) (fun c9 => ?_)
      refine g_aload_n F 0 dX13_ordered_23 rfl rfl ?_
      refine yg_0_54 F i_X13 w_2 dX13_ordered_24 ?_
      refine g_iload_n F 1 dX13_ordered_27 rfl rfl ?_
      refine u_iald F 34 0 yc_34 rfl s0 e0 (by omega) (by omega) dX13_ordered_28 (fun _ => True) (fun _ => trivial) (fun y10 by10 => ?_)
      refine g_goto F 33 dX13_ordered_29 (by decide) ?_
      exact u_iret F hA hQ hr () (trivial) rfl rfl dX13_ordered_33
    · refine v_if_eq F 32 dX13_ordered_20 (by decide) 0 rfl (fun c11 => ?_) (fun c11 => absurd c11 (by decide))
      refine g_iconst F (-1) dX13_ordered_32 (by decide) ?_
      exact u_iret F hA hQ hr () (trivial) rfl rfl dX13_ordered_33

theorem dX13_offer_0 : decode cX13_offer 0 = .ok (.aload_n 0, 1) := by decide +kernel
theorem dX13_offer_1 : decode cX13_offer 1 = .ok (.iload_n 1, 1) := by decide +kernel
theorem dX13_offer_2 : decode cX13_offer 2 = .ok (.iload_n 2, 1) := by decide +kernel
theorem dX13_offer_3 : decode cX13_offer 3 = .ok (.iload_n 3, 1) := by decide +kernel
theorem dX13_offer_4 : decode cX13_offer 4 = .ok (.iload 4, 2) := by decide +kernel
theorem dX13_offer_6 : decode cX13_offer 6 = .ok (.invokevirtual 431, 3) := by decide +kernel
theorem dX13_offer_9 : decode cX13_offer 9 = .ok (.ifCond .eq 15, 3) := by decide +kernel
theorem dX13_offer_12 : decode cX13_offer 12 = .ok (.sipush 1000, 3) := by decide +kernel
theorem dX13_offer_15 : decode cX13_offer 15 = .ok (.iload_n 3, 1) := by decide +kernel
theorem dX13_offer_16 : decode cX13_offer 16 = .ok (.iload 4, 2) := by decide +kernel
theorem dX13_offer_18 : decode cX13_offer 18 = .ok (.imul, 1) := by decide +kernel
theorem dX13_offer_19 : decode cX13_offer 19 = .ok (.isub, 1) := by decide +kernel
theorem dX13_offer_20 : decode cX13_offer 20 = .ok (.iconst 1, 1) := by decide +kernel
theorem dX13_offer_21 : decode cX13_offer 21 = .ok (.if_icmp .ge 6, 3) := by decide +kernel
theorem dX13_offer_24 : decode cX13_offer 24 = .ok (.bipush (-2), 2) := by decide +kernel
theorem dX13_offer_26 : decode cX13_offer 26 = .ok (.ireturn, 1) := by decide +kernel
theorem dX13_offer_27 : decode cX13_offer 27 = .ok (.aload_n 0, 1) := by decide +kernel
theorem dX13_offer_28 : decode cX13_offer 28 = .ok (.getfield 338, 3) := by decide +kernel
theorem dX13_offer_31 : decode cX13_offer 31 = .ok (.bipush 10, 2) := by decide +kernel
theorem dX13_offer_33 : decode cX13_offer 33 = .ok (.if_icmp .ne 6, 3) := by decide +kernel
theorem dX13_offer_36 : decode cX13_offer 36 = .ok (.bipush (-3), 2) := by decide +kernel
theorem dX13_offer_38 : decode cX13_offer 38 = .ok (.ireturn, 1) := by decide +kernel
theorem dX13_offer_39 : decode cX13_offer 39 = .ok (.aload_n 0, 1) := by decide +kernel
theorem dX13_offer_40 : decode cX13_offer 40 = .ok (.getfield 277, 3) := by decide +kernel
theorem dX13_offer_43 : decode cX13_offer 43 = .ok (.aload_n 0, 1) := by decide +kernel
theorem dX13_offer_44 : decode cX13_offer 44 = .ok (.getfield 338, 3) := by decide +kernel
theorem dX13_offer_47 : decode cX13_offer 47 = .ok (.iload_n 1, 1) := by decide +kernel
theorem dX13_offer_48 : decode cX13_offer 48 = .ok (.iastore, 1) := by decide +kernel
theorem dX13_offer_49 : decode cX13_offer 49 = .ok (.aload_n 0, 1) := by decide +kernel
theorem dX13_offer_50 : decode cX13_offer 50 = .ok (.getfield 280, 3) := by decide +kernel
theorem dX13_offer_53 : decode cX13_offer 53 = .ok (.aload_n 0, 1) := by decide +kernel
theorem dX13_offer_54 : decode cX13_offer 54 = .ok (.getfield 338, 3) := by decide +kernel
theorem dX13_offer_57 : decode cX13_offer 57 = .ok (.iload_n 2, 1) := by decide +kernel
theorem dX13_offer_58 : decode cX13_offer 58 = .ok (.iastore, 1) := by decide +kernel
theorem dX13_offer_59 : decode cX13_offer 59 = .ok (.aload_n 0, 1) := by decide +kernel
theorem dX13_offer_60 : decode cX13_offer 60 = .ok (.getfield 283, 3) := by decide +kernel
theorem dX13_offer_63 : decode cX13_offer 63 = .ok (.aload_n 0, 1) := by decide +kernel
theorem dX13_offer_64 : decode cX13_offer 64 = .ok (.getfield 338, 3) := by decide +kernel
theorem dX13_offer_67 : decode cX13_offer 67 = .ok (.iload_n 3, 1) := by decide +kernel
theorem dX13_offer_68 : decode cX13_offer 68 = .ok (.iastore, 1) := by decide +kernel
theorem dX13_offer_69 : decode cX13_offer 69 = .ok (.aload_n 0, 1) := by decide +kernel
theorem dX13_offer_70 : decode cX13_offer 70 = .ok (.getfield 286, 3) := by decide +kernel
theorem dX13_offer_73 : decode cX13_offer 73 = .ok (.aload_n 0, 1) := by decide +kernel
theorem dX13_offer_74 : decode cX13_offer 74 = .ok (.getfield 338, 3) := by decide +kernel
theorem dX13_offer_77 : decode cX13_offer 77 = .ok (.iload 4, 2) := by decide +kernel
theorem dX13_offer_79 : decode cX13_offer 79 = .ok (.iastore, 1) := by decide +kernel
theorem dX13_offer_80 : decode cX13_offer 80 = .ok (.aload_n 0, 1) := by decide +kernel
theorem dX13_offer_81 : decode cX13_offer 81 = .ok (.dup, 1) := by decide +kernel
theorem dX13_offer_82 : decode cX13_offer 82 = .ok (.getfield 338, 3) := by decide +kernel
theorem dX13_offer_85 : decode cX13_offer 85 = .ok (.iconst 1, 1) := by decide +kernel
theorem dX13_offer_86 : decode cX13_offer 86 = .ok (.iadd, 1) := by decide +kernel
theorem dX13_offer_87 : decode cX13_offer 87 = .ok (.putfield 338, 3) := by decide +kernel
theorem dX13_offer_90 : decode cX13_offer 90 = .ok (.aload_n 0, 1) := by decide +kernel
theorem dX13_offer_91 : decode cX13_offer 91 = .ok (.getfield 338, 3) := by decide +kernel
theorem dX13_offer_94 : decode cX13_offer 94 = .ok (.iconst 1, 1) := by decide +kernel
theorem dX13_offer_95 : decode cX13_offer 95 = .ok (.isub, 1) := by decide +kernel
theorem dX13_offer_96 : decode cX13_offer 96 = .ok (.ireturn, 1) := by decide +kernel
set_option maxRecDepth 20000 in
theorem ggX13_offer_X13_isPass : GoodIn wsX13_offer wsX13_isPass := goodIn_r _ [10, 11, 12, 13, 14, 15, 16, 9, 17, 18, 19, 20, 21, 22, 23, 24, 25, 26, 27, 28, 29, 30, 31, 32, 33, 34, 35, 36, 37, 38, 39, 40, 41, 42, 43, 44, 45, 46, 47, 48, 49, 50, 51, 52, 53, 54, 55, 56, 57, 58, 59, 60, 61, 62, 63, 64, 65, 66, 67, 68, 69, 70, 71, 72, 73, 74, 75, 76, 77, 78, 79, 80, 81, 82, 83, 84, 85, 86, 87, 88, 89, 90, 91, 92, 93, 94] rfl (by decide +kernel)
set_option maxRecDepth 20000 in
theorem gX13_offer_X13_isPass : GoodIn wsX13_offer (wsV RX13 431 RX13 yX13_isPass wsX13_isPass) := goodIn_app (goodIn_of _ (by decide +kernel)) ggX13_offer_X13_isPass
set_option maxHeartbeats 4000000 in
set_option maxRecDepth 100000 in
theorem S_X13_offer (l : Launch) (D : va_G) (K : Nat → ClassId) (a : Nat → Nat) (G : gS) (p0 : Int32) (s0 : Int) (p1 : Int32) (s1 : Int) (p2 : Int32) (s2 : Int) (p3 : Int32) (s3 : Int) (e0 : p0.toInt = s0) (e1 : p1.toInt = s1) (e2 : p2.toInt = s2) (e3 : p3.toInt = s3) (hI : yI G) (sz : Nat) : Ki l yX13_offer wsX13_offer 4 110 0 0 D [.ref (a 0), .int p0, .int p1, .int p2, .int p3] (yW K a G) (tK K) sz (fun (r : Int32) (G' : gS) => (yI G') ∧ (gu_un ycd [56, 3500, 3600, 3700, 3800] G G') ∧ ((-3) ≤ r.toInt ∧ r.toInt ≤ 9)) (fun (G' : gS) => (yW K a G')) (fun _ => (tK K)) := by
  unfold Ki
  refine g_ofW (cc := cX13_offer) (lv := [(0, .ref (a 0)), (1, .int p0), (2, .int p1), (3, .int p2), (4, .int p3)]) (by decide) rfl (Nat.le_of_ble_eq_true rfl) rfl ?_
  intro p e s m args below meth c A Q hA hQ F hr hnm
  have hts := F.2.2.2.2.1
  have w_0 : (Cond.fieldLink RX13 338 "QuietCutModel" "offers" "I").before args s = true := hts _ (List.mem_of_getElem? (i := 1) rfl)
  have i_X13 : ∀ w ∈ u_ws RX13 TX13 73, w ∈ wsX13_offer := fun _ h => List.mem_cons_of_mem _ (List.mem_append_right _ h)
  have w_1 : (Cond.fieldLink RX13 277 "QuietCutModel" "offerRing" "[I").before args s = true := hts _ (List.mem_of_getElem? (i := 2) rfl)
  have w_2 : (Cond.fieldLink RX13 280 "QuietCutModel" "offerSpeed" "[I").before args s = true := hts _ (List.mem_of_getElem? (i := 3) rfl)
  have w_3 : (Cond.fieldLink RX13 283 "QuietCutModel" "offerFeed" "[I").before args s = true := hts _ (List.mem_of_getElem? (i := 4) rfl)
  have w_4 : (Cond.fieldLink RX13 286 "QuietCutModel" "offerTurns" "[I").before args s = true := hts _ (List.mem_of_getElem? (i := 5) rfl)
  have rg0 : -2147483648 ≤ s0 ∧ s0 ≤ 2147483647 := e0 ▸ ti_rng p0
  have rg1 : -2147483648 ≤ s1 ∧ s1 ≤ 2147483647 := e1 ▸ ti_rng p1
  have rg2 : -2147483648 ≤ s2 ∧ s2 ≤ 2147483647 := e2 ▸ ti_rng p2
  have rg3 : -2147483648 ≤ s3 ∧ s3 ≤ 2147483647 := e3 ▸ ti_rng p3
  refine g_aload_n F 0 dX13_offer_0 rfl rfl ?_
  refine g_iload_n F 1 dX13_offer_1 rfl rfl ?_
  refine g_iload_n F 2 dX13_offer_2 rfl rfl ?_
  refine g_iload_n F 3 dX13_offer_3 rfl rfl ?_
  refine g_iload F 4 dX13_offer_4 rfl ?_
  refine u_callVi (k := 0) (n := 0) (b := a 0) (As := [.int p0, .int p1, .int p2, .int p3]) (st := []) F (fun sz => S_X13_isPass l D K a G p0 s0 p1 s1 p2 s2 p3 s3 e0 e1 e2 e3 hI sz) (cwV 4 hts gX13_offer_X13_isPass rfl rfl rfl (by decide +kernel) ⟨Nat.le_of_ble_eq_true rfl, Nat.le_of_ble_eq_true rfl⟩) rfl 0 yc_0 rfl (Nat.le_of_ble_eq_true rfl) ⟨Nat.zero_le _, Nat.zero_le _⟩ dX13_offer_6 (fun r1 _ hw2 => ?_)
  rcases hw2 with ⟨rfl, q4⟩ | ⟨rfl, q5⟩
  · have b6 : (1 : Int) ≤ (G 3 1).toInt ∧ (G 3 1).toInt ≤ 6 := hI 3 1
    have q4 : (0 ≤ s0 ∧ s0 < (G 3 1).toInt ∧ 1 ≤ s1 ∧ s1 ≤ 9 ∧ 1 ≤ s2 ∧ s2 ≤ 20 ∧ 1 ≤ s3 ∧ s3 ≤ 12) := q4
    refine v_if_eq F 24 dX13_offer_9 (by decide) 1 rfl (fun c7 => absurd c7 (by decide)) (fun c7 => ?_)
    refine g_sipush F 1000 dX13_offer_12 (by decide) ?_
    refine g_iload_n F 3 dX13_offer_15 rfl rfl ?_
    refine g_iload F 4 dX13_offer_16 rfl ?_
    refine u_imulb F dX13_offer_18 s2 s3 e2 e3 20 12 (by omega) (by omega) (by omega) (by omega) (by decide) (fun y8 ey8 => ?_)
    refine u_isub F dX13_offer_19 1000 y8.toInt rfl rfl (by omega) (by omega) (fun y9 ey9 => ?_)
    refine g_iconst F 1 dX13_offer_20 (by decide) ?_
    refine v_icmp_ge F 27 dX13_offer_21 (by decide) y9.toInt 1 rfl rfl (fun c10 => ?_) (fun c10 => absurd c10 (by omega))
    refine g_aload_n F 0 dX13_offer_27 rfl rfl ?_
    refine yg_0_55 F i_X13 w_0 dX13_offer_28 (G 0 55) (rfl) ?_
    refine g_bipush F 10 dX13_offer_31 (by decide) ?_
    have b11 : (0 : Int) ≤ (G 0 55).toInt ∧ (G 0 55).toInt ≤ 10 := hI 0 55
    refine v_icmp_ne F 39 dX13_offer_33 (by decide) (G 0 55).toInt 10 rfl rfl (fun c12 => ?_) (fun c12 => ?_)
    · refine g_aload_n F 0 dX13_offer_39 rfl rfl ?_
      refine yg_0_59 F i_X13 w_1 dX13_offer_40 ?_
      refine g_aload_n F 0 dX13_offer_43 rfl rfl ?_
      refine yg_0_55 F i_X13 w_0 dX13_offer_44 (G 0 55) (rfl) ?_
      refine g_iload_n F 1 dX13_offer_47 rfl rfl ?_
      refine u_iast F 35 0 yc_35 rfl (G 0 55).toInt rfl (by omega) (by omega) (yW K a (gu_up G 35 ((G 0 55).toInt).toNat p0)) (ys_35 _) dX13_offer_48 ?_
      refine g_aload_n F 0 dX13_offer_49 rfl rfl ?_
      refine yg_0_60 F i_X13 w_2 dX13_offer_50 ?_
      refine g_aload_n F 0 dX13_offer_53 rfl rfl ?_
      refine yg_0_55 F i_X13 w_0 dX13_offer_54 (G 0 55) (rfl) ?_
      refine g_iload_n F 2 dX13_offer_57 rfl rfl ?_
      refine u_iast F 36 0 yc_36 rfl (G 0 55).toInt rfl (by omega) (by omega) (yW K a (gu_up (gu_up G 35 ((G 0 55).toInt).toNat p0) 36 ((G 0 55).toInt).toNat p1)) (ys_36 _) dX13_offer_58 ?_
      refine g_aload_n F 0 dX13_offer_59 rfl rfl ?_
      refine yg_0_61 F i_X13 w_3 dX13_offer_60 ?_
      refine g_aload_n F 0 dX13_offer_63 rfl rfl ?_
      refine yg_0_55 F i_X13 w_0 dX13_offer_64 (G 0 55) (rfl) ?_
      refine g_iload_n F 3 dX13_offer_67 rfl rfl ?_
      refine u_iast F 37 0 yc_37 rfl (G 0 55).toInt rfl (by omega) (by omega) (yW K a (gu_up (gu_up (gu_up G 35 ((G 0 55).toInt).toNat p0) 36 ((G 0 55).toInt).toNat p1) 37 ((G 0 55).toInt).toNat p2)) (ys_37 _) dX13_offer_68 ?_
      refine g_aload_n F 0 dX13_offer_69 rfl rfl ?_
      refine yg_0_62 F i_X13 w_4 dX13_offer_70 ?_
      refine g_aload_n F 0 dX13_offer_73 rfl rfl ?_
      refine yg_0_55 F i_X13 w_0 dX13_offer_74 (G 0 55) (rfl) ?_
      refine g_iload F 4 dX13_offer_77 rfl ?_
      refine u_iast F 38 0 yc_38 rfl (G 0 55).toInt rfl (by omega) (by omega) (yW K a (gu_up (gu_up (gu_up (gu_up G 35 ((G 0 55).toInt).toNat p0) 36 ((G 0 55).toInt).toNat p1) 37 ((G 0 55).toInt).toNat p2) 38 ((G 0 55).toInt).toNat p3)) (ys_38 _) dX13_offer_79 ?_
      refine g_aload_n F 0 dX13_offer_80 rfl rfl ?_
      refine g_dup F dX13_offer_81 rfl ?_
      refine yg_0_55 F i_X13 w_0 dX13_offer_82 (G 0 55) (rfl) ?_
      refine g_iconst F 1 dX13_offer_85 (by decide) ?_
      refine u_iadd F dX13_offer_86 (G 0 55).toInt 1 rfl rfl (by omega) (by omega) (fun y13 ey13 => ?_)
      refine yp_0_55 F i_X13 w_0 dX13_offer_87 ?_
      refine g_aload_n F 0 dX13_offer_90 rfl rfl ?_
      refine yg_0_55 F i_X13 w_0 dX13_offer_91 y13 (rfl) ?_
      refine g_iconst F 1 dX13_offer_94 (by decide) ?_
      refine u_isub F dX13_offer_95 y13.toInt 1 rfl rfl (by omega) (by omega) (fun y14 ey14 => ?_)
      exact u_iret F hA hQ hr (gu_up (gu_up (gu_up (gu_up (gu_up G 35 ((G 0 55).toInt).toNat p0) 36 ((G 0 55).toInt).toNat p1) 37 ((G 0 55).toInt).toNat p2) 38 ((G 0 55).toInt).toNat p3) 0 55 y13) (⟨(gu_I.up (j := 0) (k := 55) (v := y13) (gu_I.up (j := 38) (k := ((G 0 55).toInt).toNat) (v := p3) (gu_I.up (j := 37) (k := ((G 0 55).toInt).toNat) (v := p2) (gu_I.up (j := 36) (k := ((G 0 55).toInt).toNat) (v := p1) (gu_I.up (j := 35) (k := ((G 0 55).toInt).toNat) (v := p0) hI (show (0 : Int) ≤ Int32.toInt p0 by omega) (show Int32.toInt p0 ≤ 5 by omega)) (show (0 : Int) ≤ Int32.toInt p1 by omega) (show Int32.toInt p1 ≤ 9 by omega)) (show (0 : Int) ≤ Int32.toInt p2 by omega) (show Int32.toInt p2 ≤ 20 by omega)) (show (0 : Int) ≤ Int32.toInt p3 by omega) (show Int32.toInt p3 ≤ 12 by omega)) (show (0 : Int) ≤ Int32.toInt y13 by omega) (show Int32.toInt y13 ≤ 10 by omega)), (gu_un.up (j := 0) (k := 55) (v := y13) (gu_un.up (j := 38) (k := ((G 0 55).toInt).toNat) (v := p3) (gu_un.up (j := 37) (k := ((G 0 55).toInt).toNat) (v := p2) (gu_un.up (j := 36) (k := ((G 0 55).toInt).toNat) (v := p1) (gu_un.up (j := 35) (k := ((G 0 55).toInt).toNat) (v := p0) gu_un.rf (show (3500 : Nat) ∈ ([56, 3500, 3600, 3700, 3800] : List Nat) by decide)) (show (3600 : Nat) ∈ ([56, 3500, 3600, 3700, 3800] : List Nat) by decide)) (show (3700 : Nat) ∈ ([56, 3500, 3600, 3700, 3800] : List Nat) by decide)) (show (3800 : Nat) ∈ ([56, 3500, 3600, 3700, 3800] : List Nat) by decide)) (show (56 : Nat) ∈ ([56, 3500, 3600, 3700, 3800] : List Nat) by decide)), (by have h9 := ti_rng y14; omega)⟩) rfl rfl dX13_offer_96
    · refine g_bipush F (-3) dX13_offer_36 (by decide) ?_
      exact u_iret F hA hQ hr G (⟨hI, gu_un.rf, (by decide)⟩) rfl rfl dX13_offer_38
  · have b15 : (1 : Int) ≤ (G 3 1).toInt ∧ (G 3 1).toInt ≤ 6 := hI 3 1
    have q5 : ¬ (0 ≤ s0 ∧ s0 < (G 3 1).toInt ∧ 1 ≤ s1 ∧ s1 ≤ 9 ∧ 1 ≤ s2 ∧ s2 ≤ 20 ∧ 1 ≤ s3 ∧ s3 ≤ 12) := q5
    refine v_if_eq F 24 dX13_offer_9 (by decide) 0 rfl (fun c16 => ?_) (fun c16 => absurd c16 (by decide))
    refine g_bipush F (-2) dX13_offer_24 (by decide) ?_
    exact u_iret F hA hQ hr G (⟨hI, gu_un.rf, (by decide)⟩) rfl rfl dX13_offer_26

theorem dX13_heard_0 : decode cX13_heard 0 = .ok (.iload_n 1, 1) := by decide +kernel
theorem dX13_heard_1 : decode cX13_heard 1 = .ok (.i2l, 1) := by decide +kernel
theorem dX13_heard_2 : decode cX13_heard 2 = .ok (.aload_n 0, 1) := by decide +kernel
theorem dX13_heard_3 : decode cX13_heard 3 = .ok (.getfield 347, 3) := by decide +kernel
theorem dX13_heard_6 : decode cX13_heard 6 = .ok (.i2l, 1) := by decide +kernel
theorem dX13_heard_7 : decode cX13_heard 7 = .ok (.ldc2_w 500, 3) := by decide +kernel
theorem dX13_heard_10 : decode cX13_heard 10 = .ok (.invokestatic 61, 3) := by decide +kernel
theorem dX13_heard_13 : decode cX13_heard 13 = .ok (.ifCond .eq 31, 3) := by decide +kernel
theorem dX13_heard_16 : decode cX13_heard 16 = .ok (.iload_n 2, 1) := by decide +kernel
theorem dX13_heard_17 : decode cX13_heard 17 = .ok (.i2l, 1) := by decide +kernel
theorem dX13_heard_18 : decode cX13_heard 18 = .ok (.lconst 0, 1) := by decide +kernel
theorem dX13_heard_19 : decode cX13_heard 19 = .ok (.aload_n 0, 1) := by decide +kernel
theorem dX13_heard_20 : decode cX13_heard 20 = .ok (.getfield 338, 3) := by decide +kernel
theorem dX13_heard_23 : decode cX13_heard 23 = .ok (.i2l, 1) := by decide +kernel
theorem dX13_heard_24 : decode cX13_heard 24 = .ok (.lconst 1, 1) := by decide +kernel
theorem dX13_heard_25 : decode cX13_heard 25 = .ok (.lsub, 1) := by decide +kernel
theorem dX13_heard_26 : decode cX13_heard 26 = .ok (.invokestatic 61, 3) := by decide +kernel
theorem dX13_heard_29 : decode cX13_heard 29 = .ok (.ifCond .eq 15, 3) := by decide +kernel
theorem dX13_heard_32 : decode cX13_heard 32 = .ok (.iload_n 3, 1) := by decide +kernel
theorem dX13_heard_33 : decode cX13_heard 33 = .ok (.i2l, 1) := by decide +kernel
theorem dX13_heard_34 : decode cX13_heard 34 = .ok (.lconst 0, 1) := by decide +kernel
theorem dX13_heard_35 : decode cX13_heard 35 = .ok (.ldc2_w 360, 3) := by decide +kernel
theorem dX13_heard_38 : decode cX13_heard 38 = .ok (.invokestatic 61, 3) := by decide +kernel
theorem dX13_heard_41 : decode cX13_heard 41 = .ok (.ifCond .ne 6, 3) := by decide +kernel
theorem dX13_heard_44 : decode cX13_heard 44 = .ok (.bipush (-2), 2) := by decide +kernel
theorem dX13_heard_46 : decode cX13_heard 46 = .ok (.ireturn, 1) := by decide +kernel
theorem dX13_heard_47 : decode cX13_heard 47 = .ok (.aload_n 0, 1) := by decide +kernel
theorem dX13_heard_48 : decode cX13_heard 48 = .ok (.getfield 341, 3) := by decide +kernel
theorem dX13_heard_51 : decode cX13_heard 51 = .ok (.bipush 30, 2) := by decide +kernel
theorem dX13_heard_53 : decode cX13_heard 53 = .ok (.if_icmp .ne 6, 3) := by decide +kernel
theorem dX13_heard_56 : decode cX13_heard 56 = .ok (.bipush (-3), 2) := by decide +kernel
theorem dX13_heard_58 : decode cX13_heard 58 = .ok (.ireturn, 1) := by decide +kernel
theorem dX13_heard_59 : decode cX13_heard 59 = .ok (.aload_n 0, 1) := by decide +kernel
theorem dX13_heard_60 : decode cX13_heard 60 = .ok (.iload_n 1, 1) := by decide +kernel
theorem dX13_heard_61 : decode cX13_heard 61 = .ok (.putfield 347, 3) := by decide +kernel
theorem dX13_heard_64 : decode cX13_heard 64 = .ok (.aload_n 0, 1) := by decide +kernel
theorem dX13_heard_65 : decode cX13_heard 65 = .ok (.getfield 289, 3) := by decide +kernel
theorem dX13_heard_68 : decode cX13_heard 68 = .ok (.aload_n 0, 1) := by decide +kernel
theorem dX13_heard_69 : decode cX13_heard 69 = .ok (.getfield 341, 3) := by decide +kernel
theorem dX13_heard_72 : decode cX13_heard 72 = .ok (.iload_n 2, 1) := by decide +kernel
theorem dX13_heard_73 : decode cX13_heard 73 = .ok (.iastore, 1) := by decide +kernel
theorem dX13_heard_74 : decode cX13_heard 74 = .ok (.aload_n 0, 1) := by decide +kernel
theorem dX13_heard_75 : decode cX13_heard 75 = .ok (.getfield 292, 3) := by decide +kernel
theorem dX13_heard_78 : decode cX13_heard 78 = .ok (.aload_n 0, 1) := by decide +kernel
theorem dX13_heard_79 : decode cX13_heard 79 = .ok (.getfield 341, 3) := by decide +kernel
theorem dX13_heard_82 : decode cX13_heard 82 = .ok (.iload_n 3, 1) := by decide +kernel
theorem dX13_heard_83 : decode cX13_heard 83 = .ok (.iastore, 1) := by decide +kernel
theorem dX13_heard_84 : decode cX13_heard 84 = .ok (.aload_n 0, 1) := by decide +kernel
theorem dX13_heard_85 : decode cX13_heard 85 = .ok (.getfield 295, 3) := by decide +kernel
theorem dX13_heard_88 : decode cX13_heard 88 = .ok (.aload_n 0, 1) := by decide +kernel
theorem dX13_heard_89 : decode cX13_heard 89 = .ok (.getfield 341, 3) := by decide +kernel
theorem dX13_heard_92 : decode cX13_heard 92 = .ok (.iload_n 1, 1) := by decide +kernel
theorem dX13_heard_93 : decode cX13_heard 93 = .ok (.iastore, 1) := by decide +kernel
theorem dX13_heard_94 : decode cX13_heard 94 = .ok (.aload_n 0, 1) := by decide +kernel
theorem dX13_heard_95 : decode cX13_heard 95 = .ok (.dup, 1) := by decide +kernel
theorem dX13_heard_96 : decode cX13_heard 96 = .ok (.getfield 341, 3) := by decide +kernel
theorem dX13_heard_99 : decode cX13_heard 99 = .ok (.iconst 1, 1) := by decide +kernel
theorem dX13_heard_100 : decode cX13_heard 100 = .ok (.iadd, 1) := by decide +kernel
theorem dX13_heard_101 : decode cX13_heard 101 = .ok (.putfield 341, 3) := by decide +kernel
theorem dX13_heard_104 : decode cX13_heard 104 = .ok (.aload_n 0, 1) := by decide +kernel
theorem dX13_heard_105 : decode cX13_heard 105 = .ok (.getfield 341, 3) := by decide +kernel
theorem dX13_heard_108 : decode cX13_heard 108 = .ok (.iconst 1, 1) := by decide +kernel
theorem dX13_heard_109 : decode cX13_heard 109 = .ok (.isub, 1) := by decide +kernel
theorem dX13_heard_110 : decode cX13_heard 110 = .ok (.ireturn, 1) := by decide +kernel
set_option maxRecDepth 20000 in
theorem ggX13_heard_X13_in : GoodIn wsX13_heard wsX13_in := goodIn_r _ [12] rfl (by decide +kernel)
set_option maxRecDepth 20000 in
theorem gX13_heard_X13_in : GoodIn wsX13_heard (va_wsS RX13 61 yX13_in wsX13_in) := goodIn_app (goodIn_of _ (by decide +kernel)) ggX13_heard_X13_in
set_option maxHeartbeats 4000000 in
set_option maxRecDepth 100000 in
theorem S_X13_heard (l : Launch) (D : va_G) (K : Nat → ClassId) (a : Nat → Nat) (G : gS) (p0 : Int32) (s0 : Int) (p1 : Int32) (s1 : Int) (p2 : Int32) (s2 : Int) (e0 : p0.toInt = s0) (e1 : p1.toInt = s1) (e2 : p2.toInt = s2) (hI : yI G) (sz : Nat) : Ki l yX13_heard wsX13_heard 2 65 0 0 D [.ref (a 0), .int p0, .int p1, .int p2] (yW K a G) (tK K) sz (fun (r : Int32) (G' : gS) => (yI G') ∧ (gu_un ycd [57, 59, 3900, 4000, 4100] G G') ∧ ((-3) ≤ r.toInt ∧ r.toInt ≤ 29)) (fun (G' : gS) => (yW K a G')) (fun _ => (tK K)) := by
  unfold Ki
  refine g_ofW (cc := cX13_heard) (lv := [(0, .ref (a 0)), (1, .int p0), (2, .int p1), (3, .int p2)]) (by decide) rfl (Nat.le_of_ble_eq_true rfl) rfl ?_
  intro p e s m args below meth c A Q hA hQ F hr hnm
  have hts := F.2.2.2.2.1
  have w_0 : (Cond.fieldLink RX13 347 "QuietCutModel" "telling" "I").before args s = true := hts _ (List.mem_of_getElem? (i := 1) rfl)
  have i_X13 : ∀ w ∈ u_ws RX13 TX13 73, w ∈ wsX13_heard := fun _ h => List.mem_cons_of_mem _ (List.mem_append_right _ h)
  have w_1 : (Cond.constantLong RX13 500 (999)).before args s = true := hts _ (List.mem_of_getElem? (i := 2) rfl)
  have w_2 : (Cond.fieldLink RX13 338 "QuietCutModel" "offers" "I").before args s = true := hts _ (List.mem_of_getElem? (i := 3) rfl)
  have w_3 : (Cond.constantLong RX13 360 (2)).before args s = true := hts _ (List.mem_of_getElem? (i := 4) rfl)
  have w_4 : (Cond.fieldLink RX13 341 "QuietCutModel" "heards" "I").before args s = true := hts _ (List.mem_of_getElem? (i := 5) rfl)
  have w_5 : (Cond.fieldLink RX13 289 "QuietCutModel" "heardOffer" "[I").before args s = true := hts _ (List.mem_of_getElem? (i := 6) rfl)
  have w_6 : (Cond.fieldLink RX13 292 "QuietCutModel" "heardVerdict" "[I").before args s = true := hts _ (List.mem_of_getElem? (i := 7) rfl)
  have w_7 : (Cond.fieldLink RX13 295 "QuietCutModel" "heardAt" "[I").before args s = true := hts _ (List.mem_of_getElem? (i := 8) rfl)
  have rg0 : -2147483648 ≤ s0 ∧ s0 ≤ 2147483647 := e0 ▸ ti_rng p0
  have rg1 : -2147483648 ≤ s1 ∧ s1 ≤ 2147483647 := e1 ▸ ti_rng p1
  have rg2 : -2147483648 ≤ s2 ∧ s2 ≤ 2147483647 := e2 ▸ ti_rng p2
  refine g_iload_n F 1 dX13_heard_0 rfl rfl ?_
  refine g_i2l F dX13_heard_1 ?_
  refine g_aload_n F 0 dX13_heard_2 rfl rfl ?_
  refine yg_0_58 F i_X13 w_0 dX13_heard_3 (G 0 58) (rfl) ?_
  refine g_i2l F dX13_heard_6 ?_
  refine g_ldc2 F w_1 dX13_heard_7 ?_
  refine u_call0 (k := 0) (n := 0) (As := [.long (Int32.toInt64 p0), .long (Int32.toInt64 (G 0 58)), .long 999]) (st := []) F (fun sz => S_X13_in l D (Int32.toInt64 p0) s0 (Int32.toInt64 (G 0 58)) (G 0 58).toInt 999 999 (ti_i2l e0) (ti_i2l rfl) rfl sz) (va_cwS 3 hts gX13_heard_X13_in rfl rfl rfl (by decide +kernel) ⟨Nat.le_of_ble_eq_true rfl, Nat.le_of_ble_eq_true rfl⟩) rfl (Nat.le_of_ble_eq_true rfl) ⟨Nat.zero_le _, Nat.zero_le _⟩ dX13_heard_10 (fun r1 _ hw2 => ?_)
  rcases hw2 with ⟨rfl, q4⟩ | ⟨rfl, q5⟩
  · refine v_if_eq F 44 dX13_heard_13 (by decide) 1 rfl (fun c6 => absurd c6 (by decide)) (fun c6 => ?_)
    refine g_iload_n F 2 dX13_heard_16 rfl rfl ?_
    refine g_i2l F dX13_heard_17 ?_
    refine g_lconst F 0 dX13_heard_18 (by decide) ?_
    refine g_aload_n F 0 dX13_heard_19 rfl rfl ?_
    refine yg_0_55 F i_X13 w_2 dX13_heard_20 (G 0 55) (rfl) ?_
    refine g_i2l F dX13_heard_23 ?_
    have b7 : (0 : Int) ≤ (G 0 55).toInt ∧ (G 0 55).toInt ≤ 10 := hI 0 55
    refine g_lconst F 1 dX13_heard_24 (by decide) ?_
    refine g_lsub F dX13_heard_25 ?_
    refine u_call0 (k := 0) (n := 0) (As := [.long (Int32.toInt64 p1), .long 0, .long ((Int32.toInt64 (G 0 55)) - 1)]) (st := []) F (fun sz => S_X13_in l D (Int32.toInt64 p1) s1 0 0 ((Int32.toInt64 (G 0 55)) - 1) ((G 0 55).toInt - 1) (ti_i2l e1) rfl (ti_subL (ti_i2l rfl) rfl (by omega) (by omega)) sz) (va_cwS 3 hts gX13_heard_X13_in rfl rfl rfl (by decide +kernel) ⟨Nat.le_of_ble_eq_true rfl, Nat.le_of_ble_eq_true rfl⟩) rfl (Nat.le_of_ble_eq_true rfl) ⟨Nat.zero_le _, Nat.zero_le _⟩ dX13_heard_26 (fun r8 _ hw9 => ?_)
    rcases hw9 with ⟨rfl, q11⟩ | ⟨rfl, q12⟩
    · refine v_if_eq F 44 dX13_heard_29 (by decide) 1 rfl (fun c13 => absurd c13 (by decide)) (fun c13 => ?_)
      refine g_iload_n F 3 dX13_heard_32 rfl rfl ?_
      refine g_i2l F dX13_heard_33 ?_
      refine g_lconst F 0 dX13_heard_34 (by decide) ?_
      refine g_ldc2 F w_3 dX13_heard_35 ?_
      refine u_call0 (k := 0) (n := 0) (As := [.long (Int32.toInt64 p2), .long 0, .long 2]) (st := []) F (fun sz => S_X13_in l D (Int32.toInt64 p2) s2 0 0 2 2 (ti_i2l e2) rfl rfl sz) (va_cwS 3 hts gX13_heard_X13_in rfl rfl rfl (by decide +kernel) ⟨Nat.le_of_ble_eq_true rfl, Nat.le_of_ble_eq_true rfl⟩) rfl (Nat.le_of_ble_eq_true rfl) ⟨Nat.zero_le _, Nat.zero_le _⟩ dX13_heard_38 (fun r14 _ hw15 => ?_)
      rcases hw15 with ⟨rfl, q17⟩ | ⟨rfl, q18⟩
      · refine v_if_ne F 47 dX13_heard_41 (by decide) 1 rfl (fun c19 => ?_) (fun c19 => absurd c19 (by decide))
        refine g_aload_n F 0 dX13_heard_47 rfl rfl ?_
        refine yg_0_56 F i_X13 w_4 dX13_heard_48 (G 0 56) (rfl) ?_
        refine g_bipush F 30 dX13_heard_51 (by decide) ?_
        have b20 : (0 : Int) ≤ (G 0 56).toInt ∧ (G 0 56).toInt ≤ 30 := hI 0 56
        refine v_icmp_ne F 59 dX13_heard_53 (by decide) (G 0 56).toInt 30 rfl rfl (fun c21 => ?_) (fun c21 => ?_)
        · refine g_aload_n F 0 dX13_heard_59 rfl rfl ?_
          refine g_iload_n F 1 dX13_heard_60 rfl rfl ?_
          refine yp_0_58 F i_X13 w_0 dX13_heard_61 ?_
          refine g_aload_n F 0 dX13_heard_64 rfl rfl ?_
          refine yg_0_63 F i_X13 w_5 dX13_heard_65 ?_
          refine g_aload_n F 0 dX13_heard_68 rfl rfl ?_
          refine yg_0_56 F i_X13 w_4 dX13_heard_69 (G 0 56) (rfl) ?_
          refine g_iload_n F 2 dX13_heard_72 rfl rfl ?_
          refine u_iast F 39 0 yc_39 rfl (G 0 56).toInt rfl (by omega) (by omega) (yW K a (gu_up (gu_up G 0 58 p0) 39 ((G 0 56).toInt).toNat p1)) (ys_39 _) dX13_heard_73 ?_
          refine g_aload_n F 0 dX13_heard_74 rfl rfl ?_
          refine yg_0_64 F i_X13 w_6 dX13_heard_75 ?_
          refine g_aload_n F 0 dX13_heard_78 rfl rfl ?_
          refine yg_0_56 F i_X13 w_4 dX13_heard_79 (G 0 56) (rfl) ?_
          refine g_iload_n F 3 dX13_heard_82 rfl rfl ?_
          refine u_iast F 40 0 yc_40 rfl (G 0 56).toInt rfl (by omega) (by omega) (yW K a (gu_up (gu_up (gu_up G 0 58 p0) 39 ((G 0 56).toInt).toNat p1) 40 ((G 0 56).toInt).toNat p2)) (ys_40 _) dX13_heard_83 ?_
          refine g_aload_n F 0 dX13_heard_84 rfl rfl ?_
          refine yg_0_65 F i_X13 w_7 dX13_heard_85 ?_
          refine g_aload_n F 0 dX13_heard_88 rfl rfl ?_
          refine yg_0_56 F i_X13 w_4 dX13_heard_89 (G 0 56) (rfl) ?_
          refine g_iload_n F 1 dX13_heard_92 rfl rfl ?_
          refine u_iast F 41 0 yc_41 rfl (G 0 56).toInt rfl (by omega) (by omega) (yW K a (gu_up (gu_up (gu_up (gu_up G 0 58 p0) 39 ((G 0 56).toInt).toNat p1) 40 ((G 0 56).toInt).toNat p2) 41 ((G 0 56).toInt).toNat p0)) (ys_41 _) dX13_heard_93 ?_
          refine g_aload_n F 0 dX13_heard_94 rfl rfl ?_
          refine g_dup F dX13_heard_95 rfl ?_
          refine yg_0_56 F i_X13 w_4 dX13_heard_96 (G 0 56) (rfl) ?_
          refine g_iconst F 1 dX13_heard_99 (by decide) ?_
          refine u_iadd F dX13_heard_100 (G 0 56).toInt 1 rfl rfl (by omega) (by omega) (fun y22 ey22 => ?_)
          refine yp_0_56 F i_X13 w_4 dX13_heard_101 ?_
          refine g_aload_n F 0 dX13_heard_104 rfl rfl ?_
          refine yg_0_56 F i_X13 w_4 dX13_heard_105 y22 (rfl) ?_
          refine g_iconst F 1 dX13_heard_108 (by decide) ?_
          refine u_isub F dX13_heard_109 y22.toInt 1 rfl rfl (by omega) (by omega) (fun y23 ey23 => ?_)
          exact u_iret F hA hQ hr (gu_up (gu_up (gu_up (gu_up (gu_up G 0 58 p0) 39 ((G 0 56).toInt).toNat p1) 40 ((G 0 56).toInt).toNat p2) 41 ((G 0 56).toInt).toNat p0) 0 56 y22) (⟨(gu_I.up (j := 0) (k := 56) (v := y22) (gu_I.up (j := 41) (k := ((G 0 56).toInt).toNat) (v := p0) (gu_I.up (j := 40) (k := ((G 0 56).toInt).toNat) (v := p2) (gu_I.up (j := 39) (k := ((G 0 56).toInt).toNat) (v := p1) (gu_I.up (j := 0) (k := 58) (v := p0) hI (ti_rng _).1 (ti_rng _).2) (show (0 : Int) ≤ Int32.toInt p1 by omega) (show Int32.toInt p1 ≤ 9 by omega)) (ti_rng _).1 (ti_rng _).2) (ti_rng _).1 (ti_rng _).2) (show (0 : Int) ≤ Int32.toInt y22 by omega) (show Int32.toInt y22 ≤ 30 by omega)), (gu_un.up (j := 0) (k := 56) (v := y22) (gu_un.up (j := 41) (k := ((G 0 56).toInt).toNat) (v := p0) (gu_un.up (j := 40) (k := ((G 0 56).toInt).toNat) (v := p2) (gu_un.up (j := 39) (k := ((G 0 56).toInt).toNat) (v := p1) (gu_un.up (j := 0) (k := 58) (v := p0) gu_un.rf (show (59 : Nat) ∈ ([57, 59, 3900, 4000, 4100] : List Nat) by decide)) (show (3900 : Nat) ∈ ([57, 59, 3900, 4000, 4100] : List Nat) by decide)) (show (4000 : Nat) ∈ ([57, 59, 3900, 4000, 4100] : List Nat) by decide)) (show (4100 : Nat) ∈ ([57, 59, 3900, 4000, 4100] : List Nat) by decide)) (show (57 : Nat) ∈ ([57, 59, 3900, 4000, 4100] : List Nat) by decide)), (by have h9 := ti_rng y23; omega)⟩) rfl rfl dX13_heard_110
        · refine g_bipush F (-3) dX13_heard_56 (by decide) ?_
          exact u_iret F hA hQ hr G (⟨hI, gu_un.rf, (by decide)⟩) rfl rfl dX13_heard_58
      · refine v_if_ne F 47 dX13_heard_41 (by decide) 0 rfl (fun c24 => absurd c24 (by decide)) (fun c24 => ?_)
        refine g_bipush F (-2) dX13_heard_44 (by decide) ?_
        exact u_iret F hA hQ hr G (⟨hI, gu_un.rf, (by decide)⟩) rfl rfl dX13_heard_46
    · refine v_if_eq F 44 dX13_heard_29 (by decide) 0 rfl (fun c25 => ?_) (fun c25 => absurd c25 (by decide))
      refine g_bipush F (-2) dX13_heard_44 (by decide) ?_
      exact u_iret F hA hQ hr G (⟨hI, gu_un.rf, (by decide)⟩) rfl rfl dX13_heard_46
  · refine v_if_eq F 44 dX13_heard_13 (by decide) 0 rfl (fun c26 => ?_) (fun c26 => absurd c26 (by decide))
    refine g_bipush F (-2) dX13_heard_44 (by decide) ?_
    exact u_iret F hA hQ hr G (⟨hI, gu_un.rf, (by decide)⟩) rfl rfl dX13_heard_46

theorem dX13_right_0 : decode cX13_right 0 = .ok (.iload_n 1, 1) := by decide +kernel
theorem dX13_right_1 : decode cX13_right 1 = .ok (.i2l, 1) := by decide +kernel
theorem dX13_right_2 : decode cX13_right 2 = .ok (.aload_n 0, 1) := by decide +kernel
theorem dX13_right_3 : decode cX13_right 3 = .ok (.getfield 347, 3) := by decide +kernel
theorem dX13_right_6 : decode cX13_right 6 = .ok (.i2l, 1) := by decide +kernel
theorem dX13_right_7 : decode cX13_right 7 = .ok (.ldc2_w 500, 3) := by decide +kernel
theorem dX13_right_10 : decode cX13_right 10 = .ok (.invokestatic 61, 3) := by decide +kernel
theorem dX13_right_13 : decode cX13_right 13 = .ok (.ifCond .eq 31, 3) := by decide +kernel
theorem dX13_right_16 : decode cX13_right 16 = .ok (.iload_n 2, 1) := by decide +kernel
theorem dX13_right_17 : decode cX13_right 17 = .ok (.i2l, 1) := by decide +kernel
theorem dX13_right_18 : decode cX13_right 18 = .ok (.lconst 0, 1) := by decide +kernel
theorem dX13_right_19 : decode cX13_right 19 = .ok (.aload_n 0, 1) := by decide +kernel
theorem dX13_right_20 : decode cX13_right 20 = .ok (.getfield 341, 3) := by decide +kernel
theorem dX13_right_23 : decode cX13_right 23 = .ok (.i2l, 1) := by decide +kernel
theorem dX13_right_24 : decode cX13_right 24 = .ok (.lconst 1, 1) := by decide +kernel
theorem dX13_right_25 : decode cX13_right 25 = .ok (.lsub, 1) := by decide +kernel
theorem dX13_right_26 : decode cX13_right 26 = .ok (.invokestatic 61, 3) := by decide +kernel
theorem dX13_right_29 : decode cX13_right 29 = .ok (.ifCond .eq 15, 3) := by decide +kernel
theorem dX13_right_32 : decode cX13_right 32 = .ok (.iload_n 3, 1) := by decide +kernel
theorem dX13_right_33 : decode cX13_right 33 = .ok (.i2l, 1) := by decide +kernel
theorem dX13_right_34 : decode cX13_right 34 = .ok (.lconst 0, 1) := by decide +kernel
theorem dX13_right_35 : decode cX13_right 35 = .ok (.ldc2_w 360, 3) := by decide +kernel
theorem dX13_right_38 : decode cX13_right 38 = .ok (.invokestatic 61, 3) := by decide +kernel
theorem dX13_right_41 : decode cX13_right 41 = .ok (.ifCond .ne 6, 3) := by decide +kernel
theorem dX13_right_44 : decode cX13_right 44 = .ok (.bipush (-2), 2) := by decide +kernel
theorem dX13_right_46 : decode cX13_right 46 = .ok (.ireturn, 1) := by decide +kernel
theorem dX13_right_47 : decode cX13_right 47 = .ok (.aload_n 0, 1) := by decide +kernel
theorem dX13_right_48 : decode cX13_right 48 = .ok (.getfield 344, 3) := by decide +kernel
theorem dX13_right_51 : decode cX13_right 51 = .ok (.bipush 20, 2) := by decide +kernel
theorem dX13_right_53 : decode cX13_right 53 = .ok (.if_icmp .ne 6, 3) := by decide +kernel
theorem dX13_right_56 : decode cX13_right 56 = .ok (.bipush (-3), 2) := by decide +kernel
theorem dX13_right_58 : decode cX13_right 58 = .ok (.ireturn, 1) := by decide +kernel
theorem dX13_right_59 : decode cX13_right 59 = .ok (.aload_n 0, 1) := by decide +kernel
theorem dX13_right_60 : decode cX13_right 60 = .ok (.iload_n 1, 1) := by decide +kernel
theorem dX13_right_61 : decode cX13_right 61 = .ok (.putfield 347, 3) := by decide +kernel
theorem dX13_right_64 : decode cX13_right 64 = .ok (.aload_n 0, 1) := by decide +kernel
theorem dX13_right_65 : decode cX13_right 65 = .ok (.getfield 298, 3) := by decide +kernel
theorem dX13_right_68 : decode cX13_right 68 = .ok (.aload_n 0, 1) := by decide +kernel
theorem dX13_right_69 : decode cX13_right 69 = .ok (.getfield 344, 3) := by decide +kernel
theorem dX13_right_72 : decode cX13_right 72 = .ok (.iload_n 2, 1) := by decide +kernel
theorem dX13_right_73 : decode cX13_right 73 = .ok (.iastore, 1) := by decide +kernel
theorem dX13_right_74 : decode cX13_right 74 = .ok (.aload_n 0, 1) := by decide +kernel
theorem dX13_right_75 : decode cX13_right 75 = .ok (.getfield 301, 3) := by decide +kernel
theorem dX13_right_78 : decode cX13_right 78 = .ok (.aload_n 0, 1) := by decide +kernel
theorem dX13_right_79 : decode cX13_right 79 = .ok (.getfield 344, 3) := by decide +kernel
theorem dX13_right_82 : decode cX13_right 82 = .ok (.iload_n 3, 1) := by decide +kernel
theorem dX13_right_83 : decode cX13_right 83 = .ok (.iastore, 1) := by decide +kernel
theorem dX13_right_84 : decode cX13_right 84 = .ok (.aload_n 0, 1) := by decide +kernel
theorem dX13_right_85 : decode cX13_right 85 = .ok (.getfield 304, 3) := by decide +kernel
theorem dX13_right_88 : decode cX13_right 88 = .ok (.aload_n 0, 1) := by decide +kernel
theorem dX13_right_89 : decode cX13_right 89 = .ok (.getfield 344, 3) := by decide +kernel
theorem dX13_right_92 : decode cX13_right 92 = .ok (.iload_n 1, 1) := by decide +kernel
theorem dX13_right_93 : decode cX13_right 93 = .ok (.iastore, 1) := by decide +kernel
theorem dX13_right_94 : decode cX13_right 94 = .ok (.aload_n 0, 1) := by decide +kernel
theorem dX13_right_95 : decode cX13_right 95 = .ok (.dup, 1) := by decide +kernel
theorem dX13_right_96 : decode cX13_right 96 = .ok (.getfield 344, 3) := by decide +kernel
theorem dX13_right_99 : decode cX13_right 99 = .ok (.iconst 1, 1) := by decide +kernel
theorem dX13_right_100 : decode cX13_right 100 = .ok (.iadd, 1) := by decide +kernel
theorem dX13_right_101 : decode cX13_right 101 = .ok (.putfield 344, 3) := by decide +kernel
theorem dX13_right_104 : decode cX13_right 104 = .ok (.iconst 0, 1) := by decide +kernel
theorem dX13_right_105 : decode cX13_right 105 = .ok (.istore 4, 2) := by decide +kernel
theorem dX13_right_107 : decode cX13_right 107 = .ok (.iconst 0, 1) := by decide +kernel
theorem dX13_right_108 : decode cX13_right 108 = .ok (.istore 5, 2) := by decide +kernel
theorem dX13_right_110 : decode cX13_right 110 = .ok (.iload 5, 2) := by decide +kernel
theorem dX13_right_112 : decode cX13_right 112 = .ok (.aload_n 0, 1) := by decide +kernel
theorem dX13_right_113 : decode cX13_right 113 = .ok (.getfield 344, 3) := by decide +kernel
theorem dX13_right_116 : decode cX13_right 116 = .ok (.if_icmp .ge 30, 3) := by decide +kernel
theorem dX13_right_119 : decode cX13_right 119 = .ok (.iload 4, 2) := by decide +kernel
theorem dX13_right_121 : decode cX13_right 121 = .ok (.aload_n 0, 1) := by decide +kernel
theorem dX13_right_122 : decode cX13_right 122 = .ok (.getfield 298, 3) := by decide +kernel
theorem dX13_right_125 : decode cX13_right 125 = .ok (.iload 5, 2) := by decide +kernel
theorem dX13_right_127 : decode cX13_right 127 = .ok (.iaload, 1) := by decide +kernel
theorem dX13_right_128 : decode cX13_right 128 = .ok (.iload_n 2, 1) := by decide +kernel
theorem dX13_right_129 : decode cX13_right 129 = .ok (.if_icmp .ne 7, 3) := by decide +kernel
theorem dX13_right_132 : decode cX13_right 132 = .ok (.iconst 1, 1) := by decide +kernel
theorem dX13_right_133 : decode cX13_right 133 = .ok (.goto 4, 3) := by decide +kernel
theorem dX13_right_136 : decode cX13_right 136 = .ok (.iconst 0, 1) := by decide +kernel
theorem dX13_right_137 : decode cX13_right 137 = .ok (.iadd, 1) := by decide +kernel
theorem dX13_right_138 : decode cX13_right 138 = .ok (.istore 4, 2) := by decide +kernel
theorem dX13_right_140 : decode cX13_right 140 = .ok (.iinc 5 1, 3) := by decide +kernel
theorem dX13_right_143 : decode cX13_right 143 = .ok (.goto (-33), 3) := by decide +kernel
theorem dX13_right_146 : decode cX13_right 146 = .ok (.iload 4, 2) := by decide +kernel
theorem dX13_right_148 : decode cX13_right 148 = .ok (.ireturn, 1) := by decide +kernel
set_option maxRecDepth 20000 in
theorem ggX13_right_X13_in : GoodIn wsX13_right wsX13_in := goodIn_r _ [12] rfl (by decide +kernel)
set_option maxRecDepth 20000 in
theorem gX13_right_X13_in : GoodIn wsX13_right (va_wsS RX13 61 yX13_in wsX13_in) := goodIn_app (goodIn_of _ (by decide +kernel)) ggX13_right_X13_in
set_option maxHeartbeats 4000000 in
set_option maxRecDepth 100000 in
theorem S_X13_right (l : Launch) (D : va_G) (K : Nat → ClassId) (a : Nat → Nat) (G : gS) (p0 : Int32) (s0 : Int) (p1 : Int32) (s1 : Int) (p2 : Int32) (s2 : Int) (e0 : p0.toInt = s0) (e1 : p1.toInt = s1) (e2 : p2.toInt = s2) (hI : yI G) (sz : Nat) : Ki l yX13_right wsX13_right 2 65 0 0 D [.ref (a 0), .int p0, .int p1, .int p2] (yW K a G) (tK K) sz (fun (r : Int32) (G' : gS) => (yI G') ∧ (gu_un ycd [58, 59, 4200, 4300, 4400] G G')) (fun (G' : gS) => (yW K a G')) (fun _ => (tK K)) := by
  unfold Ki
  refine g_ofW (cc := cX13_right) (lv := [(0, .ref (a 0)), (1, .int p0), (2, .int p1), (3, .int p2)]) (by decide) rfl (Nat.le_of_ble_eq_true rfl) rfl ?_
  intro p e s m args below meth c A Q hA hQ F hr hnm
  have hts := F.2.2.2.2.1
  have w_0 : (Cond.fieldLink RX13 344 "QuietCutModel" "rights" "I").before args s = true := hts _ (List.mem_of_getElem? (i := 5) rfl)
  have i_X13 : ∀ w ∈ u_ws RX13 TX13 73, w ∈ wsX13_right := fun _ h => List.mem_cons_of_mem _ (List.mem_append_right _ h)
  have w_1 : (Cond.fieldLink RX13 298 "QuietCutModel" "rightOf" "[I").before args s = true := hts _ (List.mem_of_getElem? (i := 6) rfl)
  have w_2 : (Cond.fieldLink RX13 347 "QuietCutModel" "telling" "I").before args s = true := hts _ (List.mem_of_getElem? (i := 1) rfl)
  have w_3 : (Cond.constantLong RX13 500 (999)).before args s = true := hts _ (List.mem_of_getElem? (i := 2) rfl)
  have w_4 : (Cond.fieldLink RX13 341 "QuietCutModel" "heards" "I").before args s = true := hts _ (List.mem_of_getElem? (i := 3) rfl)
  have w_5 : (Cond.constantLong RX13 360 (2)).before args s = true := hts _ (List.mem_of_getElem? (i := 4) rfl)
  have w_6 : (Cond.fieldLink RX13 301 "QuietCutModel" "rightVerdict" "[I").before args s = true := hts _ (List.mem_of_getElem? (i := 7) rfl)
  have w_7 : (Cond.fieldLink RX13 304 "QuietCutModel" "rightAt" "[I").before args s = true := hts _ (List.mem_of_getElem? (i := 8) rfl)
  have rg0 : -2147483648 ≤ s0 ∧ s0 ≤ 2147483647 := e0 ▸ ti_rng p0
  have rg1 : -2147483648 ≤ s1 ∧ s1 ≤ 2147483647 := e1 ▸ ti_rng p1
  have rg2 : -2147483648 ≤ s2 ∧ s2 ≤ 2147483647 := e2 ▸ ti_rng p2
  have J_110 : ∀ (fuel : Nat) (x110_4 : Int32) (x110_5 : Int32) (Gj110 : gS), (2147483647 - x110_5.toInt).toNat < fuel → (0 ≤ s1 ∧ s1 ≤ 29) → (0 ≤ x110_5.toInt ∧ x110_5.toInt ≤ 20) → (yI Gj110) → (gu_un ycd [58, 59, 4200, 4300, 4400] G Gj110) → gG p l e (gR 2 0 0 65) s m args below meth c D A 6 Q 0 0 (yW K a Gj110) (tK K) [(0, .ref (a 0)), (2, .int p1), (4, .int x110_4), (5, .int x110_5)] 110 [] := by
    intro fuel
    induction fuel with
    | zero => intro x110_4 x110_5 Gj110 hm; exact absurd hm (Nat.not_lt_zero _)
    | succ fuel_110 ih_110 =>
      intro x110_4 x110_5 Gj110 hm_110 k110_2 h110_5 jI110 jU110
      have J_137 : ∀  (z137_0 : Int32), (0 ≤ x110_5.toInt ∧ x110_5.toInt ≤ 19) → (0 ≤ z137_0.toInt ∧ z137_0.toInt ≤ 1) → gG p l e (gR 2 0 0 65) s m args below meth c D A 6 Q 0 0 (yW K a Gj110) (tK K) [(0, .ref (a 0)), (2, .int p1), (5, .int x110_5)] 137 [.int z137_0, .int x110_4] := by
        intro z137_0 k137_5 g137_0
        refine u0_iadd F dX13_right_137 (fun y1 => ?_)
        refine g_istore F [(4, .int y1), (0, .ref (a 0)), (2, .int p1), (5, .int x110_5)] dX13_right_138 (by decide) rfl ?_
        refine u_iinc F (fun v_ => [(5, .int v_), (4, .int y1), (0, .ref (a 0)), (2, .int p1)]) dX13_right_140 (j := 3) rfl x110_5.toInt 1 rfl rfl (by omega) (by omega) (by decide) (fun _ => rfl) (fun y2 ey2 => ?_)
        refine g_goto F 110 dX13_right_143 (by decide) ?_
        refine g_locals [(0, .ref (a 0)), (2, .int p1), (4, .int y1), (5, .int y2)] [2, 3, 1, 0] rfl ?_
        exact ih_110 y1 y2 Gj110 (by omega) (by have h9 := ti_rng p1; omega) (by have h9 := ti_rng y2; omega) jI110 (gu_un.tr gu_un.rf (gu_un.su jU110 rfl))
      refine g_iload F 3 dX13_right_110 rfl ?_
      refine g_aload_n F 0 dX13_right_112 rfl rfl ?_
      refine yg_0_57 F i_X13 w_0 dX13_right_113 (Gj110 0 57) (rfl) ?_
      have b3 : (0 : Int) ≤ (Gj110 0 57).toInt ∧ (Gj110 0 57).toInt ≤ 20 := jI110 0 57
      refine v_icmp_ge F 146 dX13_right_116 (by decide) x110_5.toInt (Gj110 0 57).toInt rfl rfl (fun c4 => ?_) (fun c4 => ?_)
      · refine g_iload F 2 dX13_right_146 rfl ?_
        exact u_iret F hA hQ hr Gj110 (⟨jI110, (gu_un.tr gu_un.rf (gu_un.su jU110 rfl))⟩) rfl rfl dX13_right_148
      · refine g_iload F 2 dX13_right_119 rfl ?_
        refine g_aload_n F 0 dX13_right_121 rfl rfl ?_
        refine yg_0_66 F i_X13 w_1 dX13_right_122 ?_
        refine g_iload F 3 dX13_right_125 rfl ?_
        refine u_iald F 42 0 yc_42 rfl x110_5.toInt rfl (by omega) (by omega) dX13_right_127 (fun _ => True) (fun _ => trivial) (fun y5 by5 => ?_)
        refine g_iload_n F 1 dX13_right_128 rfl rfl ?_
        have b6 := ti_rng y5
        refine v_icmp_ne F 136 dX13_right_129 (by decide) y5.toInt s1 rfl e1 (fun c7 => ?_) (fun c7 => ?_)
        · refine g_iconst F 0 dX13_right_136 (by decide) ?_
          refine g_locals [(0, .ref (a 0)), (2, .int p1), (5, .int x110_5)] [0, 1, 3] rfl ?_
          exact J_137 0 (by have h9 := ti_rng x110_5; omega) (by decide)
        · refine g_iconst F 1 dX13_right_132 (by decide) ?_
          refine g_goto F 137 dX13_right_133 (by decide) ?_
          refine g_locals [(0, .ref (a 0)), (2, .int p1), (5, .int x110_5)] [0, 1, 3] rfl ?_
          exact J_137 1 (by have h9 := ti_rng x110_5; omega) (by decide)
  refine g_iload_n F 1 dX13_right_0 rfl rfl ?_
  refine g_i2l F dX13_right_1 ?_
  refine g_aload_n F 0 dX13_right_2 rfl rfl ?_
  refine yg_0_58 F i_X13 w_2 dX13_right_3 (G 0 58) (rfl) ?_
  refine g_i2l F dX13_right_6 ?_
  refine g_ldc2 F w_3 dX13_right_7 ?_
  refine u_call0 (k := 0) (n := 0) (As := [.long (Int32.toInt64 p0), .long (Int32.toInt64 (G 0 58)), .long 999]) (st := []) F (fun sz => S_X13_in l D (Int32.toInt64 p0) s0 (Int32.toInt64 (G 0 58)) (G 0 58).toInt 999 999 (ti_i2l e0) (ti_i2l rfl) rfl sz) (va_cwS 3 hts gX13_right_X13_in rfl rfl rfl (by decide +kernel) ⟨Nat.le_of_ble_eq_true rfl, Nat.le_of_ble_eq_true rfl⟩) rfl (Nat.le_of_ble_eq_true rfl) ⟨Nat.zero_le _, Nat.zero_le _⟩ dX13_right_10 (fun r8 _ hw9 => ?_)
  rcases hw9 with ⟨rfl, q11⟩ | ⟨rfl, q12⟩
  · refine v_if_eq F 44 dX13_right_13 (by decide) 1 rfl (fun c13 => absurd c13 (by decide)) (fun c13 => ?_)
    refine g_iload_n F 2 dX13_right_16 rfl rfl ?_
    refine g_i2l F dX13_right_17 ?_
    refine g_lconst F 0 dX13_right_18 (by decide) ?_
    refine g_aload_n F 0 dX13_right_19 rfl rfl ?_
    refine yg_0_56 F i_X13 w_4 dX13_right_20 (G 0 56) (rfl) ?_
    refine g_i2l F dX13_right_23 ?_
    have b14 : (0 : Int) ≤ (G 0 56).toInt ∧ (G 0 56).toInt ≤ 30 := hI 0 56
    refine g_lconst F 1 dX13_right_24 (by decide) ?_
    refine g_lsub F dX13_right_25 ?_
    refine u_call0 (k := 0) (n := 0) (As := [.long (Int32.toInt64 p1), .long 0, .long ((Int32.toInt64 (G 0 56)) - 1)]) (st := []) F (fun sz => S_X13_in l D (Int32.toInt64 p1) s1 0 0 ((Int32.toInt64 (G 0 56)) - 1) ((G 0 56).toInt - 1) (ti_i2l e1) rfl (ti_subL (ti_i2l rfl) rfl (by omega) (by omega)) sz) (va_cwS 3 hts gX13_right_X13_in rfl rfl rfl (by decide +kernel) ⟨Nat.le_of_ble_eq_true rfl, Nat.le_of_ble_eq_true rfl⟩) rfl (Nat.le_of_ble_eq_true rfl) ⟨Nat.zero_le _, Nat.zero_le _⟩ dX13_right_26 (fun r15 _ hw16 => ?_)
    rcases hw16 with ⟨rfl, q18⟩ | ⟨rfl, q19⟩
    · refine v_if_eq F 44 dX13_right_29 (by decide) 1 rfl (fun c20 => absurd c20 (by decide)) (fun c20 => ?_)
      refine g_iload_n F 3 dX13_right_32 rfl rfl ?_
      refine g_i2l F dX13_right_33 ?_
      refine g_lconst F 0 dX13_right_34 (by decide) ?_
      refine g_ldc2 F w_5 dX13_right_35 ?_
      refine u_call0 (k := 0) (n := 0) (As := [.long (Int32.toInt64 p2), .long 0, .long 2]) (st := []) F (fun sz => S_X13_in l D (Int32.toInt64 p2) s2 0 0 2 2 (ti_i2l e2) rfl rfl sz) (va_cwS 3 hts gX13_right_X13_in rfl rfl rfl (by decide +kernel) ⟨Nat.le_of_ble_eq_true rfl, Nat.le_of_ble_eq_true rfl⟩) rfl (Nat.le_of_ble_eq_true rfl) ⟨Nat.zero_le _, Nat.zero_le _⟩ dX13_right_38 (fun r21 _ hw22 => ?_)
      rcases hw22 with ⟨rfl, q24⟩ | ⟨rfl, q25⟩
      · refine v_if_ne F 47 dX13_right_41 (by decide) 1 rfl (fun c26 => ?_) (fun c26 => absurd c26 (by decide))
        refine g_aload_n F 0 dX13_right_47 rfl rfl ?_
        refine yg_0_57 F i_X13 w_0 dX13_right_48 (G 0 57) (rfl) ?_
        refine g_bipush F 20 dX13_right_51 (by decide) ?_
        have b27 : (0 : Int) ≤ (G 0 57).toInt ∧ (G 0 57).toInt ≤ 20 := hI 0 57
        refine v_icmp_ne F 59 dX13_right_53 (by decide) (G 0 57).toInt 20 rfl rfl (fun c28 => ?_) (fun c28 => ?_)
        · refine g_aload_n F 0 dX13_right_59 rfl rfl ?_
          refine g_iload_n F 1 dX13_right_60 rfl rfl ?_
          refine yp_0_58 F i_X13 w_2 dX13_right_61 ?_
          refine g_aload_n F 0 dX13_right_64 rfl rfl ?_
          refine yg_0_66 F i_X13 w_1 dX13_right_65 ?_
          refine g_aload_n F 0 dX13_right_68 rfl rfl ?_
          refine yg_0_57 F i_X13 w_0 dX13_right_69 (G 0 57) (rfl) ?_
          refine g_iload_n F 2 dX13_right_72 rfl rfl ?_
          refine u_iast F 42 0 yc_42 rfl (G 0 57).toInt rfl (by omega) (by omega) (yW K a (gu_up (gu_up G 0 58 p0) 42 ((G 0 57).toInt).toNat p1)) (ys_42 _) dX13_right_73 ?_
          refine g_aload_n F 0 dX13_right_74 rfl rfl ?_
          refine yg_0_67 F i_X13 w_6 dX13_right_75 ?_
          refine g_aload_n F 0 dX13_right_78 rfl rfl ?_
          refine yg_0_57 F i_X13 w_0 dX13_right_79 (G 0 57) (rfl) ?_
          refine g_iload_n F 3 dX13_right_82 rfl rfl ?_
          refine u_iast F 43 0 yc_43 rfl (G 0 57).toInt rfl (by omega) (by omega) (yW K a (gu_up (gu_up (gu_up G 0 58 p0) 42 ((G 0 57).toInt).toNat p1) 43 ((G 0 57).toInt).toNat p2)) (ys_43 _) dX13_right_83 ?_
          refine g_aload_n F 0 dX13_right_84 rfl rfl ?_
          refine yg_0_68 F i_X13 w_7 dX13_right_85 ?_
          refine g_aload_n F 0 dX13_right_88 rfl rfl ?_
          refine yg_0_57 F i_X13 w_0 dX13_right_89 (G 0 57) (rfl) ?_
          refine g_iload_n F 1 dX13_right_92 rfl rfl ?_
          refine u_iast F 44 0 yc_44 rfl (G 0 57).toInt rfl (by omega) (by omega) (yW K a (gu_up (gu_up (gu_up (gu_up G 0 58 p0) 42 ((G 0 57).toInt).toNat p1) 43 ((G 0 57).toInt).toNat p2) 44 ((G 0 57).toInt).toNat p0)) (ys_44 _) dX13_right_93 ?_
          refine g_aload_n F 0 dX13_right_94 rfl rfl ?_
          refine g_dup F dX13_right_95 rfl ?_
          refine yg_0_57 F i_X13 w_0 dX13_right_96 (G 0 57) (rfl) ?_
          refine g_iconst F 1 dX13_right_99 (by decide) ?_
          refine u_iadd F dX13_right_100 (G 0 57).toInt 1 rfl rfl (by omega) (by omega) (fun y29 ey29 => ?_)
          refine yp_0_57 F i_X13 w_0 dX13_right_101 ?_
          refine g_iconst F 0 dX13_right_104 (by decide) ?_
          refine g_istore F [(4, .int 0), (0, .ref (a 0)), (1, .int p0), (2, .int p1), (3, .int p2)] dX13_right_105 (by decide) rfl ?_
          refine g_iconst F 0 dX13_right_107 (by decide) ?_
          refine g_istore F [(5, .int 0), (4, .int 0), (0, .ref (a 0)), (1, .int p0), (2, .int p1), (3, .int p2)] dX13_right_108 (by decide) rfl ?_
          refine g_locals [(0, .ref (a 0)), (2, .int p1), (4, .int 0), (5, .int 0)] [2, 4, 1, 0] rfl ?_
          exact J_110 _ 0 0 (gu_up (gu_up (gu_up (gu_up (gu_up G 0 58 p0) 42 ((G 0 57).toInt).toNat p1) 43 ((G 0 57).toInt).toNat p2) 44 ((G 0 57).toInt).toNat p0) 0 57 y29) (Nat.lt_succ_self _) (by have h9 := ti_rng p1; omega) (by decide) (gu_I.up (j := 0) (k := 57) (v := y29) (gu_I.up (j := 44) (k := ((G 0 57).toInt).toNat) (v := p0) (gu_I.up (j := 43) (k := ((G 0 57).toInt).toNat) (v := p2) (gu_I.up (j := 42) (k := ((G 0 57).toInt).toNat) (v := p1) (gu_I.up (j := 0) (k := 58) (v := p0) hI (ti_rng _).1 (ti_rng _).2) (ti_rng _).1 (ti_rng _).2) (ti_rng _).1 (ti_rng _).2) (ti_rng _).1 (ti_rng _).2) (show (0 : Int) ≤ Int32.toInt y29 by omega) (show Int32.toInt y29 ≤ 20 by omega)) (gu_un.up (j := 0) (k := 57) (v := y29) (gu_un.up (j := 44) (k := ((G 0 57).toInt).toNat) (v := p0) (gu_un.up (j := 43) (k := ((G 0 57).toInt).toNat) (v := p2) (gu_un.up (j := 42) (k := ((G 0 57).toInt).toNat) (v := p1) (gu_un.up (j := 0) (k := 58) (v := p0) gu_un.rf (show (59 : Nat) ∈ ([58, 59, 4200, 4300, 4400] : List Nat) by decide)) (show (4200 : Nat) ∈ ([58, 59, 4200, 4300, 4400] : List Nat) by decide)) (show (4300 : Nat) ∈ ([58, 59, 4200, 4300, 4400] : List Nat) by decide)) (show (4400 : Nat) ∈ ([58, 59, 4200, 4300, 4400] : List Nat) by decide)) (show (58 : Nat) ∈ ([58, 59, 4200, 4300, 4400] : List Nat) by decide))
        · refine g_bipush F (-3) dX13_right_56 (by decide) ?_
          exact u_iret F hA hQ hr G (⟨hI, gu_un.rf⟩) rfl rfl dX13_right_58
      · refine v_if_ne F 47 dX13_right_41 (by decide) 0 rfl (fun c30 => absurd c30 (by decide)) (fun c30 => ?_)
        refine g_bipush F (-2) dX13_right_44 (by decide) ?_
        exact u_iret F hA hQ hr G (⟨hI, gu_un.rf⟩) rfl rfl dX13_right_46
    · refine v_if_eq F 44 dX13_right_29 (by decide) 0 rfl (fun c31 => ?_) (fun c31 => absurd c31 (by decide))
      refine g_bipush F (-2) dX13_right_44 (by decide) ?_
      exact u_iret F hA hQ hr G (⟨hI, gu_un.rf⟩) rfl rfl dX13_right_46
  · refine v_if_eq F 44 dX13_right_13 (by decide) 0 rfl (fun c32 => ?_) (fun c32 => absurd c32 (by decide))
    refine g_bipush F (-2) dX13_right_44 (by decide) ?_
    exact u_iret F hA hQ hr G (⟨hI, gu_un.rf⟩) rfl rfl dX13_right_46

theorem dX13_isPair_0 : decode cX13_isPair 0 = .ok (.aload_n 0, 1) := by decide +kernel
theorem dX13_isPair_1 : decode cX13_isPair 1 = .ok (.getfield 199, 3) := by decide +kernel
theorem dX13_isPair_4 : decode cX13_isPair 4 = .ok (.iconst 3, 1) := by decide +kernel
theorem dX13_isPair_5 : decode cX13_isPair 5 = .ok (.iaload, 1) := by decide +kernel
theorem dX13_isPair_6 : decode cX13_isPair 6 = .ok (.iload_n 1, 1) := by decide +kernel
theorem dX13_isPair_7 : decode cX13_isPair 7 = .ok (.iconst 4, 1) := by decide +kernel
theorem dX13_isPair_8 : decode cX13_isPair 8 = .ok (.idiv, 1) := by decide +kernel
theorem dX13_isPair_9 : decode cX13_isPair 9 = .ok (.iadd, 1) := by decide +kernel
theorem dX13_isPair_10 : decode cX13_isPair 10 = .ok (.aload_n 0, 1) := by decide +kernel
theorem dX13_isPair_11 : decode cX13_isPair 11 = .ok (.getfield 199, 3) := by decide +kernel
theorem dX13_isPair_14 : decode cX13_isPair 14 = .ok (.iconst 4, 1) := by decide +kernel
theorem dX13_isPair_15 : decode cX13_isPair 15 = .ok (.iaload, 1) := by decide +kernel
theorem dX13_isPair_16 : decode cX13_isPair 16 = .ok (.if_icmp .gt 27, 3) := by decide +kernel
theorem dX13_isPair_19 : decode cX13_isPair 19 = .ok (.aload_n 0, 1) := by decide +kernel
theorem dX13_isPair_20 : decode cX13_isPair 20 = .ok (.getfield 199, 3) := by decide +kernel
theorem dX13_isPair_23 : decode cX13_isPair 23 = .ok (.iconst 5, 1) := by decide +kernel
theorem dX13_isPair_24 : decode cX13_isPair 24 = .ok (.iaload, 1) := by decide +kernel
theorem dX13_isPair_25 : decode cX13_isPair 25 = .ok (.iload_n 1, 1) := by decide +kernel
theorem dX13_isPair_26 : decode cX13_isPair 26 = .ok (.iconst 4, 1) := by decide +kernel
theorem dX13_isPair_27 : decode cX13_isPair 27 = .ok (.irem, 1) := by decide +kernel
theorem dX13_isPair_28 : decode cX13_isPair 28 = .ok (.iadd, 1) := by decide +kernel
theorem dX13_isPair_29 : decode cX13_isPair 29 = .ok (.aload_n 0, 1) := by decide +kernel
theorem dX13_isPair_30 : decode cX13_isPair 30 = .ok (.getfield 199, 3) := by decide +kernel
theorem dX13_isPair_33 : decode cX13_isPair 33 = .ok (.bipush 6, 2) := by decide +kernel
theorem dX13_isPair_35 : decode cX13_isPair 35 = .ok (.iaload, 1) := by decide +kernel
theorem dX13_isPair_36 : decode cX13_isPair 36 = .ok (.if_icmp .gt 7, 3) := by decide +kernel
theorem dX13_isPair_39 : decode cX13_isPair 39 = .ok (.iconst 1, 1) := by decide +kernel
theorem dX13_isPair_40 : decode cX13_isPair 40 = .ok (.goto 4, 3) := by decide +kernel
theorem dX13_isPair_43 : decode cX13_isPair 43 = .ok (.iconst 0, 1) := by decide +kernel
theorem dX13_isPair_44 : decode cX13_isPair 44 = .ok (.ireturn, 1) := by decide +kernel
set_option maxHeartbeats 4000000 in
set_option maxRecDepth 100000 in
theorem S_X13_isPair (l : Launch) (D : va_G) (K : Nat → ClassId) (a : Nat → Nat) (G : gS) (p0 : Int32) (s0 : Int) (e0 : p0.toInt = s0) (hI : yI G) (sz : Nat) : Ki l yX13_isPair wsX13_isPair 1 40 0 0 D [.ref (a 0), .int p0] (yW K a G) (tK K) sz (fun (r : Int32) (_ : Unit) => (0 ≤ r.toInt ∧ r.toInt ≤ 1)) (fun (_ : Unit) => (yW K a G)) (fun _ => (tK K)) := by
  unfold Ki
  refine g_ofW (cc := cX13_isPair) (lv := [(0, .ref (a 0)), (1, .int p0)]) (by decide) rfl (Nat.le_of_ble_eq_true rfl) rfl ?_
  intro p e s m args below meth c A Q hA hQ F hr hnm
  have hts := F.2.2.2.2.1
  have w_0 : (Cond.fieldLink RX13 199 "QuietCutModel" "rule" "[I").before args s = true := hts _ (List.mem_of_getElem? (i := 1) rfl)
  have i_X13 : ∀ w ∈ u_ws RX13 TX13 73, w ∈ wsX13_isPair := fun _ h => List.mem_cons_of_mem _ (List.mem_append_right _ h)
  have rg0 : -2147483648 ≤ s0 ∧ s0 ≤ 2147483647 := e0 ▸ ti_rng p0
  refine g_aload_n F 0 dX13_isPair_0 rfl rfl ?_
  refine yg_0_10 F i_X13 w_0 dX13_isPair_1 ?_
  refine g_iconst F 3 dX13_isPair_4 (by decide) ?_
  refine u1_iald F 3 0 yc_3 rfl 3 rfl (by decide) (by decide) dX13_isPair_5 (G 3 3) (rfl) ?_
  refine g_iload_n F 1 dX13_isPair_6 rfl rfl ?_
  refine g_iconst F 4 dX13_isPair_7 (by decide) ?_
  refine u0_idiv F dX13_isPair_8 (by decide) (fun y1 => ?_)
  refine u0_iadd F dX13_isPair_9 (fun y2 => ?_)
  refine g_aload_n F 0 dX13_isPair_10 rfl rfl ?_
  refine yg_0_10 F i_X13 w_0 dX13_isPair_11 ?_
  refine g_iconst F 4 dX13_isPair_14 (by decide) ?_
  refine u1_iald F 3 0 yc_3 rfl 4 rfl (by decide) (by decide) dX13_isPair_15 (G 3 4) (rfl) ?_
  have b3 : (0 : Int) ≤ (G 3 4).toInt ∧ (G 3 4).toInt ≤ 200 := hI 3 4
  have b4 := ti_rng y2
  refine v_icmp_gt F 43 dX13_isPair_16 (by decide) y2.toInt (G 3 4).toInt rfl rfl (fun c5 => ?_) (fun c5 => ?_)
  · refine g_iconst F 0 dX13_isPair_43 (by decide) ?_
    exact u_zret F hA hQ hr rfl () ((by decide)) rfl rfl dX13_isPair_44
  · refine g_aload_n F 0 dX13_isPair_19 rfl rfl ?_
    refine yg_0_10 F i_X13 w_0 dX13_isPair_20 ?_
    refine g_iconst F 5 dX13_isPair_23 (by decide) ?_
    refine u1_iald F 3 0 yc_3 rfl 5 rfl (by decide) (by decide) dX13_isPair_24 (G 3 5) (rfl) ?_
    refine g_iload_n F 1 dX13_isPair_25 rfl rfl ?_
    refine g_iconst F 4 dX13_isPair_26 (by decide) ?_
    refine u0_irem F dX13_isPair_27 (by decide) (fun y6 => ?_)
    refine u0_iadd F dX13_isPair_28 (fun y7 => ?_)
    refine g_aload_n F 0 dX13_isPair_29 rfl rfl ?_
    refine yg_0_10 F i_X13 w_0 dX13_isPair_30 ?_
    refine g_bipush F 6 dX13_isPair_33 (by decide) ?_
    refine u1_iald F 3 0 yc_3 rfl 6 rfl (by decide) (by decide) dX13_isPair_35 (G 3 6) (rfl) ?_
    have b8 : (0 : Int) ≤ (G 3 6).toInt ∧ (G 3 6).toInt ≤ 200 := hI 3 6
    have b9 := ti_rng y7
    refine v_icmp_gt F 43 dX13_isPair_36 (by decide) y7.toInt (G 3 6).toInt rfl rfl (fun c10 => ?_) (fun c10 => ?_)
    · refine g_iconst F 0 dX13_isPair_43 (by decide) ?_
      exact u_zret F hA hQ hr rfl () ((by decide)) rfl rfl dX13_isPair_44
    · refine g_iconst F 1 dX13_isPair_39 (by decide) ?_
      refine g_goto F 44 dX13_isPair_40 (by decide) ?_
      exact u_zret F hA hQ hr rfl () ((by decide)) rfl rfl dX13_isPair_44

theorem dX13_changeAt_0 : decode cX13_changeAt 0 = .ok (.aload_n 0, 1) := by decide +kernel
theorem dX13_changeAt_1 : decode cX13_changeAt 1 = .ok (.getfield 310, 3) := by decide +kernel
theorem dX13_changeAt_4 : decode cX13_changeAt 4 = .ok (.iload_n 1, 1) := by decide +kernel
theorem dX13_changeAt_5 : decode cX13_changeAt 5 = .ok (.iaload, 1) := by decide +kernel
theorem dX13_changeAt_6 : decode cX13_changeAt 6 = .ok (.aload_n 0, 1) := by decide +kernel
theorem dX13_changeAt_7 : decode cX13_changeAt 7 = .ok (.getfield 310, 3) := by decide +kernel
theorem dX13_changeAt_10 : decode cX13_changeAt 10 = .ok (.iload_n 1, 1) := by decide +kernel
theorem dX13_changeAt_11 : decode cX13_changeAt 11 = .ok (.iload_n 2, 1) := by decide +kernel
theorem dX13_changeAt_12 : decode cX13_changeAt 12 = .ok (.isub, 1) := by decide +kernel
theorem dX13_changeAt_13 : decode cX13_changeAt 13 = .ok (.iaload, 1) := by decide +kernel
theorem dX13_changeAt_14 : decode cX13_changeAt 14 = .ok (.isub, 1) := by decide +kernel
theorem dX13_changeAt_15 : decode cX13_changeAt 15 = .ok (.invokestatic 409, 3) := by decide +kernel
theorem dX13_changeAt_18 : decode cX13_changeAt 18 = .ok (.ireturn, 1) := by decide +kernel
set_option maxHeartbeats 4000000 in
set_option maxRecDepth 100000 in
theorem S_X13_changeAt (l : Launch) (D : va_G) (K : Nat → ClassId) (a : Nat → Nat) (G : gS) (p0 : Int32) (s0 : Int) (p1 : Int32) (s1 : Int) (e0 : p0.toInt = s0) (h0 : 0 ≤ s0 ∧ s0 ≤ 149) (e1 : p1.toInt = s1) (h1 : 0 ≤ s1 ∧ s1 ≤ 60) (ci : (s1 ≤ s0)) (hI : yI G) (sz : Nat) : Ki l yX13_changeAt wsX13_changeAt 1 40 0 0 D [.ref (a 0), .int p0, .int p1] (yW K a G) (tK K) sz (fun (r : Int32) (_ : Unit) => (0 ≤ r.toInt ∧ r.toInt ≤ 19998) ∧ ((r.toInt = cCh (G 46) s0 s1))) (fun (_ : Unit) => (yW K a G)) (fun _ => (tK K)) := by
  unfold Ki
  refine g_ofW (cc := cX13_changeAt) (lv := [(0, .ref (a 0)), (1, .int p0), (2, .int p1)]) (by decide) rfl (Nat.le_of_ble_eq_true rfl) rfl ?_
  intro p e s m args below meth c A Q hA hQ F hr hnm
  have hts := F.2.2.2.2.1
  have w_0 : (Cond.fieldLink RX13 310 "QuietCutModel" "sound" "[I").before args s = true := hts _ (List.mem_of_getElem? (i := 1) rfl)
  have i_X13 : ∀ w ∈ u_ws RX13 TX13 73, w ∈ wsX13_changeAt := fun _ h => List.mem_cons_of_mem _ (List.mem_append_right _ h)
  have w_1 : (Cond.methodLink RX13 409 Lib.Math.abs.name).before args s = true := hts _ (List.mem_of_getElem? (i := 2) rfl)
  have w_2 : (Cond.static Lib.Math.abs.name).before args s = true := hts _ (List.mem_of_getElem? (i := 3) rfl)
  have w_3 : (Cond.initialized "java/lang/Math").before args s = true := hts _ (List.mem_of_getElem? (i := 4) rfl)
  have w_4 : (Cond.code Lib.Math.abs.name Lib.Math.abs.code 1 (some .int)).before args s = true := hts _ (List.mem_of_getElem? (i := 5) rfl)
  refine g_aload_n F 0 dX13_changeAt_0 rfl rfl ?_
  refine yg_0_70 F i_X13 w_0 dX13_changeAt_1 ?_
  refine g_iload_n F 1 dX13_changeAt_4 rfl rfl ?_
  refine u1_iald F 46 0 yc_46 rfl s0 e0 (by omega) (by omega) dX13_changeAt_5 ((G 46) (s0).toNat) (rfl) ?_
  have b1 : ((-9999) : Int) ≤ ((G 46) (s0).toNat).toInt ∧ ((G 46) (s0).toNat).toInt ≤ 9999 := hI 46 _
  refine g_aload_n F 0 dX13_changeAt_6 rfl rfl ?_
  refine yg_0_70 F i_X13 w_0 dX13_changeAt_7 ?_
  refine g_iload_n F 1 dX13_changeAt_10 rfl rfl ?_
  refine g_iload_n F 2 dX13_changeAt_11 rfl rfl ?_
  refine u_isub F dX13_changeAt_12 s0 s1 e0 e1 (by omega) (by omega) (fun y2 ey2 => ?_)
  refine u1_iald F 46 0 yc_46 rfl y2.toInt rfl (by omega) (by omega) dX13_changeAt_13 ((G 46) ((s0 - s1)).toNat) (by rw [show y2.toInt = (s0 - s1) by omega] <;> rfl) ?_
  have b3 : ((-9999) : Int) ≤ ((G 46) ((s0 - s1)).toNat).toInt ∧ ((G 46) ((s0 - s1)).toNat).toInt ≤ 9999 := hI 46 _
  refine u_isub F dX13_changeAt_14 ((G 46) (s0).toNat).toInt ((G 46) ((s0 - s1)).toNat).toInt rfl rfl (by omega) (by omega) (fun y4 ey4 => ?_)
  refine u_mabs F w_1 w_2 w_3 w_4 (Nat.le_of_ble_eq_true rfl) (Nat.le_of_ble_eq_true rfl) (Nat.le_of_ble_eq_true rfl) (Nat.le_of_ble_eq_true rfl) dX13_changeAt_15 y4.toInt rfl (by omega) (fun y5 ey5 => ?_)
  exact u_iret F hA hQ hr () (⟨(by have h9 := ti_rng y5; omega), (by unfold cCh; omega)⟩) rfl rfl dX13_changeAt_18

theorem dX13_count_0 : decode cX13_count 0 = .ok (.iload_n 1, 1) := by decide +kernel
theorem dX13_count_1 : decode cX13_count 1 = .ok (.tableswitch 87 0 7 #[47, 52, 57, 62, 67, 72, 77, 82], 47) := by decide +kernel
theorem dX13_count_48 : decode cX13_count 48 = .ok (.aload_n 0, 1) := by decide +kernel
theorem dX13_count_49 : decode cX13_count 49 = .ok (.getfield 362, 3) := by decide +kernel
theorem dX13_count_52 : decode cX13_count 52 = .ok (.ireturn, 1) := by decide +kernel
theorem dX13_count_53 : decode cX13_count 53 = .ok (.aload_n 0, 1) := by decide +kernel
theorem dX13_count_54 : decode cX13_count 54 = .ok (.getfield 364, 3) := by decide +kernel
theorem dX13_count_57 : decode cX13_count 57 = .ok (.ireturn, 1) := by decide +kernel
theorem dX13_count_58 : decode cX13_count 58 = .ok (.aload_n 0, 1) := by decide +kernel
theorem dX13_count_59 : decode cX13_count 59 = .ok (.getfield 331, 3) := by decide +kernel
theorem dX13_count_62 : decode cX13_count 62 = .ok (.ireturn, 1) := by decide +kernel
theorem dX13_count_63 : decode cX13_count 63 = .ok (.aload_n 0, 1) := by decide +kernel
theorem dX13_count_64 : decode cX13_count 64 = .ok (.getfield 338, 3) := by decide +kernel
theorem dX13_count_67 : decode cX13_count 67 = .ok (.ireturn, 1) := by decide +kernel
theorem dX13_count_68 : decode cX13_count 68 = .ok (.aload_n 0, 1) := by decide +kernel
theorem dX13_count_69 : decode cX13_count 69 = .ok (.getfield 341, 3) := by decide +kernel
theorem dX13_count_72 : decode cX13_count 72 = .ok (.ireturn, 1) := by decide +kernel
theorem dX13_count_73 : decode cX13_count 73 = .ok (.aload_n 0, 1) := by decide +kernel
theorem dX13_count_74 : decode cX13_count 74 = .ok (.getfield 344, 3) := by decide +kernel
theorem dX13_count_77 : decode cX13_count 77 = .ok (.ireturn, 1) := by decide +kernel
theorem dX13_count_78 : decode cX13_count 78 = .ok (.aload_n 0, 1) := by decide +kernel
theorem dX13_count_79 : decode cX13_count 79 = .ok (.getfield 517, 3) := by decide +kernel
theorem dX13_count_82 : decode cX13_count 82 = .ok (.ireturn, 1) := by decide +kernel
theorem dX13_count_83 : decode cX13_count 83 = .ok (.aload_n 0, 1) := by decide +kernel
theorem dX13_count_84 : decode cX13_count 84 = .ok (.getfield 73, 3) := by decide +kernel
theorem dX13_count_87 : decode cX13_count 87 = .ok (.ireturn, 1) := by decide +kernel
theorem dX13_count_88 : decode cX13_count 88 = .ok (.iconst (-1), 1) := by decide +kernel
theorem dX13_count_89 : decode cX13_count 89 = .ok (.ireturn, 1) := by decide +kernel
set_option maxHeartbeats 4000000 in
set_option maxRecDepth 100000 in
theorem S_X13_count (l : Launch) (D : va_G) (K : Nat → ClassId) (a : Nat → Nat) (G : gS) (p0 : Int32) (s0 : Int) (e0 : p0.toInt = s0) (hI : yI G) (sz : Nat) : Ki l yX13_count wsX13_count 1 40 0 0 D [.ref (a 0), .int p0] (yW K a G) (tK K) sz (fun (r : Int32) (_ : Unit) => ((-1) ≤ r.toInt ∧ r.toInt ≤ 30000)) (fun (_ : Unit) => (yW K a G)) (fun _ => (tK K)) := by
  unfold Ki
  refine g_ofW (cc := cX13_count) (lv := [(0, .ref (a 0)), (1, .int p0)]) (by decide) rfl (Nat.le_of_ble_eq_true rfl) rfl ?_
  intro p e s m args below meth c A Q hA hQ F hr hnm
  have hts := F.2.2.2.2.1
  have w_0 : (Cond.fieldLink RX13 362 "QuietCutModel" "wear" "I").before args s = true := hts _ (List.mem_of_getElem? (i := 1) rfl)
  have i_X13 : ∀ w ∈ u_ws RX13 TX13 73, w ∈ wsX13_count := fun _ h => List.mem_cons_of_mem _ (List.mem_append_right _ h)
  have w_1 : (Cond.fieldLink RX13 364 "QuietCutModel" "cuts" "I").before args s = true := hts _ (List.mem_of_getElem? (i := 2) rfl)
  have w_2 : (Cond.fieldLink RX13 331 "QuietCutModel" "jobs" "I").before args s = true := hts _ (List.mem_of_getElem? (i := 3) rfl)
  have w_3 : (Cond.fieldLink RX13 338 "QuietCutModel" "offers" "I").before args s = true := hts _ (List.mem_of_getElem? (i := 4) rfl)
  have w_4 : (Cond.fieldLink RX13 341 "QuietCutModel" "heards" "I").before args s = true := hts _ (List.mem_of_getElem? (i := 5) rfl)
  have w_5 : (Cond.fieldLink RX13 344 "QuietCutModel" "rights" "I").before args s = true := hts _ (List.mem_of_getElem? (i := 6) rfl)
  have w_6 : (Cond.fieldLink RX13 517 "QuietCutModel" "sounds" "I").before args s = true := hts _ (List.mem_of_getElem? (i := 7) rfl)
  have w_7 : (Cond.fieldLink RX13 73 "QuietCutModel" "taped" "I").before args s = true := hts _ (List.mem_of_getElem? (i := 8) rfl)
  have rg0 : -2147483648 ≤ s0 ∧ s0 ≤ 2147483647 := e0 ▸ ti_rng p0
  refine g_iload_n F 1 dX13_count_0 rfl rfl ?_
  rcases (show s0 = 0 ∨ s0 = 1 ∨ s0 = 2 ∨ s0 = 3 ∨ s0 = 4 ∨ s0 = 5 ∨ s0 = 6 ∨ s0 = 7 ∨ (s0 < 0 ∨ 7 < s0) by omega) with c1 | c1 | c1 | c1 | c1 | c1 | c1 | c1 | c1
  · have c1' : Int32.toInt p0 = 0 := (e0).trans c1
    refine g_tableIn F 48 dX13_count_1 (by rw [c1']; decide) (by rw [c1']; decide) (by rw [c1']; rfl) (by decide) ?_
    refine g_aload_n F 0 dX13_count_48 rfl rfl ?_
    refine yg_0_28 F i_X13 w_0 dX13_count_49 (G 0 28) (rfl) ?_
    have b2 : (0 : Int) ≤ (G 0 28).toInt ∧ (G 0 28).toInt ≤ 30000 := hI 0 28
    exact u_iret F hA hQ hr () ((by have h9 := ti_rng (G 0 28); omega)) rfl rfl dX13_count_52
  · have c1' : Int32.toInt p0 = 1 := (e0).trans c1
    refine g_tableIn F 53 dX13_count_1 (by rw [c1']; decide) (by rw [c1']; decide) (by rw [c1']; rfl) (by decide) ?_
    refine g_aload_n F 0 dX13_count_53 rfl rfl ?_
    refine yg_0_29 F i_X13 w_1 dX13_count_54 (G 0 29) (rfl) ?_
    have b3 : (0 : Int) ≤ (G 0 29).toInt ∧ (G 0 29).toInt ≤ 200 := hI 0 29
    exact u_iret F hA hQ hr () ((by have h9 := ti_rng (G 0 29); omega)) rfl rfl dX13_count_57
  · have c1' : Int32.toInt p0 = 2 := (e0).trans c1
    refine g_tableIn F 58 dX13_count_1 (by rw [c1']; decide) (by rw [c1']; decide) (by rw [c1']; rfl) (by decide) ?_
    refine g_aload_n F 0 dX13_count_58 rfl rfl ?_
    refine yg_0_45 F i_X13 w_2 dX13_count_59 (G 0 45) (rfl) ?_
    have b4 : (0 : Int) ≤ (G 0 45).toInt ∧ (G 0 45).toInt ≤ 5 := hI 0 45
    exact u_iret F hA hQ hr () ((by have h9 := ti_rng (G 0 45); omega)) rfl rfl dX13_count_62
  · have c1' : Int32.toInt p0 = 3 := (e0).trans c1
    refine g_tableIn F 63 dX13_count_1 (by rw [c1']; decide) (by rw [c1']; decide) (by rw [c1']; rfl) (by decide) ?_
    refine g_aload_n F 0 dX13_count_63 rfl rfl ?_
    refine yg_0_55 F i_X13 w_3 dX13_count_64 (G 0 55) (rfl) ?_
    have b5 : (0 : Int) ≤ (G 0 55).toInt ∧ (G 0 55).toInt ≤ 10 := hI 0 55
    exact u_iret F hA hQ hr () ((by have h9 := ti_rng (G 0 55); omega)) rfl rfl dX13_count_67
  · have c1' : Int32.toInt p0 = 4 := (e0).trans c1
    refine g_tableIn F 68 dX13_count_1 (by rw [c1']; decide) (by rw [c1']; decide) (by rw [c1']; rfl) (by decide) ?_
    refine g_aload_n F 0 dX13_count_68 rfl rfl ?_
    refine yg_0_56 F i_X13 w_4 dX13_count_69 (G 0 56) (rfl) ?_
    have b6 : (0 : Int) ≤ (G 0 56).toInt ∧ (G 0 56).toInt ≤ 30 := hI 0 56
    exact u_iret F hA hQ hr () ((by have h9 := ti_rng (G 0 56); omega)) rfl rfl dX13_count_72
  · have c1' : Int32.toInt p0 = 5 := (e0).trans c1
    refine g_tableIn F 73 dX13_count_1 (by rw [c1']; decide) (by rw [c1']; decide) (by rw [c1']; rfl) (by decide) ?_
    refine g_aload_n F 0 dX13_count_73 rfl rfl ?_
    refine yg_0_57 F i_X13 w_5 dX13_count_74 (G 0 57) (rfl) ?_
    have b7 : (0 : Int) ≤ (G 0 57).toInt ∧ (G 0 57).toInt ≤ 20 := hI 0 57
    exact u_iret F hA hQ hr () ((by have h9 := ti_rng (G 0 57); omega)) rfl rfl dX13_count_77
  · have c1' : Int32.toInt p0 = 6 := (e0).trans c1
    refine g_tableIn F 78 dX13_count_1 (by rw [c1']; decide) (by rw [c1']; decide) (by rw [c1']; rfl) (by decide) ?_
    refine g_aload_n F 0 dX13_count_78 rfl rfl ?_
    refine yg_0_72 F i_X13 w_6 dX13_count_79 (G 0 72) (rfl) ?_
    have b8 : (0 : Int) ≤ (G 0 72).toInt ∧ (G 0 72).toInt ≤ 150 := hI 0 72
    exact u_iret F hA hQ hr () ((by have h9 := ti_rng (G 0 72); omega)) rfl rfl dX13_count_82
  · have c1' : Int32.toInt p0 = 7 := (e0).trans c1
    refine g_tableIn F 83 dX13_count_1 (by rw [c1']; decide) (by rw [c1']; decide) (by rw [c1']; rfl) (by decide) ?_
    refine g_aload_n F 0 dX13_count_83 rfl rfl ?_
    refine yg_0_2 F i_X13 w_7 dX13_count_84 (G 0 2) (rfl) ?_
    have b9 : (0 : Int) ≤ (G 0 2).toInt ∧ (G 0 2).toInt ≤ 1000 := hI 0 2
    exact u_iret F hA hQ hr () ((by have h9 := ti_rng (G 0 2); omega)) rfl rfl dX13_count_87
  · refine g_tableOut F 88 dX13_count_1 (by rw [e0]; exact c1) (by decide) ?_
    refine g_iconst F (-1) dX13_count_88 (by decide) ?_
    exact u_iret F hA hQ hr () ((by decide)) rfl rfl dX13_count_89

theorem dX13_byteAt_0 : decode cX13_byteAt 0 = .ok (.iload_n 1, 1) := by decide +kernel
theorem dX13_byteAt_1 : decode cX13_byteAt 1 = .ok (.aload_n 0, 1) := by decide +kernel
theorem dX13_byteAt_2 : decode cX13_byteAt 2 = .ok (.getfield 17, 3) := by decide +kernel
theorem dX13_byteAt_5 : decode cX13_byteAt 5 = .ok (.if_icmp .ge 16, 3) := by decide +kernel
theorem dX13_byteAt_8 : decode cX13_byteAt 8 = .ok (.aload_n 0, 1) := by decide +kernel
theorem dX13_byteAt_9 : decode cX13_byteAt 9 = .ok (.getfield 20, 3) := by decide +kernel
theorem dX13_byteAt_12 : decode cX13_byteAt 12 = .ok (.iload_n 1, 1) := by decide +kernel
theorem dX13_byteAt_13 : decode cX13_byteAt 13 = .ok (.baload, 1) := by decide +kernel
theorem dX13_byteAt_14 : decode cX13_byteAt 14 = .ok (.sipush 255, 3) := by decide +kernel
theorem dX13_byteAt_17 : decode cX13_byteAt 17 = .ok (.iand, 1) := by decide +kernel
theorem dX13_byteAt_18 : decode cX13_byteAt 18 = .ok (.goto 4, 3) := by decide +kernel
theorem dX13_byteAt_21 : decode cX13_byteAt 21 = .ok (.iconst 0, 1) := by decide +kernel
theorem dX13_byteAt_22 : decode cX13_byteAt 22 = .ok (.ireturn, 1) := by decide +kernel
set_option maxHeartbeats 4000000 in
set_option maxRecDepth 100000 in
theorem S_X13_byteAt (l : Launch) (D : va_G) (K : Nat → ClassId) (a : Nat → Nat) (G : gS) (p0 : Int32) (s0 : Int) (e0 : p0.toInt = s0) (h0 : 0 ≤ s0 ∧ s0 ≤ 2147483647) (hI : yI G) (sz : Nat) : Ki l yX13_byteAt wsX13_byteAt 1 40 0 0 D [.ref (a 0), .int p0] (yW K a G) (tK K) sz (fun (r : Int32) (_ : Unit) => ((0 ≤ r.toInt ∧ r.toInt ≤ 255)) ∧ ((r.toInt ≠ 0 → s0 < (G 0 3).toInt)) ∧ ((r.toInt = yBi (G 2) (G 0 3).toInt s0))) (fun (_ : Unit) => (yW K a G)) (fun _ => (tK K)) := by
  unfold Ki
  refine g_ofW (cc := cX13_byteAt) (lv := [(0, .ref (a 0)), (1, .int p0)]) (by decide) rfl (Nat.le_of_ble_eq_true rfl) rfl ?_
  intro p e s m args below meth c A Q hA hQ F hr hnm
  have hts := F.2.2.2.2.1
  have w_0 : (Cond.fieldLink RX13 17 "QuietCutModel" "length" "I").before args s = true := hts _ (List.mem_of_getElem? (i := 1) rfl)
  have i_X13 : ∀ w ∈ u_ws RX13 TX13 73, w ∈ wsX13_byteAt := fun _ h => List.mem_cons_of_mem _ (List.mem_append_right _ h)
  have w_1 : (Cond.fieldLink RX13 20 "QuietCutModel" "tape" "[B").before args s = true := hts _ (List.mem_of_getElem? (i := 2) rfl)
  refine g_iload_n F 1 dX13_byteAt_0 rfl rfl ?_
  refine g_aload_n F 0 dX13_byteAt_1 rfl rfl ?_
  refine yg_0_3 F i_X13 w_0 dX13_byteAt_2 (G 0 3) (rfl) ?_
  have b1 : (0 : Int) ≤ (G 0 3).toInt ∧ (G 0 3).toInt ≤ 1000 := hI 0 3
  refine v_icmp_ge F 21 dX13_byteAt_5 (by decide) s0 (G 0 3).toInt e0 rfl (fun c2 => ?_) (fun c2 => ?_)
  · refine g_iconst F 0 dX13_byteAt_21 (by decide) ?_
    exact u_iret F hA hQ hr () (⟨(by first | decide | exact ti_andm (b := 255) rfl (by decide)), (by first | (intro _; omega) | (intro h9; exact absurd rfl h9)), (by unfold yBi; first | (rw [if_neg (by omega)]; rfl) | (rw [if_pos (by omega)]))⟩) rfl rfl dX13_byteAt_22
  · refine g_aload_n F 0 dX13_byteAt_8 rfl rfl ?_
    refine yg_0_1 F i_X13 w_1 dX13_byteAt_9 ?_
    refine g_iload_n F 1 dX13_byteAt_12 rfl rfl ?_
    refine u1_bald F 2 2 yc_2 rfl s0 e0 (by omega) (by omega) dX13_byteAt_13 ((G 2) (s0).toNat) (rfl) ?_
    have b3 : ((-128) : Int) ≤ ((G 2) (s0).toNat).toInt ∧ ((G 2) (s0).toNat).toInt ≤ 127 := hI 2 _
    refine g_sipush F 255 dX13_byteAt_14 (by decide) ?_
    refine g_iand F dX13_byteAt_17 ?_
    refine g_goto F 22 dX13_byteAt_18 (by decide) ?_
    exact u_iret F hA hQ hr () (⟨(by first | decide | exact ti_andm (b := 255) rfl (by decide)), (by first | (intro _; omega) | (intro h9; exact absurd rfl h9)), (by unfold yBi; first | (rw [if_neg (by omega)]; rfl) | (rw [if_pos (by omega)]))⟩) rfl rfl dX13_byteAt_22

theorem dX13_isSign_0 : decode cX13_isSign 0 = .ok (.aload_n 0, 1) := by decide +kernel
theorem dX13_isSign_1 : decode cX13_isSign 1 = .ok (.getfield 31, 3) := by decide +kernel
theorem dX13_isSign_4 : decode cX13_isSign 4 = .ok (.iconst 3, 1) := by decide +kernel
theorem dX13_isSign_5 : decode cX13_isSign 5 = .ok (.if_icmp .ne 15, 3) := by decide +kernel
theorem dX13_isSign_8 : decode cX13_isSign 8 = .ok (.aload_n 0, 1) := by decide +kernel
theorem dX13_isSign_9 : decode cX13_isSign 9 = .ok (.getfield 41, 3) := by decide +kernel
theorem dX13_isSign_12 : decode cX13_isSign 12 = .ok (.iload_n 1, 1) := by decide +kernel
theorem dX13_isSign_13 : decode cX13_isSign 13 = .ok (.if_icmp .ne 7, 3) := by decide +kernel
theorem dX13_isSign_16 : decode cX13_isSign 16 = .ok (.iconst 1, 1) := by decide +kernel
theorem dX13_isSign_17 : decode cX13_isSign 17 = .ok (.goto 4, 3) := by decide +kernel
theorem dX13_isSign_20 : decode cX13_isSign 20 = .ok (.iconst 0, 1) := by decide +kernel
theorem dX13_isSign_21 : decode cX13_isSign 21 = .ok (.ireturn, 1) := by decide +kernel
set_option maxHeartbeats 4000000 in
set_option maxRecDepth 100000 in
theorem S_X13_isSign (l : Launch) (D : va_G) (K : Nat → ClassId) (a : Nat → Nat) (G : gS) (p0 : Int32) (s0 : Int) (e0 : p0.toInt = s0) (hI : yI G) (sz : Nat) : Ki l yX13_isSign wsX13_isSign 1 40 0 0 D [.ref (a 0), .int p0] (yW K a G) (tK K) sz (fun (r : Int32) (_ : Unit) => ((r = 1 ∧ ((G 0 6).toInt = 3 ∧ (G 0 7).toInt = s0)) ∨ (r = 0 ∧ ((G 0 6).toInt ≠ 3 ∨ (G 0 7).toInt ≠ s0)))) (fun (_ : Unit) => (yW K a G)) (fun _ => (tK K)) := by
  unfold Ki
  refine g_ofW (cc := cX13_isSign) (lv := [(0, .ref (a 0)), (1, .int p0)]) (by decide) rfl (Nat.le_of_ble_eq_true rfl) rfl ?_
  intro p e s m args below meth c A Q hA hQ F hr hnm
  have hts := F.2.2.2.2.1
  have w_0 : (Cond.fieldLink RX13 31 "QuietCutModel" "hand" "I").before args s = true := hts _ (List.mem_of_getElem? (i := 1) rfl)
  have i_X13 : ∀ w ∈ u_ws RX13 TX13 73, w ∈ wsX13_isSign := fun _ h => List.mem_cons_of_mem _ (List.mem_append_right _ h)
  have w_1 : (Cond.fieldLink RX13 41 "QuietCutModel" "value" "I").before args s = true := hts _ (List.mem_of_getElem? (i := 2) rfl)
  have rg0 : -2147483648 ≤ s0 ∧ s0 ≤ 2147483647 := e0 ▸ ti_rng p0
  refine g_aload_n F 0 dX13_isSign_0 rfl rfl ?_
  refine yg_0_6 F i_X13 w_0 dX13_isSign_1 (G 0 6) (rfl) ?_
  refine g_iconst F 3 dX13_isSign_4 (by decide) ?_
  have b1 : (0 : Int) ≤ (G 0 6).toInt ∧ (G 0 6).toInt ≤ 4 := hI 0 6
  refine v_icmp_ne F 20 dX13_isSign_5 (by decide) (G 0 6).toInt 3 rfl rfl (fun c2 => ?_) (fun c2 => ?_)
  · refine g_iconst F 0 dX13_isSign_20 (by decide) ?_
    exact u_zret F hA hQ hr rfl () ((Or.inr (⟨rfl, by first | trivial | omega⟩))) rfl rfl dX13_isSign_21
  · refine g_aload_n F 0 dX13_isSign_8 rfl rfl ?_
    refine yg_0_7 F i_X13 w_1 dX13_isSign_9 (G 0 7) (rfl) ?_
    refine g_iload_n F 1 dX13_isSign_12 rfl rfl ?_
    have b3 : (0 : Int) ≤ (G 0 7).toInt ∧ (G 0 7).toInt ≤ 9999 := hI 0 7
    refine v_icmp_ne F 20 dX13_isSign_13 (by decide) (G 0 7).toInt s0 rfl e0 (fun c4 => ?_) (fun c4 => ?_)
    · refine g_iconst F 0 dX13_isSign_20 (by decide) ?_
      exact u_zret F hA hQ hr rfl () ((Or.inr (⟨rfl, by first | trivial | omega⟩))) rfl rfl dX13_isSign_21
    · refine g_iconst F 1 dX13_isSign_16 (by decide) ?_
      refine g_goto F 21 dX13_isSign_17 (by decide) ?_
      exact u_zret F hA hQ hr rfl () ((Or.inl (⟨rfl, by first | trivial | omega⟩))) rfl rfl dX13_isSign_21

theorem dX13_scan_0 : decode cX13_scan 0 = .ok (.aload_n 0, 1) := by decide +kernel
theorem dX13_scan_1 : decode cX13_scan 1 = .ok (.getfield 24, 3) := by decide +kernel
theorem dX13_scan_4 : decode cX13_scan 4 = .ok (.aload_n 0, 1) := by decide +kernel
theorem dX13_scan_5 : decode cX13_scan 5 = .ok (.getfield 17, 3) := by decide +kernel
theorem dX13_scan_8 : decode cX13_scan 8 = .ok (.if_icmp .ge 44, 3) := by decide +kernel
theorem dX13_scan_11 : decode cX13_scan 11 = .ok (.aload_n 0, 1) := by decide +kernel
theorem dX13_scan_12 : decode cX13_scan 12 = .ok (.getfield 20, 3) := by decide +kernel
theorem dX13_scan_15 : decode cX13_scan 15 = .ok (.aload_n 0, 1) := by decide +kernel
theorem dX13_scan_16 : decode cX13_scan 16 = .ok (.getfield 24, 3) := by decide +kernel
theorem dX13_scan_19 : decode cX13_scan 19 = .ok (.baload, 1) := by decide +kernel
theorem dX13_scan_20 : decode cX13_scan 20 = .ok (.bipush 32, 2) := by decide +kernel
theorem dX13_scan_22 : decode cX13_scan 22 = .ok (.if_icmp .eq 17, 3) := by decide +kernel
theorem dX13_scan_25 : decode cX13_scan 25 = .ok (.aload_n 0, 1) := by decide +kernel
theorem dX13_scan_26 : decode cX13_scan 26 = .ok (.getfield 20, 3) := by decide +kernel
theorem dX13_scan_29 : decode cX13_scan 29 = .ok (.aload_n 0, 1) := by decide +kernel
theorem dX13_scan_30 : decode cX13_scan 30 = .ok (.getfield 24, 3) := by decide +kernel
theorem dX13_scan_33 : decode cX13_scan 33 = .ok (.baload, 1) := by decide +kernel
theorem dX13_scan_34 : decode cX13_scan 34 = .ok (.bipush 10, 2) := by decide +kernel
theorem dX13_scan_36 : decode cX13_scan 36 = .ok (.if_icmp .ne 16, 3) := by decide +kernel
theorem dX13_scan_39 : decode cX13_scan 39 = .ok (.aload_n 0, 1) := by decide +kernel
theorem dX13_scan_40 : decode cX13_scan 40 = .ok (.dup, 1) := by decide +kernel
theorem dX13_scan_41 : decode cX13_scan 41 = .ok (.getfield 24, 3) := by decide +kernel
theorem dX13_scan_44 : decode cX13_scan 44 = .ok (.iconst 1, 1) := by decide +kernel
theorem dX13_scan_45 : decode cX13_scan 45 = .ok (.iadd, 1) := by decide +kernel
theorem dX13_scan_46 : decode cX13_scan 46 = .ok (.putfield 24, 3) := by decide +kernel
theorem dX13_scan_49 : decode cX13_scan 49 = .ok (.goto (-49), 3) := by decide +kernel
theorem dX13_scan_52 : decode cX13_scan 52 = .ok (.aload_n 0, 1) := by decide +kernel
theorem dX13_scan_53 : decode cX13_scan 53 = .ok (.aload_n 0, 1) := by decide +kernel
theorem dX13_scan_54 : decode cX13_scan 54 = .ok (.getfield 24, 3) := by decide +kernel
theorem dX13_scan_57 : decode cX13_scan 57 = .ok (.putfield 7, 3) := by decide +kernel
theorem dX13_scan_60 : decode cX13_scan 60 = .ok (.aload_n 0, 1) := by decide +kernel
theorem dX13_scan_61 : decode cX13_scan 61 = .ok (.aload_n 0, 1) := by decide +kernel
theorem dX13_scan_62 : decode cX13_scan 62 = .ok (.getfield 7, 3) := by decide +kernel
theorem dX13_scan_65 : decode cX13_scan 65 = .ok (.invokevirtual 27, 3) := by decide +kernel
theorem dX13_scan_68 : decode cX13_scan 68 = .ok (.istore_n 1, 1) := by decide +kernel
theorem dX13_scan_69 : decode cX13_scan 69 = .ok (.aload_n 0, 1) := by decide +kernel
theorem dX13_scan_70 : decode cX13_scan 70 = .ok (.getfield 7, 3) := by decide +kernel
theorem dX13_scan_73 : decode cX13_scan 73 = .ok (.aload_n 0, 1) := by decide +kernel
theorem dX13_scan_74 : decode cX13_scan 74 = .ok (.getfield 17, 3) := by decide +kernel
theorem dX13_scan_77 : decode cX13_scan 77 = .ok (.if_icmp .ne 11, 3) := by decide +kernel
theorem dX13_scan_80 : decode cX13_scan 80 = .ok (.aload_n 0, 1) := by decide +kernel
theorem dX13_scan_81 : decode cX13_scan 81 = .ok (.iconst 0, 1) := by decide +kernel
theorem dX13_scan_82 : decode cX13_scan 82 = .ok (.putfield 31, 3) := by decide +kernel
theorem dX13_scan_85 : decode cX13_scan 85 = .ok (.goto 245, 3) := by decide +kernel
theorem dX13_scan_88 : decode cX13_scan 88 = .ok (.iload_n 1, 1) := by decide +kernel
theorem dX13_scan_89 : decode cX13_scan 89 = .ok (.invokestatic 34, 3) := by decide +kernel
theorem dX13_scan_92 : decode cX13_scan 92 = .ok (.ifCond .eq 56, 3) := by decide +kernel
theorem dX13_scan_95 : decode cX13_scan 95 = .ok (.aload_n 0, 1) := by decide +kernel
theorem dX13_scan_96 : decode cX13_scan 96 = .ok (.aload_n 0, 1) := by decide +kernel
theorem dX13_scan_97 : decode cX13_scan 97 = .ok (.getfield 24, 3) := by decide +kernel
theorem dX13_scan_100 : decode cX13_scan 100 = .ok (.invokevirtual 27, 3) := by decide +kernel
theorem dX13_scan_103 : decode cX13_scan 103 = .ok (.invokestatic 34, 3) := by decide +kernel
theorem dX13_scan_106 : decode cX13_scan 106 = .ok (.ifCond .eq 16, 3) := by decide +kernel
theorem dX13_scan_109 : decode cX13_scan 109 = .ok (.aload_n 0, 1) := by decide +kernel
theorem dX13_scan_110 : decode cX13_scan 110 = .ok (.dup, 1) := by decide +kernel
theorem dX13_scan_111 : decode cX13_scan 111 = .ok (.getfield 24, 3) := by decide +kernel
theorem dX13_scan_114 : decode cX13_scan 114 = .ok (.iconst 1, 1) := by decide +kernel
theorem dX13_scan_115 : decode cX13_scan 115 = .ok (.iadd, 1) := by decide +kernel
theorem dX13_scan_116 : decode cX13_scan 116 = .ok (.putfield 24, 3) := by decide +kernel
theorem dX13_scan_119 : decode cX13_scan 119 = .ok (.goto (-24), 3) := by decide +kernel
theorem dX13_scan_122 : decode cX13_scan 122 = .ok (.aload_n 0, 1) := by decide +kernel
theorem dX13_scan_123 : decode cX13_scan 123 = .ok (.aload_n 0, 1) := by decide +kernel
theorem dX13_scan_124 : decode cX13_scan 124 = .ok (.getfield 24, 3) := by decide +kernel
theorem dX13_scan_127 : decode cX13_scan 127 = .ok (.aload_n 0, 1) := by decide +kernel
theorem dX13_scan_128 : decode cX13_scan 128 = .ok (.getfield 7, 3) := by decide +kernel
theorem dX13_scan_131 : decode cX13_scan 131 = .ok (.isub, 1) := by decide +kernel
theorem dX13_scan_132 : decode cX13_scan 132 = .ok (.bipush 8, 2) := by decide +kernel
theorem dX13_scan_134 : decode cX13_scan 134 = .ok (.if_icmp .le 7, 3) := by decide +kernel
theorem dX13_scan_137 : decode cX13_scan 137 = .ok (.iconst 4, 1) := by decide +kernel
theorem dX13_scan_138 : decode cX13_scan 138 = .ok (.goto 4, 3) := by decide +kernel
theorem dX13_scan_141 : decode cX13_scan 141 = .ok (.iconst 1, 1) := by decide +kernel
theorem dX13_scan_142 : decode cX13_scan 142 = .ok (.putfield 31, 3) := by decide +kernel
theorem dX13_scan_145 : decode cX13_scan 145 = .ok (.goto 185, 3) := by decide +kernel
theorem dX13_scan_148 : decode cX13_scan 148 = .ok (.iload_n 1, 1) := by decide +kernel
theorem dX13_scan_149 : decode cX13_scan 149 = .ok (.invokestatic 38, 3) := by decide +kernel
theorem dX13_scan_152 : decode cX13_scan 152 = .ok (.ifCond .eq 96, 3) := by decide +kernel
theorem dX13_scan_155 : decode cX13_scan 155 = .ok (.aload_n 0, 1) := by decide +kernel
theorem dX13_scan_156 : decode cX13_scan 156 = .ok (.iconst 0, 1) := by decide +kernel
theorem dX13_scan_157 : decode cX13_scan 157 = .ok (.putfield 41, 3) := by decide +kernel
theorem dX13_scan_160 : decode cX13_scan 160 = .ok (.aload_n 0, 1) := by decide +kernel
theorem dX13_scan_161 : decode cX13_scan 161 = .ok (.aload_n 0, 1) := by decide +kernel
theorem dX13_scan_162 : decode cX13_scan 162 = .ok (.getfield 24, 3) := by decide +kernel
theorem dX13_scan_165 : decode cX13_scan 165 = .ok (.invokevirtual 27, 3) := by decide +kernel
theorem dX13_scan_168 : decode cX13_scan 168 = .ok (.invokestatic 38, 3) := by decide +kernel
theorem dX13_scan_171 : decode cX13_scan 171 = .ok (.ifCond .eq 52, 3) := by decide +kernel
theorem dX13_scan_174 : decode cX13_scan 174 = .ok (.aload_n 0, 1) := by decide +kernel
theorem dX13_scan_175 : decode cX13_scan 175 = .ok (.getfield 24, 3) := by decide +kernel
theorem dX13_scan_178 : decode cX13_scan 178 = .ok (.aload_n 0, 1) := by decide +kernel
theorem dX13_scan_179 : decode cX13_scan 179 = .ok (.getfield 7, 3) := by decide +kernel
theorem dX13_scan_182 : decode cX13_scan 182 = .ok (.isub, 1) := by decide +kernel
theorem dX13_scan_183 : decode cX13_scan 183 = .ok (.iconst 4, 1) := by decide +kernel
theorem dX13_scan_184 : decode cX13_scan 184 = .ok (.if_icmp .ge 26, 3) := by decide +kernel
theorem dX13_scan_187 : decode cX13_scan 187 = .ok (.aload_n 0, 1) := by decide +kernel
theorem dX13_scan_188 : decode cX13_scan 188 = .ok (.bipush 10, 2) := by decide +kernel
theorem dX13_scan_190 : decode cX13_scan 190 = .ok (.aload_n 0, 1) := by decide +kernel
theorem dX13_scan_191 : decode cX13_scan 191 = .ok (.getfield 41, 3) := by decide +kernel
theorem dX13_scan_194 : decode cX13_scan 194 = .ok (.imul, 1) := by decide +kernel
theorem dX13_scan_195 : decode cX13_scan 195 = .ok (.aload_n 0, 1) := by decide +kernel
theorem dX13_scan_196 : decode cX13_scan 196 = .ok (.aload_n 0, 1) := by decide +kernel
theorem dX13_scan_197 : decode cX13_scan 197 = .ok (.getfield 24, 3) := by decide +kernel
theorem dX13_scan_200 : decode cX13_scan 200 = .ok (.invokevirtual 27, 3) := by decide +kernel
theorem dX13_scan_203 : decode cX13_scan 203 = .ok (.iadd, 1) := by decide +kernel
theorem dX13_scan_204 : decode cX13_scan 204 = .ok (.bipush 48, 2) := by decide +kernel
theorem dX13_scan_206 : decode cX13_scan 206 = .ok (.isub, 1) := by decide +kernel
theorem dX13_scan_207 : decode cX13_scan 207 = .ok (.putfield 41, 3) := by decide +kernel
theorem dX13_scan_210 : decode cX13_scan 210 = .ok (.aload_n 0, 1) := by decide +kernel
theorem dX13_scan_211 : decode cX13_scan 211 = .ok (.dup, 1) := by decide +kernel
theorem dX13_scan_212 : decode cX13_scan 212 = .ok (.getfield 24, 3) := by decide +kernel
theorem dX13_scan_215 : decode cX13_scan 215 = .ok (.iconst 1, 1) := by decide +kernel
theorem dX13_scan_216 : decode cX13_scan 216 = .ok (.iadd, 1) := by decide +kernel
theorem dX13_scan_217 : decode cX13_scan 217 = .ok (.putfield 24, 3) := by decide +kernel
theorem dX13_scan_220 : decode cX13_scan 220 = .ok (.goto (-60), 3) := by decide +kernel
theorem dX13_scan_223 : decode cX13_scan 223 = .ok (.aload_n 0, 1) := by decide +kernel
theorem dX13_scan_224 : decode cX13_scan 224 = .ok (.aload_n 0, 1) := by decide +kernel
theorem dX13_scan_225 : decode cX13_scan 225 = .ok (.getfield 24, 3) := by decide +kernel
theorem dX13_scan_228 : decode cX13_scan 228 = .ok (.aload_n 0, 1) := by decide +kernel
theorem dX13_scan_229 : decode cX13_scan 229 = .ok (.getfield 7, 3) := by decide +kernel
theorem dX13_scan_232 : decode cX13_scan 232 = .ok (.isub, 1) := by decide +kernel
theorem dX13_scan_233 : decode cX13_scan 233 = .ok (.iconst 4, 1) := by decide +kernel
theorem dX13_scan_234 : decode cX13_scan 234 = .ok (.if_icmp .le 7, 3) := by decide +kernel
theorem dX13_scan_237 : decode cX13_scan 237 = .ok (.iconst 4, 1) := by decide +kernel
theorem dX13_scan_238 : decode cX13_scan 238 = .ok (.goto 4, 3) := by decide +kernel
theorem dX13_scan_241 : decode cX13_scan 241 = .ok (.iconst 2, 1) := by decide +kernel
theorem dX13_scan_242 : decode cX13_scan 242 = .ok (.putfield 31, 3) := by decide +kernel
theorem dX13_scan_245 : decode cX13_scan 245 = .ok (.goto 85, 3) := by decide +kernel
theorem dX13_scan_248 : decode cX13_scan 248 = .ok (.iload_n 1, 1) := by decide +kernel
theorem dX13_scan_249 : decode cX13_scan 249 = .ok (.bipush 59, 2) := by decide +kernel
theorem dX13_scan_251 : decode cX13_scan 251 = .ok (.if_icmp .eq 45, 3) := by decide +kernel
theorem dX13_scan_254 : decode cX13_scan 254 = .ok (.iload_n 1, 1) := by decide +kernel
theorem dX13_scan_255 : decode cX13_scan 255 = .ok (.bipush 40, 2) := by decide +kernel
theorem dX13_scan_257 : decode cX13_scan 257 = .ok (.if_icmp .eq 39, 3) := by decide +kernel
theorem dX13_scan_260 : decode cX13_scan 260 = .ok (.iload_n 1, 1) := by decide +kernel
theorem dX13_scan_261 : decode cX13_scan 261 = .ok (.bipush 41, 2) := by decide +kernel
theorem dX13_scan_263 : decode cX13_scan 263 = .ok (.if_icmp .eq 33, 3) := by decide +kernel
theorem dX13_scan_266 : decode cX13_scan 266 = .ok (.iload_n 1, 1) := by decide +kernel
theorem dX13_scan_267 : decode cX13_scan 267 = .ok (.bipush 43, 2) := by decide +kernel
theorem dX13_scan_269 : decode cX13_scan 269 = .ok (.if_icmp .eq 27, 3) := by decide +kernel
theorem dX13_scan_272 : decode cX13_scan 272 = .ok (.iload_n 1, 1) := by decide +kernel
theorem dX13_scan_273 : decode cX13_scan 273 = .ok (.bipush 45, 2) := by decide +kernel
theorem dX13_scan_275 : decode cX13_scan 275 = .ok (.if_icmp .eq 21, 3) := by decide +kernel
theorem dX13_scan_278 : decode cX13_scan 278 = .ok (.iload_n 1, 1) := by decide +kernel
theorem dX13_scan_279 : decode cX13_scan 279 = .ok (.bipush 42, 2) := by decide +kernel
theorem dX13_scan_281 : decode cX13_scan 281 = .ok (.if_icmp .eq 15, 3) := by decide +kernel
theorem dX13_scan_284 : decode cX13_scan 284 = .ok (.iload_n 1, 1) := by decide +kernel
theorem dX13_scan_285 : decode cX13_scan 285 = .ok (.bipush 47, 2) := by decide +kernel
theorem dX13_scan_287 : decode cX13_scan 287 = .ok (.if_icmp .eq 9, 3) := by decide +kernel
theorem dX13_scan_290 : decode cX13_scan 290 = .ok (.iload_n 1, 1) := by decide +kernel
theorem dX13_scan_291 : decode cX13_scan 291 = .ok (.bipush 37, 2) := by decide +kernel
theorem dX13_scan_293 : decode cX13_scan 293 = .ok (.if_icmp .ne 7, 3) := by decide +kernel
theorem dX13_scan_296 : decode cX13_scan 296 = .ok (.iconst 1, 1) := by decide +kernel
theorem dX13_scan_297 : decode cX13_scan 297 = .ok (.goto 4, 3) := by decide +kernel
theorem dX13_scan_300 : decode cX13_scan 300 = .ok (.iconst 0, 1) := by decide +kernel
theorem dX13_scan_301 : decode cX13_scan 301 = .ok (.istore_n 2, 1) := by decide +kernel
theorem dX13_scan_302 : decode cX13_scan 302 = .ok (.aload_n 0, 1) := by decide +kernel
theorem dX13_scan_303 : decode cX13_scan 303 = .ok (.iload_n 2, 1) := by decide +kernel
theorem dX13_scan_304 : decode cX13_scan 304 = .ok (.ifCond .eq 7, 3) := by decide +kernel
theorem dX13_scan_307 : decode cX13_scan 307 = .ok (.iconst 3, 1) := by decide +kernel
theorem dX13_scan_308 : decode cX13_scan 308 = .ok (.goto 4, 3) := by decide +kernel
theorem dX13_scan_311 : decode cX13_scan 311 = .ok (.iconst 4, 1) := by decide +kernel
theorem dX13_scan_312 : decode cX13_scan 312 = .ok (.putfield 31, 3) := by decide +kernel
theorem dX13_scan_315 : decode cX13_scan 315 = .ok (.aload_n 0, 1) := by decide +kernel
theorem dX13_scan_316 : decode cX13_scan 316 = .ok (.iload_n 1, 1) := by decide +kernel
theorem dX13_scan_317 : decode cX13_scan 317 = .ok (.putfield 41, 3) := by decide +kernel
theorem dX13_scan_320 : decode cX13_scan 320 = .ok (.aload_n 0, 1) := by decide +kernel
theorem dX13_scan_321 : decode cX13_scan 321 = .ok (.dup, 1) := by decide +kernel
theorem dX13_scan_322 : decode cX13_scan 322 = .ok (.getfield 24, 3) := by decide +kernel
theorem dX13_scan_325 : decode cX13_scan 325 = .ok (.iconst 1, 1) := by decide +kernel
theorem dX13_scan_326 : decode cX13_scan 326 = .ok (.iadd, 1) := by decide +kernel
theorem dX13_scan_327 : decode cX13_scan 327 = .ok (.putfield 24, 3) := by decide +kernel
theorem dX13_scan_330 : decode cX13_scan 330 = .ok (.return_, 1) := by decide +kernel
set_option maxRecDepth 20000 in
theorem ggX13_scan_X13_byteAt : GoodIn wsX13_scan wsX13_byteAt := goodIn_r _ [11, 2, 3, 18, 19, 20, 21, 22, 23, 24, 25, 26, 27, 28, 29, 30, 31, 32, 33, 34, 35, 36, 37, 38, 39, 40, 41, 42, 43, 44, 45, 46, 47, 48, 49, 50, 51, 52, 53, 54, 55, 56, 57, 58, 59, 60, 61, 62, 63, 64, 65, 66, 67, 68, 69, 70, 71, 72, 73, 74, 75, 76, 77, 78, 79, 80, 81, 82, 83, 84, 85, 86, 87, 88, 89, 90] rfl (by decide +kernel)
set_option maxRecDepth 20000 in
theorem gX13_scan_X13_byteAt : GoodIn wsX13_scan (wsV RX13 27 RX13 yX13_byteAt wsX13_byteAt) := goodIn_app (goodIn_of _ (by decide +kernel)) ggX13_scan_X13_byteAt
set_option maxRecDepth 20000 in
theorem ggX13_scan_X13_isDigit : GoodIn wsX13_scan wsX13_isDigit := goodIn_r _ [17] rfl (by decide +kernel)
set_option maxRecDepth 20000 in
theorem gX13_scan_X13_isDigit : GoodIn wsX13_scan (va_wsS RX13 38 yX13_isDigit wsX13_isDigit) := goodIn_app (goodIn_of _ (by decide +kernel)) ggX13_scan_X13_isDigit
set_option maxRecDepth 20000 in
theorem ggX13_scan_X13_isSmall : GoodIn wsX13_scan wsX13_isSmall := goodIn_r _ [14] rfl (by decide +kernel)
set_option maxRecDepth 20000 in
theorem gX13_scan_X13_isSmall : GoodIn wsX13_scan (va_wsS RX13 34 yX13_isSmall wsX13_isSmall) := goodIn_app (goodIn_of _ (by decide +kernel)) ggX13_scan_X13_isSmall
set_option maxHeartbeats 4000000 in
set_option maxRecDepth 100000 in
theorem S_X13_scan (l : Launch) (D : va_G) (K : Nat → ClassId) (a : Nat → Nat) (G : gS) (pb : ((G 0 5).toInt ≤ (G 0 3).toInt)) (hI : yI G) (sz : Nat) : Kv l yX13_scan wsX13_scan 2 61 0 0 D [.ref (a 0)] (yW K a G) (tK K) sz (fun (G' : gS) => (yI G') ∧ (gu_un ycd [5, 6, 7, 8] G G') ∧ (((G' 0 5).toInt ≤ (G 0 3).toInt ∧ (G 0 5).toInt ≤ (G' 0 4).toInt ∧ (G' 0 4).toInt ≤ (G' 0 5).toInt)) ∧ ((((G' 0 6).toInt = 0 ∧ (G' 0 4).toInt = (G 0 3).toInt) ∨ ((G' 0 6).toInt ≠ 0 ∧ (G' 0 4).toInt < (G' 0 5).toInt))) ∧ (tTok (G 2) (G 0 3).toInt (G 0 5).toInt (G' 0 6).toInt (G' 0 4).toInt (G' 0 7).toInt (G' 0 5).toInt)) (fun (G' : gS) => (yW K a G')) (fun _ => (tK K)) := by
  unfold Kv
  refine g_ofW (cc := cX13_scan) (lv := [(0, .ref (a 0))]) (by decide) rfl (Nat.le_of_ble_eq_true rfl) rfl ?_
  intro p e s m args below meth c A Q hA hQ F hr hnm
  have hts := F.2.2.2.2.1
  have w_0 : (Cond.fieldLink RX13 24 "QuietCutModel" "behind" "I").before args s = true := hts _ (List.mem_of_getElem? (i := 1) rfl)
  have i_X13 : ∀ w ∈ u_ws RX13 TX13 73, w ∈ wsX13_scan := fun _ h => List.mem_cons_of_mem _ (List.mem_append_right _ h)
  have w_1 : (Cond.fieldLink RX13 7 "QuietCutModel" "from" "I").before args s = true := hts _ (List.mem_of_getElem? (i := 4) rfl)
  have w_2 : (Cond.fieldLink RX13 41 "QuietCutModel" "value" "I").before args s = true := hts _ (List.mem_of_getElem? (i := 6) rfl)
  have w_3 : (Cond.fieldLink RX13 31 "QuietCutModel" "hand" "I").before args s = true := hts _ (List.mem_of_getElem? (i := 5) rfl)
  have w_4 : (Cond.fieldLink RX13 17 "QuietCutModel" "length" "I").before args s = true := hts _ (List.mem_of_getElem? (i := 2) rfl)
  have w_5 : (Cond.fieldLink RX13 20 "QuietCutModel" "tape" "[B").before args s = true := hts _ (List.mem_of_getElem? (i := 3) rfl)
  have b1 : (0 : Int) ≤ (G 0 3).toInt ∧ (G 0 3).toInt ≤ 1000 := hI 0 3
  have b2 : (0 : Int) ≤ (G 0 5).toInt ∧ (G 0 5).toInt ≤ 1000 := hI 0 5
  have J_160 : ∀ (fuel : Nat) (Gj160 : gS), (2147483647 - (Gj160 0 5).toInt).toNat < fuel → (yI Gj160) → (gu_un ycd [5, 6, 8] G Gj160) → (((Gj160 0 4).toInt < (Gj160 0 5).toInt ∨ (48 ≤ yBi (G 2) (G 0 3).toInt (Gj160 0 5).toInt ∧ yBi (G 2) (G 0 3).toInt (Gj160 0 5).toInt ≤ 57))) → (tRun tBl (G 2) (G 0 3).toInt (G 0 5).toInt (Gj160 0 4).toInt) → (tPre tDi (G 2) (G 0 3).toInt (Gj160 0 4).toInt (Gj160 0 5).toInt) → ((Gj160 0 5).toInt - (Gj160 0 4).toInt ≤ 4 → (Gj160 0 7) = Int32.ofInt (tVal (G 2) (G 0 3).toInt (Gj160 0 4).toInt ((Gj160 0 5).toInt - (Gj160 0 4).toInt).toNat)) → (((Gj160 0 5).toInt ≤ (G 0 3).toInt)) → (((G 0 5).toInt ≤ (Gj160 0 5).toInt)) → (((G 0 5).toInt ≤ (Gj160 0 4).toInt ∧ (Gj160 0 4).toInt ≤ (Gj160 0 5).toInt)) → (((Gj160 0 4).toInt < (G 0 3).toInt)) → gG p l e (gR 2 0 0 61) s m args below meth c D A 3 Q 0 0 (yW K a Gj160) (tK K) [(0, .ref (a 0))] 160 [] := by
    intro fuel
    induction fuel with
    | zero => intro Gj160 hm; exact absurd hm (Nat.not_lt_zero _)
    | succ fuel_160 ih_160 =>
      intro Gj160 hm_160 jI160 jU160 w1 rr160 dp nv160 bl_160 fb_160 ff_160 fl_160
      have J_210 : ∀  (Gj210 : gS), (yI Gj210) → (gu_un ycd [8] Gj160 Gj210) → (((Gj160 0 5).toInt < (G 0 3).toInt)) → (tRun tBl (G 2) (G 0 3).toInt (G 0 5).toInt (Gj160 0 4).toInt) → (tPre tDi (G 2) (G 0 3).toInt (Gj160 0 4).toInt (Gj160 0 5).toInt) → (tDi (yBi (G 2) (G 0 3).toInt (Gj160 0 5).toInt)) → ((Gj160 0 5).toInt - (Gj160 0 4).toInt < 4 → (Gj210 0 7) = Int32.ofInt (tVal (G 2) (G 0 3).toInt (Gj160 0 4).toInt ((Gj160 0 5).toInt + 1 - (Gj160 0 4).toInt).toNat)) → (((Gj160 0 5).toInt ≤ (G 0 3).toInt)) → (((G 0 5).toInt ≤ (Gj160 0 5).toInt)) → (((G 0 5).toInt ≤ (Gj160 0 4).toInt ∧ (Gj160 0 4).toInt ≤ (Gj160 0 5).toInt)) → (((Gj160 0 4).toInt < (G 0 3).toInt)) → gG p l e (gR 2 0 0 61) s m args below meth c D A 3 Q 0 0 (yW K a Gj210) (tK K) [(0, .ref (a 0))] 210 [] := by
        intro Gj210 jI210 jU210 g1 rr210 dp2 di2 nv210 bl_210 fb_210 ff_210 fl_210
        refine g_aload_n F 0 dX13_scan_210 rfl rfl ?_
        refine g_dup F dX13_scan_211 rfl ?_
        refine yg_0_5 F i_X13 w_0 dX13_scan_212 (Gj160 0 5) (jU210 0 5 (by decide)) ?_
        refine g_iconst F 1 dX13_scan_215 (by decide) ?_
        have b4 : (0 : Int) ≤ (Gj160 0 5).toInt ∧ (Gj160 0 5).toInt ≤ 1000 := jI160 0 5
        refine u_iadd F dX13_scan_216 (Gj160 0 5).toInt 1 rfl rfl (by omega) (by omega) (fun y3 ey3 => ?_)
        refine yp_0_5 F i_X13 w_0 dX13_scan_217 ?_
        refine g_goto F 160 dX13_scan_220 (by decide) ?_
        have b5 : (0 : Int) ≤ (Gj160 0 4).toInt ∧ (Gj160 0 4).toInt ≤ 1000 := jI160 0 4
        exact ih_160 (gu_up Gj210 0 5 y3) (by have e9_0_5 : (gu_up Gj210 0 5 y3) 0 5 = y3 := rfl; (try simp only [e9_0_5, true_and, and_true]) <;> omega) (gu_I.up (j := 0) (k := 5) (v := y3) jI210 (show (0 : Int) ≤ Int32.toInt y3 by omega) (show Int32.toInt y3 ≤ 1000 by omega)) (gu_un.up (j := 0) (k := 5) (v := y3) (gu_un.tr (gu_un.tr gu_un.rf (gu_un.su jU160 rfl)) (gu_un.su jU210 rfl)) (show (6 : Nat) ∈ ([5, 6, 8] : List Nat) by decide)) (by have e9_0_4 : (gu_up Gj210 0 5 y3) 0 4 = (Gj160 0 4) := jU210 0 4 (by decide); have e9_0_5 : (gu_up Gj210 0 5 y3) 0 5 = y3 := rfl; (try simp only [e9_0_4, e9_0_5, true_and, and_true]) <;> (first | omega | (simp only [Int32.reduceToInt, true_and, and_true, ne_eq, not_true_eq_false, false_and, or_false, false_or, true_or, or_true, false_implies] <;> omega))) (by (try rw [show (gu_up Gj210 0 5 y3) 0 4 = (Gj160 0 4) from jU210 0 4 (by decide)]); exact rr210) (by (try rw [show (gu_up Gj210 0 5 y3) 0 4 = (Gj160 0 4) from jU210 0 4 (by decide)]); (try rw [show (gu_up Gj210 0 5 y3) 0 5 = y3 from rfl]); exact tPre.step dp2 (by omega) di2 (by omega)) (by (try rw [show (gu_up Gj210 0 5 y3) 0 4 = (Gj160 0 4) from jU210 0 4 (by decide)]); (try rw [show (gu_up Gj210 0 5 y3) 0 5 = y3 from rfl]); (try rw [show (gu_up Gj210 0 5 y3) 0 7 = (Gj210 0 7) from rfl]); intro h9; have h8 := nv210 (by omega); rw [show y3.toInt = (Gj160 0 5).toInt + 1 by omega]; exact h8) (by have e9_0_3 : (gu_up Gj210 0 5 y3) 0 3 = (G 0 3) := (jU210 0 3 (by decide)).trans (jU160 0 3 (by decide)); have e9_0_5 : (gu_up Gj210 0 5 y3) 0 5 = y3 := rfl; (try simp only [e9_0_3, e9_0_5, true_and, and_true]) <;> (first | omega | (simp only [Int32.reduceToInt, true_and, and_true, ne_eq, not_true_eq_false, false_and, or_false, false_or, true_or, or_true, false_implies] <;> omega))) (by have e9_0_5 : (gu_up Gj210 0 5 y3) 0 5 = y3 := rfl; (try simp only [e9_0_5, true_and, and_true]) <;> (first | omega | (simp only [Int32.reduceToInt, true_and, and_true, ne_eq, not_true_eq_false, false_and, or_false, false_or, true_or, or_true, false_implies] <;> omega))) (by have e9_0_4 : (gu_up Gj210 0 5 y3) 0 4 = (Gj160 0 4) := jU210 0 4 (by decide); have e9_0_5 : (gu_up Gj210 0 5 y3) 0 5 = y3 := rfl; (try simp only [e9_0_4, e9_0_5, true_and, and_true]) <;> (first | omega | (simp only [Int32.reduceToInt, true_and, and_true, ne_eq, not_true_eq_false, false_and, or_false, false_or, true_or, or_true, false_implies] <;> omega))) (by have e9_0_3 : (gu_up Gj210 0 5 y3) 0 3 = (G 0 3) := (jU210 0 3 (by decide)).trans (jU160 0 3 (by decide)); have e9_0_4 : (gu_up Gj210 0 5 y3) 0 4 = (Gj160 0 4) := jU210 0 4 (by decide); (try simp only [e9_0_3, e9_0_4, true_and, and_true]) <;> (first | omega | (simp only [Int32.reduceToInt, true_and, and_true, ne_eq, not_true_eq_false, false_and, or_false, false_or, true_or, or_true, false_implies] <;> omega)))
      refine g_aload_n F 0 dX13_scan_160 rfl rfl ?_
      refine g_aload_n F 0 dX13_scan_161 rfl rfl ?_
      refine yg_0_5 F i_X13 w_0 dX13_scan_162 (Gj160 0 5) (rfl) ?_
      have b6 : (0 : Int) ≤ (Gj160 0 5).toInt ∧ (Gj160 0 5).toInt ≤ 1000 := jI160 0 5
      refine u_callVi (k := 0) (n := 0) (b := a 0) (As := [.int (Gj160 0 5)]) (st := []) F (fun sz => S_X13_byteAt l D K a Gj160 (Gj160 0 5) (Gj160 0 5).toInt rfl (by omega) jI160 sz) (cwV 1 hts gX13_scan_X13_byteAt rfl rfl rfl (by decide +kernel) ⟨Nat.le_of_ble_eq_true rfl, Nat.le_of_ble_eq_true rfl⟩) rfl 0 yc_0 rfl (Nat.le_of_ble_eq_true rfl) ⟨Nat.zero_le _, Nat.zero_le _⟩ dX13_scan_165 (fun r7 _ hw8 => ?_)
      have q10 : (0 ≤ r7.toInt ∧ r7.toInt ≤ 255) := hw8.1
      have q11 : (r7.toInt ≠ 0 → (Gj160 0 5).toInt < (G 0 3).toInt) := by have h9 := hw8.2.1; (try simp only [(show Gj160 0 3 = (G 0 3) from jU160 0 3 (by decide))] at h9); first | exact h9 | omega
      have q12 : (r7.toInt = yBi (G 2) (G 0 3).toInt (Gj160 0 5).toInt) := by have h9 := hw8.2.2; (try simp only [(show Gj160 0 3 = (G 0 3) from jU160 0 3 (by decide)), (show Gj160 2 = (G 2) from (show Gj160 2 = G 2 from funext fun k_ => jU160 2 k_ (show (200 : Nat) ∉ ([5, 6, 8] : List Nat) by decide)))] at h9); first | exact h9 | omega
      clear hw8
      refine u_call0 (k := 0) (n := 0) (As := [.int r7]) (st := []) F (fun sz => S_X13_isDigit l D r7 r7.toInt rfl sz) (va_cwS 1 hts gX13_scan_X13_isDigit rfl rfl rfl (by decide +kernel) ⟨Nat.le_of_ble_eq_true rfl, Nat.le_of_ble_eq_true rfl⟩) rfl (Nat.le_of_ble_eq_true rfl) ⟨Nat.zero_le _, Nat.zero_le _⟩ dX13_scan_168 (fun r13 _ hw14 => ?_)
      rcases hw14 with ⟨rfl, q16⟩ | ⟨rfl, q17⟩
      · refine v_if_eq F 223 dX13_scan_171 (by decide) 1 rfl (fun c18 => absurd c18 (by decide)) (fun c18 => ?_)
        refine g_aload_n F 0 dX13_scan_174 rfl rfl ?_
        refine yg_0_5 F i_X13 w_0 dX13_scan_175 (Gj160 0 5) (rfl) ?_
        refine g_aload_n F 0 dX13_scan_178 rfl rfl ?_
        refine yg_0_4 F i_X13 w_1 dX13_scan_179 (Gj160 0 4) (rfl) ?_
        have b20 : (0 : Int) ≤ (Gj160 0 4).toInt ∧ (Gj160 0 4).toInt ≤ 1000 := jI160 0 4
        refine u_isub F dX13_scan_182 (Gj160 0 5).toInt (Gj160 0 4).toInt rfl rfl (by omega) (by omega) (fun y19 ey19 => ?_)
        refine g_iconst F 4 dX13_scan_183 (by decide) ?_
        refine v_icmp_ge F 210 dX13_scan_184 (by decide) y19.toInt 4 rfl rfl (fun c21 => ?_) (fun c21 => ?_)
        · exact J_210 Gj160 jI160 gu_un.rf (by have e9_0_3 : Gj160 0 3 = (G 0 3) := jU160 0 3 (by decide); (try simp only [e9_0_3, true_and, and_true]) <;> (first | omega | (simp only [Int32.reduceToInt, true_and, and_true, ne_eq, not_true_eq_false, false_and, or_false, false_or, true_or, or_true, false_implies] <;> omega))) (by exact rr160) (by exact dp) (by have h9 := q12; show 48 ≤ _ ∧ _ ≤ 57; omega) (fun h9 => absurd h9 (by omega)) (by have e9_0_3 : Gj160 0 3 = (G 0 3) := jU160 0 3 (by decide); (try simp only [e9_0_3, true_and, and_true]) <;> (first | omega | (simp only [Int32.reduceToInt, true_and, and_true, ne_eq, not_true_eq_false, false_and, or_false, false_or, true_or, or_true, false_implies] <;> omega))) (by (first | omega | (simp only [Int32.reduceToInt, true_and, and_true, ne_eq, not_true_eq_false, false_and, or_false, false_or, true_or, or_true, false_implies] <;> omega))) (by (first | omega | (simp only [Int32.reduceToInt, true_and, and_true, ne_eq, not_true_eq_false, false_and, or_false, false_or, true_or, or_true, false_implies] <;> omega))) (by have e9_0_3 : Gj160 0 3 = (G 0 3) := jU160 0 3 (by decide); (try simp only [e9_0_3, true_and, and_true]) <;> (first | omega | (simp only [Int32.reduceToInt, true_and, and_true, ne_eq, not_true_eq_false, false_and, or_false, false_or, true_or, or_true, false_implies] <;> omega)))
        · refine g_aload_n F 0 dX13_scan_187 rfl rfl ?_
          refine g_bipush F 10 dX13_scan_188 (by decide) ?_
          refine g_aload_n F 0 dX13_scan_190 rfl rfl ?_
          refine yg_0_7 F i_X13 w_2 dX13_scan_191 (Gj160 0 7) (rfl) ?_
          refine g_imul F dX13_scan_194 ?_
          refine g_aload_n F 0 dX13_scan_195 rfl rfl ?_
          refine g_aload_n F 0 dX13_scan_196 rfl rfl ?_
          refine yg_0_5 F i_X13 w_0 dX13_scan_197 (Gj160 0 5) (rfl) ?_
          refine u_callVi (k := 0) (n := 0) (b := a 0) (As := [.int (Gj160 0 5)]) (st := [.int (10 * (Gj160 0 7)), .ref (a 0)]) F (fun sz => S_X13_byteAt l D K a Gj160 (Gj160 0 5) (Gj160 0 5).toInt rfl (by omega) jI160 sz) (cwV 1 hts gX13_scan_X13_byteAt rfl rfl rfl (by decide +kernel) ⟨Nat.le_of_ble_eq_true rfl, Nat.le_of_ble_eq_true rfl⟩) rfl 0 yc_0 rfl (Nat.le_of_ble_eq_true rfl) ⟨Nat.zero_le _, Nat.zero_le _⟩ dX13_scan_200 (fun r22 _ hw23 => ?_)
          have q25 : (0 ≤ r22.toInt ∧ r22.toInt ≤ 255) := hw23.1
          have q26 : (r22.toInt ≠ 0 → (Gj160 0 5).toInt < (G 0 3).toInt) := by have h9 := hw23.2.1; (try simp only [(show Gj160 0 3 = (G 0 3) from jU160 0 3 (by decide))] at h9); first | exact h9 | omega
          have q27 : (r22.toInt = yBi (G 2) (G 0 3).toInt (Gj160 0 5).toInt) := by have h9 := hw23.2.2; (try simp only [(show Gj160 0 3 = (G 0 3) from jU160 0 3 (by decide)), (show Gj160 2 = (G 2) from (show Gj160 2 = G 2 from funext fun k_ => jU160 2 k_ (show (200 : Nat) ∉ ([5, 6, 8] : List Nat) by decide)))] at h9); first | exact h9 | omega
          clear hw23
          refine g_iadd F dX13_scan_203 ?_
          refine g_bipush F 48 dX13_scan_204 (by decide) ?_
          refine g_isub F dX13_scan_206 ?_
          have vb : 0 ≤ ((((10 * (Gj160 0 7)) + r22) - 48) : Int32).toInt ∧ ((((10 * (Gj160 0 7)) + r22) - 48) : Int32).toInt ≤ 9999 := tVal_bd (b := G 2) (n := (G 0 3).toInt) (p := (Gj160 0 4).toInt) (q := (Gj160 0 5).toInt + 1) (tPre.step dp (by omega) (by have h9 := q12; show 48 ≤ _ ∧ _ ≤ 57; omega) (by omega)) (by omega) (tVal_i32c (nv160 (by omega)) (q27) (by omega) (by omega))
          refine yp_0_7 F i_X13 w_2 dX13_scan_207 ?_
          exact J_210 (gu_up Gj160 0 7 (((10 * (Gj160 0 7)) + r22) - 48)) (gu_I.up (j := 0) (k := 7) (v := (((10 * (Gj160 0 7)) + r22) - 48)) jI160 (show (0 : Int) ≤ Int32.toInt (((10 * (Gj160 0 7)) + r22) - 48) by omega) (show Int32.toInt (((10 * (Gj160 0 7)) + r22) - 48) ≤ 9999 by omega)) (gu_un.up (j := 0) (k := 7) (v := (((10 * (Gj160 0 7)) + r22) - 48)) gu_un.rf (show (8 : Nat) ∈ ([8] : List Nat) by decide)) (by have e9_0_3 : (gu_up Gj160 0 7 (((10 * (Gj160 0 7)) + r22) - 48)) 0 3 = (G 0 3) := jU160 0 3 (by decide); have e9_0_5 : (gu_up Gj160 0 7 (((10 * (Gj160 0 7)) + r22) - 48)) 0 5 = (Gj160 0 5) := rfl; (try simp only [e9_0_3, e9_0_5, true_and, and_true]) <;> (first | omega | (simp only [Int32.reduceToInt, true_and, and_true, ne_eq, not_true_eq_false, false_and, or_false, false_or, true_or, or_true, false_implies] <;> omega))) (by (try rw [show (gu_up Gj160 0 7 (((10 * (Gj160 0 7)) + r22) - 48)) 0 4 = (Gj160 0 4) from rfl]); exact rr160) (by (try rw [show (gu_up Gj160 0 7 (((10 * (Gj160 0 7)) + r22) - 48)) 0 4 = (Gj160 0 4) from rfl]); (try rw [show (gu_up Gj160 0 7 (((10 * (Gj160 0 7)) + r22) - 48)) 0 5 = (Gj160 0 5) from rfl]); exact dp) (by (try rw [show (gu_up Gj160 0 7 (((10 * (Gj160 0 7)) + r22) - 48)) 0 5 = (Gj160 0 5) from rfl]); have h9 := q12; show 48 ≤ _ ∧ _ ≤ 57; omega) (by (try rw [show (gu_up Gj160 0 7 (((10 * (Gj160 0 7)) + r22) - 48)) 0 4 = (Gj160 0 4) from rfl]); (try rw [show (gu_up Gj160 0 7 (((10 * (Gj160 0 7)) + r22) - 48)) 0 5 = (Gj160 0 5) from rfl]); (try rw [show (gu_up Gj160 0 7 (((10 * (Gj160 0 7)) + r22) - 48)) 0 7 = (((10 * (Gj160 0 7)) + r22) - 48) from rfl]); intro h9; exact tVal_i32c (nv160 (by omega)) (q27) (by omega) (by omega)) (by have e9_0_3 : (gu_up Gj160 0 7 (((10 * (Gj160 0 7)) + r22) - 48)) 0 3 = (G 0 3) := jU160 0 3 (by decide); have e9_0_5 : (gu_up Gj160 0 7 (((10 * (Gj160 0 7)) + r22) - 48)) 0 5 = (Gj160 0 5) := rfl; (try simp only [e9_0_3, e9_0_5, true_and, and_true]) <;> (first | omega | (simp only [Int32.reduceToInt, true_and, and_true, ne_eq, not_true_eq_false, false_and, or_false, false_or, true_or, or_true, false_implies] <;> omega))) (by have e9_0_5 : (gu_up Gj160 0 7 (((10 * (Gj160 0 7)) + r22) - 48)) 0 5 = (Gj160 0 5) := rfl; (try simp only [e9_0_5, true_and, and_true]) <;> (first | omega | (simp only [Int32.reduceToInt, true_and, and_true, ne_eq, not_true_eq_false, false_and, or_false, false_or, true_or, or_true, false_implies] <;> omega))) (by have e9_0_4 : (gu_up Gj160 0 7 (((10 * (Gj160 0 7)) + r22) - 48)) 0 4 = (Gj160 0 4) := rfl; have e9_0_5 : (gu_up Gj160 0 7 (((10 * (Gj160 0 7)) + r22) - 48)) 0 5 = (Gj160 0 5) := rfl; (try simp only [e9_0_4, e9_0_5, true_and, and_true]) <;> (first | omega | (simp only [Int32.reduceToInt, true_and, and_true, ne_eq, not_true_eq_false, false_and, or_false, false_or, true_or, or_true, false_implies] <;> omega))) (by have e9_0_3 : (gu_up Gj160 0 7 (((10 * (Gj160 0 7)) + r22) - 48)) 0 3 = (G 0 3) := jU160 0 3 (by decide); have e9_0_4 : (gu_up Gj160 0 7 (((10 * (Gj160 0 7)) + r22) - 48)) 0 4 = (Gj160 0 4) := rfl; (try simp only [e9_0_3, e9_0_4, true_and, and_true]) <;> (first | omega | (simp only [Int32.reduceToInt, true_and, and_true, ne_eq, not_true_eq_false, false_and, or_false, false_or, true_or, or_true, false_implies] <;> omega)))
      · refine v_if_eq F 223 dX13_scan_171 (by decide) 0 rfl (fun c28 => ?_) (fun c28 => absurd c28 (by decide))
        refine g_aload_n F 0 dX13_scan_223 rfl rfl ?_
        refine g_aload_n F 0 dX13_scan_224 rfl rfl ?_
        refine yg_0_5 F i_X13 w_0 dX13_scan_225 (Gj160 0 5) (rfl) ?_
        refine g_aload_n F 0 dX13_scan_228 rfl rfl ?_
        refine yg_0_4 F i_X13 w_1 dX13_scan_229 (Gj160 0 4) (rfl) ?_
        have b30 : (0 : Int) ≤ (Gj160 0 4).toInt ∧ (Gj160 0 4).toInt ≤ 1000 := jI160 0 4
        refine u_isub F dX13_scan_232 (Gj160 0 5).toInt (Gj160 0 4).toInt rfl rfl (by omega) (by omega) (fun y29 ey29 => ?_)
        refine g_iconst F 4 dX13_scan_233 (by decide) ?_
        refine v_icmp_le F 241 dX13_scan_234 (by decide) y29.toInt 4 rfl rfl (fun c31 => ?_) (fun c31 => ?_)
        · refine g_iconst F 2 dX13_scan_241 (by decide) ?_
          refine yp_0_6 F i_X13 w_3 dX13_scan_242 ?_
          refine g_goto F 330 dX13_scan_245 (by decide) ?_
          exact u_vret F hA hQ hr (gu_up Gj160 0 6 2) (⟨(gu_I.up (j := 0) (k := 6) (v := 2) jI160 (show (0 : Int) ≤ (2 : Int32).toInt by decide) (show (2 : Int32).toInt ≤ 4 by decide)), (gu_un.up (j := 0) (k := 6) (v := 2) (gu_un.tr gu_un.rf (gu_un.su jU160 rfl)) (show (7 : Nat) ∈ ([5, 6, 7, 8] : List Nat) by decide)), (by show (((gu_up Gj160 0 6 2) 0 5).toInt ≤ (G 0 3).toInt ∧ (G 0 5).toInt ≤ ((gu_up Gj160 0 6 2) 0 4).toInt ∧ ((gu_up Gj160 0 6 2) 0 4).toInt ≤ ((gu_up Gj160 0 6 2) 0 5).toInt); have e9_0_4 : (gu_up Gj160 0 6 2) 0 4 = (Gj160 0 4) := rfl; have e9_0_5 : (gu_up Gj160 0 6 2) 0 5 = (Gj160 0 5) := rfl; (try simp only [e9_0_4, e9_0_5, true_and, and_true]) <;> (first | omega | (simp only [Int32.reduceToInt, true_and, and_true, ne_eq, not_true_eq_false, false_and, or_false, false_or, true_or, or_true, false_implies] <;> omega))), (by show ((((gu_up Gj160 0 6 2) 0 6).toInt = 0 ∧ ((gu_up Gj160 0 6 2) 0 4).toInt = (G 0 3).toInt) ∨ (((gu_up Gj160 0 6 2) 0 6).toInt ≠ 0 ∧ ((gu_up Gj160 0 6 2) 0 4).toInt < ((gu_up Gj160 0 6 2) 0 5).toInt)); have e9_0_4 : (gu_up Gj160 0 6 2) 0 4 = (Gj160 0 4) := rfl; have e9_0_5 : (gu_up Gj160 0 6 2) 0 5 = (Gj160 0 5) := rfl; have e9_0_6 : (gu_up Gj160 0 6 2) 0 6 = 2 := rfl; (try simp only [e9_0_4, e9_0_5, e9_0_6, true_and, and_true]) <;> (first | omega | (simp only [Int32.reduceToInt, true_and, and_true, ne_eq, not_true_eq_false, false_and, or_false, false_or, true_or, or_true, false_implies] <;> omega))), (by have hx := q12; have r2 : tRun tDi (G 2) (G 0 3).toInt (Gj160 0 4).toInt (Gj160 0 5).toInt := ⟨dp, fun h8 => by have h7 : tDi _ := h8.2; omega⟩; (try rw [show (gu_up Gj160 0 6 2) 0 4 = (Gj160 0 4) from rfl]); (try rw [show (gu_up Gj160 0 6 2) 0 5 = (Gj160 0 5) from rfl]); (try rw [show (gu_up Gj160 0 6 2) 0 6 = 2 from rfl]); (try rw [show (gu_up Gj160 0 6 2) 0 7 = (Gj160 0 7) from rfl]); exact ⟨rr160, Or.inr (Or.inr (Or.inl ⟨by omega, (show tDi _ from (r2.1.2 _ (by omega) (by omega)).2), r2, Or.inl ⟨by omega, by decide, by rw [nv160 (by omega)]; exact tVal_small r2.1 (by omega)⟩⟩))⟩)⟩) rfl rfl dX13_scan_330
        · refine g_iconst F 4 dX13_scan_237 (by decide) ?_
          refine g_goto F 242 dX13_scan_238 (by decide) ?_
          refine yp_0_6 F i_X13 w_3 dX13_scan_242 ?_
          refine g_goto F 330 dX13_scan_245 (by decide) ?_
          exact u_vret F hA hQ hr (gu_up Gj160 0 6 4) (⟨(gu_I.up (j := 0) (k := 6) (v := 4) jI160 (show (0 : Int) ≤ (4 : Int32).toInt by decide) (show (4 : Int32).toInt ≤ 4 by decide)), (gu_un.up (j := 0) (k := 6) (v := 4) (gu_un.tr gu_un.rf (gu_un.su jU160 rfl)) (show (7 : Nat) ∈ ([5, 6, 7, 8] : List Nat) by decide)), (by show (((gu_up Gj160 0 6 4) 0 5).toInt ≤ (G 0 3).toInt ∧ (G 0 5).toInt ≤ ((gu_up Gj160 0 6 4) 0 4).toInt ∧ ((gu_up Gj160 0 6 4) 0 4).toInt ≤ ((gu_up Gj160 0 6 4) 0 5).toInt); have e9_0_4 : (gu_up Gj160 0 6 4) 0 4 = (Gj160 0 4) := rfl; have e9_0_5 : (gu_up Gj160 0 6 4) 0 5 = (Gj160 0 5) := rfl; (try simp only [e9_0_4, e9_0_5, true_and, and_true]) <;> (first | omega | (simp only [Int32.reduceToInt, true_and, and_true, ne_eq, not_true_eq_false, false_and, or_false, false_or, true_or, or_true, false_implies] <;> omega))), (by show ((((gu_up Gj160 0 6 4) 0 6).toInt = 0 ∧ ((gu_up Gj160 0 6 4) 0 4).toInt = (G 0 3).toInt) ∨ (((gu_up Gj160 0 6 4) 0 6).toInt ≠ 0 ∧ ((gu_up Gj160 0 6 4) 0 4).toInt < ((gu_up Gj160 0 6 4) 0 5).toInt)); have e9_0_4 : (gu_up Gj160 0 6 4) 0 4 = (Gj160 0 4) := rfl; have e9_0_5 : (gu_up Gj160 0 6 4) 0 5 = (Gj160 0 5) := rfl; have e9_0_6 : (gu_up Gj160 0 6 4) 0 6 = 4 := rfl; (try simp only [e9_0_4, e9_0_5, e9_0_6, true_and, and_true]) <;> (first | omega | (simp only [Int32.reduceToInt, true_and, and_true, ne_eq, not_true_eq_false, false_and, or_false, false_or, true_or, or_true, false_implies] <;> omega))), (by have hx := q12; have r2 : tRun tDi (G 2) (G 0 3).toInt (Gj160 0 4).toInt (Gj160 0 5).toInt := ⟨dp, fun h8 => by have h7 : tDi _ := h8.2; omega⟩; (try rw [show (gu_up Gj160 0 6 4) 0 4 = (Gj160 0 4) from rfl]); (try rw [show (gu_up Gj160 0 6 4) 0 5 = (Gj160 0 5) from rfl]); (try rw [show (gu_up Gj160 0 6 4) 0 6 = 4 from rfl]); (try rw [show (gu_up Gj160 0 6 4) 0 7 = (Gj160 0 7) from rfl]); exact ⟨rr160, Or.inr (Or.inr (Or.inl ⟨by omega, (show tDi _ from (r2.1.2 _ (by omega) (by omega)).2), r2, Or.inr ⟨by omega, by decide⟩⟩))⟩)⟩) rfl rfl dX13_scan_330
  have J_95 : ∀ (fuel : Nat) (Gj95 : gS), (2147483647 - (Gj95 0 5).toInt).toNat < fuel → (yI Gj95) → (gu_un ycd [5, 6] G Gj95) → (((Gj95 0 4).toInt < (Gj95 0 5).toInt ∨ (97 ≤ yBi (G 2) (G 0 3).toInt (Gj95 0 5).toInt ∧ yBi (G 2) (G 0 3).toInt (Gj95 0 5).toInt ≤ 122))) → (tRun tBl (G 2) (G 0 3).toInt (G 0 5).toInt (Gj95 0 4).toInt) → (tPre tLe (G 2) (G 0 3).toInt (Gj95 0 4).toInt (Gj95 0 5).toInt) → (((Gj95 0 5).toInt ≤ (G 0 3).toInt)) → (((G 0 5).toInt ≤ (Gj95 0 5).toInt)) → (((G 0 5).toInt ≤ (Gj95 0 4).toInt ∧ (Gj95 0 4).toInt ≤ (Gj95 0 5).toInt)) → (((Gj95 0 4).toInt < (G 0 3).toInt)) → gG p l e (gR 2 0 0 61) s m args below meth c D A 3 Q 0 0 (yW K a Gj95) (tK K) [(0, .ref (a 0))] 95 [] := by
    intro fuel
    induction fuel with
    | zero => intro Gj95 hm; exact absurd hm (Nat.not_lt_zero _)
    | succ fuel_95 ih_95 =>
      intro Gj95 hm_95 jI95 jU95 w1 rr95 wp bl_95 fb_95 ff_95 fl_95
      refine g_aload_n F 0 dX13_scan_95 rfl rfl ?_
      refine g_aload_n F 0 dX13_scan_96 rfl rfl ?_
      refine yg_0_5 F i_X13 w_0 dX13_scan_97 (Gj95 0 5) (rfl) ?_
      have b32 : (0 : Int) ≤ (Gj95 0 5).toInt ∧ (Gj95 0 5).toInt ≤ 1000 := jI95 0 5
      refine u_callVi (k := 0) (n := 0) (b := a 0) (As := [.int (Gj95 0 5)]) (st := []) F (fun sz => S_X13_byteAt l D K a Gj95 (Gj95 0 5) (Gj95 0 5).toInt rfl (by omega) jI95 sz) (cwV 1 hts gX13_scan_X13_byteAt rfl rfl rfl (by decide +kernel) ⟨Nat.le_of_ble_eq_true rfl, Nat.le_of_ble_eq_true rfl⟩) rfl 0 yc_0 rfl (Nat.le_of_ble_eq_true rfl) ⟨Nat.zero_le _, Nat.zero_le _⟩ dX13_scan_100 (fun r33 _ hw34 => ?_)
      have q36 : (0 ≤ r33.toInt ∧ r33.toInt ≤ 255) := hw34.1
      have q37 : (r33.toInt ≠ 0 → (Gj95 0 5).toInt < (G 0 3).toInt) := by have h9 := hw34.2.1; (try simp only [(show Gj95 0 3 = (G 0 3) from jU95 0 3 (by decide))] at h9); first | exact h9 | omega
      have q38 : (r33.toInt = yBi (G 2) (G 0 3).toInt (Gj95 0 5).toInt) := by have h9 := hw34.2.2; (try simp only [(show Gj95 0 3 = (G 0 3) from jU95 0 3 (by decide)), (show Gj95 2 = (G 2) from (show Gj95 2 = G 2 from funext fun k_ => jU95 2 k_ (show (200 : Nat) ∉ ([5, 6] : List Nat) by decide)))] at h9); first | exact h9 | omega
      clear hw34
      refine u_call0 (k := 0) (n := 0) (As := [.int r33]) (st := []) F (fun sz => S_X13_isSmall l D r33 r33.toInt rfl sz) (va_cwS 1 hts gX13_scan_X13_isSmall rfl rfl rfl (by decide +kernel) ⟨Nat.le_of_ble_eq_true rfl, Nat.le_of_ble_eq_true rfl⟩) rfl (Nat.le_of_ble_eq_true rfl) ⟨Nat.zero_le _, Nat.zero_le _⟩ dX13_scan_103 (fun r39 _ hw40 => ?_)
      rcases hw40 with ⟨rfl, q42⟩ | ⟨rfl, q43⟩
      · refine v_if_eq F 122 dX13_scan_106 (by decide) 1 rfl (fun c44 => absurd c44 (by decide)) (fun c44 => ?_)
        refine g_aload_n F 0 dX13_scan_109 rfl rfl ?_
        refine g_dup F dX13_scan_110 rfl ?_
        refine yg_0_5 F i_X13 w_0 dX13_scan_111 (Gj95 0 5) (rfl) ?_
        refine g_iconst F 1 dX13_scan_114 (by decide) ?_
        refine u_iadd F dX13_scan_115 (Gj95 0 5).toInt 1 rfl rfl (by omega) (by omega) (fun y45 ey45 => ?_)
        refine yp_0_5 F i_X13 w_0 dX13_scan_116 ?_
        refine g_goto F 95 dX13_scan_119 (by decide) ?_
        have b46 : (0 : Int) ≤ (Gj95 0 4).toInt ∧ (Gj95 0 4).toInt ≤ 1000 := jI95 0 4
        exact ih_95 (gu_up Gj95 0 5 y45) (by have e9_0_5 : (gu_up Gj95 0 5 y45) 0 5 = y45 := rfl; (try simp only [e9_0_5, true_and, and_true]) <;> omega) (gu_I.up (j := 0) (k := 5) (v := y45) jI95 (show (0 : Int) ≤ Int32.toInt y45 by omega) (show Int32.toInt y45 ≤ 1000 by omega)) (gu_un.up (j := 0) (k := 5) (v := y45) (gu_un.tr gu_un.rf (gu_un.su jU95 rfl)) (show (6 : Nat) ∈ ([5, 6] : List Nat) by decide)) (by have e9_0_4 : (gu_up Gj95 0 5 y45) 0 4 = (Gj95 0 4) := rfl; have e9_0_5 : (gu_up Gj95 0 5 y45) 0 5 = y45 := rfl; (try simp only [e9_0_4, e9_0_5, true_and, and_true]) <;> (first | omega | (simp only [Int32.reduceToInt, true_and, and_true, ne_eq, not_true_eq_false, false_and, or_false, false_or, true_or, or_true, false_implies] <;> omega))) (by (try rw [show (gu_up Gj95 0 5 y45) 0 4 = (Gj95 0 4) from rfl]); exact rr95) (by (try rw [show (gu_up Gj95 0 5 y45) 0 4 = (Gj95 0 4) from rfl]); (try rw [show (gu_up Gj95 0 5 y45) 0 5 = y45 from rfl]); exact tPre.step wp (by omega) (by have h9 := q38; show 97 ≤ _ ∧ _ ≤ 122; omega) (by omega)) (by have e9_0_3 : (gu_up Gj95 0 5 y45) 0 3 = (G 0 3) := jU95 0 3 (by decide); have e9_0_5 : (gu_up Gj95 0 5 y45) 0 5 = y45 := rfl; (try simp only [e9_0_3, e9_0_5, true_and, and_true]) <;> (first | omega | (simp only [Int32.reduceToInt, true_and, and_true, ne_eq, not_true_eq_false, false_and, or_false, false_or, true_or, or_true, false_implies] <;> omega))) (by have e9_0_5 : (gu_up Gj95 0 5 y45) 0 5 = y45 := rfl; (try simp only [e9_0_5, true_and, and_true]) <;> (first | omega | (simp only [Int32.reduceToInt, true_and, and_true, ne_eq, not_true_eq_false, false_and, or_false, false_or, true_or, or_true, false_implies] <;> omega))) (by have e9_0_4 : (gu_up Gj95 0 5 y45) 0 4 = (Gj95 0 4) := rfl; have e9_0_5 : (gu_up Gj95 0 5 y45) 0 5 = y45 := rfl; (try simp only [e9_0_4, e9_0_5, true_and, and_true]) <;> (first | omega | (simp only [Int32.reduceToInt, true_and, and_true, ne_eq, not_true_eq_false, false_and, or_false, false_or, true_or, or_true, false_implies] <;> omega))) (by have e9_0_3 : (gu_up Gj95 0 5 y45) 0 3 = (G 0 3) := jU95 0 3 (by decide); have e9_0_4 : (gu_up Gj95 0 5 y45) 0 4 = (Gj95 0 4) := rfl; (try simp only [e9_0_3, e9_0_4, true_and, and_true]) <;> (first | omega | (simp only [Int32.reduceToInt, true_and, and_true, ne_eq, not_true_eq_false, false_and, or_false, false_or, true_or, or_true, false_implies] <;> omega)))
      · refine v_if_eq F 122 dX13_scan_106 (by decide) 0 rfl (fun c47 => ?_) (fun c47 => absurd c47 (by decide))
        refine g_aload_n F 0 dX13_scan_122 rfl rfl ?_
        refine g_aload_n F 0 dX13_scan_123 rfl rfl ?_
        refine yg_0_5 F i_X13 w_0 dX13_scan_124 (Gj95 0 5) (rfl) ?_
        refine g_aload_n F 0 dX13_scan_127 rfl rfl ?_
        refine yg_0_4 F i_X13 w_1 dX13_scan_128 (Gj95 0 4) (rfl) ?_
        have b49 : (0 : Int) ≤ (Gj95 0 4).toInt ∧ (Gj95 0 4).toInt ≤ 1000 := jI95 0 4
        refine u_isub F dX13_scan_131 (Gj95 0 5).toInt (Gj95 0 4).toInt rfl rfl (by omega) (by omega) (fun y48 ey48 => ?_)
        refine g_bipush F 8 dX13_scan_132 (by decide) ?_
        refine v_icmp_le F 141 dX13_scan_134 (by decide) y48.toInt 8 rfl rfl (fun c50 => ?_) (fun c50 => ?_)
        · refine g_iconst F 1 dX13_scan_141 (by decide) ?_
          refine yp_0_6 F i_X13 w_3 dX13_scan_142 ?_
          refine g_goto F 330 dX13_scan_145 (by decide) ?_
          exact u_vret F hA hQ hr (gu_up Gj95 0 6 1) (⟨(gu_I.up (j := 0) (k := 6) (v := 1) jI95 (show (0 : Int) ≤ (1 : Int32).toInt by decide) (show (1 : Int32).toInt ≤ 4 by decide)), (gu_un.up (j := 0) (k := 6) (v := 1) (gu_un.tr gu_un.rf (gu_un.su jU95 rfl)) (show (7 : Nat) ∈ ([5, 6, 7, 8] : List Nat) by decide)), (by show (((gu_up Gj95 0 6 1) 0 5).toInt ≤ (G 0 3).toInt ∧ (G 0 5).toInt ≤ ((gu_up Gj95 0 6 1) 0 4).toInt ∧ ((gu_up Gj95 0 6 1) 0 4).toInt ≤ ((gu_up Gj95 0 6 1) 0 5).toInt); have e9_0_4 : (gu_up Gj95 0 6 1) 0 4 = (Gj95 0 4) := rfl; have e9_0_5 : (gu_up Gj95 0 6 1) 0 5 = (Gj95 0 5) := rfl; (try simp only [e9_0_4, e9_0_5, true_and, and_true]) <;> (first | omega | (simp only [Int32.reduceToInt, true_and, and_true, ne_eq, not_true_eq_false, false_and, or_false, false_or, true_or, or_true, false_implies] <;> omega))), (by show ((((gu_up Gj95 0 6 1) 0 6).toInt = 0 ∧ ((gu_up Gj95 0 6 1) 0 4).toInt = (G 0 3).toInt) ∨ (((gu_up Gj95 0 6 1) 0 6).toInt ≠ 0 ∧ ((gu_up Gj95 0 6 1) 0 4).toInt < ((gu_up Gj95 0 6 1) 0 5).toInt)); have e9_0_4 : (gu_up Gj95 0 6 1) 0 4 = (Gj95 0 4) := rfl; have e9_0_5 : (gu_up Gj95 0 6 1) 0 5 = (Gj95 0 5) := rfl; have e9_0_6 : (gu_up Gj95 0 6 1) 0 6 = 1 := rfl; (try simp only [e9_0_4, e9_0_5, e9_0_6, true_and, and_true]) <;> (first | omega | (simp only [Int32.reduceToInt, true_and, and_true, ne_eq, not_true_eq_false, false_and, or_false, false_or, true_or, or_true, false_implies] <;> omega))), (by have hx := q38; have r2 : tRun tLe (G 2) (G 0 3).toInt (Gj95 0 4).toInt (Gj95 0 5).toInt := ⟨wp, fun h8 => by have h7 : tLe _ := h8.2; omega⟩; (try rw [show (gu_up Gj95 0 6 1) 0 4 = (Gj95 0 4) from rfl]); (try rw [show (gu_up Gj95 0 6 1) 0 5 = (Gj95 0 5) from rfl]); (try rw [show (gu_up Gj95 0 6 1) 0 6 = 1 from rfl]); (try rw [show (gu_up Gj95 0 6 1) 0 7 = (G 0 7) from jU95 0 7 (by decide)]); exact ⟨rr95, Or.inr (Or.inl ⟨by omega, (show tLe _ from (r2.1.2 _ (by omega) (by omega)).2), r2, Or.inl ⟨by omega, by decide⟩⟩)⟩)⟩) rfl rfl dX13_scan_330
        · refine g_iconst F 4 dX13_scan_137 (by decide) ?_
          refine g_goto F 142 dX13_scan_138 (by decide) ?_
          refine yp_0_6 F i_X13 w_3 dX13_scan_142 ?_
          refine g_goto F 330 dX13_scan_145 (by decide) ?_
          exact u_vret F hA hQ hr (gu_up Gj95 0 6 4) (⟨(gu_I.up (j := 0) (k := 6) (v := 4) jI95 (show (0 : Int) ≤ (4 : Int32).toInt by decide) (show (4 : Int32).toInt ≤ 4 by decide)), (gu_un.up (j := 0) (k := 6) (v := 4) (gu_un.tr gu_un.rf (gu_un.su jU95 rfl)) (show (7 : Nat) ∈ ([5, 6, 7, 8] : List Nat) by decide)), (by show (((gu_up Gj95 0 6 4) 0 5).toInt ≤ (G 0 3).toInt ∧ (G 0 5).toInt ≤ ((gu_up Gj95 0 6 4) 0 4).toInt ∧ ((gu_up Gj95 0 6 4) 0 4).toInt ≤ ((gu_up Gj95 0 6 4) 0 5).toInt); have e9_0_4 : (gu_up Gj95 0 6 4) 0 4 = (Gj95 0 4) := rfl; have e9_0_5 : (gu_up Gj95 0 6 4) 0 5 = (Gj95 0 5) := rfl; (try simp only [e9_0_4, e9_0_5, true_and, and_true]) <;> (first | omega | (simp only [Int32.reduceToInt, true_and, and_true, ne_eq, not_true_eq_false, false_and, or_false, false_or, true_or, or_true, false_implies] <;> omega))), (by show ((((gu_up Gj95 0 6 4) 0 6).toInt = 0 ∧ ((gu_up Gj95 0 6 4) 0 4).toInt = (G 0 3).toInt) ∨ (((gu_up Gj95 0 6 4) 0 6).toInt ≠ 0 ∧ ((gu_up Gj95 0 6 4) 0 4).toInt < ((gu_up Gj95 0 6 4) 0 5).toInt)); have e9_0_4 : (gu_up Gj95 0 6 4) 0 4 = (Gj95 0 4) := rfl; have e9_0_5 : (gu_up Gj95 0 6 4) 0 5 = (Gj95 0 5) := rfl; have e9_0_6 : (gu_up Gj95 0 6 4) 0 6 = 4 := rfl; (try simp only [e9_0_4, e9_0_5, e9_0_6, true_and, and_true]) <;> (first | omega | (simp only [Int32.reduceToInt, true_and, and_true, ne_eq, not_true_eq_false, false_and, or_false, false_or, true_or, or_true, false_implies] <;> omega))), (by have hx := q38; have r2 : tRun tLe (G 2) (G 0 3).toInt (Gj95 0 4).toInt (Gj95 0 5).toInt := ⟨wp, fun h8 => by have h7 : tLe _ := h8.2; omega⟩; (try rw [show (gu_up Gj95 0 6 4) 0 4 = (Gj95 0 4) from rfl]); (try rw [show (gu_up Gj95 0 6 4) 0 5 = (Gj95 0 5) from rfl]); (try rw [show (gu_up Gj95 0 6 4) 0 6 = 4 from rfl]); (try rw [show (gu_up Gj95 0 6 4) 0 7 = (G 0 7) from jU95 0 7 (by decide)]); exact ⟨rr95, Or.inr (Or.inl ⟨by omega, (show tLe _ from (r2.1.2 _ (by omega) (by omega)).2), r2, Or.inr ⟨by omega, by decide⟩⟩)⟩)⟩) rfl rfl dX13_scan_330
  have J_52 : ∀  (Gj52 : gS), (yI Gj52) → (gu_un ycd [6] G Gj52) → (tRun tBl (G 2) (G 0 3).toInt (G 0 5).toInt (Gj52 0 5).toInt) → (((Gj52 0 5).toInt ≤ (G 0 3).toInt)) → (((G 0 5).toInt ≤ (Gj52 0 5).toInt)) → gG p l e (gR 2 0 0 61) s m args below meth c D A 3 Q 0 0 (yW K a Gj52) (tK K) [(0, .ref (a 0))] 52 [] := by
    intro Gj52 jI52 jU52 rr bl_52 fb_52
    refine g_aload_n F 0 dX13_scan_52 rfl rfl ?_
    refine g_aload_n F 0 dX13_scan_53 rfl rfl ?_
    refine yg_0_5 F i_X13 w_0 dX13_scan_54 (Gj52 0 5) (rfl) ?_
    have b51 : (0 : Int) ≤ (Gj52 0 5).toInt ∧ (Gj52 0 5).toInt ≤ 1000 := jI52 0 5
    refine yp_0_4 F i_X13 w_1 dX13_scan_57 ?_
    refine g_aload_n F 0 dX13_scan_60 rfl rfl ?_
    refine g_aload_n F 0 dX13_scan_61 rfl rfl ?_
    refine yg_0_4 F i_X13 w_1 dX13_scan_62 (Gj52 0 5) (rfl) ?_
    refine u_callVi (k := 0) (n := 0) (b := a 0) (As := [.int (Gj52 0 5)]) (st := []) F (fun sz => S_X13_byteAt l D K a (gu_up Gj52 0 4 (Gj52 0 5)) (Gj52 0 5) (Gj52 0 5).toInt rfl (by omega) (gu_I.up (j := 0) (k := 4) (v := (Gj52 0 5)) jI52 (show (0 : Int) ≤ Int32.toInt (Gj52 0 5) by omega) (show Int32.toInt (Gj52 0 5) ≤ 1000 by omega)) sz) (cwV 1 hts gX13_scan_X13_byteAt rfl rfl rfl (by decide +kernel) ⟨Nat.le_of_ble_eq_true rfl, Nat.le_of_ble_eq_true rfl⟩) rfl 0 yc_0 rfl (Nat.le_of_ble_eq_true rfl) ⟨Nat.zero_le _, Nat.zero_le _⟩ dX13_scan_65 (fun r52 _ hw53 => ?_)
    have q55 : (0 ≤ r52.toInt ∧ r52.toInt ≤ 255) := hw53.1
    have q56 : (r52.toInt ≠ 0 → (Gj52 0 5).toInt < (G 0 3).toInt) := by have h9 := hw53.2.1; (try simp only [(show (gu_up Gj52 0 4 (Gj52 0 5)) 0 3 = (G 0 3) from jU52 0 3 (by decide))] at h9); first | exact h9 | omega
    have q57 : (r52.toInt = yBi (G 2) (G 0 3).toInt (Gj52 0 5).toInt) := by have h9 := hw53.2.2; (try simp only [(show (gu_up Gj52 0 4 (Gj52 0 5)) 0 3 = (G 0 3) from jU52 0 3 (by decide)), (show (gu_up Gj52 0 4 (Gj52 0 5)) 2 = (G 2) from (show Gj52 2 = G 2 from funext fun k_ => jU52 2 k_ (show (200 : Nat) ∉ ([6] : List Nat) by decide)))] at h9); first | exact h9 | omega
    clear hw53
    refine g_istore_n F [(1, .int r52), (0, .ref (a 0))] dX13_scan_68 rfl (by decide) rfl ?_
    refine g_aload_n F 1 dX13_scan_69 rfl rfl ?_
    refine yg_0_4 F i_X13 w_1 dX13_scan_70 (Gj52 0 5) (rfl) ?_
    refine g_aload_n F 1 dX13_scan_73 rfl rfl ?_
    refine yg_0_3 F i_X13 w_4 dX13_scan_74 (G 0 3) (jU52 0 3 (by decide)) ?_
    refine v_icmp_ne F 88 dX13_scan_77 (by decide) (Gj52 0 5).toInt (G 0 3).toInt rfl rfl (fun c58 => ?_) (fun c58 => ?_)
    · refine g_iload_n F 0 dX13_scan_88 rfl rfl ?_
      refine u_call0 (k := 0) (n := 0) (As := [.int r52]) (st := []) F (fun sz => S_X13_isSmall l D r52 r52.toInt rfl sz) (va_cwS 1 hts gX13_scan_X13_isSmall rfl rfl rfl (by decide +kernel) ⟨Nat.le_of_ble_eq_true rfl, Nat.le_of_ble_eq_true rfl⟩) rfl (Nat.le_of_ble_eq_true rfl) ⟨Nat.zero_le _, Nat.zero_le _⟩ dX13_scan_89 (fun r59 _ hw60 => ?_)
      rcases hw60 with ⟨rfl, q62⟩ | ⟨rfl, q63⟩
      · refine v_if_eq F 148 dX13_scan_92 (by decide) 1 rfl (fun c64 => absurd c64 (by decide)) (fun c64 => ?_)
        refine g_locals [(0, .ref (a 0))] [1] rfl ?_
        exact J_95 _ (gu_up Gj52 0 4 (Gj52 0 5)) (Nat.lt_succ_self _) (gu_I.up (j := 0) (k := 4) (v := (Gj52 0 5)) jI52 (show (0 : Int) ≤ Int32.toInt (Gj52 0 5) by omega) (show Int32.toInt (Gj52 0 5) ≤ 1000 by omega)) (gu_un.up (j := 0) (k := 4) (v := (Gj52 0 5)) (gu_un.tr gu_un.rf (gu_un.su jU52 rfl)) (show (5 : Nat) ∈ ([5, 6] : List Nat) by decide)) (by have e9_0_4 : (gu_up Gj52 0 4 (Gj52 0 5)) 0 4 = (Gj52 0 5) := rfl; have e9_0_5 : (gu_up Gj52 0 4 (Gj52 0 5)) 0 5 = (Gj52 0 5) := rfl; (try simp only [e9_0_4, e9_0_5, true_and, and_true]) <;> (first | omega | (simp only [Int32.reduceToInt, true_and, and_true, ne_eq, not_true_eq_false, false_and, or_false, false_or, true_or, or_true, false_implies] <;> omega))) (by (try rw [show (gu_up Gj52 0 4 (Gj52 0 5)) 0 4 = (Gj52 0 5) from rfl]); exact rr) (by (try rw [show (gu_up Gj52 0 4 (Gj52 0 5)) 0 4 = (Gj52 0 5) from rfl]); (try rw [show (gu_up Gj52 0 4 (Gj52 0 5)) 0 5 = (Gj52 0 5) from rfl]); exact tPre.rf) (by have e9_0_3 : (gu_up Gj52 0 4 (Gj52 0 5)) 0 3 = (G 0 3) := jU52 0 3 (by decide); have e9_0_5 : (gu_up Gj52 0 4 (Gj52 0 5)) 0 5 = (Gj52 0 5) := rfl; (try simp only [e9_0_3, e9_0_5, true_and, and_true]) <;> (first | omega | (simp only [Int32.reduceToInt, true_and, and_true, ne_eq, not_true_eq_false, false_and, or_false, false_or, true_or, or_true, false_implies] <;> omega))) (by have e9_0_5 : (gu_up Gj52 0 4 (Gj52 0 5)) 0 5 = (Gj52 0 5) := rfl; (try simp only [e9_0_5, true_and, and_true]) <;> (first | omega | (simp only [Int32.reduceToInt, true_and, and_true, ne_eq, not_true_eq_false, false_and, or_false, false_or, true_or, or_true, false_implies] <;> omega))) (by have e9_0_4 : (gu_up Gj52 0 4 (Gj52 0 5)) 0 4 = (Gj52 0 5) := rfl; have e9_0_5 : (gu_up Gj52 0 4 (Gj52 0 5)) 0 5 = (Gj52 0 5) := rfl; (try simp only [e9_0_4, e9_0_5, true_and, and_true]) <;> (first | omega | (simp only [Int32.reduceToInt, true_and, and_true, ne_eq, not_true_eq_false, false_and, or_false, false_or, true_or, or_true, false_implies] <;> omega))) (by have e9_0_3 : (gu_up Gj52 0 4 (Gj52 0 5)) 0 3 = (G 0 3) := jU52 0 3 (by decide); have e9_0_4 : (gu_up Gj52 0 4 (Gj52 0 5)) 0 4 = (Gj52 0 5) := rfl; (try simp only [e9_0_3, e9_0_4, true_and, and_true]) <;> (first | omega | (simp only [Int32.reduceToInt, true_and, and_true, ne_eq, not_true_eq_false, false_and, or_false, false_or, true_or, or_true, false_implies] <;> omega)))
      · refine v_if_eq F 148 dX13_scan_92 (by decide) 0 rfl (fun c65 => ?_) (fun c65 => absurd c65 (by decide))
        refine g_iload_n F 0 dX13_scan_148 rfl rfl ?_
        refine u_call0 (k := 0) (n := 0) (As := [.int r52]) (st := []) F (fun sz => S_X13_isDigit l D r52 r52.toInt rfl sz) (va_cwS 1 hts gX13_scan_X13_isDigit rfl rfl rfl (by decide +kernel) ⟨Nat.le_of_ble_eq_true rfl, Nat.le_of_ble_eq_true rfl⟩) rfl (Nat.le_of_ble_eq_true rfl) ⟨Nat.zero_le _, Nat.zero_le _⟩ dX13_scan_149 (fun r66 _ hw67 => ?_)
        rcases hw67 with ⟨rfl, q69⟩ | ⟨rfl, q70⟩
        · refine v_if_eq F 248 dX13_scan_152 (by decide) 1 rfl (fun c71 => absurd c71 (by decide)) (fun c71 => ?_)
          refine g_aload_n F 1 dX13_scan_155 rfl rfl ?_
          refine g_iconst F 0 dX13_scan_156 (by decide) ?_
          refine yp_0_7 F i_X13 w_2 dX13_scan_157 ?_
          refine g_locals [(0, .ref (a 0))] [1] rfl ?_
          exact J_160 _ (gu_up (gu_up Gj52 0 4 (Gj52 0 5)) 0 7 0) (Nat.lt_succ_self _) (gu_I.up (j := 0) (k := 7) (v := 0) (gu_I.up (j := 0) (k := 4) (v := (Gj52 0 5)) jI52 (show (0 : Int) ≤ Int32.toInt (Gj52 0 5) by omega) (show Int32.toInt (Gj52 0 5) ≤ 1000 by omega)) (show (0 : Int) ≤ (0 : Int32).toInt by decide) (show (0 : Int32).toInt ≤ 9999 by decide)) (gu_un.up (j := 0) (k := 7) (v := 0) (gu_un.up (j := 0) (k := 4) (v := (Gj52 0 5)) (gu_un.tr gu_un.rf (gu_un.su jU52 rfl)) (show (5 : Nat) ∈ ([5, 6, 8] : List Nat) by decide)) (show (8 : Nat) ∈ ([5, 6, 8] : List Nat) by decide)) (by have e9_0_4 : (gu_up (gu_up Gj52 0 4 (Gj52 0 5)) 0 7 0) 0 4 = (Gj52 0 5) := rfl; have e9_0_5 : (gu_up (gu_up Gj52 0 4 (Gj52 0 5)) 0 7 0) 0 5 = (Gj52 0 5) := rfl; (try simp only [e9_0_4, e9_0_5, true_and, and_true]) <;> (first | omega | (simp only [Int32.reduceToInt, true_and, and_true, ne_eq, not_true_eq_false, false_and, or_false, false_or, true_or, or_true, false_implies] <;> omega))) (by (try rw [show (gu_up (gu_up Gj52 0 4 (Gj52 0 5)) 0 7 0) 0 4 = (Gj52 0 5) from rfl]); exact rr) (by (try rw [show (gu_up (gu_up Gj52 0 4 (Gj52 0 5)) 0 7 0) 0 4 = (Gj52 0 5) from rfl]); (try rw [show (gu_up (gu_up Gj52 0 4 (Gj52 0 5)) 0 7 0) 0 5 = (Gj52 0 5) from rfl]); exact tPre.rf) (by (try rw [show (gu_up (gu_up Gj52 0 4 (Gj52 0 5)) 0 7 0) 0 4 = (Gj52 0 5) from rfl]); (try rw [show (gu_up (gu_up Gj52 0 4 (Gj52 0 5)) 0 7 0) 0 5 = (Gj52 0 5) from rfl]); (try rw [show (gu_up (gu_up Gj52 0 4 (Gj52 0 5)) 0 7 0) 0 7 = 0 from rfl]); intro _; rw [show ((Gj52 0 5).toInt - (Gj52 0 5).toInt).toNat = 0 by omega]; rfl) (by have e9_0_3 : (gu_up (gu_up Gj52 0 4 (Gj52 0 5)) 0 7 0) 0 3 = (G 0 3) := jU52 0 3 (by decide); have e9_0_5 : (gu_up (gu_up Gj52 0 4 (Gj52 0 5)) 0 7 0) 0 5 = (Gj52 0 5) := rfl; (try simp only [e9_0_3, e9_0_5, true_and, and_true]) <;> (first | omega | (simp only [Int32.reduceToInt, true_and, and_true, ne_eq, not_true_eq_false, false_and, or_false, false_or, true_or, or_true, false_implies] <;> omega))) (by have e9_0_5 : (gu_up (gu_up Gj52 0 4 (Gj52 0 5)) 0 7 0) 0 5 = (Gj52 0 5) := rfl; (try simp only [e9_0_5, true_and, and_true]) <;> (first | omega | (simp only [Int32.reduceToInt, true_and, and_true, ne_eq, not_true_eq_false, false_and, or_false, false_or, true_or, or_true, false_implies] <;> omega))) (by have e9_0_4 : (gu_up (gu_up Gj52 0 4 (Gj52 0 5)) 0 7 0) 0 4 = (Gj52 0 5) := rfl; have e9_0_5 : (gu_up (gu_up Gj52 0 4 (Gj52 0 5)) 0 7 0) 0 5 = (Gj52 0 5) := rfl; (try simp only [e9_0_4, e9_0_5, true_and, and_true]) <;> (first | omega | (simp only [Int32.reduceToInt, true_and, and_true, ne_eq, not_true_eq_false, false_and, or_false, false_or, true_or, or_true, false_implies] <;> omega))) (by have e9_0_3 : (gu_up (gu_up Gj52 0 4 (Gj52 0 5)) 0 7 0) 0 3 = (G 0 3) := jU52 0 3 (by decide); have e9_0_4 : (gu_up (gu_up Gj52 0 4 (Gj52 0 5)) 0 7 0) 0 4 = (Gj52 0 5) := rfl; (try simp only [e9_0_3, e9_0_4, true_and, and_true]) <;> (first | omega | (simp only [Int32.reduceToInt, true_and, and_true, ne_eq, not_true_eq_false, false_and, or_false, false_or, true_or, or_true, false_implies] <;> omega)))
        · refine v_if_eq F 248 dX13_scan_152 (by decide) 0 rfl (fun c72 => ?_) (fun c72 => absurd c72 (by decide))
          refine g_iload_n F 0 dX13_scan_248 rfl rfl ?_
          refine g_bipush F 59 dX13_scan_249 (by decide) ?_
          refine v_icmp_eq F 296 dX13_scan_251 (by decide) r52.toInt 59 rfl rfl (fun c73 => ?_) (fun c73 => ?_)
          · refine g_iconst F 1 dX13_scan_296 (by decide) ?_
            refine g_goto F 301 dX13_scan_297 (by decide) ?_
            refine g_istore_n F [(2, .int 1), (1, .int r52), (0, .ref (a 0))] dX13_scan_301 rfl (by decide) rfl ?_
            refine g_aload_n F 2 dX13_scan_302 rfl rfl ?_
            refine g_iload_n F 0 dX13_scan_303 rfl rfl ?_
            refine v_if_eq F 311 dX13_scan_304 (by decide) 1 rfl (fun c74 => absurd c74 (by decide)) (fun c74 => ?_)
            refine g_iconst F 3 dX13_scan_307 (by decide) ?_
            refine g_goto F 312 dX13_scan_308 (by decide) ?_
            refine yp_0_6 F i_X13 w_3 dX13_scan_312 ?_
            refine g_aload_n F 2 dX13_scan_315 rfl rfl ?_
            refine g_iload_n F 1 dX13_scan_316 rfl rfl ?_
            refine yp_0_7 F i_X13 w_2 dX13_scan_317 ?_
            refine g_aload_n F 2 dX13_scan_320 rfl rfl ?_
            refine g_dup F dX13_scan_321 rfl ?_
            refine yg_0_5 F i_X13 w_0 dX13_scan_322 (Gj52 0 5) (rfl) ?_
            refine g_iconst F 1 dX13_scan_325 (by decide) ?_
            refine u_iadd F dX13_scan_326 (Gj52 0 5).toInt 1 rfl rfl (by omega) (by omega) (fun y75 ey75 => ?_)
            refine yp_0_5 F i_X13 w_0 dX13_scan_327 ?_
            exact u_vret F hA hQ hr (gu_up (gu_up (gu_up (gu_up Gj52 0 4 (Gj52 0 5)) 0 6 3) 0 7 r52) 0 5 y75) (⟨(gu_I.up (j := 0) (k := 5) (v := y75) (gu_I.up (j := 0) (k := 7) (v := r52) (gu_I.up (j := 0) (k := 6) (v := 3) (gu_I.up (j := 0) (k := 4) (v := (Gj52 0 5)) jI52 (show (0 : Int) ≤ Int32.toInt (Gj52 0 5) by omega) (show Int32.toInt (Gj52 0 5) ≤ 1000 by omega)) (show (0 : Int) ≤ (3 : Int32).toInt by decide) (show (3 : Int32).toInt ≤ 4 by decide)) (show (0 : Int) ≤ Int32.toInt r52 by omega) (show Int32.toInt r52 ≤ 9999 by omega)) (show (0 : Int) ≤ Int32.toInt y75 by omega) (show Int32.toInt y75 ≤ 1000 by omega)), (gu_un.up (j := 0) (k := 5) (v := y75) (gu_un.up (j := 0) (k := 7) (v := r52) (gu_un.up (j := 0) (k := 6) (v := 3) (gu_un.up (j := 0) (k := 4) (v := (Gj52 0 5)) (gu_un.tr gu_un.rf (gu_un.su jU52 rfl)) (show (5 : Nat) ∈ ([5, 6, 7, 8] : List Nat) by decide)) (show (7 : Nat) ∈ ([5, 6, 7, 8] : List Nat) by decide)) (show (8 : Nat) ∈ ([5, 6, 7, 8] : List Nat) by decide)) (show (6 : Nat) ∈ ([5, 6, 7, 8] : List Nat) by decide)), (by show (((gu_up (gu_up (gu_up (gu_up Gj52 0 4 (Gj52 0 5)) 0 6 3) 0 7 r52) 0 5 y75) 0 5).toInt ≤ (G 0 3).toInt ∧ (G 0 5).toInt ≤ ((gu_up (gu_up (gu_up (gu_up Gj52 0 4 (Gj52 0 5)) 0 6 3) 0 7 r52) 0 5 y75) 0 4).toInt ∧ ((gu_up (gu_up (gu_up (gu_up Gj52 0 4 (Gj52 0 5)) 0 6 3) 0 7 r52) 0 5 y75) 0 4).toInt ≤ ((gu_up (gu_up (gu_up (gu_up Gj52 0 4 (Gj52 0 5)) 0 6 3) 0 7 r52) 0 5 y75) 0 5).toInt); have e9_0_4 : (gu_up (gu_up (gu_up (gu_up Gj52 0 4 (Gj52 0 5)) 0 6 3) 0 7 r52) 0 5 y75) 0 4 = (Gj52 0 5) := rfl; have e9_0_5 : (gu_up (gu_up (gu_up (gu_up Gj52 0 4 (Gj52 0 5)) 0 6 3) 0 7 r52) 0 5 y75) 0 5 = y75 := rfl; (try simp only [e9_0_4, e9_0_5, true_and, and_true]) <;> (first | omega | (simp only [Int32.reduceToInt, true_and, and_true, ne_eq, not_true_eq_false, false_and, or_false, false_or, true_or, or_true, false_implies] <;> omega))), (by show ((((gu_up (gu_up (gu_up (gu_up Gj52 0 4 (Gj52 0 5)) 0 6 3) 0 7 r52) 0 5 y75) 0 6).toInt = 0 ∧ ((gu_up (gu_up (gu_up (gu_up Gj52 0 4 (Gj52 0 5)) 0 6 3) 0 7 r52) 0 5 y75) 0 4).toInt = (G 0 3).toInt) ∨ (((gu_up (gu_up (gu_up (gu_up Gj52 0 4 (Gj52 0 5)) 0 6 3) 0 7 r52) 0 5 y75) 0 6).toInt ≠ 0 ∧ ((gu_up (gu_up (gu_up (gu_up Gj52 0 4 (Gj52 0 5)) 0 6 3) 0 7 r52) 0 5 y75) 0 4).toInt < ((gu_up (gu_up (gu_up (gu_up Gj52 0 4 (Gj52 0 5)) 0 6 3) 0 7 r52) 0 5 y75) 0 5).toInt)); have e9_0_4 : (gu_up (gu_up (gu_up (gu_up Gj52 0 4 (Gj52 0 5)) 0 6 3) 0 7 r52) 0 5 y75) 0 4 = (Gj52 0 5) := rfl; have e9_0_5 : (gu_up (gu_up (gu_up (gu_up Gj52 0 4 (Gj52 0 5)) 0 6 3) 0 7 r52) 0 5 y75) 0 5 = y75 := rfl; have e9_0_6 : (gu_up (gu_up (gu_up (gu_up Gj52 0 4 (Gj52 0 5)) 0 6 3) 0 7 r52) 0 5 y75) 0 6 = 3 := rfl; (try simp only [e9_0_4, e9_0_5, e9_0_6, true_and, and_true]) <;> (first | omega | (simp only [Int32.reduceToInt, true_and, and_true, ne_eq, not_true_eq_false, false_and, or_false, false_or, true_or, or_true, false_implies] <;> omega))), (by have hc := q57; (try rw [show (gu_up (gu_up (gu_up (gu_up Gj52 0 4 (Gj52 0 5)) 0 6 3) 0 7 r52) 0 5 y75) 0 4 = (Gj52 0 5) from rfl]); (try rw [show (gu_up (gu_up (gu_up (gu_up Gj52 0 4 (Gj52 0 5)) 0 6 3) 0 7 r52) 0 5 y75) 0 5 = y75 from rfl]); (try rw [show (gu_up (gu_up (gu_up (gu_up Gj52 0 4 (Gj52 0 5)) 0 6 3) 0 7 r52) 0 5 y75) 0 6 = 3 from rfl]); (try rw [show (gu_up (gu_up (gu_up (gu_up Gj52 0 4 (Gj52 0 5)) 0 6 3) 0 7 r52) 0 5 y75) 0 7 = r52 from rfl]); exact ⟨rr, Or.inr (Or.inr (Or.inr ⟨by omega, fun h9 => by have h8 : tLe _ := h9; omega, fun h9 => by have h8 : tDi _ := h9; omega, by omega, Or.inl ⟨show tSg _ by omega, by decide, hc⟩⟩))⟩)⟩) rfl rfl dX13_scan_330
          · refine g_iload_n F 0 dX13_scan_254 rfl rfl ?_
            refine g_bipush F 40 dX13_scan_255 (by decide) ?_
            refine v_icmp_eq F 296 dX13_scan_257 (by decide) r52.toInt 40 rfl rfl (fun c76 => ?_) (fun c76 => ?_)
            · refine g_iconst F 1 dX13_scan_296 (by decide) ?_
              refine g_goto F 301 dX13_scan_297 (by decide) ?_
              refine g_istore_n F [(2, .int 1), (1, .int r52), (0, .ref (a 0))] dX13_scan_301 rfl (by decide) rfl ?_
              refine g_aload_n F 2 dX13_scan_302 rfl rfl ?_
              refine g_iload_n F 0 dX13_scan_303 rfl rfl ?_
              refine v_if_eq F 311 dX13_scan_304 (by decide) 1 rfl (fun c77 => absurd c77 (by decide)) (fun c77 => ?_)
              refine g_iconst F 3 dX13_scan_307 (by decide) ?_
              refine g_goto F 312 dX13_scan_308 (by decide) ?_
              refine yp_0_6 F i_X13 w_3 dX13_scan_312 ?_
              refine g_aload_n F 2 dX13_scan_315 rfl rfl ?_
              refine g_iload_n F 1 dX13_scan_316 rfl rfl ?_
              refine yp_0_7 F i_X13 w_2 dX13_scan_317 ?_
              refine g_aload_n F 2 dX13_scan_320 rfl rfl ?_
              refine g_dup F dX13_scan_321 rfl ?_
              refine yg_0_5 F i_X13 w_0 dX13_scan_322 (Gj52 0 5) (rfl) ?_
              refine g_iconst F 1 dX13_scan_325 (by decide) ?_
              refine u_iadd F dX13_scan_326 (Gj52 0 5).toInt 1 rfl rfl (by omega) (by omega) (fun y78 ey78 => ?_)
              refine yp_0_5 F i_X13 w_0 dX13_scan_327 ?_
              exact u_vret F hA hQ hr (gu_up (gu_up (gu_up (gu_up Gj52 0 4 (Gj52 0 5)) 0 6 3) 0 7 r52) 0 5 y78) (⟨(gu_I.up (j := 0) (k := 5) (v := y78) (gu_I.up (j := 0) (k := 7) (v := r52) (gu_I.up (j := 0) (k := 6) (v := 3) (gu_I.up (j := 0) (k := 4) (v := (Gj52 0 5)) jI52 (show (0 : Int) ≤ Int32.toInt (Gj52 0 5) by omega) (show Int32.toInt (Gj52 0 5) ≤ 1000 by omega)) (show (0 : Int) ≤ (3 : Int32).toInt by decide) (show (3 : Int32).toInt ≤ 4 by decide)) (show (0 : Int) ≤ Int32.toInt r52 by omega) (show Int32.toInt r52 ≤ 9999 by omega)) (show (0 : Int) ≤ Int32.toInt y78 by omega) (show Int32.toInt y78 ≤ 1000 by omega)), (gu_un.up (j := 0) (k := 5) (v := y78) (gu_un.up (j := 0) (k := 7) (v := r52) (gu_un.up (j := 0) (k := 6) (v := 3) (gu_un.up (j := 0) (k := 4) (v := (Gj52 0 5)) (gu_un.tr gu_un.rf (gu_un.su jU52 rfl)) (show (5 : Nat) ∈ ([5, 6, 7, 8] : List Nat) by decide)) (show (7 : Nat) ∈ ([5, 6, 7, 8] : List Nat) by decide)) (show (8 : Nat) ∈ ([5, 6, 7, 8] : List Nat) by decide)) (show (6 : Nat) ∈ ([5, 6, 7, 8] : List Nat) by decide)), (by show (((gu_up (gu_up (gu_up (gu_up Gj52 0 4 (Gj52 0 5)) 0 6 3) 0 7 r52) 0 5 y78) 0 5).toInt ≤ (G 0 3).toInt ∧ (G 0 5).toInt ≤ ((gu_up (gu_up (gu_up (gu_up Gj52 0 4 (Gj52 0 5)) 0 6 3) 0 7 r52) 0 5 y78) 0 4).toInt ∧ ((gu_up (gu_up (gu_up (gu_up Gj52 0 4 (Gj52 0 5)) 0 6 3) 0 7 r52) 0 5 y78) 0 4).toInt ≤ ((gu_up (gu_up (gu_up (gu_up Gj52 0 4 (Gj52 0 5)) 0 6 3) 0 7 r52) 0 5 y78) 0 5).toInt); have e9_0_4 : (gu_up (gu_up (gu_up (gu_up Gj52 0 4 (Gj52 0 5)) 0 6 3) 0 7 r52) 0 5 y78) 0 4 = (Gj52 0 5) := rfl; have e9_0_5 : (gu_up (gu_up (gu_up (gu_up Gj52 0 4 (Gj52 0 5)) 0 6 3) 0 7 r52) 0 5 y78) 0 5 = y78 := rfl; (try simp only [e9_0_4, e9_0_5, true_and, and_true]) <;> (first | omega | (simp only [Int32.reduceToInt, true_and, and_true, ne_eq, not_true_eq_false, false_and, or_false, false_or, true_or, or_true, false_implies] <;> omega))), (by show ((((gu_up (gu_up (gu_up (gu_up Gj52 0 4 (Gj52 0 5)) 0 6 3) 0 7 r52) 0 5 y78) 0 6).toInt = 0 ∧ ((gu_up (gu_up (gu_up (gu_up Gj52 0 4 (Gj52 0 5)) 0 6 3) 0 7 r52) 0 5 y78) 0 4).toInt = (G 0 3).toInt) ∨ (((gu_up (gu_up (gu_up (gu_up Gj52 0 4 (Gj52 0 5)) 0 6 3) 0 7 r52) 0 5 y78) 0 6).toInt ≠ 0 ∧ ((gu_up (gu_up (gu_up (gu_up Gj52 0 4 (Gj52 0 5)) 0 6 3) 0 7 r52) 0 5 y78) 0 4).toInt < ((gu_up (gu_up (gu_up (gu_up Gj52 0 4 (Gj52 0 5)) 0 6 3) 0 7 r52) 0 5 y78) 0 5).toInt)); have e9_0_4 : (gu_up (gu_up (gu_up (gu_up Gj52 0 4 (Gj52 0 5)) 0 6 3) 0 7 r52) 0 5 y78) 0 4 = (Gj52 0 5) := rfl; have e9_0_5 : (gu_up (gu_up (gu_up (gu_up Gj52 0 4 (Gj52 0 5)) 0 6 3) 0 7 r52) 0 5 y78) 0 5 = y78 := rfl; have e9_0_6 : (gu_up (gu_up (gu_up (gu_up Gj52 0 4 (Gj52 0 5)) 0 6 3) 0 7 r52) 0 5 y78) 0 6 = 3 := rfl; (try simp only [e9_0_4, e9_0_5, e9_0_6, true_and, and_true]) <;> (first | omega | (simp only [Int32.reduceToInt, true_and, and_true, ne_eq, not_true_eq_false, false_and, or_false, false_or, true_or, or_true, false_implies] <;> omega))), (by have hc := q57; (try rw [show (gu_up (gu_up (gu_up (gu_up Gj52 0 4 (Gj52 0 5)) 0 6 3) 0 7 r52) 0 5 y78) 0 4 = (Gj52 0 5) from rfl]); (try rw [show (gu_up (gu_up (gu_up (gu_up Gj52 0 4 (Gj52 0 5)) 0 6 3) 0 7 r52) 0 5 y78) 0 5 = y78 from rfl]); (try rw [show (gu_up (gu_up (gu_up (gu_up Gj52 0 4 (Gj52 0 5)) 0 6 3) 0 7 r52) 0 5 y78) 0 6 = 3 from rfl]); (try rw [show (gu_up (gu_up (gu_up (gu_up Gj52 0 4 (Gj52 0 5)) 0 6 3) 0 7 r52) 0 5 y78) 0 7 = r52 from rfl]); exact ⟨rr, Or.inr (Or.inr (Or.inr ⟨by omega, fun h9 => by have h8 : tLe _ := h9; omega, fun h9 => by have h8 : tDi _ := h9; omega, by omega, Or.inl ⟨show tSg _ by omega, by decide, hc⟩⟩))⟩)⟩) rfl rfl dX13_scan_330
            · refine g_iload_n F 0 dX13_scan_260 rfl rfl ?_
              refine g_bipush F 41 dX13_scan_261 (by decide) ?_
              refine v_icmp_eq F 296 dX13_scan_263 (by decide) r52.toInt 41 rfl rfl (fun c79 => ?_) (fun c79 => ?_)
              · refine g_iconst F 1 dX13_scan_296 (by decide) ?_
                refine g_goto F 301 dX13_scan_297 (by decide) ?_
                refine g_istore_n F [(2, .int 1), (1, .int r52), (0, .ref (a 0))] dX13_scan_301 rfl (by decide) rfl ?_
                refine g_aload_n F 2 dX13_scan_302 rfl rfl ?_
                refine g_iload_n F 0 dX13_scan_303 rfl rfl ?_
                refine v_if_eq F 311 dX13_scan_304 (by decide) 1 rfl (fun c80 => absurd c80 (by decide)) (fun c80 => ?_)
                refine g_iconst F 3 dX13_scan_307 (by decide) ?_
                refine g_goto F 312 dX13_scan_308 (by decide) ?_
                refine yp_0_6 F i_X13 w_3 dX13_scan_312 ?_
                refine g_aload_n F 2 dX13_scan_315 rfl rfl ?_
                refine g_iload_n F 1 dX13_scan_316 rfl rfl ?_
                refine yp_0_7 F i_X13 w_2 dX13_scan_317 ?_
                refine g_aload_n F 2 dX13_scan_320 rfl rfl ?_
                refine g_dup F dX13_scan_321 rfl ?_
                refine yg_0_5 F i_X13 w_0 dX13_scan_322 (Gj52 0 5) (rfl) ?_
                refine g_iconst F 1 dX13_scan_325 (by decide) ?_
                refine u_iadd F dX13_scan_326 (Gj52 0 5).toInt 1 rfl rfl (by omega) (by omega) (fun y81 ey81 => ?_)
                refine yp_0_5 F i_X13 w_0 dX13_scan_327 ?_
                exact u_vret F hA hQ hr (gu_up (gu_up (gu_up (gu_up Gj52 0 4 (Gj52 0 5)) 0 6 3) 0 7 r52) 0 5 y81) (⟨(gu_I.up (j := 0) (k := 5) (v := y81) (gu_I.up (j := 0) (k := 7) (v := r52) (gu_I.up (j := 0) (k := 6) (v := 3) (gu_I.up (j := 0) (k := 4) (v := (Gj52 0 5)) jI52 (show (0 : Int) ≤ Int32.toInt (Gj52 0 5) by omega) (show Int32.toInt (Gj52 0 5) ≤ 1000 by omega)) (show (0 : Int) ≤ (3 : Int32).toInt by decide) (show (3 : Int32).toInt ≤ 4 by decide)) (show (0 : Int) ≤ Int32.toInt r52 by omega) (show Int32.toInt r52 ≤ 9999 by omega)) (show (0 : Int) ≤ Int32.toInt y81 by omega) (show Int32.toInt y81 ≤ 1000 by omega)), (gu_un.up (j := 0) (k := 5) (v := y81) (gu_un.up (j := 0) (k := 7) (v := r52) (gu_un.up (j := 0) (k := 6) (v := 3) (gu_un.up (j := 0) (k := 4) (v := (Gj52 0 5)) (gu_un.tr gu_un.rf (gu_un.su jU52 rfl)) (show (5 : Nat) ∈ ([5, 6, 7, 8] : List Nat) by decide)) (show (7 : Nat) ∈ ([5, 6, 7, 8] : List Nat) by decide)) (show (8 : Nat) ∈ ([5, 6, 7, 8] : List Nat) by decide)) (show (6 : Nat) ∈ ([5, 6, 7, 8] : List Nat) by decide)), (by show (((gu_up (gu_up (gu_up (gu_up Gj52 0 4 (Gj52 0 5)) 0 6 3) 0 7 r52) 0 5 y81) 0 5).toInt ≤ (G 0 3).toInt ∧ (G 0 5).toInt ≤ ((gu_up (gu_up (gu_up (gu_up Gj52 0 4 (Gj52 0 5)) 0 6 3) 0 7 r52) 0 5 y81) 0 4).toInt ∧ ((gu_up (gu_up (gu_up (gu_up Gj52 0 4 (Gj52 0 5)) 0 6 3) 0 7 r52) 0 5 y81) 0 4).toInt ≤ ((gu_up (gu_up (gu_up (gu_up Gj52 0 4 (Gj52 0 5)) 0 6 3) 0 7 r52) 0 5 y81) 0 5).toInt); have e9_0_4 : (gu_up (gu_up (gu_up (gu_up Gj52 0 4 (Gj52 0 5)) 0 6 3) 0 7 r52) 0 5 y81) 0 4 = (Gj52 0 5) := rfl; have e9_0_5 : (gu_up (gu_up (gu_up (gu_up Gj52 0 4 (Gj52 0 5)) 0 6 3) 0 7 r52) 0 5 y81) 0 5 = y81 := rfl; (try simp only [e9_0_4, e9_0_5, true_and, and_true]) <;> (first | omega | (simp only [Int32.reduceToInt, true_and, and_true, ne_eq, not_true_eq_false, false_and, or_false, false_or, true_or, or_true, false_implies] <;> omega))), (by show ((((gu_up (gu_up (gu_up (gu_up Gj52 0 4 (Gj52 0 5)) 0 6 3) 0 7 r52) 0 5 y81) 0 6).toInt = 0 ∧ ((gu_up (gu_up (gu_up (gu_up Gj52 0 4 (Gj52 0 5)) 0 6 3) 0 7 r52) 0 5 y81) 0 4).toInt = (G 0 3).toInt) ∨ (((gu_up (gu_up (gu_up (gu_up Gj52 0 4 (Gj52 0 5)) 0 6 3) 0 7 r52) 0 5 y81) 0 6).toInt ≠ 0 ∧ ((gu_up (gu_up (gu_up (gu_up Gj52 0 4 (Gj52 0 5)) 0 6 3) 0 7 r52) 0 5 y81) 0 4).toInt < ((gu_up (gu_up (gu_up (gu_up Gj52 0 4 (Gj52 0 5)) 0 6 3) 0 7 r52) 0 5 y81) 0 5).toInt)); have e9_0_4 : (gu_up (gu_up (gu_up (gu_up Gj52 0 4 (Gj52 0 5)) 0 6 3) 0 7 r52) 0 5 y81) 0 4 = (Gj52 0 5) := rfl; have e9_0_5 : (gu_up (gu_up (gu_up (gu_up Gj52 0 4 (Gj52 0 5)) 0 6 3) 0 7 r52) 0 5 y81) 0 5 = y81 := rfl; have e9_0_6 : (gu_up (gu_up (gu_up (gu_up Gj52 0 4 (Gj52 0 5)) 0 6 3) 0 7 r52) 0 5 y81) 0 6 = 3 := rfl; (try simp only [e9_0_4, e9_0_5, e9_0_6, true_and, and_true]) <;> (first | omega | (simp only [Int32.reduceToInt, true_and, and_true, ne_eq, not_true_eq_false, false_and, or_false, false_or, true_or, or_true, false_implies] <;> omega))), (by have hc := q57; (try rw [show (gu_up (gu_up (gu_up (gu_up Gj52 0 4 (Gj52 0 5)) 0 6 3) 0 7 r52) 0 5 y81) 0 4 = (Gj52 0 5) from rfl]); (try rw [show (gu_up (gu_up (gu_up (gu_up Gj52 0 4 (Gj52 0 5)) 0 6 3) 0 7 r52) 0 5 y81) 0 5 = y81 from rfl]); (try rw [show (gu_up (gu_up (gu_up (gu_up Gj52 0 4 (Gj52 0 5)) 0 6 3) 0 7 r52) 0 5 y81) 0 6 = 3 from rfl]); (try rw [show (gu_up (gu_up (gu_up (gu_up Gj52 0 4 (Gj52 0 5)) 0 6 3) 0 7 r52) 0 5 y81) 0 7 = r52 from rfl]); exact ⟨rr, Or.inr (Or.inr (Or.inr ⟨by omega, fun h9 => by have h8 : tLe _ := h9; omega, fun h9 => by have h8 : tDi _ := h9; omega, by omega, Or.inl ⟨show tSg _ by omega, by decide, hc⟩⟩))⟩)⟩) rfl rfl dX13_scan_330
              · refine g_iload_n F 0 dX13_scan_266 rfl rfl ?_
                refine g_bipush F 43 dX13_scan_267 (by decide) ?_
                refine v_icmp_eq F 296 dX13_scan_269 (by decide) r52.toInt 43 rfl rfl (fun c82 => ?_) (fun c82 => ?_)
                · refine g_iconst F 1 dX13_scan_296 (by decide) ?_
                  refine g_goto F 301 dX13_scan_297 (by decide) ?_
                  refine g_istore_n F [(2, .int 1), (1, .int r52), (0, .ref (a 0))] dX13_scan_301 rfl (by decide) rfl ?_
                  refine g_aload_n F 2 dX13_scan_302 rfl rfl ?_
                  refine g_iload_n F 0 dX13_scan_303 rfl rfl ?_
                  refine v_if_eq F 311 dX13_scan_304 (by decide) 1 rfl (fun c83 => absurd c83 (by decide)) (fun c83 => ?_)
                  refine g_iconst F 3 dX13_scan_307 (by decide) ?_
                  refine g_goto F 312 dX13_scan_308 (by decide) ?_
                  refine yp_0_6 F i_X13 w_3 dX13_scan_312 ?_
                  refine g_aload_n F 2 dX13_scan_315 rfl rfl ?_
                  refine g_iload_n F 1 dX13_scan_316 rfl rfl ?_
                  refine yp_0_7 F i_X13 w_2 dX13_scan_317 ?_
                  refine g_aload_n F 2 dX13_scan_320 rfl rfl ?_
                  refine g_dup F dX13_scan_321 rfl ?_
                  refine yg_0_5 F i_X13 w_0 dX13_scan_322 (Gj52 0 5) (rfl) ?_
                  refine g_iconst F 1 dX13_scan_325 (by decide) ?_
                  refine u_iadd F dX13_scan_326 (Gj52 0 5).toInt 1 rfl rfl (by omega) (by omega) (fun y84 ey84 => ?_)
                  refine yp_0_5 F i_X13 w_0 dX13_scan_327 ?_
                  exact u_vret F hA hQ hr (gu_up (gu_up (gu_up (gu_up Gj52 0 4 (Gj52 0 5)) 0 6 3) 0 7 r52) 0 5 y84) (⟨(gu_I.up (j := 0) (k := 5) (v := y84) (gu_I.up (j := 0) (k := 7) (v := r52) (gu_I.up (j := 0) (k := 6) (v := 3) (gu_I.up (j := 0) (k := 4) (v := (Gj52 0 5)) jI52 (show (0 : Int) ≤ Int32.toInt (Gj52 0 5) by omega) (show Int32.toInt (Gj52 0 5) ≤ 1000 by omega)) (show (0 : Int) ≤ (3 : Int32).toInt by decide) (show (3 : Int32).toInt ≤ 4 by decide)) (show (0 : Int) ≤ Int32.toInt r52 by omega) (show Int32.toInt r52 ≤ 9999 by omega)) (show (0 : Int) ≤ Int32.toInt y84 by omega) (show Int32.toInt y84 ≤ 1000 by omega)), (gu_un.up (j := 0) (k := 5) (v := y84) (gu_un.up (j := 0) (k := 7) (v := r52) (gu_un.up (j := 0) (k := 6) (v := 3) (gu_un.up (j := 0) (k := 4) (v := (Gj52 0 5)) (gu_un.tr gu_un.rf (gu_un.su jU52 rfl)) (show (5 : Nat) ∈ ([5, 6, 7, 8] : List Nat) by decide)) (show (7 : Nat) ∈ ([5, 6, 7, 8] : List Nat) by decide)) (show (8 : Nat) ∈ ([5, 6, 7, 8] : List Nat) by decide)) (show (6 : Nat) ∈ ([5, 6, 7, 8] : List Nat) by decide)), (by show (((gu_up (gu_up (gu_up (gu_up Gj52 0 4 (Gj52 0 5)) 0 6 3) 0 7 r52) 0 5 y84) 0 5).toInt ≤ (G 0 3).toInt ∧ (G 0 5).toInt ≤ ((gu_up (gu_up (gu_up (gu_up Gj52 0 4 (Gj52 0 5)) 0 6 3) 0 7 r52) 0 5 y84) 0 4).toInt ∧ ((gu_up (gu_up (gu_up (gu_up Gj52 0 4 (Gj52 0 5)) 0 6 3) 0 7 r52) 0 5 y84) 0 4).toInt ≤ ((gu_up (gu_up (gu_up (gu_up Gj52 0 4 (Gj52 0 5)) 0 6 3) 0 7 r52) 0 5 y84) 0 5).toInt); have e9_0_4 : (gu_up (gu_up (gu_up (gu_up Gj52 0 4 (Gj52 0 5)) 0 6 3) 0 7 r52) 0 5 y84) 0 4 = (Gj52 0 5) := rfl; have e9_0_5 : (gu_up (gu_up (gu_up (gu_up Gj52 0 4 (Gj52 0 5)) 0 6 3) 0 7 r52) 0 5 y84) 0 5 = y84 := rfl; (try simp only [e9_0_4, e9_0_5, true_and, and_true]) <;> (first | omega | (simp only [Int32.reduceToInt, true_and, and_true, ne_eq, not_true_eq_false, false_and, or_false, false_or, true_or, or_true, false_implies] <;> omega))), (by show ((((gu_up (gu_up (gu_up (gu_up Gj52 0 4 (Gj52 0 5)) 0 6 3) 0 7 r52) 0 5 y84) 0 6).toInt = 0 ∧ ((gu_up (gu_up (gu_up (gu_up Gj52 0 4 (Gj52 0 5)) 0 6 3) 0 7 r52) 0 5 y84) 0 4).toInt = (G 0 3).toInt) ∨ (((gu_up (gu_up (gu_up (gu_up Gj52 0 4 (Gj52 0 5)) 0 6 3) 0 7 r52) 0 5 y84) 0 6).toInt ≠ 0 ∧ ((gu_up (gu_up (gu_up (gu_up Gj52 0 4 (Gj52 0 5)) 0 6 3) 0 7 r52) 0 5 y84) 0 4).toInt < ((gu_up (gu_up (gu_up (gu_up Gj52 0 4 (Gj52 0 5)) 0 6 3) 0 7 r52) 0 5 y84) 0 5).toInt)); have e9_0_4 : (gu_up (gu_up (gu_up (gu_up Gj52 0 4 (Gj52 0 5)) 0 6 3) 0 7 r52) 0 5 y84) 0 4 = (Gj52 0 5) := rfl; have e9_0_5 : (gu_up (gu_up (gu_up (gu_up Gj52 0 4 (Gj52 0 5)) 0 6 3) 0 7 r52) 0 5 y84) 0 5 = y84 := rfl; have e9_0_6 : (gu_up (gu_up (gu_up (gu_up Gj52 0 4 (Gj52 0 5)) 0 6 3) 0 7 r52) 0 5 y84) 0 6 = 3 := rfl; (try simp only [e9_0_4, e9_0_5, e9_0_6, true_and, and_true]) <;> (first | omega | (simp only [Int32.reduceToInt, true_and, and_true, ne_eq, not_true_eq_false, false_and, or_false, false_or, true_or, or_true, false_implies] <;> omega))), (by have hc := q57; (try rw [show (gu_up (gu_up (gu_up (gu_up Gj52 0 4 (Gj52 0 5)) 0 6 3) 0 7 r52) 0 5 y84) 0 4 = (Gj52 0 5) from rfl]); (try rw [show (gu_up (gu_up (gu_up (gu_up Gj52 0 4 (Gj52 0 5)) 0 6 3) 0 7 r52) 0 5 y84) 0 5 = y84 from rfl]); (try rw [show (gu_up (gu_up (gu_up (gu_up Gj52 0 4 (Gj52 0 5)) 0 6 3) 0 7 r52) 0 5 y84) 0 6 = 3 from rfl]); (try rw [show (gu_up (gu_up (gu_up (gu_up Gj52 0 4 (Gj52 0 5)) 0 6 3) 0 7 r52) 0 5 y84) 0 7 = r52 from rfl]); exact ⟨rr, Or.inr (Or.inr (Or.inr ⟨by omega, fun h9 => by have h8 : tLe _ := h9; omega, fun h9 => by have h8 : tDi _ := h9; omega, by omega, Or.inl ⟨show tSg _ by omega, by decide, hc⟩⟩))⟩)⟩) rfl rfl dX13_scan_330
                · refine g_iload_n F 0 dX13_scan_272 rfl rfl ?_
                  refine g_bipush F 45 dX13_scan_273 (by decide) ?_
                  refine v_icmp_eq F 296 dX13_scan_275 (by decide) r52.toInt 45 rfl rfl (fun c85 => ?_) (fun c85 => ?_)
                  · refine g_iconst F 1 dX13_scan_296 (by decide) ?_
                    refine g_goto F 301 dX13_scan_297 (by decide) ?_
                    refine g_istore_n F [(2, .int 1), (1, .int r52), (0, .ref (a 0))] dX13_scan_301 rfl (by decide) rfl ?_
                    refine g_aload_n F 2 dX13_scan_302 rfl rfl ?_
                    refine g_iload_n F 0 dX13_scan_303 rfl rfl ?_
                    refine v_if_eq F 311 dX13_scan_304 (by decide) 1 rfl (fun c86 => absurd c86 (by decide)) (fun c86 => ?_)
                    refine g_iconst F 3 dX13_scan_307 (by decide) ?_
                    refine g_goto F 312 dX13_scan_308 (by decide) ?_
                    refine yp_0_6 F i_X13 w_3 dX13_scan_312 ?_
                    refine g_aload_n F 2 dX13_scan_315 rfl rfl ?_
                    refine g_iload_n F 1 dX13_scan_316 rfl rfl ?_
                    refine yp_0_7 F i_X13 w_2 dX13_scan_317 ?_
                    refine g_aload_n F 2 dX13_scan_320 rfl rfl ?_
                    refine g_dup F dX13_scan_321 rfl ?_
                    refine yg_0_5 F i_X13 w_0 dX13_scan_322 (Gj52 0 5) (rfl) ?_
                    refine g_iconst F 1 dX13_scan_325 (by decide) ?_
                    refine u_iadd F dX13_scan_326 (Gj52 0 5).toInt 1 rfl rfl (by omega) (by omega) (fun y87 ey87 => ?_)
                    refine yp_0_5 F i_X13 w_0 dX13_scan_327 ?_
                    exact u_vret F hA hQ hr (gu_up (gu_up (gu_up (gu_up Gj52 0 4 (Gj52 0 5)) 0 6 3) 0 7 r52) 0 5 y87) (⟨(gu_I.up (j := 0) (k := 5) (v := y87) (gu_I.up (j := 0) (k := 7) (v := r52) (gu_I.up (j := 0) (k := 6) (v := 3) (gu_I.up (j := 0) (k := 4) (v := (Gj52 0 5)) jI52 (show (0 : Int) ≤ Int32.toInt (Gj52 0 5) by omega) (show Int32.toInt (Gj52 0 5) ≤ 1000 by omega)) (show (0 : Int) ≤ (3 : Int32).toInt by decide) (show (3 : Int32).toInt ≤ 4 by decide)) (show (0 : Int) ≤ Int32.toInt r52 by omega) (show Int32.toInt r52 ≤ 9999 by omega)) (show (0 : Int) ≤ Int32.toInt y87 by omega) (show Int32.toInt y87 ≤ 1000 by omega)), (gu_un.up (j := 0) (k := 5) (v := y87) (gu_un.up (j := 0) (k := 7) (v := r52) (gu_un.up (j := 0) (k := 6) (v := 3) (gu_un.up (j := 0) (k := 4) (v := (Gj52 0 5)) (gu_un.tr gu_un.rf (gu_un.su jU52 rfl)) (show (5 : Nat) ∈ ([5, 6, 7, 8] : List Nat) by decide)) (show (7 : Nat) ∈ ([5, 6, 7, 8] : List Nat) by decide)) (show (8 : Nat) ∈ ([5, 6, 7, 8] : List Nat) by decide)) (show (6 : Nat) ∈ ([5, 6, 7, 8] : List Nat) by decide)), (by show (((gu_up (gu_up (gu_up (gu_up Gj52 0 4 (Gj52 0 5)) 0 6 3) 0 7 r52) 0 5 y87) 0 5).toInt ≤ (G 0 3).toInt ∧ (G 0 5).toInt ≤ ((gu_up (gu_up (gu_up (gu_up Gj52 0 4 (Gj52 0 5)) 0 6 3) 0 7 r52) 0 5 y87) 0 4).toInt ∧ ((gu_up (gu_up (gu_up (gu_up Gj52 0 4 (Gj52 0 5)) 0 6 3) 0 7 r52) 0 5 y87) 0 4).toInt ≤ ((gu_up (gu_up (gu_up (gu_up Gj52 0 4 (Gj52 0 5)) 0 6 3) 0 7 r52) 0 5 y87) 0 5).toInt); have e9_0_4 : (gu_up (gu_up (gu_up (gu_up Gj52 0 4 (Gj52 0 5)) 0 6 3) 0 7 r52) 0 5 y87) 0 4 = (Gj52 0 5) := rfl; have e9_0_5 : (gu_up (gu_up (gu_up (gu_up Gj52 0 4 (Gj52 0 5)) 0 6 3) 0 7 r52) 0 5 y87) 0 5 = y87 := rfl; (try simp only [e9_0_4, e9_0_5, true_and, and_true]) <;> (first | omega | (simp only [Int32.reduceToInt, true_and, and_true, ne_eq, not_true_eq_false, false_and, or_false, false_or, true_or, or_true, false_implies] <;> omega))), (by show ((((gu_up (gu_up (gu_up (gu_up Gj52 0 4 (Gj52 0 5)) 0 6 3) 0 7 r52) 0 5 y87) 0 6).toInt = 0 ∧ ((gu_up (gu_up (gu_up (gu_up Gj52 0 4 (Gj52 0 5)) 0 6 3) 0 7 r52) 0 5 y87) 0 4).toInt = (G 0 3).toInt) ∨ (((gu_up (gu_up (gu_up (gu_up Gj52 0 4 (Gj52 0 5)) 0 6 3) 0 7 r52) 0 5 y87) 0 6).toInt ≠ 0 ∧ ((gu_up (gu_up (gu_up (gu_up Gj52 0 4 (Gj52 0 5)) 0 6 3) 0 7 r52) 0 5 y87) 0 4).toInt < ((gu_up (gu_up (gu_up (gu_up Gj52 0 4 (Gj52 0 5)) 0 6 3) 0 7 r52) 0 5 y87) 0 5).toInt)); have e9_0_4 : (gu_up (gu_up (gu_up (gu_up Gj52 0 4 (Gj52 0 5)) 0 6 3) 0 7 r52) 0 5 y87) 0 4 = (Gj52 0 5) := rfl; have e9_0_5 : (gu_up (gu_up (gu_up (gu_up Gj52 0 4 (Gj52 0 5)) 0 6 3) 0 7 r52) 0 5 y87) 0 5 = y87 := rfl; have e9_0_6 : (gu_up (gu_up (gu_up (gu_up Gj52 0 4 (Gj52 0 5)) 0 6 3) 0 7 r52) 0 5 y87) 0 6 = 3 := rfl; (try simp only [e9_0_4, e9_0_5, e9_0_6, true_and, and_true]) <;> (first | omega | (simp only [Int32.reduceToInt, true_and, and_true, ne_eq, not_true_eq_false, false_and, or_false, false_or, true_or, or_true, false_implies] <;> omega))), (by have hc := q57; (try rw [show (gu_up (gu_up (gu_up (gu_up Gj52 0 4 (Gj52 0 5)) 0 6 3) 0 7 r52) 0 5 y87) 0 4 = (Gj52 0 5) from rfl]); (try rw [show (gu_up (gu_up (gu_up (gu_up Gj52 0 4 (Gj52 0 5)) 0 6 3) 0 7 r52) 0 5 y87) 0 5 = y87 from rfl]); (try rw [show (gu_up (gu_up (gu_up (gu_up Gj52 0 4 (Gj52 0 5)) 0 6 3) 0 7 r52) 0 5 y87) 0 6 = 3 from rfl]); (try rw [show (gu_up (gu_up (gu_up (gu_up Gj52 0 4 (Gj52 0 5)) 0 6 3) 0 7 r52) 0 5 y87) 0 7 = r52 from rfl]); exact ⟨rr, Or.inr (Or.inr (Or.inr ⟨by omega, fun h9 => by have h8 : tLe _ := h9; omega, fun h9 => by have h8 : tDi _ := h9; omega, by omega, Or.inl ⟨show tSg _ by omega, by decide, hc⟩⟩))⟩)⟩) rfl rfl dX13_scan_330
                  · refine g_iload_n F 0 dX13_scan_278 rfl rfl ?_
                    refine g_bipush F 42 dX13_scan_279 (by decide) ?_
                    refine v_icmp_eq F 296 dX13_scan_281 (by decide) r52.toInt 42 rfl rfl (fun c88 => ?_) (fun c88 => ?_)
                    · refine g_iconst F 1 dX13_scan_296 (by decide) ?_
                      refine g_goto F 301 dX13_scan_297 (by decide) ?_
                      refine g_istore_n F [(2, .int 1), (1, .int r52), (0, .ref (a 0))] dX13_scan_301 rfl (by decide) rfl ?_
                      refine g_aload_n F 2 dX13_scan_302 rfl rfl ?_
                      refine g_iload_n F 0 dX13_scan_303 rfl rfl ?_
                      refine v_if_eq F 311 dX13_scan_304 (by decide) 1 rfl (fun c89 => absurd c89 (by decide)) (fun c89 => ?_)
                      refine g_iconst F 3 dX13_scan_307 (by decide) ?_
                      refine g_goto F 312 dX13_scan_308 (by decide) ?_
                      refine yp_0_6 F i_X13 w_3 dX13_scan_312 ?_
                      refine g_aload_n F 2 dX13_scan_315 rfl rfl ?_
                      refine g_iload_n F 1 dX13_scan_316 rfl rfl ?_
                      refine yp_0_7 F i_X13 w_2 dX13_scan_317 ?_
                      refine g_aload_n F 2 dX13_scan_320 rfl rfl ?_
                      refine g_dup F dX13_scan_321 rfl ?_
                      refine yg_0_5 F i_X13 w_0 dX13_scan_322 (Gj52 0 5) (rfl) ?_
                      refine g_iconst F 1 dX13_scan_325 (by decide) ?_
                      refine u_iadd F dX13_scan_326 (Gj52 0 5).toInt 1 rfl rfl (by omega) (by omega) (fun y90 ey90 => ?_)
                      refine yp_0_5 F i_X13 w_0 dX13_scan_327 ?_
                      exact u_vret F hA hQ hr (gu_up (gu_up (gu_up (gu_up Gj52 0 4 (Gj52 0 5)) 0 6 3) 0 7 r52) 0 5 y90) (⟨(gu_I.up (j := 0) (k := 5) (v := y90) (gu_I.up (j := 0) (k := 7) (v := r52) (gu_I.up (j := 0) (k := 6) (v := 3) (gu_I.up (j := 0) (k := 4) (v := (Gj52 0 5)) jI52 (show (0 : Int) ≤ Int32.toInt (Gj52 0 5) by omega) (show Int32.toInt (Gj52 0 5) ≤ 1000 by omega)) (show (0 : Int) ≤ (3 : Int32).toInt by decide) (show (3 : Int32).toInt ≤ 4 by decide)) (show (0 : Int) ≤ Int32.toInt r52 by omega) (show Int32.toInt r52 ≤ 9999 by omega)) (show (0 : Int) ≤ Int32.toInt y90 by omega) (show Int32.toInt y90 ≤ 1000 by omega)), (gu_un.up (j := 0) (k := 5) (v := y90) (gu_un.up (j := 0) (k := 7) (v := r52) (gu_un.up (j := 0) (k := 6) (v := 3) (gu_un.up (j := 0) (k := 4) (v := (Gj52 0 5)) (gu_un.tr gu_un.rf (gu_un.su jU52 rfl)) (show (5 : Nat) ∈ ([5, 6, 7, 8] : List Nat) by decide)) (show (7 : Nat) ∈ ([5, 6, 7, 8] : List Nat) by decide)) (show (8 : Nat) ∈ ([5, 6, 7, 8] : List Nat) by decide)) (show (6 : Nat) ∈ ([5, 6, 7, 8] : List Nat) by decide)), (by show (((gu_up (gu_up (gu_up (gu_up Gj52 0 4 (Gj52 0 5)) 0 6 3) 0 7 r52) 0 5 y90) 0 5).toInt ≤ (G 0 3).toInt ∧ (G 0 5).toInt ≤ ((gu_up (gu_up (gu_up (gu_up Gj52 0 4 (Gj52 0 5)) 0 6 3) 0 7 r52) 0 5 y90) 0 4).toInt ∧ ((gu_up (gu_up (gu_up (gu_up Gj52 0 4 (Gj52 0 5)) 0 6 3) 0 7 r52) 0 5 y90) 0 4).toInt ≤ ((gu_up (gu_up (gu_up (gu_up Gj52 0 4 (Gj52 0 5)) 0 6 3) 0 7 r52) 0 5 y90) 0 5).toInt); have e9_0_4 : (gu_up (gu_up (gu_up (gu_up Gj52 0 4 (Gj52 0 5)) 0 6 3) 0 7 r52) 0 5 y90) 0 4 = (Gj52 0 5) := rfl; have e9_0_5 : (gu_up (gu_up (gu_up (gu_up Gj52 0 4 (Gj52 0 5)) 0 6 3) 0 7 r52) 0 5 y90) 0 5 = y90 := rfl; (try simp only [e9_0_4, e9_0_5, true_and, and_true]) <;> (first | omega | (simp only [Int32.reduceToInt, true_and, and_true, ne_eq, not_true_eq_false, false_and, or_false, false_or, true_or, or_true, false_implies] <;> omega))), (by show ((((gu_up (gu_up (gu_up (gu_up Gj52 0 4 (Gj52 0 5)) 0 6 3) 0 7 r52) 0 5 y90) 0 6).toInt = 0 ∧ ((gu_up (gu_up (gu_up (gu_up Gj52 0 4 (Gj52 0 5)) 0 6 3) 0 7 r52) 0 5 y90) 0 4).toInt = (G 0 3).toInt) ∨ (((gu_up (gu_up (gu_up (gu_up Gj52 0 4 (Gj52 0 5)) 0 6 3) 0 7 r52) 0 5 y90) 0 6).toInt ≠ 0 ∧ ((gu_up (gu_up (gu_up (gu_up Gj52 0 4 (Gj52 0 5)) 0 6 3) 0 7 r52) 0 5 y90) 0 4).toInt < ((gu_up (gu_up (gu_up (gu_up Gj52 0 4 (Gj52 0 5)) 0 6 3) 0 7 r52) 0 5 y90) 0 5).toInt)); have e9_0_4 : (gu_up (gu_up (gu_up (gu_up Gj52 0 4 (Gj52 0 5)) 0 6 3) 0 7 r52) 0 5 y90) 0 4 = (Gj52 0 5) := rfl; have e9_0_5 : (gu_up (gu_up (gu_up (gu_up Gj52 0 4 (Gj52 0 5)) 0 6 3) 0 7 r52) 0 5 y90) 0 5 = y90 := rfl; have e9_0_6 : (gu_up (gu_up (gu_up (gu_up Gj52 0 4 (Gj52 0 5)) 0 6 3) 0 7 r52) 0 5 y90) 0 6 = 3 := rfl; (try simp only [e9_0_4, e9_0_5, e9_0_6, true_and, and_true]) <;> (first | omega | (simp only [Int32.reduceToInt, true_and, and_true, ne_eq, not_true_eq_false, false_and, or_false, false_or, true_or, or_true, false_implies] <;> omega))), (by have hc := q57; (try rw [show (gu_up (gu_up (gu_up (gu_up Gj52 0 4 (Gj52 0 5)) 0 6 3) 0 7 r52) 0 5 y90) 0 4 = (Gj52 0 5) from rfl]); (try rw [show (gu_up (gu_up (gu_up (gu_up Gj52 0 4 (Gj52 0 5)) 0 6 3) 0 7 r52) 0 5 y90) 0 5 = y90 from rfl]); (try rw [show (gu_up (gu_up (gu_up (gu_up Gj52 0 4 (Gj52 0 5)) 0 6 3) 0 7 r52) 0 5 y90) 0 6 = 3 from rfl]); (try rw [show (gu_up (gu_up (gu_up (gu_up Gj52 0 4 (Gj52 0 5)) 0 6 3) 0 7 r52) 0 5 y90) 0 7 = r52 from rfl]); exact ⟨rr, Or.inr (Or.inr (Or.inr ⟨by omega, fun h9 => by have h8 : tLe _ := h9; omega, fun h9 => by have h8 : tDi _ := h9; omega, by omega, Or.inl ⟨show tSg _ by omega, by decide, hc⟩⟩))⟩)⟩) rfl rfl dX13_scan_330
                    · refine g_iload_n F 0 dX13_scan_284 rfl rfl ?_
                      refine g_bipush F 47 dX13_scan_285 (by decide) ?_
                      refine v_icmp_eq F 296 dX13_scan_287 (by decide) r52.toInt 47 rfl rfl (fun c91 => ?_) (fun c91 => ?_)
                      · refine g_iconst F 1 dX13_scan_296 (by decide) ?_
                        refine g_goto F 301 dX13_scan_297 (by decide) ?_
                        refine g_istore_n F [(2, .int 1), (1, .int r52), (0, .ref (a 0))] dX13_scan_301 rfl (by decide) rfl ?_
                        refine g_aload_n F 2 dX13_scan_302 rfl rfl ?_
                        refine g_iload_n F 0 dX13_scan_303 rfl rfl ?_
                        refine v_if_eq F 311 dX13_scan_304 (by decide) 1 rfl (fun c92 => absurd c92 (by decide)) (fun c92 => ?_)
                        refine g_iconst F 3 dX13_scan_307 (by decide) ?_
                        refine g_goto F 312 dX13_scan_308 (by decide) ?_
                        refine yp_0_6 F i_X13 w_3 dX13_scan_312 ?_
                        refine g_aload_n F 2 dX13_scan_315 rfl rfl ?_
                        refine g_iload_n F 1 dX13_scan_316 rfl rfl ?_
                        refine yp_0_7 F i_X13 w_2 dX13_scan_317 ?_
                        refine g_aload_n F 2 dX13_scan_320 rfl rfl ?_
                        refine g_dup F dX13_scan_321 rfl ?_
                        refine yg_0_5 F i_X13 w_0 dX13_scan_322 (Gj52 0 5) (rfl) ?_
                        refine g_iconst F 1 dX13_scan_325 (by decide) ?_
                        refine u_iadd F dX13_scan_326 (Gj52 0 5).toInt 1 rfl rfl (by omega) (by omega) (fun y93 ey93 => ?_)
                        refine yp_0_5 F i_X13 w_0 dX13_scan_327 ?_
                        exact u_vret F hA hQ hr (gu_up (gu_up (gu_up (gu_up Gj52 0 4 (Gj52 0 5)) 0 6 3) 0 7 r52) 0 5 y93) (⟨(gu_I.up (j := 0) (k := 5) (v := y93) (gu_I.up (j := 0) (k := 7) (v := r52) (gu_I.up (j := 0) (k := 6) (v := 3) (gu_I.up (j := 0) (k := 4) (v := (Gj52 0 5)) jI52 (show (0 : Int) ≤ Int32.toInt (Gj52 0 5) by omega) (show Int32.toInt (Gj52 0 5) ≤ 1000 by omega)) (show (0 : Int) ≤ (3 : Int32).toInt by decide) (show (3 : Int32).toInt ≤ 4 by decide)) (show (0 : Int) ≤ Int32.toInt r52 by omega) (show Int32.toInt r52 ≤ 9999 by omega)) (show (0 : Int) ≤ Int32.toInt y93 by omega) (show Int32.toInt y93 ≤ 1000 by omega)), (gu_un.up (j := 0) (k := 5) (v := y93) (gu_un.up (j := 0) (k := 7) (v := r52) (gu_un.up (j := 0) (k := 6) (v := 3) (gu_un.up (j := 0) (k := 4) (v := (Gj52 0 5)) (gu_un.tr gu_un.rf (gu_un.su jU52 rfl)) (show (5 : Nat) ∈ ([5, 6, 7, 8] : List Nat) by decide)) (show (7 : Nat) ∈ ([5, 6, 7, 8] : List Nat) by decide)) (show (8 : Nat) ∈ ([5, 6, 7, 8] : List Nat) by decide)) (show (6 : Nat) ∈ ([5, 6, 7, 8] : List Nat) by decide)), (by show (((gu_up (gu_up (gu_up (gu_up Gj52 0 4 (Gj52 0 5)) 0 6 3) 0 7 r52) 0 5 y93) 0 5).toInt ≤ (G 0 3).toInt ∧ (G 0 5).toInt ≤ ((gu_up (gu_up (gu_up (gu_up Gj52 0 4 (Gj52 0 5)) 0 6 3) 0 7 r52) 0 5 y93) 0 4).toInt ∧ ((gu_up (gu_up (gu_up (gu_up Gj52 0 4 (Gj52 0 5)) 0 6 3) 0 7 r52) 0 5 y93) 0 4).toInt ≤ ((gu_up (gu_up (gu_up (gu_up Gj52 0 4 (Gj52 0 5)) 0 6 3) 0 7 r52) 0 5 y93) 0 5).toInt); have e9_0_4 : (gu_up (gu_up (gu_up (gu_up Gj52 0 4 (Gj52 0 5)) 0 6 3) 0 7 r52) 0 5 y93) 0 4 = (Gj52 0 5) := rfl; have e9_0_5 : (gu_up (gu_up (gu_up (gu_up Gj52 0 4 (Gj52 0 5)) 0 6 3) 0 7 r52) 0 5 y93) 0 5 = y93 := rfl; (try simp only [e9_0_4, e9_0_5, true_and, and_true]) <;> (first | omega | (simp only [Int32.reduceToInt, true_and, and_true, ne_eq, not_true_eq_false, false_and, or_false, false_or, true_or, or_true, false_implies] <;> omega))), (by show ((((gu_up (gu_up (gu_up (gu_up Gj52 0 4 (Gj52 0 5)) 0 6 3) 0 7 r52) 0 5 y93) 0 6).toInt = 0 ∧ ((gu_up (gu_up (gu_up (gu_up Gj52 0 4 (Gj52 0 5)) 0 6 3) 0 7 r52) 0 5 y93) 0 4).toInt = (G 0 3).toInt) ∨ (((gu_up (gu_up (gu_up (gu_up Gj52 0 4 (Gj52 0 5)) 0 6 3) 0 7 r52) 0 5 y93) 0 6).toInt ≠ 0 ∧ ((gu_up (gu_up (gu_up (gu_up Gj52 0 4 (Gj52 0 5)) 0 6 3) 0 7 r52) 0 5 y93) 0 4).toInt < ((gu_up (gu_up (gu_up (gu_up Gj52 0 4 (Gj52 0 5)) 0 6 3) 0 7 r52) 0 5 y93) 0 5).toInt)); have e9_0_4 : (gu_up (gu_up (gu_up (gu_up Gj52 0 4 (Gj52 0 5)) 0 6 3) 0 7 r52) 0 5 y93) 0 4 = (Gj52 0 5) := rfl; have e9_0_5 : (gu_up (gu_up (gu_up (gu_up Gj52 0 4 (Gj52 0 5)) 0 6 3) 0 7 r52) 0 5 y93) 0 5 = y93 := rfl; have e9_0_6 : (gu_up (gu_up (gu_up (gu_up Gj52 0 4 (Gj52 0 5)) 0 6 3) 0 7 r52) 0 5 y93) 0 6 = 3 := rfl; (try simp only [e9_0_4, e9_0_5, e9_0_6, true_and, and_true]) <;> (first | omega | (simp only [Int32.reduceToInt, true_and, and_true, ne_eq, not_true_eq_false, false_and, or_false, false_or, true_or, or_true, false_implies] <;> omega))), (by have hc := q57; (try rw [show (gu_up (gu_up (gu_up (gu_up Gj52 0 4 (Gj52 0 5)) 0 6 3) 0 7 r52) 0 5 y93) 0 4 = (Gj52 0 5) from rfl]); (try rw [show (gu_up (gu_up (gu_up (gu_up Gj52 0 4 (Gj52 0 5)) 0 6 3) 0 7 r52) 0 5 y93) 0 5 = y93 from rfl]); (try rw [show (gu_up (gu_up (gu_up (gu_up Gj52 0 4 (Gj52 0 5)) 0 6 3) 0 7 r52) 0 5 y93) 0 6 = 3 from rfl]); (try rw [show (gu_up (gu_up (gu_up (gu_up Gj52 0 4 (Gj52 0 5)) 0 6 3) 0 7 r52) 0 5 y93) 0 7 = r52 from rfl]); exact ⟨rr, Or.inr (Or.inr (Or.inr ⟨by omega, fun h9 => by have h8 : tLe _ := h9; omega, fun h9 => by have h8 : tDi _ := h9; omega, by omega, Or.inl ⟨show tSg _ by omega, by decide, hc⟩⟩))⟩)⟩) rfl rfl dX13_scan_330
                      · refine g_iload_n F 0 dX13_scan_290 rfl rfl ?_
                        refine g_bipush F 37 dX13_scan_291 (by decide) ?_
                        refine v_icmp_ne F 300 dX13_scan_293 (by decide) r52.toInt 37 rfl rfl (fun c94 => ?_) (fun c94 => ?_)
                        · refine g_iconst F 0 dX13_scan_300 (by decide) ?_
                          refine g_istore_n F [(2, .int 0), (1, .int r52), (0, .ref (a 0))] dX13_scan_301 rfl (by decide) rfl ?_
                          refine g_aload_n F 2 dX13_scan_302 rfl rfl ?_
                          refine g_iload_n F 0 dX13_scan_303 rfl rfl ?_
                          refine v_if_eq F 311 dX13_scan_304 (by decide) 0 rfl (fun c95 => ?_) (fun c95 => absurd c95 (by decide))
                          refine g_iconst F 4 dX13_scan_311 (by decide) ?_
                          refine yp_0_6 F i_X13 w_3 dX13_scan_312 ?_
                          refine g_aload_n F 2 dX13_scan_315 rfl rfl ?_
                          refine g_iload_n F 1 dX13_scan_316 rfl rfl ?_
                          refine yp_0_7 F i_X13 w_2 dX13_scan_317 ?_
                          refine g_aload_n F 2 dX13_scan_320 rfl rfl ?_
                          refine g_dup F dX13_scan_321 rfl ?_
                          refine yg_0_5 F i_X13 w_0 dX13_scan_322 (Gj52 0 5) (rfl) ?_
                          refine g_iconst F 1 dX13_scan_325 (by decide) ?_
                          refine u_iadd F dX13_scan_326 (Gj52 0 5).toInt 1 rfl rfl (by omega) (by omega) (fun y96 ey96 => ?_)
                          refine yp_0_5 F i_X13 w_0 dX13_scan_327 ?_
                          exact u_vret F hA hQ hr (gu_up (gu_up (gu_up (gu_up Gj52 0 4 (Gj52 0 5)) 0 6 4) 0 7 r52) 0 5 y96) (⟨(gu_I.up (j := 0) (k := 5) (v := y96) (gu_I.up (j := 0) (k := 7) (v := r52) (gu_I.up (j := 0) (k := 6) (v := 4) (gu_I.up (j := 0) (k := 4) (v := (Gj52 0 5)) jI52 (show (0 : Int) ≤ Int32.toInt (Gj52 0 5) by omega) (show Int32.toInt (Gj52 0 5) ≤ 1000 by omega)) (show (0 : Int) ≤ (4 : Int32).toInt by decide) (show (4 : Int32).toInt ≤ 4 by decide)) (show (0 : Int) ≤ Int32.toInt r52 by omega) (show Int32.toInt r52 ≤ 9999 by omega)) (show (0 : Int) ≤ Int32.toInt y96 by omega) (show Int32.toInt y96 ≤ 1000 by omega)), (gu_un.up (j := 0) (k := 5) (v := y96) (gu_un.up (j := 0) (k := 7) (v := r52) (gu_un.up (j := 0) (k := 6) (v := 4) (gu_un.up (j := 0) (k := 4) (v := (Gj52 0 5)) (gu_un.tr gu_un.rf (gu_un.su jU52 rfl)) (show (5 : Nat) ∈ ([5, 6, 7, 8] : List Nat) by decide)) (show (7 : Nat) ∈ ([5, 6, 7, 8] : List Nat) by decide)) (show (8 : Nat) ∈ ([5, 6, 7, 8] : List Nat) by decide)) (show (6 : Nat) ∈ ([5, 6, 7, 8] : List Nat) by decide)), (by show (((gu_up (gu_up (gu_up (gu_up Gj52 0 4 (Gj52 0 5)) 0 6 4) 0 7 r52) 0 5 y96) 0 5).toInt ≤ (G 0 3).toInt ∧ (G 0 5).toInt ≤ ((gu_up (gu_up (gu_up (gu_up Gj52 0 4 (Gj52 0 5)) 0 6 4) 0 7 r52) 0 5 y96) 0 4).toInt ∧ ((gu_up (gu_up (gu_up (gu_up Gj52 0 4 (Gj52 0 5)) 0 6 4) 0 7 r52) 0 5 y96) 0 4).toInt ≤ ((gu_up (gu_up (gu_up (gu_up Gj52 0 4 (Gj52 0 5)) 0 6 4) 0 7 r52) 0 5 y96) 0 5).toInt); have e9_0_4 : (gu_up (gu_up (gu_up (gu_up Gj52 0 4 (Gj52 0 5)) 0 6 4) 0 7 r52) 0 5 y96) 0 4 = (Gj52 0 5) := rfl; have e9_0_5 : (gu_up (gu_up (gu_up (gu_up Gj52 0 4 (Gj52 0 5)) 0 6 4) 0 7 r52) 0 5 y96) 0 5 = y96 := rfl; (try simp only [e9_0_4, e9_0_5, true_and, and_true]) <;> (first | omega | (simp only [Int32.reduceToInt, true_and, and_true, ne_eq, not_true_eq_false, false_and, or_false, false_or, true_or, or_true, false_implies] <;> omega))), (by show ((((gu_up (gu_up (gu_up (gu_up Gj52 0 4 (Gj52 0 5)) 0 6 4) 0 7 r52) 0 5 y96) 0 6).toInt = 0 ∧ ((gu_up (gu_up (gu_up (gu_up Gj52 0 4 (Gj52 0 5)) 0 6 4) 0 7 r52) 0 5 y96) 0 4).toInt = (G 0 3).toInt) ∨ (((gu_up (gu_up (gu_up (gu_up Gj52 0 4 (Gj52 0 5)) 0 6 4) 0 7 r52) 0 5 y96) 0 6).toInt ≠ 0 ∧ ((gu_up (gu_up (gu_up (gu_up Gj52 0 4 (Gj52 0 5)) 0 6 4) 0 7 r52) 0 5 y96) 0 4).toInt < ((gu_up (gu_up (gu_up (gu_up Gj52 0 4 (Gj52 0 5)) 0 6 4) 0 7 r52) 0 5 y96) 0 5).toInt)); have e9_0_4 : (gu_up (gu_up (gu_up (gu_up Gj52 0 4 (Gj52 0 5)) 0 6 4) 0 7 r52) 0 5 y96) 0 4 = (Gj52 0 5) := rfl; have e9_0_5 : (gu_up (gu_up (gu_up (gu_up Gj52 0 4 (Gj52 0 5)) 0 6 4) 0 7 r52) 0 5 y96) 0 5 = y96 := rfl; have e9_0_6 : (gu_up (gu_up (gu_up (gu_up Gj52 0 4 (Gj52 0 5)) 0 6 4) 0 7 r52) 0 5 y96) 0 6 = 4 := rfl; (try simp only [e9_0_4, e9_0_5, e9_0_6, true_and, and_true]) <;> (first | omega | (simp only [Int32.reduceToInt, true_and, and_true, ne_eq, not_true_eq_false, false_and, or_false, false_or, true_or, or_true, false_implies] <;> omega))), (by have hc := q57; (try rw [show (gu_up (gu_up (gu_up (gu_up Gj52 0 4 (Gj52 0 5)) 0 6 4) 0 7 r52) 0 5 y96) 0 4 = (Gj52 0 5) from rfl]); (try rw [show (gu_up (gu_up (gu_up (gu_up Gj52 0 4 (Gj52 0 5)) 0 6 4) 0 7 r52) 0 5 y96) 0 5 = y96 from rfl]); (try rw [show (gu_up (gu_up (gu_up (gu_up Gj52 0 4 (Gj52 0 5)) 0 6 4) 0 7 r52) 0 5 y96) 0 6 = 4 from rfl]); (try rw [show (gu_up (gu_up (gu_up (gu_up Gj52 0 4 (Gj52 0 5)) 0 6 4) 0 7 r52) 0 5 y96) 0 7 = r52 from rfl]); exact ⟨rr, Or.inr (Or.inr (Or.inr ⟨by omega, fun h9 => by have h8 : tLe _ := h9; omega, fun h9 => by have h8 : tDi _ := h9; omega, by omega, Or.inr ⟨fun h9 => by have h8 : tSg _ := h9; omega, by decide⟩⟩))⟩)⟩) rfl rfl dX13_scan_330
                        · refine g_iconst F 1 dX13_scan_296 (by decide) ?_
                          refine g_goto F 301 dX13_scan_297 (by decide) ?_
                          refine g_istore_n F [(2, .int 1), (1, .int r52), (0, .ref (a 0))] dX13_scan_301 rfl (by decide) rfl ?_
                          refine g_aload_n F 2 dX13_scan_302 rfl rfl ?_
                          refine g_iload_n F 0 dX13_scan_303 rfl rfl ?_
                          refine v_if_eq F 311 dX13_scan_304 (by decide) 1 rfl (fun c97 => absurd c97 (by decide)) (fun c97 => ?_)
                          refine g_iconst F 3 dX13_scan_307 (by decide) ?_
                          refine g_goto F 312 dX13_scan_308 (by decide) ?_
                          refine yp_0_6 F i_X13 w_3 dX13_scan_312 ?_
                          refine g_aload_n F 2 dX13_scan_315 rfl rfl ?_
                          refine g_iload_n F 1 dX13_scan_316 rfl rfl ?_
                          refine yp_0_7 F i_X13 w_2 dX13_scan_317 ?_
                          refine g_aload_n F 2 dX13_scan_320 rfl rfl ?_
                          refine g_dup F dX13_scan_321 rfl ?_
                          refine yg_0_5 F i_X13 w_0 dX13_scan_322 (Gj52 0 5) (rfl) ?_
                          refine g_iconst F 1 dX13_scan_325 (by decide) ?_
                          refine u_iadd F dX13_scan_326 (Gj52 0 5).toInt 1 rfl rfl (by omega) (by omega) (fun y98 ey98 => ?_)
                          refine yp_0_5 F i_X13 w_0 dX13_scan_327 ?_
                          exact u_vret F hA hQ hr (gu_up (gu_up (gu_up (gu_up Gj52 0 4 (Gj52 0 5)) 0 6 3) 0 7 r52) 0 5 y98) (⟨(gu_I.up (j := 0) (k := 5) (v := y98) (gu_I.up (j := 0) (k := 7) (v := r52) (gu_I.up (j := 0) (k := 6) (v := 3) (gu_I.up (j := 0) (k := 4) (v := (Gj52 0 5)) jI52 (show (0 : Int) ≤ Int32.toInt (Gj52 0 5) by omega) (show Int32.toInt (Gj52 0 5) ≤ 1000 by omega)) (show (0 : Int) ≤ (3 : Int32).toInt by decide) (show (3 : Int32).toInt ≤ 4 by decide)) (show (0 : Int) ≤ Int32.toInt r52 by omega) (show Int32.toInt r52 ≤ 9999 by omega)) (show (0 : Int) ≤ Int32.toInt y98 by omega) (show Int32.toInt y98 ≤ 1000 by omega)), (gu_un.up (j := 0) (k := 5) (v := y98) (gu_un.up (j := 0) (k := 7) (v := r52) (gu_un.up (j := 0) (k := 6) (v := 3) (gu_un.up (j := 0) (k := 4) (v := (Gj52 0 5)) (gu_un.tr gu_un.rf (gu_un.su jU52 rfl)) (show (5 : Nat) ∈ ([5, 6, 7, 8] : List Nat) by decide)) (show (7 : Nat) ∈ ([5, 6, 7, 8] : List Nat) by decide)) (show (8 : Nat) ∈ ([5, 6, 7, 8] : List Nat) by decide)) (show (6 : Nat) ∈ ([5, 6, 7, 8] : List Nat) by decide)), (by show (((gu_up (gu_up (gu_up (gu_up Gj52 0 4 (Gj52 0 5)) 0 6 3) 0 7 r52) 0 5 y98) 0 5).toInt ≤ (G 0 3).toInt ∧ (G 0 5).toInt ≤ ((gu_up (gu_up (gu_up (gu_up Gj52 0 4 (Gj52 0 5)) 0 6 3) 0 7 r52) 0 5 y98) 0 4).toInt ∧ ((gu_up (gu_up (gu_up (gu_up Gj52 0 4 (Gj52 0 5)) 0 6 3) 0 7 r52) 0 5 y98) 0 4).toInt ≤ ((gu_up (gu_up (gu_up (gu_up Gj52 0 4 (Gj52 0 5)) 0 6 3) 0 7 r52) 0 5 y98) 0 5).toInt); have e9_0_4 : (gu_up (gu_up (gu_up (gu_up Gj52 0 4 (Gj52 0 5)) 0 6 3) 0 7 r52) 0 5 y98) 0 4 = (Gj52 0 5) := rfl; have e9_0_5 : (gu_up (gu_up (gu_up (gu_up Gj52 0 4 (Gj52 0 5)) 0 6 3) 0 7 r52) 0 5 y98) 0 5 = y98 := rfl; (try simp only [e9_0_4, e9_0_5, true_and, and_true]) <;> (first | omega | (simp only [Int32.reduceToInt, true_and, and_true, ne_eq, not_true_eq_false, false_and, or_false, false_or, true_or, or_true, false_implies] <;> omega))), (by show ((((gu_up (gu_up (gu_up (gu_up Gj52 0 4 (Gj52 0 5)) 0 6 3) 0 7 r52) 0 5 y98) 0 6).toInt = 0 ∧ ((gu_up (gu_up (gu_up (gu_up Gj52 0 4 (Gj52 0 5)) 0 6 3) 0 7 r52) 0 5 y98) 0 4).toInt = (G 0 3).toInt) ∨ (((gu_up (gu_up (gu_up (gu_up Gj52 0 4 (Gj52 0 5)) 0 6 3) 0 7 r52) 0 5 y98) 0 6).toInt ≠ 0 ∧ ((gu_up (gu_up (gu_up (gu_up Gj52 0 4 (Gj52 0 5)) 0 6 3) 0 7 r52) 0 5 y98) 0 4).toInt < ((gu_up (gu_up (gu_up (gu_up Gj52 0 4 (Gj52 0 5)) 0 6 3) 0 7 r52) 0 5 y98) 0 5).toInt)); have e9_0_4 : (gu_up (gu_up (gu_up (gu_up Gj52 0 4 (Gj52 0 5)) 0 6 3) 0 7 r52) 0 5 y98) 0 4 = (Gj52 0 5) := rfl; have e9_0_5 : (gu_up (gu_up (gu_up (gu_up Gj52 0 4 (Gj52 0 5)) 0 6 3) 0 7 r52) 0 5 y98) 0 5 = y98 := rfl; have e9_0_6 : (gu_up (gu_up (gu_up (gu_up Gj52 0 4 (Gj52 0 5)) 0 6 3) 0 7 r52) 0 5 y98) 0 6 = 3 := rfl; (try simp only [e9_0_4, e9_0_5, e9_0_6, true_and, and_true]) <;> (first | omega | (simp only [Int32.reduceToInt, true_and, and_true, ne_eq, not_true_eq_false, false_and, or_false, false_or, true_or, or_true, false_implies] <;> omega))), (by have hc := q57; (try rw [show (gu_up (gu_up (gu_up (gu_up Gj52 0 4 (Gj52 0 5)) 0 6 3) 0 7 r52) 0 5 y98) 0 4 = (Gj52 0 5) from rfl]); (try rw [show (gu_up (gu_up (gu_up (gu_up Gj52 0 4 (Gj52 0 5)) 0 6 3) 0 7 r52) 0 5 y98) 0 5 = y98 from rfl]); (try rw [show (gu_up (gu_up (gu_up (gu_up Gj52 0 4 (Gj52 0 5)) 0 6 3) 0 7 r52) 0 5 y98) 0 6 = 3 from rfl]); (try rw [show (gu_up (gu_up (gu_up (gu_up Gj52 0 4 (Gj52 0 5)) 0 6 3) 0 7 r52) 0 5 y98) 0 7 = r52 from rfl]); exact ⟨rr, Or.inr (Or.inr (Or.inr ⟨by omega, fun h9 => by have h8 : tLe _ := h9; omega, fun h9 => by have h8 : tDi _ := h9; omega, by omega, Or.inl ⟨show tSg _ by omega, by decide, hc⟩⟩))⟩)⟩) rfl rfl dX13_scan_330
    · refine g_aload_n F 1 dX13_scan_80 rfl rfl ?_
      refine g_iconst F 0 dX13_scan_81 (by decide) ?_
      refine yp_0_6 F i_X13 w_3 dX13_scan_82 ?_
      refine g_goto F 330 dX13_scan_85 (by decide) ?_
      exact u_vret F hA hQ hr (gu_up (gu_up Gj52 0 4 (Gj52 0 5)) 0 6 0) (⟨(gu_I.up (j := 0) (k := 6) (v := 0) (gu_I.up (j := 0) (k := 4) (v := (Gj52 0 5)) jI52 (show (0 : Int) ≤ Int32.toInt (Gj52 0 5) by omega) (show Int32.toInt (Gj52 0 5) ≤ 1000 by omega)) (show (0 : Int) ≤ (0 : Int32).toInt by decide) (show (0 : Int32).toInt ≤ 4 by decide)), (gu_un.up (j := 0) (k := 6) (v := 0) (gu_un.up (j := 0) (k := 4) (v := (Gj52 0 5)) (gu_un.tr gu_un.rf (gu_un.su jU52 rfl)) (show (5 : Nat) ∈ ([5, 6, 7, 8] : List Nat) by decide)) (show (7 : Nat) ∈ ([5, 6, 7, 8] : List Nat) by decide)), (by show (((gu_up (gu_up Gj52 0 4 (Gj52 0 5)) 0 6 0) 0 5).toInt ≤ (G 0 3).toInt ∧ (G 0 5).toInt ≤ ((gu_up (gu_up Gj52 0 4 (Gj52 0 5)) 0 6 0) 0 4).toInt ∧ ((gu_up (gu_up Gj52 0 4 (Gj52 0 5)) 0 6 0) 0 4).toInt ≤ ((gu_up (gu_up Gj52 0 4 (Gj52 0 5)) 0 6 0) 0 5).toInt); have e9_0_4 : (gu_up (gu_up Gj52 0 4 (Gj52 0 5)) 0 6 0) 0 4 = (Gj52 0 5) := rfl; have e9_0_5 : (gu_up (gu_up Gj52 0 4 (Gj52 0 5)) 0 6 0) 0 5 = (Gj52 0 5) := rfl; (try simp only [e9_0_4, e9_0_5, true_and, and_true]) <;> (first | omega | (simp only [Int32.reduceToInt, true_and, and_true, ne_eq, not_true_eq_false, false_and, or_false, false_or, true_or, or_true, false_implies] <;> omega))), (by show ((((gu_up (gu_up Gj52 0 4 (Gj52 0 5)) 0 6 0) 0 6).toInt = 0 ∧ ((gu_up (gu_up Gj52 0 4 (Gj52 0 5)) 0 6 0) 0 4).toInt = (G 0 3).toInt) ∨ (((gu_up (gu_up Gj52 0 4 (Gj52 0 5)) 0 6 0) 0 6).toInt ≠ 0 ∧ ((gu_up (gu_up Gj52 0 4 (Gj52 0 5)) 0 6 0) 0 4).toInt < ((gu_up (gu_up Gj52 0 4 (Gj52 0 5)) 0 6 0) 0 5).toInt)); have e9_0_4 : (gu_up (gu_up Gj52 0 4 (Gj52 0 5)) 0 6 0) 0 4 = (Gj52 0 5) := rfl; have e9_0_5 : (gu_up (gu_up Gj52 0 4 (Gj52 0 5)) 0 6 0) 0 5 = (Gj52 0 5) := rfl; have e9_0_6 : (gu_up (gu_up Gj52 0 4 (Gj52 0 5)) 0 6 0) 0 6 = 0 := rfl; (try simp only [e9_0_4, e9_0_5, e9_0_6, true_and, and_true]) <;> (first | omega | (simp only [Int32.reduceToInt, true_and, and_true, ne_eq, not_true_eq_false, false_and, or_false, false_or, true_or, or_true, false_implies] <;> omega))), (by (try rw [show (gu_up (gu_up Gj52 0 4 (Gj52 0 5)) 0 6 0) 0 4 = (Gj52 0 5) from rfl]); (try rw [show (gu_up (gu_up Gj52 0 4 (Gj52 0 5)) 0 6 0) 0 5 = (Gj52 0 5) from rfl]); (try rw [show (gu_up (gu_up Gj52 0 4 (Gj52 0 5)) 0 6 0) 0 6 = 0 from rfl]); (try rw [show (gu_up (gu_up Gj52 0 4 (Gj52 0 5)) 0 6 0) 0 7 = (G 0 7) from jU52 0 7 (by decide)]); exact ⟨rr, Or.inl ⟨by omega, by decide, by omega⟩⟩)⟩) rfl rfl dX13_scan_330
  have J_0 : ∀ (fuel : Nat) (Gj0 : gS), (2147483647 - (Gj0 0 5).toInt).toNat < fuel → (yI Gj0) → (gu_un ycd [6] G Gj0) → (tPre tBl (G 2) (G 0 3).toInt (G 0 5).toInt (Gj0 0 5).toInt) → (((Gj0 0 5).toInt ≤ (G 0 3).toInt)) → (((G 0 5).toInt ≤ (Gj0 0 5).toInt)) → gG p l e (gR 2 0 0 61) s m args below meth c D A 3 Q 0 0 (yW K a Gj0) (tK K) [(0, .ref (a 0))] 0 [] := by
    intro fuel
    induction fuel with
    | zero => intro Gj0 hm; exact absurd hm (Nat.not_lt_zero _)
    | succ fuel_0 ih_0 =>
      intro Gj0 hm_0 jI0 jU0 bp bl_0 fb_0
      have J_39 : ∀ (_ : Unit), (((Gj0 0 5).toInt < (G 0 3).toInt)) → (tBl (yBi (G 2) (G 0 3).toInt (Gj0 0 5).toInt)) → (((Gj0 0 5).toInt ≤ (G 0 3).toInt)) → (((G 0 5).toInt ≤ (Gj0 0 5).toInt)) → gG p l e (gR 2 0 0 61) s m args below meth c D A 3 Q 0 0 (yW K a Gj0) (tK K) [(0, .ref (a 0))] 39 [] := by
        intro _ g1 bl2 bl_39 fb_39
        refine g_aload_n F 0 dX13_scan_39 rfl rfl ?_
        refine g_dup F dX13_scan_40 rfl ?_
        refine yg_0_5 F i_X13 w_0 dX13_scan_41 (Gj0 0 5) (rfl) ?_
        refine g_iconst F 1 dX13_scan_44 (by decide) ?_
        have b100 : (0 : Int) ≤ (Gj0 0 5).toInt ∧ (Gj0 0 5).toInt ≤ 1000 := jI0 0 5
        refine u_iadd F dX13_scan_45 (Gj0 0 5).toInt 1 rfl rfl (by omega) (by omega) (fun y99 ey99 => ?_)
        refine yp_0_5 F i_X13 w_0 dX13_scan_46 ?_
        refine g_goto F 0 dX13_scan_49 (by decide) ?_
        exact ih_0 (gu_up Gj0 0 5 y99) (by have e9_0_5 : (gu_up Gj0 0 5 y99) 0 5 = y99 := rfl; (try simp only [e9_0_5, true_and, and_true]) <;> omega) (gu_I.up (j := 0) (k := 5) (v := y99) jI0 (show (0 : Int) ≤ Int32.toInt y99 by omega) (show Int32.toInt y99 ≤ 1000 by omega)) (gu_un.up (j := 0) (k := 5) (v := y99) (gu_un.tr gu_un.rf (gu_un.su jU0 rfl)) (show (6 : Nat) ∈ ([6] : List Nat) by decide)) (by (try rw [show (gu_up Gj0 0 5 y99) 0 5 = y99 from rfl]); exact tPre.step bp (by omega) bl2 (by omega)) (by have e9_0_3 : (gu_up Gj0 0 5 y99) 0 3 = (G 0 3) := jU0 0 3 (by decide); have e9_0_5 : (gu_up Gj0 0 5 y99) 0 5 = y99 := rfl; (try simp only [e9_0_3, e9_0_5, true_and, and_true]) <;> (first | omega | (simp only [Int32.reduceToInt, true_and, and_true, ne_eq, not_true_eq_false, false_and, or_false, false_or, true_or, or_true, false_implies] <;> omega))) (by have e9_0_5 : (gu_up Gj0 0 5 y99) 0 5 = y99 := rfl; (try simp only [e9_0_5, true_and, and_true]) <;> (first | omega | (simp only [Int32.reduceToInt, true_and, and_true, ne_eq, not_true_eq_false, false_and, or_false, false_or, true_or, or_true, false_implies] <;> omega)))
      refine g_aload_n F 0 dX13_scan_0 rfl rfl ?_
      refine yg_0_5 F i_X13 w_0 dX13_scan_1 (Gj0 0 5) (rfl) ?_
      refine g_aload_n F 0 dX13_scan_4 rfl rfl ?_
      refine yg_0_3 F i_X13 w_4 dX13_scan_5 (G 0 3) (jU0 0 3 (by decide)) ?_
      have b101 : (0 : Int) ≤ (Gj0 0 5).toInt ∧ (Gj0 0 5).toInt ≤ 1000 := jI0 0 5
      refine v_icmp_ge F 52 dX13_scan_8 (by decide) (Gj0 0 5).toInt (G 0 3).toInt rfl rfl (fun c102 => ?_) (fun c102 => ?_)
      · exact J_52 Gj0 jI0 (gu_un.tr gu_un.rf (gu_un.su jU0 rfl)) (⟨bp, fun h8 => by have h9 := yBi_raw (b := G 2) (n := (G 0 3).toInt) (k := (Gj0 0 5).toInt) (by omega) (by omega) (by omega); have h7 : tBl _ := h8.2; split at h9 <;> omega⟩) (by have e9_0_3 : Gj0 0 3 = (G 0 3) := jU0 0 3 (by decide); (try simp only [e9_0_3, true_and, and_true]) <;> (first | omega | (simp only [Int32.reduceToInt, true_and, and_true, ne_eq, not_true_eq_false, false_and, or_false, false_or, true_or, or_true, false_implies] <;> omega))) (by (first | omega | (simp only [Int32.reduceToInt, true_and, and_true, ne_eq, not_true_eq_false, false_and, or_false, false_or, true_or, or_true, false_implies] <;> omega)))
      · refine g_aload_n F 0 dX13_scan_11 rfl rfl ?_
        refine yg_0_1 F i_X13 w_5 dX13_scan_12 ?_
        refine g_aload_n F 0 dX13_scan_15 rfl rfl ?_
        refine yg_0_5 F i_X13 w_0 dX13_scan_16 (Gj0 0 5) (rfl) ?_
        refine u1_bald F 2 2 yc_2 rfl (Gj0 0 5).toInt rfl (by omega) (by omega) dX13_scan_19 ((G 2) ((Gj0 0 5).toInt).toNat) (congrFun ((show Gj0 2 = G 2 from funext fun k_ => jU0 2 k_ (show (200 : Nat) ∉ ([6] : List Nat) by decide))) _) ?_
        have b103 : ((-128) : Int) ≤ ((G 2) ((Gj0 0 5).toInt).toNat).toInt ∧ ((G 2) ((Gj0 0 5).toInt).toNat).toInt ≤ 127 := hI 2 _
        refine g_bipush F 32 dX13_scan_20 (by decide) ?_
        refine v_icmp_eq F 39 dX13_scan_22 (by decide) ((G 2) ((Gj0 0 5).toInt).toNat).toInt 32 rfl rfl (fun c104 => ?_) (fun c104 => ?_)
        · exact J_39 () (by have e9_0_3 : Gj0 0 3 = (G 0 3) := jU0 0 3 (by decide); (try simp only [e9_0_3, true_and, and_true]) <;> (first | omega | (simp only [Int32.reduceToInt, true_and, and_true, ne_eq, not_true_eq_false, false_and, or_false, false_or, true_or, or_true, false_implies] <;> omega))) (by have h9 := yBi_raw (b := G 2) (n := (G 0 3).toInt) (k := (Gj0 0 5).toInt) (by omega) (by omega) (by omega); split at h9 <;> (show tBl _; omega)) (by have e9_0_3 : Gj0 0 3 = (G 0 3) := jU0 0 3 (by decide); (try simp only [e9_0_3, true_and, and_true]) <;> (first | omega | (simp only [Int32.reduceToInt, true_and, and_true, ne_eq, not_true_eq_false, false_and, or_false, false_or, true_or, or_true, false_implies] <;> omega))) (by (first | omega | (simp only [Int32.reduceToInt, true_and, and_true, ne_eq, not_true_eq_false, false_and, or_false, false_or, true_or, or_true, false_implies] <;> omega)))
        · refine g_aload_n F 0 dX13_scan_25 rfl rfl ?_
          refine yg_0_1 F i_X13 w_5 dX13_scan_26 ?_
          refine g_aload_n F 0 dX13_scan_29 rfl rfl ?_
          refine yg_0_5 F i_X13 w_0 dX13_scan_30 (Gj0 0 5) (rfl) ?_
          refine u1_bald F 2 2 yc_2 rfl (Gj0 0 5).toInt rfl (by omega) (by omega) dX13_scan_33 ((G 2) ((Gj0 0 5).toInt).toNat) (congrFun ((show Gj0 2 = G 2 from funext fun k_ => jU0 2 k_ (show (200 : Nat) ∉ ([6] : List Nat) by decide))) _) ?_
          have b105 : ((-128) : Int) ≤ ((G 2) ((Gj0 0 5).toInt).toNat).toInt ∧ ((G 2) ((Gj0 0 5).toInt).toNat).toInt ≤ 127 := hI 2 _
          refine g_bipush F 10 dX13_scan_34 (by decide) ?_
          refine v_icmp_ne F 52 dX13_scan_36 (by decide) ((G 2) ((Gj0 0 5).toInt).toNat).toInt 10 rfl rfl (fun c106 => ?_) (fun c106 => ?_)
          · exact J_52 Gj0 jI0 (gu_un.tr gu_un.rf (gu_un.su jU0 rfl)) (⟨bp, fun h8 => by have h9 := yBi_raw (b := G 2) (n := (G 0 3).toInt) (k := (Gj0 0 5).toInt) (by omega) (by omega) (by omega); have h7 : tBl _ := h8.2; split at h9 <;> omega⟩) (by have e9_0_3 : Gj0 0 3 = (G 0 3) := jU0 0 3 (by decide); (try simp only [e9_0_3, true_and, and_true]) <;> (first | omega | (simp only [Int32.reduceToInt, true_and, and_true, ne_eq, not_true_eq_false, false_and, or_false, false_or, true_or, or_true, false_implies] <;> omega))) (by (first | omega | (simp only [Int32.reduceToInt, true_and, and_true, ne_eq, not_true_eq_false, false_and, or_false, false_or, true_or, or_true, false_implies] <;> omega)))
          · exact J_39 () (by have e9_0_3 : Gj0 0 3 = (G 0 3) := jU0 0 3 (by decide); (try simp only [e9_0_3, true_and, and_true]) <;> (first | omega | (simp only [Int32.reduceToInt, true_and, and_true, ne_eq, not_true_eq_false, false_and, or_false, false_or, true_or, or_true, false_implies] <;> omega))) (by have h9 := yBi_raw (b := G 2) (n := (G 0 3).toInt) (k := (Gj0 0 5).toInt) (by omega) (by omega) (by omega); split at h9 <;> (show tBl _; omega)) (by have e9_0_3 : Gj0 0 3 = (G 0 3) := jU0 0 3 (by decide); (try simp only [e9_0_3, true_and, and_true]) <;> (first | omega | (simp only [Int32.reduceToInt, true_and, and_true, ne_eq, not_true_eq_false, false_and, or_false, false_or, true_or, or_true, false_implies] <;> omega))) (by (first | omega | (simp only [Int32.reduceToInt, true_and, and_true, ne_eq, not_true_eq_false, false_and, or_false, false_or, true_or, or_true, false_implies] <;> omega)))
  exact J_0 _ G (Nat.lt_succ_self _) hI gu_un.rf (tPre.rf) (by (first | omega | (simp only [Int32.reduceToInt, true_and, and_true, ne_eq, not_true_eq_false, false_and, or_false, false_or, true_or, or_true, false_implies] <;> omega))) (by (first | omega | (simp only [Int32.reduceToInt, true_and, and_true, ne_eq, not_true_eq_false, false_and, or_false, false_or, true_or, or_true, false_implies] <;> omega)))

theorem dX13_bits_0 : decode cX13_bits 0 = .ok (.iconst 0, 1) := by decide +kernel
theorem dX13_bits_1 : decode cX13_bits 1 = .ok (.istore_n 1, 1) := by decide +kernel
theorem dX13_bits_2 : decode cX13_bits 2 = .ok (.iload_n 0, 1) := by decide +kernel
theorem dX13_bits_3 : decode cX13_bits 3 = .ok (.istore_n 2, 1) := by decide +kernel
theorem dX13_bits_4 : decode cX13_bits 4 = .ok (.iload_n 2, 1) := by decide +kernel
theorem dX13_bits_5 : decode cX13_bits 5 = .ok (.ifCond .eq 15, 3) := by decide +kernel
theorem dX13_bits_8 : decode cX13_bits 8 = .ok (.iinc 1 1, 3) := by decide +kernel
theorem dX13_bits_11 : decode cX13_bits 11 = .ok (.iload_n 2, 1) := by decide +kernel
theorem dX13_bits_12 : decode cX13_bits 12 = .ok (.iload_n 2, 1) := by decide +kernel
theorem dX13_bits_13 : decode cX13_bits 13 = .ok (.iconst 1, 1) := by decide +kernel
theorem dX13_bits_14 : decode cX13_bits 14 = .ok (.isub, 1) := by decide +kernel
theorem dX13_bits_15 : decode cX13_bits 15 = .ok (.iand, 1) := by decide +kernel
theorem dX13_bits_16 : decode cX13_bits 16 = .ok (.istore_n 2, 1) := by decide +kernel
theorem dX13_bits_17 : decode cX13_bits 17 = .ok (.goto (-13), 3) := by decide +kernel
theorem dX13_bits_20 : decode cX13_bits 20 = .ok (.iload_n 1, 1) := by decide +kernel
theorem dX13_bits_21 : decode cX13_bits 21 = .ok (.ireturn, 1) := by decide +kernel
set_option maxHeartbeats 4000000 in
set_option maxRecDepth 100000 in
theorem S_X13_bits (l : Launch) (D : va_G)  (p0 : Int32) (s0 : Int) (e0 : p0.toInt = s0) (sz : Nat) : Ki l yX13_bits wsX13_bits 1 40 0 0 D [.int p0] [] [] sz (fun (r : Int32) (_ : Unit) => True) (fun (_ : Unit) => []) (fun _ => []) := by
  unfold Ki
  refine g_ofW (cc := cX13_bits) (lv := [(0, .int p0)]) (by decide) rfl (Nat.le_of_ble_eq_true rfl) rfl ?_
  intro p e s m args below meth c A Q hA hQ F hr hnm
  have hts := F.2.2.2.2.1
  have rg0 : -2147483648 ≤ s0 ∧ s0 ≤ 2147483647 := e0 ▸ ti_rng p0
  have J_4 : ∀ (fuel : Nat) (x4_1 : Int32) (x4_2 : Int32), x4_2.toBitVec.toNat < fuel → gG p l e (gR 1 0 0 40) s m args below meth c D A 3 Q 0 0 [] [] [(1, .int x4_1), (2, .int x4_2)] 4 [] := by
    intro fuel
    induction fuel with
    | zero => intro x4_1 x4_2 hm; exact absurd hm (Nat.not_lt_zero _)
    | succ fuel_4 ih_4 =>
      intro x4_1 x4_2 hm_4 
      refine g_iload_n F 1 dX13_bits_4 rfl rfl ?_
      refine v_if_eq F 20 dX13_bits_5 (by decide) x4_2.toInt rfl (fun c1 => ?_) (fun c1 => ?_)
      · refine g_iload_n F 0 dX13_bits_20 rfl rfl ?_
        exact u_iret F hA hQ hr () (trivial) rfl rfl dX13_bits_21
      · refine u0_iinc F (fun v_ => [(1, .int v_), (2, .int x4_2)]) dX13_bits_8 (j := 0) rfl (by decide) (fun _ => rfl) (fun y2 => ?_)
        refine g_iload_n F 1 dX13_bits_11 rfl rfl ?_
        refine g_iload_n F 1 dX13_bits_12 rfl rfl ?_
        refine g_iconst F 1 dX13_bits_13 (by decide) ?_
        refine g_isub F dX13_bits_14 ?_
        refine g_iand F dX13_bits_15 ?_
        refine g_istore_n F [(2, .int (x4_2 &&& (x4_2 - 1))), (1, .int y2)] dX13_bits_16 rfl (by decide) rfl ?_
        refine g_goto F 4 dX13_bits_17 (by decide) ?_
        refine g_locals [(1, .int y2), (2, .int (x4_2 &&& (x4_2 - 1)))] [1, 0] rfl ?_
        exact ih_4 y2 (x4_2 &&& (x4_2 - 1)) (by have h9 := bi_dec (x := x4_2) (by omega); omega) 
  refine g_iconst F 0 dX13_bits_0 (by decide) ?_
  refine g_istore_n F [(1, .int 0), (0, .int p0)] dX13_bits_1 rfl (by decide) rfl ?_
  refine g_iload_n F 1 dX13_bits_2 rfl rfl ?_
  refine g_istore_n F [(2, .int p0), (1, .int 0), (0, .int p0)] dX13_bits_3 rfl (by decide) rfl ?_
  refine g_locals [(1, .int 0), (2, .int p0)] [1, 0] rfl ?_
  exact J_4 _ 0 p0 (Nat.lt_succ_self _) 


set_option maxHeartbeats 4000000 in
set_option maxRecDepth 100000 in
theorem S_X13_bits_b65535 (l : Launch) (D : va_G)  (p0 : Int32) (s0 : Int) (e0 : p0.toInt = s0) (h0 : 0 ≤ s0 ∧ s0 ≤ 65535) (sz : Nat) : Ki l yX13_bits wsX13_bits 1 40 0 0 D [.int p0] [] [] sz (fun (r : Int32) (_ : Unit) => (0 ≤ r.toInt ∧ r.toInt ≤ 16) ∧ (r.toInt = (bt_CT 16 (s0).toNat : Int))) (fun (_ : Unit) => []) (fun _ => []) := by
  unfold Ki
  refine g_ofW (cc := cX13_bits) (lv := [(0, .int p0)]) (by decide) rfl (Nat.le_of_ble_eq_true rfl) rfl ?_
  intro p e s m args below meth c A Q hA hQ F hr hnm
  have hts := F.2.2.2.2.1
  have c16 := bt_ctle 16 (s0).toNat
  have J_4 : ∀ (fuel : Nat) (x4_1 : Int32) (x4_2 : Int32), x4_2.toBitVec.toNat < fuel → (0 ≤ x4_1.toInt ∧ x4_1.toInt ≤ 16) → (0 ≤ x4_2.toInt ∧ x4_2.toInt ≤ 65535) → ((x4_1.toInt + (bt_CT 16 (x4_2.toInt).toNat : Int) = (bt_CT 16 (s0).toNat : Int) ∧ 0 ≤ x4_2.toInt ∧ x4_2.toInt ≤ 65535 ∧ 0 ≤ x4_1.toInt)) → gG p l e (gR 1 0 0 40) s m args below meth c D A 3 Q 0 0 [] [] [(1, .int x4_1), (2, .int x4_2)] 4 [] := by
    intro fuel
    induction fuel with
    | zero => intro x4_1 x4_2 hm; exact absurd hm (Nat.not_lt_zero _)
    | succ fuel_4 ih_4 =>
      intro x4_1 x4_2 hm_4 h4_1 h4_2 kc
      refine g_iload_n F 1 dX13_bits_4 rfl rfl ?_
      refine v_if_eq F 20 dX13_bits_5 (by decide) x4_2.toInt rfl (fun c1 => ?_) (fun c1 => ?_)
      · have z0 := bt_ct0 16
        have e0 : x4_2.toInt.toNat = 0 := by omega
        rw [e0, z0] at kc
        refine g_iload_n F 0 dX13_bits_20 rfl rfl ?_
        exact u_iret F hA hQ hr () (⟨(by have h9 := ti_rng x4_1; omega), (by omega)⟩) rfl rfl dX13_bits_21
      · refine u_iinc F (fun v_ => [(1, .int v_), (2, .int x4_2)]) dX13_bits_8 (j := 0) rfl x4_1.toInt 1 rfl rfl (by omega) (by omega) (by decide) (fun _ => rfl) (fun y2 ey2 => ?_)
        refine g_iload_n F 1 dX13_bits_11 rfl rfl ?_
        refine g_iload_n F 1 dX13_bits_12 rfl rfl ?_
        refine g_iconst F 1 dX13_bits_13 (by decide) ?_
        refine g_isub F dX13_bits_14 ?_
        refine g_iand F dX13_bits_15 ?_
        refine g_istore_n F [(2, .int (x4_2 &&& (x4_2 - 1))), (1, .int y2)] dX13_bits_16 rfl (by decide) rfl ?_
        refine g_goto F 4 dX13_bits_17 (by decide) ?_
        refine g_locals [(1, .int y2), (2, .int (x4_2 &&& (x4_2 - 1)))] [1, 0] rfl ?_
        have h9 := bi_and (x := x4_2) (by omega); have h8 := bt_kern 16 (x4_2.toInt.toNat) (by omega) (by omega); have h7 : x4_2.toInt.toNat &&& (x4_2.toInt.toNat - 1) ≤ x4_2.toInt.toNat - 1 := Nat.and_le_right; have h6 := bt_ctle 16 (x4_2.toInt.toNat &&& (x4_2.toInt.toNat - 1))
        exact ih_4 y2 (x4_2 &&& (x4_2 - 1)) (by have h5 := bi_dec (x := x4_2) (by omega); omega) (by have h9 := ti_rng y2; omega) (by have h9 := ti_rng (x4_2 &&& (x4_2 - 1)); omega) (by rw [h9, Int.toNat_natCast]; omega)
  refine g_iconst F 0 dX13_bits_0 (by decide) ?_
  refine g_istore_n F [(1, .int 0), (0, .int p0)] dX13_bits_1 rfl (by decide) rfl ?_
  refine g_iload_n F 1 dX13_bits_2 rfl rfl ?_
  refine g_istore_n F [(2, .int p0), (1, .int 0), (0, .int p0)] dX13_bits_3 rfl (by decide) rfl ?_
  refine g_locals [(1, .int 0), (2, .int p0)] [1, 0] rfl ?_
  skip
  exact J_4 _ 0 p0 (Nat.lt_succ_self _) (by decide) (by have h9 := ti_rng p0; omega) (by rw [e0]; (first | omega | (simp only [Int32.reduceToInt] <;> omega)))
