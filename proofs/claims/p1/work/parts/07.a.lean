theorem dX10_add_0 : decode cX10_add 0 = .ok (.bipush 24, 2) := by decide +kernel
theorem dX10_add_2 : decode cX10_add 2 = .ok (.istore_n 2, 1) := by decide +kernel
theorem dX10_add_3 : decode cX10_add 3 = .ok (.iload_n 2, 1) := by decide +kernel
theorem dX10_add_4 : decode cX10_add 4 = .ok (.ifCond .lt 42, 3) := by decide +kernel
theorem dX10_add_7 : decode cX10_add 7 = .ok (.aload_n 0, 1) := by decide +kernel
theorem dX10_add_8 : decode cX10_add 8 = .ok (.getfield 13, 3) := by decide +kernel
theorem dX10_add_11 : decode cX10_add 11 = .ok (.sipush 1000, 3) := by decide +kernel
theorem dX10_add_14 : decode cX10_add 14 = .ok (.if_icmp .ge 32, 3) := by decide +kernel
theorem dX10_add_17 : decode cX10_add 17 = .ok (.aload_n 0, 1) := by decide +kernel
theorem dX10_add_18 : decode cX10_add 18 = .ok (.getfield 9, 3) := by decide +kernel
theorem dX10_add_21 : decode cX10_add 21 = .ok (.aload_n 0, 1) := by decide +kernel
theorem dX10_add_22 : decode cX10_add 22 = .ok (.getfield 13, 3) := by decide +kernel
theorem dX10_add_25 : decode cX10_add 25 = .ok (.iload_n 1, 1) := by decide +kernel
theorem dX10_add_26 : decode cX10_add 26 = .ok (.iload_n 2, 1) := by decide +kernel
theorem dX10_add_27 : decode cX10_add 27 = .ok (.ishr, 1) := by decide +kernel
theorem dX10_add_28 : decode cX10_add 28 = .ok (.i2b, 1) := by decide +kernel
theorem dX10_add_29 : decode cX10_add 29 = .ok (.bastore, 1) := by decide +kernel
theorem dX10_add_30 : decode cX10_add 30 = .ok (.aload_n 0, 1) := by decide +kernel
theorem dX10_add_31 : decode cX10_add 31 = .ok (.dup, 1) := by decide +kernel
theorem dX10_add_32 : decode cX10_add 32 = .ok (.getfield 13, 3) := by decide +kernel
theorem dX10_add_35 : decode cX10_add 35 = .ok (.iconst 1, 1) := by decide +kernel
theorem dX10_add_36 : decode cX10_add 36 = .ok (.iadd, 1) := by decide +kernel
theorem dX10_add_37 : decode cX10_add 37 = .ok (.putfield 13, 3) := by decide +kernel
theorem dX10_add_40 : decode cX10_add 40 = .ok (.iinc 2 (-8), 3) := by decide +kernel
theorem dX10_add_43 : decode cX10_add 43 = .ok (.goto (-40), 3) := by decide +kernel
theorem dX10_add_46 : decode cX10_add 46 = .ok (.return_, 1) := by decide +kernel
set_option maxHeartbeats 4000000 in
set_option maxRecDepth 100000 in
theorem K_X10_add0 (l : Launch) (D : va_G) (xt : Nat) (tb : Nat) (cB : ClassId) (f : Nat → Int32) (v : Int32) (sz : Nat) : Kv l yX10_add wsX10_add 1 30 0 0 D [.ref xt, .int v] [(xt, .inr (9, [.ref tb, .int 0, .int 0, .int 0, .int 0, .int 0])), (tb, .inl (cB, 1000, .inl f))] [(cB, .byte)] sz (fun (_ : Unit) => True) (fun (_ : Unit) => [(xt, .inr (9, [.ref tb, .int 4, .int 0, .int 0, .int 0, .int 0])), (tb, .inl (cB, 1000, .inl (upd (upd (upd (upd f 0 (vp_nar .byte (v >>> (24 &&& 31)).toInt8.toInt32)) 1 (vp_nar .byte (v >>> (16 &&& 31)).toInt8.toInt32)) 2 (vp_nar .byte (v >>> (8 &&& 31)).toInt8.toInt32)) 3 (vp_nar .byte (v >>> (0 &&& 31)).toInt8.toInt32))))]) (fun (_ : Unit) => [(cB, .byte)]) := by
  unfold Kv
  refine g_ofW (cc := cX10_add) (lv := [(0, .ref xt), (1, .int v)]) (by decide) rfl (Nat.le_of_ble_eq_true rfl) rfl ?_
  intro p e s m args below meth c A Q hA hQ F hr hnm
  have hts := F.2.2.2.2.1
  have w_0 : (Cond.fieldLink RX10 13 "QuietCut$Tape" "length" "I").before args s = true := hts _ (List.mem_of_getElem? (i := 1) rfl)
  have i_X10 : ∀ w ∈ u_ws RX10 TX10 6, w ∈ wsX10_add := fun _ h => List.mem_cons_of_mem _ (List.mem_append_right _ h)
  have w_1 : (Cond.fieldLink RX10 9 "QuietCut$Tape" "bytes" "[B").before args s = true := hts _ (List.mem_of_getElem? (i := 2) rfl)
  refine g_bipush F 24 dX10_add_0 (by decide) ?_
  refine g_istore_n F [(2, .int 24), (0, .ref xt), (1, .int v)] dX10_add_2 rfl (by decide) rfl ?_
  refine g_iload_n F 0 dX10_add_3 rfl rfl ?_
  refine g_if_lt F 46 dX10_add_4 (by decide) (fun h9 => absurd h9 (by decide)) (fun c_4 => ?_)
  refine g_aload_n F 1 dX10_add_7 rfl rfl ?_
  refine g_get (C := RX10) (T := TX10) (N := 6) (v := .int 0) F i_X10 0 rfl rfl 1 (by decide) w_0 rfl rfl dX10_add_8 ?_
  refine g_sipush F 1000 dX10_add_11 (by decide) ?_
  refine g_icmp_ge F 46 dX10_add_14 (by decide) (fun h9 => absurd h9 (by decide)) (fun c_14 => ?_)
  refine g_aload_n F 1 dX10_add_17 rfl rfl ?_
  refine g_get (C := RX10) (T := TX10) (N := 6) (v := .ref tb) F i_X10 0 rfl rfl 0 (by decide) w_1 rfl rfl dX10_add_18 ?_
  refine g_aload_n F 1 dX10_add_21 rfl rfl ?_
  refine g_get (C := RX10) (T := TX10) (N := 6) (v := .int 0) F i_X10 0 rfl rfl 1 (by decide) w_0 rfl rfl dX10_add_22 ?_
  refine g_iload_n F 2 dX10_add_25 rfl rfl ?_
  refine g_iload_n F 0 dX10_add_26 rfl rfl ?_
  refine g_ishr F dX10_add_27 ?_
  refine g_i2b F dX10_add_28 ?_
  refine g_bast F 1 0 rfl rfl (by unfold vp_in; decide) [(xt, .inr (9, [.ref tb, .int 0, .int 0, .int 0, .int 0, .int 0])), (tb, .inl (cB, 1000, .inl (upd f 0 (vp_nar .byte ((v >>> (24 &&& 31)).toInt8.toInt32)))))] (rfl) dX10_add_29 ?_
  refine g_aload_n F 1 dX10_add_30 rfl rfl ?_
  refine g_dup F dX10_add_31 rfl ?_
  refine g_get (C := RX10) (T := TX10) (N := 6) (v := .int 0) F i_X10 0 rfl rfl 1 (by decide) w_0 rfl rfl dX10_add_32 ?_
  refine g_iconst F 1 dX10_add_35 (by decide) ?_
  refine g_iadd F dX10_add_36 ?_
  refine g_fold 1 (by decide) ?_
  refine g_put (C := RX10) (T := TX10) (N := 6) (ty := .int) (v := .int 1) F i_X10 0 rfl rfl 1 (by decide) w_0 rfl tyX10 tyX10_ok nmX10 rfl (by decide +kernel) rfl rfl (Nat.le_of_ble_eq_true rfl) [(xt, .inr (9, [.ref tb, .int 1, .int 0, .int 0, .int 0, .int 0])), (tb, .inl (cB, 1000, .inl (upd f 0 (vp_nar .byte ((v >>> (24 &&& 31)).toInt8.toInt32)))))] rfl dX10_add_37 ?_
  refine g_iinc F (j := 0) 16 [(2, .int 16), (0, .ref xt), (1, .int v)] dX10_add_40 rfl (by decide) (by decide) rfl ?_
  refine g_goto F 3 dX10_add_43 (by decide) ?_
  refine g_iload_n F 0 dX10_add_3 rfl rfl ?_
  refine g_if_lt F 46 dX10_add_4 (by decide) (fun h9 => absurd h9 (by decide)) (fun c_4 => ?_)
  refine g_aload_n F 1 dX10_add_7 rfl rfl ?_
  refine g_get (C := RX10) (T := TX10) (N := 6) (v := .int 1) F i_X10 0 rfl rfl 1 (by decide) w_0 rfl rfl dX10_add_8 ?_
  refine g_sipush F 1000 dX10_add_11 (by decide) ?_
  refine g_icmp_ge F 46 dX10_add_14 (by decide) (fun h9 => absurd h9 (by decide)) (fun c_14 => ?_)
  refine g_aload_n F 1 dX10_add_17 rfl rfl ?_
  refine g_get (C := RX10) (T := TX10) (N := 6) (v := .ref tb) F i_X10 0 rfl rfl 0 (by decide) w_1 rfl rfl dX10_add_18 ?_
  refine g_aload_n F 1 dX10_add_21 rfl rfl ?_
  refine g_get (C := RX10) (T := TX10) (N := 6) (v := .int 1) F i_X10 0 rfl rfl 1 (by decide) w_0 rfl rfl dX10_add_22 ?_
  refine g_iload_n F 2 dX10_add_25 rfl rfl ?_
  refine g_iload_n F 0 dX10_add_26 rfl rfl ?_
  refine g_ishr F dX10_add_27 ?_
  refine g_i2b F dX10_add_28 ?_
  refine g_bast F 1 0 rfl rfl (by unfold vp_in; decide) [(xt, .inr (9, [.ref tb, .int 1, .int 0, .int 0, .int 0, .int 0])), (tb, .inl (cB, 1000, .inl (upd (upd f 0 (vp_nar .byte ((v >>> (24 &&& 31)).toInt8.toInt32))) 1 (vp_nar .byte ((v >>> (16 &&& 31)).toInt8.toInt32)))))] (rfl) dX10_add_29 ?_
  refine g_aload_n F 1 dX10_add_30 rfl rfl ?_
  refine g_dup F dX10_add_31 rfl ?_
  refine g_get (C := RX10) (T := TX10) (N := 6) (v := .int 1) F i_X10 0 rfl rfl 1 (by decide) w_0 rfl rfl dX10_add_32 ?_
  refine g_iconst F 1 dX10_add_35 (by decide) ?_
  refine g_iadd F dX10_add_36 ?_
  refine g_fold 2 (by decide) ?_
  refine g_put (C := RX10) (T := TX10) (N := 6) (ty := .int) (v := .int 2) F i_X10 0 rfl rfl 1 (by decide) w_0 rfl tyX10 tyX10_ok nmX10 rfl (by decide +kernel) rfl rfl (Nat.le_of_ble_eq_true rfl) [(xt, .inr (9, [.ref tb, .int 2, .int 0, .int 0, .int 0, .int 0])), (tb, .inl (cB, 1000, .inl (upd (upd f 0 (vp_nar .byte ((v >>> (24 &&& 31)).toInt8.toInt32))) 1 (vp_nar .byte ((v >>> (16 &&& 31)).toInt8.toInt32)))))] rfl dX10_add_37 ?_
  refine g_iinc F (j := 0) 8 [(2, .int 8), (0, .ref xt), (1, .int v)] dX10_add_40 rfl (by decide) (by decide) rfl ?_
  refine g_goto F 3 dX10_add_43 (by decide) ?_
  refine g_iload_n F 0 dX10_add_3 rfl rfl ?_
  refine g_if_lt F 46 dX10_add_4 (by decide) (fun h9 => absurd h9 (by decide)) (fun c_4 => ?_)
  refine g_aload_n F 1 dX10_add_7 rfl rfl ?_
  refine g_get (C := RX10) (T := TX10) (N := 6) (v := .int 2) F i_X10 0 rfl rfl 1 (by decide) w_0 rfl rfl dX10_add_8 ?_
  refine g_sipush F 1000 dX10_add_11 (by decide) ?_
  refine g_icmp_ge F 46 dX10_add_14 (by decide) (fun h9 => absurd h9 (by decide)) (fun c_14 => ?_)
  refine g_aload_n F 1 dX10_add_17 rfl rfl ?_
  refine g_get (C := RX10) (T := TX10) (N := 6) (v := .ref tb) F i_X10 0 rfl rfl 0 (by decide) w_1 rfl rfl dX10_add_18 ?_
  refine g_aload_n F 1 dX10_add_21 rfl rfl ?_
  refine g_get (C := RX10) (T := TX10) (N := 6) (v := .int 2) F i_X10 0 rfl rfl 1 (by decide) w_0 rfl rfl dX10_add_22 ?_
  refine g_iload_n F 2 dX10_add_25 rfl rfl ?_
  refine g_iload_n F 0 dX10_add_26 rfl rfl ?_
  refine g_ishr F dX10_add_27 ?_
  refine g_i2b F dX10_add_28 ?_
  refine g_bast F 1 0 rfl rfl (by unfold vp_in; decide) [(xt, .inr (9, [.ref tb, .int 2, .int 0, .int 0, .int 0, .int 0])), (tb, .inl (cB, 1000, .inl (upd (upd (upd f 0 (vp_nar .byte ((v >>> (24 &&& 31)).toInt8.toInt32))) 1 (vp_nar .byte ((v >>> (16 &&& 31)).toInt8.toInt32))) 2 (vp_nar .byte ((v >>> (8 &&& 31)).toInt8.toInt32)))))] (rfl) dX10_add_29 ?_
  refine g_aload_n F 1 dX10_add_30 rfl rfl ?_
  refine g_dup F dX10_add_31 rfl ?_
  refine g_get (C := RX10) (T := TX10) (N := 6) (v := .int 2) F i_X10 0 rfl rfl 1 (by decide) w_0 rfl rfl dX10_add_32 ?_
  refine g_iconst F 1 dX10_add_35 (by decide) ?_
  refine g_iadd F dX10_add_36 ?_
  refine g_fold 3 (by decide) ?_
  refine g_put (C := RX10) (T := TX10) (N := 6) (ty := .int) (v := .int 3) F i_X10 0 rfl rfl 1 (by decide) w_0 rfl tyX10 tyX10_ok nmX10 rfl (by decide +kernel) rfl rfl (Nat.le_of_ble_eq_true rfl) [(xt, .inr (9, [.ref tb, .int 3, .int 0, .int 0, .int 0, .int 0])), (tb, .inl (cB, 1000, .inl (upd (upd (upd f 0 (vp_nar .byte ((v >>> (24 &&& 31)).toInt8.toInt32))) 1 (vp_nar .byte ((v >>> (16 &&& 31)).toInt8.toInt32))) 2 (vp_nar .byte ((v >>> (8 &&& 31)).toInt8.toInt32)))))] rfl dX10_add_37 ?_
  refine g_iinc F (j := 0) 0 [(2, .int 0), (0, .ref xt), (1, .int v)] dX10_add_40 rfl (by decide) (by decide) rfl ?_
  refine g_goto F 3 dX10_add_43 (by decide) ?_
  refine g_iload_n F 0 dX10_add_3 rfl rfl ?_
  refine g_if_lt F 46 dX10_add_4 (by decide) (fun h9 => absurd h9 (by decide)) (fun c_4 => ?_)
  refine g_aload_n F 1 dX10_add_7 rfl rfl ?_
  refine g_get (C := RX10) (T := TX10) (N := 6) (v := .int 3) F i_X10 0 rfl rfl 1 (by decide) w_0 rfl rfl dX10_add_8 ?_
  refine g_sipush F 1000 dX10_add_11 (by decide) ?_
  refine g_icmp_ge F 46 dX10_add_14 (by decide) (fun h9 => absurd h9 (by decide)) (fun c_14 => ?_)
  refine g_aload_n F 1 dX10_add_17 rfl rfl ?_
  refine g_get (C := RX10) (T := TX10) (N := 6) (v := .ref tb) F i_X10 0 rfl rfl 0 (by decide) w_1 rfl rfl dX10_add_18 ?_
  refine g_aload_n F 1 dX10_add_21 rfl rfl ?_
  refine g_get (C := RX10) (T := TX10) (N := 6) (v := .int 3) F i_X10 0 rfl rfl 1 (by decide) w_0 rfl rfl dX10_add_22 ?_
  refine g_iload_n F 2 dX10_add_25 rfl rfl ?_
  refine g_iload_n F 0 dX10_add_26 rfl rfl ?_
  refine g_ishr F dX10_add_27 ?_
  refine g_i2b F dX10_add_28 ?_
  refine g_bast F 1 0 rfl rfl (by unfold vp_in; decide) [(xt, .inr (9, [.ref tb, .int 3, .int 0, .int 0, .int 0, .int 0])), (tb, .inl (cB, 1000, .inl (upd (upd (upd (upd f 0 (vp_nar .byte ((v >>> (24 &&& 31)).toInt8.toInt32))) 1 (vp_nar .byte ((v >>> (16 &&& 31)).toInt8.toInt32))) 2 (vp_nar .byte ((v >>> (8 &&& 31)).toInt8.toInt32))) 3 (vp_nar .byte ((v >>> (0 &&& 31)).toInt8.toInt32)))))] (rfl) dX10_add_29 ?_
  refine g_aload_n F 1 dX10_add_30 rfl rfl ?_
  refine g_dup F dX10_add_31 rfl ?_
  refine g_get (C := RX10) (T := TX10) (N := 6) (v := .int 3) F i_X10 0 rfl rfl 1 (by decide) w_0 rfl rfl dX10_add_32 ?_
  refine g_iconst F 1 dX10_add_35 (by decide) ?_
  refine g_iadd F dX10_add_36 ?_
  refine g_fold 4 (by decide) ?_
  refine g_put (C := RX10) (T := TX10) (N := 6) (ty := .int) (v := .int 4) F i_X10 0 rfl rfl 1 (by decide) w_0 rfl tyX10 tyX10_ok nmX10 rfl (by decide +kernel) rfl rfl (Nat.le_of_ble_eq_true rfl) [(xt, .inr (9, [.ref tb, .int 4, .int 0, .int 0, .int 0, .int 0])), (tb, .inl (cB, 1000, .inl (upd (upd (upd (upd f 0 (vp_nar .byte ((v >>> (24 &&& 31)).toInt8.toInt32))) 1 (vp_nar .byte ((v >>> (16 &&& 31)).toInt8.toInt32))) 2 (vp_nar .byte ((v >>> (8 &&& 31)).toInt8.toInt32))) 3 (vp_nar .byte ((v >>> (0 &&& 31)).toInt8.toInt32)))))] rfl dX10_add_37 ?_
  refine g_iinc F (j := 0) (-8) [(2, .int (-8)), (0, .ref xt), (1, .int v)] dX10_add_40 rfl (by decide) (by decide) rfl ?_
  refine g_goto F 3 dX10_add_43 (by decide) ?_
  refine g_iload_n F 0 dX10_add_3 rfl rfl ?_
  refine g_if_lt F 46 dX10_add_4 (by decide) (fun c_4 => ?_) (fun h9 => absurd (by decide) h9) 
  exact g_vret F hA hQ hr () (trivial) [0, 1] [0] rfl (by decide) rfl rfl dX10_add_46


set_option maxHeartbeats 4000000 in
set_option maxRecDepth 100000 in
theorem K_X10_add4 (l : Launch) (D : va_G) (xt : Nat) (tb : Nat) (cB : ClassId) (f : Nat → Int32) (v : Int32) (sz : Nat) : Kv l yX10_add wsX10_add 1 30 0 0 D [.ref xt, .int v] [(xt, .inr (9, [.ref tb, .int 4, .int 0, .int 0, .int 0, .int 0])), (tb, .inl (cB, 1000, .inl f))] [(cB, .byte)] sz (fun (_ : Unit) => True) (fun (_ : Unit) => [(xt, .inr (9, [.ref tb, .int 8, .int 0, .int 0, .int 0, .int 0])), (tb, .inl (cB, 1000, .inl (upd (upd (upd (upd f 4 (vp_nar .byte (v >>> (24 &&& 31)).toInt8.toInt32)) 5 (vp_nar .byte (v >>> (16 &&& 31)).toInt8.toInt32)) 6 (vp_nar .byte (v >>> (8 &&& 31)).toInt8.toInt32)) 7 (vp_nar .byte (v >>> (0 &&& 31)).toInt8.toInt32))))]) (fun (_ : Unit) => [(cB, .byte)]) := by
  unfold Kv
  refine g_ofW (cc := cX10_add) (lv := [(0, .ref xt), (1, .int v)]) (by decide) rfl (Nat.le_of_ble_eq_true rfl) rfl ?_
  intro p e s m args below meth c A Q hA hQ F hr hnm
  have hts := F.2.2.2.2.1
  have w_0 : (Cond.fieldLink RX10 13 "QuietCut$Tape" "length" "I").before args s = true := hts _ (List.mem_of_getElem? (i := 1) rfl)
  have i_X10 : ∀ w ∈ u_ws RX10 TX10 6, w ∈ wsX10_add := fun _ h => List.mem_cons_of_mem _ (List.mem_append_right _ h)
  have w_1 : (Cond.fieldLink RX10 9 "QuietCut$Tape" "bytes" "[B").before args s = true := hts _ (List.mem_of_getElem? (i := 2) rfl)
  refine g_bipush F 24 dX10_add_0 (by decide) ?_
  refine g_istore_n F [(2, .int 24), (0, .ref xt), (1, .int v)] dX10_add_2 rfl (by decide) rfl ?_
  refine g_iload_n F 0 dX10_add_3 rfl rfl ?_
  refine g_if_lt F 46 dX10_add_4 (by decide) (fun h9 => absurd h9 (by decide)) (fun c_4 => ?_)
  refine g_aload_n F 1 dX10_add_7 rfl rfl ?_
  refine g_get (C := RX10) (T := TX10) (N := 6) (v := .int 4) F i_X10 0 rfl rfl 1 (by decide) w_0 rfl rfl dX10_add_8 ?_
  refine g_sipush F 1000 dX10_add_11 (by decide) ?_
  refine g_icmp_ge F 46 dX10_add_14 (by decide) (fun h9 => absurd h9 (by decide)) (fun c_14 => ?_)
  refine g_aload_n F 1 dX10_add_17 rfl rfl ?_
  refine g_get (C := RX10) (T := TX10) (N := 6) (v := .ref tb) F i_X10 0 rfl rfl 0 (by decide) w_1 rfl rfl dX10_add_18 ?_
  refine g_aload_n F 1 dX10_add_21 rfl rfl ?_
  refine g_get (C := RX10) (T := TX10) (N := 6) (v := .int 4) F i_X10 0 rfl rfl 1 (by decide) w_0 rfl rfl dX10_add_22 ?_
  refine g_iload_n F 2 dX10_add_25 rfl rfl ?_
  refine g_iload_n F 0 dX10_add_26 rfl rfl ?_
  refine g_ishr F dX10_add_27 ?_
  refine g_i2b F dX10_add_28 ?_
  refine g_bast F 1 0 rfl rfl (by unfold vp_in; decide) [(xt, .inr (9, [.ref tb, .int 4, .int 0, .int 0, .int 0, .int 0])), (tb, .inl (cB, 1000, .inl (upd f 4 (vp_nar .byte ((v >>> (24 &&& 31)).toInt8.toInt32)))))] (rfl) dX10_add_29 ?_
  refine g_aload_n F 1 dX10_add_30 rfl rfl ?_
  refine g_dup F dX10_add_31 rfl ?_
  refine g_get (C := RX10) (T := TX10) (N := 6) (v := .int 4) F i_X10 0 rfl rfl 1 (by decide) w_0 rfl rfl dX10_add_32 ?_
  refine g_iconst F 1 dX10_add_35 (by decide) ?_
  refine g_iadd F dX10_add_36 ?_
  refine g_fold 5 (by decide) ?_
  refine g_put (C := RX10) (T := TX10) (N := 6) (ty := .int) (v := .int 5) F i_X10 0 rfl rfl 1 (by decide) w_0 rfl tyX10 tyX10_ok nmX10 rfl (by decide +kernel) rfl rfl (Nat.le_of_ble_eq_true rfl) [(xt, .inr (9, [.ref tb, .int 5, .int 0, .int 0, .int 0, .int 0])), (tb, .inl (cB, 1000, .inl (upd f 4 (vp_nar .byte ((v >>> (24 &&& 31)).toInt8.toInt32)))))] rfl dX10_add_37 ?_
  refine g_iinc F (j := 0) 16 [(2, .int 16), (0, .ref xt), (1, .int v)] dX10_add_40 rfl (by decide) (by decide) rfl ?_
  refine g_goto F 3 dX10_add_43 (by decide) ?_
  refine g_iload_n F 0 dX10_add_3 rfl rfl ?_
  refine g_if_lt F 46 dX10_add_4 (by decide) (fun h9 => absurd h9 (by decide)) (fun c_4 => ?_)
  refine g_aload_n F 1 dX10_add_7 rfl rfl ?_
  refine g_get (C := RX10) (T := TX10) (N := 6) (v := .int 5) F i_X10 0 rfl rfl 1 (by decide) w_0 rfl rfl dX10_add_8 ?_
  refine g_sipush F 1000 dX10_add_11 (by decide) ?_
  refine g_icmp_ge F 46 dX10_add_14 (by decide) (fun h9 => absurd h9 (by decide)) (fun c_14 => ?_)
  refine g_aload_n F 1 dX10_add_17 rfl rfl ?_
  refine g_get (C := RX10) (T := TX10) (N := 6) (v := .ref tb) F i_X10 0 rfl rfl 0 (by decide) w_1 rfl rfl dX10_add_18 ?_
  refine g_aload_n F 1 dX10_add_21 rfl rfl ?_
  refine g_get (C := RX10) (T := TX10) (N := 6) (v := .int 5) F i_X10 0 rfl rfl 1 (by decide) w_0 rfl rfl dX10_add_22 ?_
  refine g_iload_n F 2 dX10_add_25 rfl rfl ?_
  refine g_iload_n F 0 dX10_add_26 rfl rfl ?_
  refine g_ishr F dX10_add_27 ?_
  refine g_i2b F dX10_add_28 ?_
  refine g_bast F 1 0 rfl rfl (by unfold vp_in; decide) [(xt, .inr (9, [.ref tb, .int 5, .int 0, .int 0, .int 0, .int 0])), (tb, .inl (cB, 1000, .inl (upd (upd f 4 (vp_nar .byte ((v >>> (24 &&& 31)).toInt8.toInt32))) 5 (vp_nar .byte ((v >>> (16 &&& 31)).toInt8.toInt32)))))] (rfl) dX10_add_29 ?_
  refine g_aload_n F 1 dX10_add_30 rfl rfl ?_
  refine g_dup F dX10_add_31 rfl ?_
  refine g_get (C := RX10) (T := TX10) (N := 6) (v := .int 5) F i_X10 0 rfl rfl 1 (by decide) w_0 rfl rfl dX10_add_32 ?_
  refine g_iconst F 1 dX10_add_35 (by decide) ?_
  refine g_iadd F dX10_add_36 ?_
  refine g_fold 6 (by decide) ?_
  refine g_put (C := RX10) (T := TX10) (N := 6) (ty := .int) (v := .int 6) F i_X10 0 rfl rfl 1 (by decide) w_0 rfl tyX10 tyX10_ok nmX10 rfl (by decide +kernel) rfl rfl (Nat.le_of_ble_eq_true rfl) [(xt, .inr (9, [.ref tb, .int 6, .int 0, .int 0, .int 0, .int 0])), (tb, .inl (cB, 1000, .inl (upd (upd f 4 (vp_nar .byte ((v >>> (24 &&& 31)).toInt8.toInt32))) 5 (vp_nar .byte ((v >>> (16 &&& 31)).toInt8.toInt32)))))] rfl dX10_add_37 ?_
  refine g_iinc F (j := 0) 8 [(2, .int 8), (0, .ref xt), (1, .int v)] dX10_add_40 rfl (by decide) (by decide) rfl ?_
  refine g_goto F 3 dX10_add_43 (by decide) ?_
  refine g_iload_n F 0 dX10_add_3 rfl rfl ?_
  refine g_if_lt F 46 dX10_add_4 (by decide) (fun h9 => absurd h9 (by decide)) (fun c_4 => ?_)
  refine g_aload_n F 1 dX10_add_7 rfl rfl ?_
  refine g_get (C := RX10) (T := TX10) (N := 6) (v := .int 6) F i_X10 0 rfl rfl 1 (by decide) w_0 rfl rfl dX10_add_8 ?_
  refine g_sipush F 1000 dX10_add_11 (by decide) ?_
  refine g_icmp_ge F 46 dX10_add_14 (by decide) (fun h9 => absurd h9 (by decide)) (fun c_14 => ?_)
  refine g_aload_n F 1 dX10_add_17 rfl rfl ?_
  refine g_get (C := RX10) (T := TX10) (N := 6) (v := .ref tb) F i_X10 0 rfl rfl 0 (by decide) w_1 rfl rfl dX10_add_18 ?_
  refine g_aload_n F 1 dX10_add_21 rfl rfl ?_
  refine g_get (C := RX10) (T := TX10) (N := 6) (v := .int 6) F i_X10 0 rfl rfl 1 (by decide) w_0 rfl rfl dX10_add_22 ?_
  refine g_iload_n F 2 dX10_add_25 rfl rfl ?_
  refine g_iload_n F 0 dX10_add_26 rfl rfl ?_
  refine g_ishr F dX10_add_27 ?_
  refine g_i2b F dX10_add_28 ?_
  refine g_bast F 1 0 rfl rfl (by unfold vp_in; decide) [(xt, .inr (9, [.ref tb, .int 6, .int 0, .int 0, .int 0, .int 0])), (tb, .inl (cB, 1000, .inl (upd (upd (upd f 4 (vp_nar .byte ((v >>> (24 &&& 31)).toInt8.toInt32))) 5 (vp_nar .byte ((v >>> (16 &&& 31)).toInt8.toInt32))) 6 (vp_nar .byte ((v >>> (8 &&& 31)).toInt8.toInt32)))))] (rfl) dX10_add_29 ?_
  refine g_aload_n F 1 dX10_add_30 rfl rfl ?_
  refine g_dup F dX10_add_31 rfl ?_
  refine g_get (C := RX10) (T := TX10) (N := 6) (v := .int 6) F i_X10 0 rfl rfl 1 (by decide) w_0 rfl rfl dX10_add_32 ?_
  refine g_iconst F 1 dX10_add_35 (by decide) ?_
  refine g_iadd F dX10_add_36 ?_
  refine g_fold 7 (by decide) ?_
  refine g_put (C := RX10) (T := TX10) (N := 6) (ty := .int) (v := .int 7) F i_X10 0 rfl rfl 1 (by decide) w_0 rfl tyX10 tyX10_ok nmX10 rfl (by decide +kernel) rfl rfl (Nat.le_of_ble_eq_true rfl) [(xt, .inr (9, [.ref tb, .int 7, .int 0, .int 0, .int 0, .int 0])), (tb, .inl (cB, 1000, .inl (upd (upd (upd f 4 (vp_nar .byte ((v >>> (24 &&& 31)).toInt8.toInt32))) 5 (vp_nar .byte ((v >>> (16 &&& 31)).toInt8.toInt32))) 6 (vp_nar .byte ((v >>> (8 &&& 31)).toInt8.toInt32)))))] rfl dX10_add_37 ?_
  refine g_iinc F (j := 0) 0 [(2, .int 0), (0, .ref xt), (1, .int v)] dX10_add_40 rfl (by decide) (by decide) rfl ?_
  refine g_goto F 3 dX10_add_43 (by decide) ?_
  refine g_iload_n F 0 dX10_add_3 rfl rfl ?_
  refine g_if_lt F 46 dX10_add_4 (by decide) (fun h9 => absurd h9 (by decide)) (fun c_4 => ?_)
  refine g_aload_n F 1 dX10_add_7 rfl rfl ?_
  refine g_get (C := RX10) (T := TX10) (N := 6) (v := .int 7) F i_X10 0 rfl rfl 1 (by decide) w_0 rfl rfl dX10_add_8 ?_
  refine g_sipush F 1000 dX10_add_11 (by decide) ?_
  refine g_icmp_ge F 46 dX10_add_14 (by decide) (fun h9 => absurd h9 (by decide)) (fun c_14 => ?_)
  refine g_aload_n F 1 dX10_add_17 rfl rfl ?_
  refine g_get (C := RX10) (T := TX10) (N := 6) (v := .ref tb) F i_X10 0 rfl rfl 0 (by decide) w_1 rfl rfl dX10_add_18 ?_
  refine g_aload_n F 1 dX10_add_21 rfl rfl ?_
  refine g_get (C := RX10) (T := TX10) (N := 6) (v := .int 7) F i_X10 0 rfl rfl 1 (by decide) w_0 rfl rfl dX10_add_22 ?_
  refine g_iload_n F 2 dX10_add_25 rfl rfl ?_
  refine g_iload_n F 0 dX10_add_26 rfl rfl ?_
  refine g_ishr F dX10_add_27 ?_
  refine g_i2b F dX10_add_28 ?_
  refine g_bast F 1 0 rfl rfl (by unfold vp_in; decide) [(xt, .inr (9, [.ref tb, .int 7, .int 0, .int 0, .int 0, .int 0])), (tb, .inl (cB, 1000, .inl (upd (upd (upd (upd f 4 (vp_nar .byte ((v >>> (24 &&& 31)).toInt8.toInt32))) 5 (vp_nar .byte ((v >>> (16 &&& 31)).toInt8.toInt32))) 6 (vp_nar .byte ((v >>> (8 &&& 31)).toInt8.toInt32))) 7 (vp_nar .byte ((v >>> (0 &&& 31)).toInt8.toInt32)))))] (rfl) dX10_add_29 ?_
  refine g_aload_n F 1 dX10_add_30 rfl rfl ?_
  refine g_dup F dX10_add_31 rfl ?_
  refine g_get (C := RX10) (T := TX10) (N := 6) (v := .int 7) F i_X10 0 rfl rfl 1 (by decide) w_0 rfl rfl dX10_add_32 ?_
  refine g_iconst F 1 dX10_add_35 (by decide) ?_
  refine g_iadd F dX10_add_36 ?_
  refine g_fold 8 (by decide) ?_
  refine g_put (C := RX10) (T := TX10) (N := 6) (ty := .int) (v := .int 8) F i_X10 0 rfl rfl 1 (by decide) w_0 rfl tyX10 tyX10_ok nmX10 rfl (by decide +kernel) rfl rfl (Nat.le_of_ble_eq_true rfl) [(xt, .inr (9, [.ref tb, .int 8, .int 0, .int 0, .int 0, .int 0])), (tb, .inl (cB, 1000, .inl (upd (upd (upd (upd f 4 (vp_nar .byte ((v >>> (24 &&& 31)).toInt8.toInt32))) 5 (vp_nar .byte ((v >>> (16 &&& 31)).toInt8.toInt32))) 6 (vp_nar .byte ((v >>> (8 &&& 31)).toInt8.toInt32))) 7 (vp_nar .byte ((v >>> (0 &&& 31)).toInt8.toInt32)))))] rfl dX10_add_37 ?_
  refine g_iinc F (j := 0) (-8) [(2, .int (-8)), (0, .ref xt), (1, .int v)] dX10_add_40 rfl (by decide) (by decide) rfl ?_
  refine g_goto F 3 dX10_add_43 (by decide) ?_
  refine g_iload_n F 0 dX10_add_3 rfl rfl ?_
  refine g_if_lt F 46 dX10_add_4 (by decide) (fun c_4 => ?_) (fun h9 => absurd (by decide) h9) 
  exact g_vret F hA hQ hr () (trivial) [0, 1] [0] rfl (by decide) rfl rfl dX10_add_46


set_option maxHeartbeats 4000000 in
set_option maxRecDepth 100000 in
theorem K_X10_add8 (l : Launch) (D : va_G) (xt : Nat) (tb : Nat) (cB : ClassId) (f : Nat → Int32) (v : Int32) (sz : Nat) : Kv l yX10_add wsX10_add 1 30 0 0 D [.ref xt, .int v] [(xt, .inr (9, [.ref tb, .int 8, .int 0, .int 0, .int 0, .int 0])), (tb, .inl (cB, 1000, .inl f))] [(cB, .byte)] sz (fun (_ : Unit) => True) (fun (_ : Unit) => [(xt, .inr (9, [.ref tb, .int 12, .int 0, .int 0, .int 0, .int 0])), (tb, .inl (cB, 1000, .inl (upd (upd (upd (upd f 8 (vp_nar .byte (v >>> (24 &&& 31)).toInt8.toInt32)) 9 (vp_nar .byte (v >>> (16 &&& 31)).toInt8.toInt32)) 10 (vp_nar .byte (v >>> (8 &&& 31)).toInt8.toInt32)) 11 (vp_nar .byte (v >>> (0 &&& 31)).toInt8.toInt32))))]) (fun (_ : Unit) => [(cB, .byte)]) := by
  unfold Kv
  refine g_ofW (cc := cX10_add) (lv := [(0, .ref xt), (1, .int v)]) (by decide) rfl (Nat.le_of_ble_eq_true rfl) rfl ?_
  intro p e s m args below meth c A Q hA hQ F hr hnm
  have hts := F.2.2.2.2.1
  have w_0 : (Cond.fieldLink RX10 13 "QuietCut$Tape" "length" "I").before args s = true := hts _ (List.mem_of_getElem? (i := 1) rfl)
  have i_X10 : ∀ w ∈ u_ws RX10 TX10 6, w ∈ wsX10_add := fun _ h => List.mem_cons_of_mem _ (List.mem_append_right _ h)
  have w_1 : (Cond.fieldLink RX10 9 "QuietCut$Tape" "bytes" "[B").before args s = true := hts _ (List.mem_of_getElem? (i := 2) rfl)
  refine g_bipush F 24 dX10_add_0 (by decide) ?_
  refine g_istore_n F [(2, .int 24), (0, .ref xt), (1, .int v)] dX10_add_2 rfl (by decide) rfl ?_
  refine g_iload_n F 0 dX10_add_3 rfl rfl ?_
  refine g_if_lt F 46 dX10_add_4 (by decide) (fun h9 => absurd h9 (by decide)) (fun c_4 => ?_)
  refine g_aload_n F 1 dX10_add_7 rfl rfl ?_
  refine g_get (C := RX10) (T := TX10) (N := 6) (v := .int 8) F i_X10 0 rfl rfl 1 (by decide) w_0 rfl rfl dX10_add_8 ?_
  refine g_sipush F 1000 dX10_add_11 (by decide) ?_
  refine g_icmp_ge F 46 dX10_add_14 (by decide) (fun h9 => absurd h9 (by decide)) (fun c_14 => ?_)
  refine g_aload_n F 1 dX10_add_17 rfl rfl ?_
  refine g_get (C := RX10) (T := TX10) (N := 6) (v := .ref tb) F i_X10 0 rfl rfl 0 (by decide) w_1 rfl rfl dX10_add_18 ?_
  refine g_aload_n F 1 dX10_add_21 rfl rfl ?_
  refine g_get (C := RX10) (T := TX10) (N := 6) (v := .int 8) F i_X10 0 rfl rfl 1 (by decide) w_0 rfl rfl dX10_add_22 ?_
  refine g_iload_n F 2 dX10_add_25 rfl rfl ?_
  refine g_iload_n F 0 dX10_add_26 rfl rfl ?_
  refine g_ishr F dX10_add_27 ?_
  refine g_i2b F dX10_add_28 ?_
  refine g_bast F 1 0 rfl rfl (by unfold vp_in; decide) [(xt, .inr (9, [.ref tb, .int 8, .int 0, .int 0, .int 0, .int 0])), (tb, .inl (cB, 1000, .inl (upd f 8 (vp_nar .byte ((v >>> (24 &&& 31)).toInt8.toInt32)))))] (rfl) dX10_add_29 ?_
  refine g_aload_n F 1 dX10_add_30 rfl rfl ?_
  refine g_dup F dX10_add_31 rfl ?_
  refine g_get (C := RX10) (T := TX10) (N := 6) (v := .int 8) F i_X10 0 rfl rfl 1 (by decide) w_0 rfl rfl dX10_add_32 ?_
  refine g_iconst F 1 dX10_add_35 (by decide) ?_
  refine g_iadd F dX10_add_36 ?_
  refine g_fold 9 (by decide) ?_
  refine g_put (C := RX10) (T := TX10) (N := 6) (ty := .int) (v := .int 9) F i_X10 0 rfl rfl 1 (by decide) w_0 rfl tyX10 tyX10_ok nmX10 rfl (by decide +kernel) rfl rfl (Nat.le_of_ble_eq_true rfl) [(xt, .inr (9, [.ref tb, .int 9, .int 0, .int 0, .int 0, .int 0])), (tb, .inl (cB, 1000, .inl (upd f 8 (vp_nar .byte ((v >>> (24 &&& 31)).toInt8.toInt32)))))] rfl dX10_add_37 ?_
  refine g_iinc F (j := 0) 16 [(2, .int 16), (0, .ref xt), (1, .int v)] dX10_add_40 rfl (by decide) (by decide) rfl ?_
  refine g_goto F 3 dX10_add_43 (by decide) ?_
  refine g_iload_n F 0 dX10_add_3 rfl rfl ?_
  refine g_if_lt F 46 dX10_add_4 (by decide) (fun h9 => absurd h9 (by decide)) (fun c_4 => ?_)
  refine g_aload_n F 1 dX10_add_7 rfl rfl ?_
  refine g_get (C := RX10) (T := TX10) (N := 6) (v := .int 9) F i_X10 0 rfl rfl 1 (by decide) w_0 rfl rfl dX10_add_8 ?_
  refine g_sipush F 1000 dX10_add_11 (by decide) ?_
  refine g_icmp_ge F 46 dX10_add_14 (by decide) (fun h9 => absurd h9 (by decide)) (fun c_14 => ?_)
  refine g_aload_n F 1 dX10_add_17 rfl rfl ?_
  refine g_get (C := RX10) (T := TX10) (N := 6) (v := .ref tb) F i_X10 0 rfl rfl 0 (by decide) w_1 rfl rfl dX10_add_18 ?_
  refine g_aload_n F 1 dX10_add_21 rfl rfl ?_
  refine g_get (C := RX10) (T := TX10) (N := 6) (v := .int 9) F i_X10 0 rfl rfl 1 (by decide) w_0 rfl rfl dX10_add_22 ?_
  refine g_iload_n F 2 dX10_add_25 rfl rfl ?_
  refine g_iload_n F 0 dX10_add_26 rfl rfl ?_
  refine g_ishr F dX10_add_27 ?_
  refine g_i2b F dX10_add_28 ?_
  refine g_bast F 1 0 rfl rfl (by unfold vp_in; decide) [(xt, .inr (9, [.ref tb, .int 9, .int 0, .int 0, .int 0, .int 0])), (tb, .inl (cB, 1000, .inl (upd (upd f 8 (vp_nar .byte ((v >>> (24 &&& 31)).toInt8.toInt32))) 9 (vp_nar .byte ((v >>> (16 &&& 31)).toInt8.toInt32)))))] (rfl) dX10_add_29 ?_
  refine g_aload_n F 1 dX10_add_30 rfl rfl ?_
  refine g_dup F dX10_add_31 rfl ?_
  refine g_get (C := RX10) (T := TX10) (N := 6) (v := .int 9) F i_X10 0 rfl rfl 1 (by decide) w_0 rfl rfl dX10_add_32 ?_
  refine g_iconst F 1 dX10_add_35 (by decide) ?_
  refine g_iadd F dX10_add_36 ?_
  refine g_fold 10 (by decide) ?_
  refine g_put (C := RX10) (T := TX10) (N := 6) (ty := .int) (v := .int 10) F i_X10 0 rfl rfl 1 (by decide) w_0 rfl tyX10 tyX10_ok nmX10 rfl (by decide +kernel) rfl rfl (Nat.le_of_ble_eq_true rfl) [(xt, .inr (9, [.ref tb, .int 10, .int 0, .int 0, .int 0, .int 0])), (tb, .inl (cB, 1000, .inl (upd (upd f 8 (vp_nar .byte ((v >>> (24 &&& 31)).toInt8.toInt32))) 9 (vp_nar .byte ((v >>> (16 &&& 31)).toInt8.toInt32)))))] rfl dX10_add_37 ?_
  refine g_iinc F (j := 0) 8 [(2, .int 8), (0, .ref xt), (1, .int v)] dX10_add_40 rfl (by decide) (by decide) rfl ?_
  refine g_goto F 3 dX10_add_43 (by decide) ?_
  refine g_iload_n F 0 dX10_add_3 rfl rfl ?_
  refine g_if_lt F 46 dX10_add_4 (by decide) (fun h9 => absurd h9 (by decide)) (fun c_4 => ?_)
  refine g_aload_n F 1 dX10_add_7 rfl rfl ?_
  refine g_get (C := RX10) (T := TX10) (N := 6) (v := .int 10) F i_X10 0 rfl rfl 1 (by decide) w_0 rfl rfl dX10_add_8 ?_
  refine g_sipush F 1000 dX10_add_11 (by decide) ?_
  refine g_icmp_ge F 46 dX10_add_14 (by decide) (fun h9 => absurd h9 (by decide)) (fun c_14 => ?_)
  refine g_aload_n F 1 dX10_add_17 rfl rfl ?_
  refine g_get (C := RX10) (T := TX10) (N := 6) (v := .ref tb) F i_X10 0 rfl rfl 0 (by decide) w_1 rfl rfl dX10_add_18 ?_
  refine g_aload_n F 1 dX10_add_21 rfl rfl ?_
  refine g_get (C := RX10) (T := TX10) (N := 6) (v := .int 10) F i_X10 0 rfl rfl 1 (by decide) w_0 rfl rfl dX10_add_22 ?_
  refine g_iload_n F 2 dX10_add_25 rfl rfl ?_
  refine g_iload_n F 0 dX10_add_26 rfl rfl ?_
  refine g_ishr F dX10_add_27 ?_
  refine g_i2b F dX10_add_28 ?_
  refine g_bast F 1 0 rfl rfl (by unfold vp_in; decide) [(xt, .inr (9, [.ref tb, .int 10, .int 0, .int 0, .int 0, .int 0])), (tb, .inl (cB, 1000, .inl (upd (upd (upd f 8 (vp_nar .byte ((v >>> (24 &&& 31)).toInt8.toInt32))) 9 (vp_nar .byte ((v >>> (16 &&& 31)).toInt8.toInt32))) 10 (vp_nar .byte ((v >>> (8 &&& 31)).toInt8.toInt32)))))] (rfl) dX10_add_29 ?_
  refine g_aload_n F 1 dX10_add_30 rfl rfl ?_
  refine g_dup F dX10_add_31 rfl ?_
  refine g_get (C := RX10) (T := TX10) (N := 6) (v := .int 10) F i_X10 0 rfl rfl 1 (by decide) w_0 rfl rfl dX10_add_32 ?_
  refine g_iconst F 1 dX10_add_35 (by decide) ?_
  refine g_iadd F dX10_add_36 ?_
  refine g_fold 11 (by decide) ?_
  refine g_put (C := RX10) (T := TX10) (N := 6) (ty := .int) (v := .int 11) F i_X10 0 rfl rfl 1 (by decide) w_0 rfl tyX10 tyX10_ok nmX10 rfl (by decide +kernel) rfl rfl (Nat.le_of_ble_eq_true rfl) [(xt, .inr (9, [.ref tb, .int 11, .int 0, .int 0, .int 0, .int 0])), (tb, .inl (cB, 1000, .inl (upd (upd (upd f 8 (vp_nar .byte ((v >>> (24 &&& 31)).toInt8.toInt32))) 9 (vp_nar .byte ((v >>> (16 &&& 31)).toInt8.toInt32))) 10 (vp_nar .byte ((v >>> (8 &&& 31)).toInt8.toInt32)))))] rfl dX10_add_37 ?_
  refine g_iinc F (j := 0) 0 [(2, .int 0), (0, .ref xt), (1, .int v)] dX10_add_40 rfl (by decide) (by decide) rfl ?_
  refine g_goto F 3 dX10_add_43 (by decide) ?_
  refine g_iload_n F 0 dX10_add_3 rfl rfl ?_
  refine g_if_lt F 46 dX10_add_4 (by decide) (fun h9 => absurd h9 (by decide)) (fun c_4 => ?_)
  refine g_aload_n F 1 dX10_add_7 rfl rfl ?_
  refine g_get (C := RX10) (T := TX10) (N := 6) (v := .int 11) F i_X10 0 rfl rfl 1 (by decide) w_0 rfl rfl dX10_add_8 ?_
  refine g_sipush F 1000 dX10_add_11 (by decide) ?_
  refine g_icmp_ge F 46 dX10_add_14 (by decide) (fun h9 => absurd h9 (by decide)) (fun c_14 => ?_)
  refine g_aload_n F 1 dX10_add_17 rfl rfl ?_
  refine g_get (C := RX10) (T := TX10) (N := 6) (v := .ref tb) F i_X10 0 rfl rfl 0 (by decide) w_1 rfl rfl dX10_add_18 ?_
  refine g_aload_n F 1 dX10_add_21 rfl rfl ?_
  refine g_get (C := RX10) (T := TX10) (N := 6) (v := .int 11) F i_X10 0 rfl rfl 1 (by decide) w_0 rfl rfl dX10_add_22 ?_
  refine g_iload_n F 2 dX10_add_25 rfl rfl ?_
  refine g_iload_n F 0 dX10_add_26 rfl rfl ?_
  refine g_ishr F dX10_add_27 ?_
  refine g_i2b F dX10_add_28 ?_
  refine g_bast F 1 0 rfl rfl (by unfold vp_in; decide) [(xt, .inr (9, [.ref tb, .int 11, .int 0, .int 0, .int 0, .int 0])), (tb, .inl (cB, 1000, .inl (upd (upd (upd (upd f 8 (vp_nar .byte ((v >>> (24 &&& 31)).toInt8.toInt32))) 9 (vp_nar .byte ((v >>> (16 &&& 31)).toInt8.toInt32))) 10 (vp_nar .byte ((v >>> (8 &&& 31)).toInt8.toInt32))) 11 (vp_nar .byte ((v >>> (0 &&& 31)).toInt8.toInt32)))))] (rfl) dX10_add_29 ?_
  refine g_aload_n F 1 dX10_add_30 rfl rfl ?_
  refine g_dup F dX10_add_31 rfl ?_
  refine g_get (C := RX10) (T := TX10) (N := 6) (v := .int 11) F i_X10 0 rfl rfl 1 (by decide) w_0 rfl rfl dX10_add_32 ?_
  refine g_iconst F 1 dX10_add_35 (by decide) ?_
  refine g_iadd F dX10_add_36 ?_
  refine g_fold 12 (by decide) ?_
  refine g_put (C := RX10) (T := TX10) (N := 6) (ty := .int) (v := .int 12) F i_X10 0 rfl rfl 1 (by decide) w_0 rfl tyX10 tyX10_ok nmX10 rfl (by decide +kernel) rfl rfl (Nat.le_of_ble_eq_true rfl) [(xt, .inr (9, [.ref tb, .int 12, .int 0, .int 0, .int 0, .int 0])), (tb, .inl (cB, 1000, .inl (upd (upd (upd (upd f 8 (vp_nar .byte ((v >>> (24 &&& 31)).toInt8.toInt32))) 9 (vp_nar .byte ((v >>> (16 &&& 31)).toInt8.toInt32))) 10 (vp_nar .byte ((v >>> (8 &&& 31)).toInt8.toInt32))) 11 (vp_nar .byte ((v >>> (0 &&& 31)).toInt8.toInt32)))))] rfl dX10_add_37 ?_
  refine g_iinc F (j := 0) (-8) [(2, .int (-8)), (0, .ref xt), (1, .int v)] dX10_add_40 rfl (by decide) (by decide) rfl ?_
  refine g_goto F 3 dX10_add_43 (by decide) ?_
  refine g_iload_n F 0 dX10_add_3 rfl rfl ?_
  refine g_if_lt F 46 dX10_add_4 (by decide) (fun c_4 => ?_) (fun h9 => absurd (by decide) h9) 
  exact g_vret F hA hQ hr () (trivial) [0, 1] [0] rfl (by decide) rfl rfl dX10_add_46


set_option maxHeartbeats 4000000 in
set_option maxRecDepth 100000 in
theorem K_X10_add12 (l : Launch) (D : va_G) (xt : Nat) (tb : Nat) (cB : ClassId) (f : Nat → Int32) (v : Int32) (sz : Nat) : Kv l yX10_add wsX10_add 1 30 0 0 D [.ref xt, .int v] [(xt, .inr (9, [.ref tb, .int 12, .int 0, .int 0, .int 0, .int 0])), (tb, .inl (cB, 1000, .inl f))] [(cB, .byte)] sz (fun (_ : Unit) => True) (fun (_ : Unit) => [(xt, .inr (9, [.ref tb, .int 16, .int 0, .int 0, .int 0, .int 0])), (tb, .inl (cB, 1000, .inl (upd (upd (upd (upd f 12 (vp_nar .byte (v >>> (24 &&& 31)).toInt8.toInt32)) 13 (vp_nar .byte (v >>> (16 &&& 31)).toInt8.toInt32)) 14 (vp_nar .byte (v >>> (8 &&& 31)).toInt8.toInt32)) 15 (vp_nar .byte (v >>> (0 &&& 31)).toInt8.toInt32))))]) (fun (_ : Unit) => [(cB, .byte)]) := by
  unfold Kv
  refine g_ofW (cc := cX10_add) (lv := [(0, .ref xt), (1, .int v)]) (by decide) rfl (Nat.le_of_ble_eq_true rfl) rfl ?_
  intro p e s m args below meth c A Q hA hQ F hr hnm
  have hts := F.2.2.2.2.1
  have w_0 : (Cond.fieldLink RX10 13 "QuietCut$Tape" "length" "I").before args s = true := hts _ (List.mem_of_getElem? (i := 1) rfl)
  have i_X10 : ∀ w ∈ u_ws RX10 TX10 6, w ∈ wsX10_add := fun _ h => List.mem_cons_of_mem _ (List.mem_append_right _ h)
  have w_1 : (Cond.fieldLink RX10 9 "QuietCut$Tape" "bytes" "[B").before args s = true := hts _ (List.mem_of_getElem? (i := 2) rfl)
  refine g_bipush F 24 dX10_add_0 (by decide) ?_
  refine g_istore_n F [(2, .int 24), (0, .ref xt), (1, .int v)] dX10_add_2 rfl (by decide) rfl ?_
  refine g_iload_n F 0 dX10_add_3 rfl rfl ?_
  refine g_if_lt F 46 dX10_add_4 (by decide) (fun h9 => absurd h9 (by decide)) (fun c_4 => ?_)
  refine g_aload_n F 1 dX10_add_7 rfl rfl ?_
  refine g_get (C := RX10) (T := TX10) (N := 6) (v := .int 12) F i_X10 0 rfl rfl 1 (by decide) w_0 rfl rfl dX10_add_8 ?_
  refine g_sipush F 1000 dX10_add_11 (by decide) ?_
  refine g_icmp_ge F 46 dX10_add_14 (by decide) (fun h9 => absurd h9 (by decide)) (fun c_14 => ?_)
  refine g_aload_n F 1 dX10_add_17 rfl rfl ?_
  refine g_get (C := RX10) (T := TX10) (N := 6) (v := .ref tb) F i_X10 0 rfl rfl 0 (by decide) w_1 rfl rfl dX10_add_18 ?_
  refine g_aload_n F 1 dX10_add_21 rfl rfl ?_
  refine g_get (C := RX10) (T := TX10) (N := 6) (v := .int 12) F i_X10 0 rfl rfl 1 (by decide) w_0 rfl rfl dX10_add_22 ?_
  refine g_iload_n F 2 dX10_add_25 rfl rfl ?_
  refine g_iload_n F 0 dX10_add_26 rfl rfl ?_
  refine g_ishr F dX10_add_27 ?_
  refine g_i2b F dX10_add_28 ?_
  refine g_bast F 1 0 rfl rfl (by unfold vp_in; decide) [(xt, .inr (9, [.ref tb, .int 12, .int 0, .int 0, .int 0, .int 0])), (tb, .inl (cB, 1000, .inl (upd f 12 (vp_nar .byte ((v >>> (24 &&& 31)).toInt8.toInt32)))))] (rfl) dX10_add_29 ?_
  refine g_aload_n F 1 dX10_add_30 rfl rfl ?_
  refine g_dup F dX10_add_31 rfl ?_
  refine g_get (C := RX10) (T := TX10) (N := 6) (v := .int 12) F i_X10 0 rfl rfl 1 (by decide) w_0 rfl rfl dX10_add_32 ?_
  refine g_iconst F 1 dX10_add_35 (by decide) ?_
  refine g_iadd F dX10_add_36 ?_
  refine g_fold 13 (by decide) ?_
  refine g_put (C := RX10) (T := TX10) (N := 6) (ty := .int) (v := .int 13) F i_X10 0 rfl rfl 1 (by decide) w_0 rfl tyX10 tyX10_ok nmX10 rfl (by decide +kernel) rfl rfl (Nat.le_of_ble_eq_true rfl) [(xt, .inr (9, [.ref tb, .int 13, .int 0, .int 0, .int 0, .int 0])), (tb, .inl (cB, 1000, .inl (upd f 12 (vp_nar .byte ((v >>> (24 &&& 31)).toInt8.toInt32)))))] rfl dX10_add_37 ?_
  refine g_iinc F (j := 0) 16 [(2, .int 16), (0, .ref xt), (1, .int v)] dX10_add_40 rfl (by decide) (by decide) rfl ?_
  refine g_goto F 3 dX10_add_43 (by decide) ?_
  refine g_iload_n F 0 dX10_add_3 rfl rfl ?_
  refine g_if_lt F 46 dX10_add_4 (by decide) (fun h9 => absurd h9 (by decide)) (fun c_4 => ?_)
  refine g_aload_n F 1 dX10_add_7 rfl rfl ?_
  refine g_get (C := RX10) (T := TX10) (N := 6) (v := .int 13) F i_X10 0 rfl rfl 1 (by decide) w_0 rfl rfl dX10_add_8 ?_
  refine g_sipush F 1000 dX10_add_11 (by decide) ?_
  refine g_icmp_ge F 46 dX10_add_14 (by decide) (fun h9 => absurd h9 (by decide)) (fun c_14 => ?_)
  refine g_aload_n F 1 dX10_add_17 rfl rfl ?_
  refine g_get (C := RX10) (T := TX10) (N := 6) (v := .ref tb) F i_X10 0 rfl rfl 0 (by decide) w_1 rfl rfl dX10_add_18 ?_
  refine g_aload_n F 1 dX10_add_21 rfl rfl ?_
  refine g_get (C := RX10) (T := TX10) (N := 6) (v := .int 13) F i_X10 0 rfl rfl 1 (by decide) w_0 rfl rfl dX10_add_22 ?_
  refine g_iload_n F 2 dX10_add_25 rfl rfl ?_
  refine g_iload_n F 0 dX10_add_26 rfl rfl ?_
  refine g_ishr F dX10_add_27 ?_
  refine g_i2b F dX10_add_28 ?_
  refine g_bast F 1 0 rfl rfl (by unfold vp_in; decide) [(xt, .inr (9, [.ref tb, .int 13, .int 0, .int 0, .int 0, .int 0])), (tb, .inl (cB, 1000, .inl (upd (upd f 12 (vp_nar .byte ((v >>> (24 &&& 31)).toInt8.toInt32))) 13 (vp_nar .byte ((v >>> (16 &&& 31)).toInt8.toInt32)))))] (rfl) dX10_add_29 ?_
  refine g_aload_n F 1 dX10_add_30 rfl rfl ?_
  refine g_dup F dX10_add_31 rfl ?_
  refine g_get (C := RX10) (T := TX10) (N := 6) (v := .int 13) F i_X10 0 rfl rfl 1 (by decide) w_0 rfl rfl dX10_add_32 ?_
  refine g_iconst F 1 dX10_add_35 (by decide) ?_
  refine g_iadd F dX10_add_36 ?_
  refine g_fold 14 (by decide) ?_
  refine g_put (C := RX10) (T := TX10) (N := 6) (ty := .int) (v := .int 14) F i_X10 0 rfl rfl 1 (by decide) w_0 rfl tyX10 tyX10_ok nmX10 rfl (by decide +kernel) rfl rfl (Nat.le_of_ble_eq_true rfl) [(xt, .inr (9, [.ref tb, .int 14, .int 0, .int 0, .int 0, .int 0])), (tb, .inl (cB, 1000, .inl (upd (upd f 12 (vp_nar .byte ((v >>> (24 &&& 31)).toInt8.toInt32))) 13 (vp_nar .byte ((v >>> (16 &&& 31)).toInt8.toInt32)))))] rfl dX10_add_37 ?_
  refine g_iinc F (j := 0) 8 [(2, .int 8), (0, .ref xt), (1, .int v)] dX10_add_40 rfl (by decide) (by decide) rfl ?_
  refine g_goto F 3 dX10_add_43 (by decide) ?_
  refine g_iload_n F 0 dX10_add_3 rfl rfl ?_
  refine g_if_lt F 46 dX10_add_4 (by decide) (fun h9 => absurd h9 (by decide)) (fun c_4 => ?_)
  refine g_aload_n F 1 dX10_add_7 rfl rfl ?_
  refine g_get (C := RX10) (T := TX10) (N := 6) (v := .int 14) F i_X10 0 rfl rfl 1 (by decide) w_0 rfl rfl dX10_add_8 ?_
  refine g_sipush F 1000 dX10_add_11 (by decide) ?_
  refine g_icmp_ge F 46 dX10_add_14 (by decide) (fun h9 => absurd h9 (by decide)) (fun c_14 => ?_)
  refine g_aload_n F 1 dX10_add_17 rfl rfl ?_
  refine g_get (C := RX10) (T := TX10) (N := 6) (v := .ref tb) F i_X10 0 rfl rfl 0 (by decide) w_1 rfl rfl dX10_add_18 ?_
  refine g_aload_n F 1 dX10_add_21 rfl rfl ?_
  refine g_get (C := RX10) (T := TX10) (N := 6) (v := .int 14) F i_X10 0 rfl rfl 1 (by decide) w_0 rfl rfl dX10_add_22 ?_
  refine g_iload_n F 2 dX10_add_25 rfl rfl ?_
  refine g_iload_n F 0 dX10_add_26 rfl rfl ?_
  refine g_ishr F dX10_add_27 ?_
  refine g_i2b F dX10_add_28 ?_
  refine g_bast F 1 0 rfl rfl (by unfold vp_in; decide) [(xt, .inr (9, [.ref tb, .int 14, .int 0, .int 0, .int 0, .int 0])), (tb, .inl (cB, 1000, .inl (upd (upd (upd f 12 (vp_nar .byte ((v >>> (24 &&& 31)).toInt8.toInt32))) 13 (vp_nar .byte ((v >>> (16 &&& 31)).toInt8.toInt32))) 14 (vp_nar .byte ((v >>> (8 &&& 31)).toInt8.toInt32)))))] (rfl) dX10_add_29 ?_
  refine g_aload_n F 1 dX10_add_30 rfl rfl ?_
  refine g_dup F dX10_add_31 rfl ?_
  refine g_get (C := RX10) (T := TX10) (N := 6) (v := .int 14) F i_X10 0 rfl rfl 1 (by decide) w_0 rfl rfl dX10_add_32 ?_
  refine g_iconst F 1 dX10_add_35 (by decide) ?_
  refine g_iadd F dX10_add_36 ?_
  refine g_fold 15 (by decide) ?_
  refine g_put (C := RX10) (T := TX10) (N := 6) (ty := .int) (v := .int 15) F i_X10 0 rfl rfl 1 (by decide) w_0 rfl tyX10 tyX10_ok nmX10 rfl (by decide +kernel) rfl rfl (Nat.le_of_ble_eq_true rfl) [(xt, .inr (9, [.ref tb, .int 15, .int 0, .int 0, .int 0, .int 0])), (tb, .inl (cB, 1000, .inl (upd (upd (upd f 12 (vp_nar .byte ((v >>> (24 &&& 31)).toInt8.toInt32))) 13 (vp_nar .byte ((v >>> (16 &&& 31)).toInt8.toInt32))) 14 (vp_nar .byte ((v >>> (8 &&& 31)).toInt8.toInt32)))))] rfl dX10_add_37 ?_
  refine g_iinc F (j := 0) 0 [(2, .int 0), (0, .ref xt), (1, .int v)] dX10_add_40 rfl (by decide) (by decide) rfl ?_
  refine g_goto F 3 dX10_add_43 (by decide) ?_
  refine g_iload_n F 0 dX10_add_3 rfl rfl ?_
  refine g_if_lt F 46 dX10_add_4 (by decide) (fun h9 => absurd h9 (by decide)) (fun c_4 => ?_)
  refine g_aload_n F 1 dX10_add_7 rfl rfl ?_
  refine g_get (C := RX10) (T := TX10) (N := 6) (v := .int 15) F i_X10 0 rfl rfl 1 (by decide) w_0 rfl rfl dX10_add_8 ?_
  refine g_sipush F 1000 dX10_add_11 (by decide) ?_
  refine g_icmp_ge F 46 dX10_add_14 (by decide) (fun h9 => absurd h9 (by decide)) (fun c_14 => ?_)
  refine g_aload_n F 1 dX10_add_17 rfl rfl ?_
  refine g_get (C := RX10) (T := TX10) (N := 6) (v := .ref tb) F i_X10 0 rfl rfl 0 (by decide) w_1 rfl rfl dX10_add_18 ?_
  refine g_aload_n F 1 dX10_add_21 rfl rfl ?_
  refine g_get (C := RX10) (T := TX10) (N := 6) (v := .int 15) F i_X10 0 rfl rfl 1 (by decide) w_0 rfl rfl dX10_add_22 ?_
  refine g_iload_n F 2 dX10_add_25 rfl rfl ?_
  refine g_iload_n F 0 dX10_add_26 rfl rfl ?_
  refine g_ishr F dX10_add_27 ?_
  refine g_i2b F dX10_add_28 ?_
  refine g_bast F 1 0 rfl rfl (by unfold vp_in; decide) [(xt, .inr (9, [.ref tb, .int 15, .int 0, .int 0, .int 0, .int 0])), (tb, .inl (cB, 1000, .inl (upd (upd (upd (upd f 12 (vp_nar .byte ((v >>> (24 &&& 31)).toInt8.toInt32))) 13 (vp_nar .byte ((v >>> (16 &&& 31)).toInt8.toInt32))) 14 (vp_nar .byte ((v >>> (8 &&& 31)).toInt8.toInt32))) 15 (vp_nar .byte ((v >>> (0 &&& 31)).toInt8.toInt32)))))] (rfl) dX10_add_29 ?_
  refine g_aload_n F 1 dX10_add_30 rfl rfl ?_
  refine g_dup F dX10_add_31 rfl ?_
  refine g_get (C := RX10) (T := TX10) (N := 6) (v := .int 15) F i_X10 0 rfl rfl 1 (by decide) w_0 rfl rfl dX10_add_32 ?_
  refine g_iconst F 1 dX10_add_35 (by decide) ?_
  refine g_iadd F dX10_add_36 ?_
  refine g_fold 16 (by decide) ?_
  refine g_put (C := RX10) (T := TX10) (N := 6) (ty := .int) (v := .int 16) F i_X10 0 rfl rfl 1 (by decide) w_0 rfl tyX10 tyX10_ok nmX10 rfl (by decide +kernel) rfl rfl (Nat.le_of_ble_eq_true rfl) [(xt, .inr (9, [.ref tb, .int 16, .int 0, .int 0, .int 0, .int 0])), (tb, .inl (cB, 1000, .inl (upd (upd (upd (upd f 12 (vp_nar .byte ((v >>> (24 &&& 31)).toInt8.toInt32))) 13 (vp_nar .byte ((v >>> (16 &&& 31)).toInt8.toInt32))) 14 (vp_nar .byte ((v >>> (8 &&& 31)).toInt8.toInt32))) 15 (vp_nar .byte ((v >>> (0 &&& 31)).toInt8.toInt32)))))] rfl dX10_add_37 ?_
  refine g_iinc F (j := 0) (-8) [(2, .int (-8)), (0, .ref xt), (1, .int v)] dX10_add_40 rfl (by decide) (by decide) rfl ?_
  refine g_goto F 3 dX10_add_43 (by decide) ?_
  refine g_iload_n F 0 dX10_add_3 rfl rfl ?_
  refine g_if_lt F 46 dX10_add_4 (by decide) (fun c_4 => ?_) (fun h9 => absurd (by decide) h9) 
  exact g_vret F hA hQ hr () (trivial) [0, 1] [0] rfl (by decide) rfl rfl dX10_add_46


set_option maxHeartbeats 4000000 in
set_option maxRecDepth 100000 in
theorem K_X10_add16 (l : Launch) (D : va_G) (xt : Nat) (tb : Nat) (cB : ClassId) (f : Nat → Int32) (v : Int32) (sz : Nat) : Kv l yX10_add wsX10_add 1 30 0 0 D [.ref xt, .int v] [(xt, .inr (9, [.ref tb, .int 16, .int 0, .int 0, .int 0, .int 0])), (tb, .inl (cB, 1000, .inl f))] [(cB, .byte)] sz (fun (_ : Unit) => True) (fun (_ : Unit) => [(xt, .inr (9, [.ref tb, .int 20, .int 0, .int 0, .int 0, .int 0])), (tb, .inl (cB, 1000, .inl (upd (upd (upd (upd f 16 (vp_nar .byte (v >>> (24 &&& 31)).toInt8.toInt32)) 17 (vp_nar .byte (v >>> (16 &&& 31)).toInt8.toInt32)) 18 (vp_nar .byte (v >>> (8 &&& 31)).toInt8.toInt32)) 19 (vp_nar .byte (v >>> (0 &&& 31)).toInt8.toInt32))))]) (fun (_ : Unit) => [(cB, .byte)]) := by
  unfold Kv
  refine g_ofW (cc := cX10_add) (lv := [(0, .ref xt), (1, .int v)]) (by decide) rfl (Nat.le_of_ble_eq_true rfl) rfl ?_
  intro p e s m args below meth c A Q hA hQ F hr hnm
  have hts := F.2.2.2.2.1
  have w_0 : (Cond.fieldLink RX10 13 "QuietCut$Tape" "length" "I").before args s = true := hts _ (List.mem_of_getElem? (i := 1) rfl)
  have i_X10 : ∀ w ∈ u_ws RX10 TX10 6, w ∈ wsX10_add := fun _ h => List.mem_cons_of_mem _ (List.mem_append_right _ h)
  have w_1 : (Cond.fieldLink RX10 9 "QuietCut$Tape" "bytes" "[B").before args s = true := hts _ (List.mem_of_getElem? (i := 2) rfl)
  refine g_bipush F 24 dX10_add_0 (by decide) ?_
  refine g_istore_n F [(2, .int 24), (0, .ref xt), (1, .int v)] dX10_add_2 rfl (by decide) rfl ?_
  refine g_iload_n F 0 dX10_add_3 rfl rfl ?_
  refine g_if_lt F 46 dX10_add_4 (by decide) (fun h9 => absurd h9 (by decide)) (fun c_4 => ?_)
  refine g_aload_n F 1 dX10_add_7 rfl rfl ?_
  refine g_get (C := RX10) (T := TX10) (N := 6) (v := .int 16) F i_X10 0 rfl rfl 1 (by decide) w_0 rfl rfl dX10_add_8 ?_
  refine g_sipush F 1000 dX10_add_11 (by decide) ?_
  refine g_icmp_ge F 46 dX10_add_14 (by decide) (fun h9 => absurd h9 (by decide)) (fun c_14 => ?_)
  refine g_aload_n F 1 dX10_add_17 rfl rfl ?_
  refine g_get (C := RX10) (T := TX10) (N := 6) (v := .ref tb) F i_X10 0 rfl rfl 0 (by decide) w_1 rfl rfl dX10_add_18 ?_
  refine g_aload_n F 1 dX10_add_21 rfl rfl ?_
  refine g_get (C := RX10) (T := TX10) (N := 6) (v := .int 16) F i_X10 0 rfl rfl 1 (by decide) w_0 rfl rfl dX10_add_22 ?_
  refine g_iload_n F 2 dX10_add_25 rfl rfl ?_
  refine g_iload_n F 0 dX10_add_26 rfl rfl ?_
  refine g_ishr F dX10_add_27 ?_
  refine g_i2b F dX10_add_28 ?_
  refine g_bast F 1 0 rfl rfl (by unfold vp_in; decide) [(xt, .inr (9, [.ref tb, .int 16, .int 0, .int 0, .int 0, .int 0])), (tb, .inl (cB, 1000, .inl (upd f 16 (vp_nar .byte ((v >>> (24 &&& 31)).toInt8.toInt32)))))] (rfl) dX10_add_29 ?_
  refine g_aload_n F 1 dX10_add_30 rfl rfl ?_
  refine g_dup F dX10_add_31 rfl ?_
  refine g_get (C := RX10) (T := TX10) (N := 6) (v := .int 16) F i_X10 0 rfl rfl 1 (by decide) w_0 rfl rfl dX10_add_32 ?_
  refine g_iconst F 1 dX10_add_35 (by decide) ?_
  refine g_iadd F dX10_add_36 ?_
  refine g_fold 17 (by decide) ?_
  refine g_put (C := RX10) (T := TX10) (N := 6) (ty := .int) (v := .int 17) F i_X10 0 rfl rfl 1 (by decide) w_0 rfl tyX10 tyX10_ok nmX10 rfl (by decide +kernel) rfl rfl (Nat.le_of_ble_eq_true rfl) [(xt, .inr (9, [.ref tb, .int 17, .int 0, .int 0, .int 0, .int 0])), (tb, .inl (cB, 1000, .inl (upd f 16 (vp_nar .byte ((v >>> (24 &&& 31)).toInt8.toInt32)))))] rfl dX10_add_37 ?_
  refine g_iinc F (j := 0) 16 [(2, .int 16), (0, .ref xt), (1, .int v)] dX10_add_40 rfl (by decide) (by decide) rfl ?_
  refine g_goto F 3 dX10_add_43 (by decide) ?_
  refine g_iload_n F 0 dX10_add_3 rfl rfl ?_
  refine g_if_lt F 46 dX10_add_4 (by decide) (fun h9 => absurd h9 (by decide)) (fun c_4 => ?_)
  refine g_aload_n F 1 dX10_add_7 rfl rfl ?_
  refine g_get (C := RX10) (T := TX10) (N := 6) (v := .int 17) F i_X10 0 rfl rfl 1 (by decide) w_0 rfl rfl dX10_add_8 ?_
  refine g_sipush F 1000 dX10_add_11 (by decide) ?_
  refine g_icmp_ge F 46 dX10_add_14 (by decide) (fun h9 => absurd h9 (by decide)) (fun c_14 => ?_)
  refine g_aload_n F 1 dX10_add_17 rfl rfl ?_
  refine g_get (C := RX10) (T := TX10) (N := 6) (v := .ref tb) F i_X10 0 rfl rfl 0 (by decide) w_1 rfl rfl dX10_add_18 ?_
  refine g_aload_n F 1 dX10_add_21 rfl rfl ?_
  refine g_get (C := RX10) (T := TX10) (N := 6) (v := .int 17) F i_X10 0 rfl rfl 1 (by decide) w_0 rfl rfl dX10_add_22 ?_
  refine g_iload_n F 2 dX10_add_25 rfl rfl ?_
  refine g_iload_n F 0 dX10_add_26 rfl rfl ?_
  refine g_ishr F dX10_add_27 ?_
  refine g_i2b F dX10_add_28 ?_
  refine g_bast F 1 0 rfl rfl (by unfold vp_in; decide) [(xt, .inr (9, [.ref tb, .int 17, .int 0, .int 0, .int 0, .int 0])), (tb, .inl (cB, 1000, .inl (upd (upd f 16 (vp_nar .byte ((v >>> (24 &&& 31)).toInt8.toInt32))) 17 (vp_nar .byte ((v >>> (16 &&& 31)).toInt8.toInt32)))))] (rfl) dX10_add_29 ?_
  refine g_aload_n F 1 dX10_add_30 rfl rfl ?_
  refine g_dup F dX10_add_31 rfl ?_
  refine g_get (C := RX10) (T := TX10) (N := 6) (v := .int 17) F i_X10 0 rfl rfl 1 (by decide) w_0 rfl rfl dX10_add_32 ?_
  refine g_iconst F 1 dX10_add_35 (by decide) ?_
  refine g_iadd F dX10_add_36 ?_
  refine g_fold 18 (by decide) ?_
  refine g_put (C := RX10) (T := TX10) (N := 6) (ty := .int) (v := .int 18) F i_X10 0 rfl rfl 1 (by decide) w_0 rfl tyX10 tyX10_ok nmX10 rfl (by decide +kernel) rfl rfl (Nat.le_of_ble_eq_true rfl) [(xt, .inr (9, [.ref tb, .int 18, .int 0, .int 0, .int 0, .int 0])), (tb, .inl (cB, 1000, .inl (upd (upd f 16 (vp_nar .byte ((v >>> (24 &&& 31)).toInt8.toInt32))) 17 (vp_nar .byte ((v >>> (16 &&& 31)).toInt8.toInt32)))))] rfl dX10_add_37 ?_
  refine g_iinc F (j := 0) 8 [(2, .int 8), (0, .ref xt), (1, .int v)] dX10_add_40 rfl (by decide) (by decide) rfl ?_
  refine g_goto F 3 dX10_add_43 (by decide) ?_
  refine g_iload_n F 0 dX10_add_3 rfl rfl ?_
  refine g_if_lt F 46 dX10_add_4 (by decide) (fun h9 => absurd h9 (by decide)) (fun c_4 => ?_)
  refine g_aload_n F 1 dX10_add_7 rfl rfl ?_
  refine g_get (C := RX10) (T := TX10) (N := 6) (v := .int 18) F i_X10 0 rfl rfl 1 (by decide) w_0 rfl rfl dX10_add_8 ?_
  refine g_sipush F 1000 dX10_add_11 (by decide) ?_
  refine g_icmp_ge F 46 dX10_add_14 (by decide) (fun h9 => absurd h9 (by decide)) (fun c_14 => ?_)
  refine g_aload_n F 1 dX10_add_17 rfl rfl ?_
  refine g_get (C := RX10) (T := TX10) (N := 6) (v := .ref tb) F i_X10 0 rfl rfl 0 (by decide) w_1 rfl rfl dX10_add_18 ?_
  refine g_aload_n F 1 dX10_add_21 rfl rfl ?_
  refine g_get (C := RX10) (T := TX10) (N := 6) (v := .int 18) F i_X10 0 rfl rfl 1 (by decide) w_0 rfl rfl dX10_add_22 ?_
  refine g_iload_n F 2 dX10_add_25 rfl rfl ?_
  refine g_iload_n F 0 dX10_add_26 rfl rfl ?_
  refine g_ishr F dX10_add_27 ?_
  refine g_i2b F dX10_add_28 ?_
  refine g_bast F 1 0 rfl rfl (by unfold vp_in; decide) [(xt, .inr (9, [.ref tb, .int 18, .int 0, .int 0, .int 0, .int 0])), (tb, .inl (cB, 1000, .inl (upd (upd (upd f 16 (vp_nar .byte ((v >>> (24 &&& 31)).toInt8.toInt32))) 17 (vp_nar .byte ((v >>> (16 &&& 31)).toInt8.toInt32))) 18 (vp_nar .byte ((v >>> (8 &&& 31)).toInt8.toInt32)))))] (rfl) dX10_add_29 ?_
  refine g_aload_n F 1 dX10_add_30 rfl rfl ?_
  refine g_dup F dX10_add_31 rfl ?_
  refine g_get (C := RX10) (T := TX10) (N := 6) (v := .int 18) F i_X10 0 rfl rfl 1 (by decide) w_0 rfl rfl dX10_add_32 ?_
  refine g_iconst F 1 dX10_add_35 (by decide) ?_
  refine g_iadd F dX10_add_36 ?_
  refine g_fold 19 (by decide) ?_
  refine g_put (C := RX10) (T := TX10) (N := 6) (ty := .int) (v := .int 19) F i_X10 0 rfl rfl 1 (by decide) w_0 rfl tyX10 tyX10_ok nmX10 rfl (by decide +kernel) rfl rfl (Nat.le_of_ble_eq_true rfl) [(xt, .inr (9, [.ref tb, .int 19, .int 0, .int 0, .int 0, .int 0])), (tb, .inl (cB, 1000, .inl (upd (upd (upd f 16 (vp_nar .byte ((v >>> (24 &&& 31)).toInt8.toInt32))) 17 (vp_nar .byte ((v >>> (16 &&& 31)).toInt8.toInt32))) 18 (vp_nar .byte ((v >>> (8 &&& 31)).toInt8.toInt32)))))] rfl dX10_add_37 ?_
  refine g_iinc F (j := 0) 0 [(2, .int 0), (0, .ref xt), (1, .int v)] dX10_add_40 rfl (by decide) (by decide) rfl ?_
  refine g_goto F 3 dX10_add_43 (by decide) ?_
  refine g_iload_n F 0 dX10_add_3 rfl rfl ?_
  refine g_if_lt F 46 dX10_add_4 (by decide) (fun h9 => absurd h9 (by decide)) (fun c_4 => ?_)
  refine g_aload_n F 1 dX10_add_7 rfl rfl ?_
  refine g_get (C := RX10) (T := TX10) (N := 6) (v := .int 19) F i_X10 0 rfl rfl 1 (by decide) w_0 rfl rfl dX10_add_8 ?_
  refine g_sipush F 1000 dX10_add_11 (by decide) ?_
  refine g_icmp_ge F 46 dX10_add_14 (by decide) (fun h9 => absurd h9 (by decide)) (fun c_14 => ?_)
  refine g_aload_n F 1 dX10_add_17 rfl rfl ?_
  refine g_get (C := RX10) (T := TX10) (N := 6) (v := .ref tb) F i_X10 0 rfl rfl 0 (by decide) w_1 rfl rfl dX10_add_18 ?_
  refine g_aload_n F 1 dX10_add_21 rfl rfl ?_
  refine g_get (C := RX10) (T := TX10) (N := 6) (v := .int 19) F i_X10 0 rfl rfl 1 (by decide) w_0 rfl rfl dX10_add_22 ?_
  refine g_iload_n F 2 dX10_add_25 rfl rfl ?_
  refine g_iload_n F 0 dX10_add_26 rfl rfl ?_
  refine g_ishr F dX10_add_27 ?_
  refine g_i2b F dX10_add_28 ?_
  refine g_bast F 1 0 rfl rfl (by unfold vp_in; decide) [(xt, .inr (9, [.ref tb, .int 19, .int 0, .int 0, .int 0, .int 0])), (tb, .inl (cB, 1000, .inl (upd (upd (upd (upd f 16 (vp_nar .byte ((v >>> (24 &&& 31)).toInt8.toInt32))) 17 (vp_nar .byte ((v >>> (16 &&& 31)).toInt8.toInt32))) 18 (vp_nar .byte ((v >>> (8 &&& 31)).toInt8.toInt32))) 19 (vp_nar .byte ((v >>> (0 &&& 31)).toInt8.toInt32)))))] (rfl) dX10_add_29 ?_
  refine g_aload_n F 1 dX10_add_30 rfl rfl ?_
  refine g_dup F dX10_add_31 rfl ?_
  refine g_get (C := RX10) (T := TX10) (N := 6) (v := .int 19) F i_X10 0 rfl rfl 1 (by decide) w_0 rfl rfl dX10_add_32 ?_
  refine g_iconst F 1 dX10_add_35 (by decide) ?_
  refine g_iadd F dX10_add_36 ?_
  refine g_fold 20 (by decide) ?_
  refine g_put (C := RX10) (T := TX10) (N := 6) (ty := .int) (v := .int 20) F i_X10 0 rfl rfl 1 (by decide) w_0 rfl tyX10 tyX10_ok nmX10 rfl (by decide +kernel) rfl rfl (Nat.le_of_ble_eq_true rfl) [(xt, .inr (9, [.ref tb, .int 20, .int 0, .int 0, .int 0, .int 0])), (tb, .inl (cB, 1000, .inl (upd (upd (upd (upd f 16 (vp_nar .byte ((v >>> (24 &&& 31)).toInt8.toInt32))) 17 (vp_nar .byte ((v >>> (16 &&& 31)).toInt8.toInt32))) 18 (vp_nar .byte ((v >>> (8 &&& 31)).toInt8.toInt32))) 19 (vp_nar .byte ((v >>> (0 &&& 31)).toInt8.toInt32)))))] rfl dX10_add_37 ?_
  refine g_iinc F (j := 0) (-8) [(2, .int (-8)), (0, .ref xt), (1, .int v)] dX10_add_40 rfl (by decide) (by decide) rfl ?_
  refine g_goto F 3 dX10_add_43 (by decide) ?_
  refine g_iload_n F 0 dX10_add_3 rfl rfl ?_
  refine g_if_lt F 46 dX10_add_4 (by decide) (fun c_4 => ?_) (fun h9 => absurd (by decide) h9) 
  exact g_vret F hA hQ hr () (trivial) [0, 1] [0] rfl (by decide) rfl rfl dX10_add_46

theorem dX10_hasRoomFor_0 : decode cX10_hasRoomFor 0 = .ok (.aload_n 0, 1) := by decide +kernel
theorem dX10_hasRoomFor_1 : decode cX10_hasRoomFor 1 = .ok (.getfield 13, 3) := by decide +kernel
theorem dX10_hasRoomFor_4 : decode cX10_hasRoomFor 4 = .ok (.iload_n 1, 1) := by decide +kernel
theorem dX10_hasRoomFor_5 : decode cX10_hasRoomFor 5 = .ok (.iadd, 1) := by decide +kernel
theorem dX10_hasRoomFor_6 : decode cX10_hasRoomFor 6 = .ok (.sipush 1000, 3) := by decide +kernel
theorem dX10_hasRoomFor_9 : decode cX10_hasRoomFor 9 = .ok (.if_icmp .gt 7, 3) := by decide +kernel
theorem dX10_hasRoomFor_12 : decode cX10_hasRoomFor 12 = .ok (.iconst 1, 1) := by decide +kernel
theorem dX10_hasRoomFor_13 : decode cX10_hasRoomFor 13 = .ok (.goto 4, 3) := by decide +kernel
theorem dX10_hasRoomFor_16 : decode cX10_hasRoomFor 16 = .ok (.iconst 0, 1) := by decide +kernel
theorem dX10_hasRoomFor_17 : decode cX10_hasRoomFor 17 = .ok (.ireturn, 1) := by decide +kernel
set_option maxHeartbeats 4000000 in
set_option maxRecDepth 100000 in
theorem K_X10_hasRoomFor (l : Launch) (D : va_G) (xt : Nat) (tb : Nat) (k : Int32) (sz : Nat) : Ki l yX10_hasRoomFor wsX10_hasRoomFor 1 40 0 0 D [.ref xt, .int k] [(xt, .inr (9, [.ref tb, .int 0, .int 0, .int 0, .int 0, .int 0]))] [] sz (fun (r : Int32) (_ : Unit) => r = (if k ≤ 1000 then 1 else 0)) (fun (_ : Unit) => [(xt, .inr (9, [.ref tb, .int 0, .int 0, .int 0, .int 0, .int 0]))]) (fun (_ : Unit) => []) := by
  unfold Ki
  refine g_ofW (cc := cX10_hasRoomFor) (lv := [(0, .ref xt), (1, .int k)]) (by decide) rfl (Nat.le_of_ble_eq_true rfl) rfl ?_
  intro p e s m args below meth c A Q hA hQ F hr hnm
  have hts := F.2.2.2.2.1
  have w_0 : (Cond.fieldLink RX10 13 "QuietCut$Tape" "length" "I").before args s = true := hts _ (List.mem_of_getElem? (i := 1) rfl)
  have i_X10 : ∀ w ∈ u_ws RX10 TX10 6, w ∈ wsX10_hasRoomFor := fun _ h => List.mem_cons_of_mem _ (List.mem_append_right _ h)
  refine g_aload_n F 0 dX10_hasRoomFor_0 rfl rfl ?_
  refine g_get (C := RX10) (T := TX10) (N := 6) (v := .int 0) F i_X10 0 rfl rfl 1 (by decide) w_0 rfl rfl dX10_hasRoomFor_1 ?_
  refine g_iload_n F 1 dX10_hasRoomFor_4 rfl rfl ?_
  refine g_iadd F dX10_hasRoomFor_5 ?_
  refine g_fold k (by simp) ?_
  refine g_sipush F 1000 dX10_hasRoomFor_6 (by decide) ?_
  refine g_icmp_gt F 16 dX10_hasRoomFor_9 (by decide) (fun c_9 => ?_) (fun c_9 => ?_)
  · refine g_iconst F 0 dX10_hasRoomFor_16 (by decide) ?_
    exact g_zret F hA hQ hr rfl () (gb_f (by (simp only [Int32.lt_iff_toInt_lt, Int32.le_iff_toInt_le, ← Int32.toInt_inj, Int32.reduceToInt] at c_9 ⊢; omega))) [0] [] rfl (by decide) rfl rfl dX10_hasRoomFor_17
  · refine g_iconst F 1 dX10_hasRoomFor_12 (by decide) ?_
    refine g_goto F 17 dX10_hasRoomFor_13 (by decide) ?_
    exact g_zret F hA hQ hr rfl () (gb_t (by (simp only [Int32.lt_iff_toInt_lt, Int32.le_iff_toInt_le, ← Int32.toInt_inj, Int32.reduceToInt] at c_9 ⊢; omega))) [0] [] rfl (by decide) rfl rfl dX10_hasRoomFor_17

theorem dX11_feed_0 : decode cX11_feed 0 = .ok (.aload_n 0, 1) := by decide +kernel
theorem dX11_feed_1 : decode cX11_feed 1 = .ok (.getfield 12, 3) := by decide +kernel
theorem dX11_feed_4 : decode cX11_feed 4 = .ok (.bipush 20, 2) := by decide +kernel
theorem dX11_feed_6 : decode cX11_feed 6 = .ok (.invokevirtual 93, 3) := by decide +kernel
theorem dX11_feed_9 : decode cX11_feed 9 = .ok (.ifCond .ne 6, 3) := by decide +kernel
theorem dX11_feed_12 : decode cX11_feed 12 = .ok (.bipush (-3), 2) := by decide +kernel
theorem dX11_feed_14 : decode cX11_feed 14 = .ok (.ireturn, 1) := by decide +kernel
theorem dX11_feed_15 : decode cX11_feed 15 = .ok (.aload_n 0, 1) := by decide +kernel
theorem dX11_feed_16 : decode cX11_feed 16 = .ok (.getfield 12, 3) := by decide +kernel
theorem dX11_feed_19 : decode cX11_feed 19 = .ok (.iload_n 1, 1) := by decide +kernel
theorem dX11_feed_20 : decode cX11_feed 20 = .ok (.invokevirtual 97, 3) := by decide +kernel
theorem dX11_feed_23 : decode cX11_feed 23 = .ok (.aload_n 0, 1) := by decide +kernel
theorem dX11_feed_24 : decode cX11_feed 24 = .ok (.getfield 12, 3) := by decide +kernel
theorem dX11_feed_27 : decode cX11_feed 27 = .ok (.iload_n 2, 1) := by decide +kernel
theorem dX11_feed_28 : decode cX11_feed 28 = .ok (.invokevirtual 97, 3) := by decide +kernel
theorem dX11_feed_31 : decode cX11_feed 31 = .ok (.aload_n 0, 1) := by decide +kernel
theorem dX11_feed_32 : decode cX11_feed 32 = .ok (.getfield 12, 3) := by decide +kernel
theorem dX11_feed_35 : decode cX11_feed 35 = .ok (.iload_n 3, 1) := by decide +kernel
theorem dX11_feed_36 : decode cX11_feed 36 = .ok (.invokevirtual 97, 3) := by decide +kernel
theorem dX11_feed_39 : decode cX11_feed 39 = .ok (.aload_n 0, 1) := by decide +kernel
theorem dX11_feed_40 : decode cX11_feed 40 = .ok (.getfield 12, 3) := by decide +kernel
theorem dX11_feed_43 : decode cX11_feed 43 = .ok (.iload 4, 2) := by decide +kernel
theorem dX11_feed_45 : decode cX11_feed 45 = .ok (.invokevirtual 97, 3) := by decide +kernel
theorem dX11_feed_48 : decode cX11_feed 48 = .ok (.aload_n 0, 1) := by decide +kernel
theorem dX11_feed_49 : decode cX11_feed 49 = .ok (.getfield 12, 3) := by decide +kernel
theorem dX11_feed_52 : decode cX11_feed 52 = .ok (.iload 5, 2) := by decide +kernel
theorem dX11_feed_54 : decode cX11_feed 54 = .ok (.invokevirtual 97, 3) := by decide +kernel
theorem dX11_feed_57 : decode cX11_feed 57 = .ok (.aload_n 0, 1) := by decide +kernel
theorem dX11_feed_58 : decode cX11_feed 58 = .ok (.getfield 12, 3) := by decide +kernel
theorem dX11_feed_61 : decode cX11_feed 61 = .ok (.getfield 101, 3) := by decide +kernel
theorem dX11_feed_64 : decode cX11_feed 64 = .ok (.ireturn, 1) := by decide +kernel
set_option maxRecDepth 20000 in
theorem ggX11_feed_X10_add : GoodIn wsX11_feed wsX10_add := goodIn_r _ [12, 8, 13, 28, 29, 30, 31, 32, 33] rfl (by decide +kernel)
set_option maxRecDepth 20000 in
theorem gX11_feed_X10_add : GoodIn wsX11_feed (wsV RX11 97 RX10 yX10_add wsX10_add) := goodIn_app (goodIn_of _ (by decide +kernel)) ggX11_feed_X10_add
set_option maxRecDepth 20000 in
theorem ggX11_feed_X10_hasRoomFor : GoodIn wsX11_feed wsX10_hasRoomFor := goodIn_r _ [7, 8, 28, 29, 30, 31, 32, 33] rfl (by decide +kernel)
set_option maxRecDepth 20000 in
theorem gX11_feed_X10_hasRoomFor : GoodIn wsX11_feed (wsV RX11 93 RX10 yX10_hasRoomFor wsX10_hasRoomFor) := goodIn_app (goodIn_of _ (by decide +kernel)) ggX11_feed_X10_hasRoomFor
set_option maxHeartbeats 4000000 in
set_option maxRecDepth 100000 in
theorem K_X11_feed (l : Launch) (D : va_G) (x0 : Nat) (xt : Nat) (xs : Nat) (xq : Nat) (xr : Nat) (xp : Nat) (xl : Nat) (xc : Nat) (xj : Nat) (xe : Nat) (xo : Nat) (pa : Nat) (tb : Nat) (cB : ClassId) (va : Int32) (vb : Int32) (vc : Int32) (vd : Int32) (ve : Int32) (sz : Nat) : Ki l yX11_feed wsX11_feed 2 61 0 0 D [.ref x0, .int va, .int vb, .int vc, .int vd, .int ve] [(x0, .inr (10, [.ref xt, .ref xs, .ref xq, .ref xr, .ref xp, .ref xl, .ref xc, .ref xj, .ref xe, .ref xo, .ref pa, .int 0, .int 0, .int (-1)])), (xt, .inr (9, [.ref tb, .int 0, .int 0, .int 0, .int 0, .int 0])), (tb, .inl (cB, 1000, .inl (fun _ => 0)))] [(cB, .byte)] sz (fun (r : Int32) (u : (Nat → Int32)) => r = 20) (fun (u : (Nat → Int32)) => [(x0, .inr (10, [.ref xt, .ref xs, .ref xq, .ref xr, .ref xp, .ref xl, .ref xc, .ref xj, .ref xe, .ref xo, .ref pa, .int 0, .int 0, .int (-1)])), (xt, .inr (9, [.ref tb, .int 20, .int 0, .int 0, .int 0, .int 0])), (tb, .inl (cB, 1000, .inl u))]) (fun (_ : (Nat → Int32)) => [(cB, .byte)]) := by
  unfold Ki
  refine g_ofW (cc := cX11_feed) (lv := [(0, .ref x0), (1, .int va), (2, .int vb), (3, .int vc), (4, .int vd), (5, .int ve)]) (by decide) rfl (Nat.le_of_ble_eq_true rfl) rfl ?_
  intro p e s m args below meth c A Q hA hQ F hr hnm
  have hts := F.2.2.2.2.1
  have w_0 : (Cond.fieldLink RX11 12 "QuietCut" "tape" "LQuietCut$Tape;").before args s = true := hts _ (List.mem_of_getElem? (i := 1) rfl)
  have i_X11 : ∀ w ∈ u_ws RX11 TX11 14, w ∈ wsX11_feed := fun _ h => List.mem_cons_of_mem _ (List.mem_append_left _ (List.mem_append_right _ h))
  have w_1 : (Cond.fieldLink RX11 101 "QuietCut$Tape" "length" "I").before args s = true := hts _ (List.mem_of_getElem? (i := 2) rfl)
  have i_X10 : ∀ w ∈ u_ws RX10 TX10 6, w ∈ wsX11_feed := fun _ h => List.mem_cons_of_mem _ (List.mem_append_right _ h)
  refine g_aload_n F 0 dX11_feed_0 rfl rfl ?_
  refine g_get (C := RX11) (T := TX11) (N := 14) (v := .ref xt) F i_X11 0 rfl rfl 0 (by decide) w_0 rfl rfl dX11_feed_1 ?_
  refine g_bipush F 20 dX11_feed_4 (by decide) ?_
  refine g_callVi (k := 0) (n := 0) (b := xt) (As := [.int 20]) (st := []) (wc := [(xt, .inr (9, [.ref tb, .int 0, .int 0, .int 0, .int 0, .int 0]))]) (wr := [(x0, .inr (10, [.ref xt, .ref xs, .ref xq, .ref xr, .ref xp, .ref xl, .ref xc, .ref xj, .ref xe, .ref xo, .ref pa, .int 0, .int 0, .int (-1)])), (tb, .inl (cB, 1000, .inl (fun _ => 0)))]) F [1] [0, 2] [] rfl rfl (by decide) rfl (by decide) (by decide) rfl (fun sz => K_X10_hasRoomFor l D xt tb 20  sz) (cwV 1 hts gX11_feed_X10_hasRoomFor rfl rfl rfl (by decide +kernel) ⟨Nat.le_of_ble_eq_true rfl, Nat.le_of_ble_eq_true rfl⟩) rfl 0 rfl rfl (Nat.le_of_ble_eq_true rfl) ⟨Nat.le_of_ble_eq_true rfl, Nat.le_of_ble_eq_true rfl⟩ dX11_feed_6 (fun r_1 _ hw_2 => ?_)
  have hw_2 : r_1 = (if (20 : Int32) ≤ 1000 then 1 else 0) := hw_2
  have e_r_1 := hw_2
  show gG p l e (gR 2 0 0 61) s m args below meth c D A 6 Q 0 0 [(x0, .inr (10, [.ref xt, .ref xs, .ref xq, .ref xr, .ref xp, .ref xl, .ref xc, .ref xj, .ref xe, .ref xo, .ref pa, .int 0, .int 0, .int (-1)])), (tb, .inl (cB, 1000, .inl (fun _ => 0))), (xt, .inr (9, [.ref tb, .int 0, .int 0, .int 0, .int 0, .int 0]))] [(cB, .byte)] [(0, .ref x0), (1, .int va), (2, .int vb), (3, .int vc), (4, .int vd), (5, .int ve)] 9 [.int r_1]
  refine g_fold (if (20 : Int32) ≤ 1000 then 1 else 0) e_r_1 ?_
  refine g_if_ne F 15 dX11_feed_9 (by decide) (fun c_9 => ?_) (fun h9 => absurd h9 (by decide)) 
  refine g_aload_n F 0 dX11_feed_15 rfl rfl ?_
  refine g_get (C := RX11) (T := TX11) (N := 14) (v := .ref xt) F i_X11 0 rfl rfl 0 (by decide) w_0 rfl rfl dX11_feed_16 ?_
  refine g_iload_n F 1 dX11_feed_19 rfl rfl ?_
  refine g_callVv (k := 0) (n := 0) (b := xt) (As := [.int va]) (st := []) (wc := [(xt, .inr (9, [.ref tb, .int 0, .int 0, .int 0, .int 0, .int 0])), (tb, .inl (cB, 1000, .inl (fun _ => 0)))]) (wr := [(x0, .inr (10, [.ref xt, .ref xs, .ref xq, .ref xr, .ref xp, .ref xl, .ref xc, .ref xj, .ref xe, .ref xo, .ref pa, .int 0, .int 0, .int (-1)]))]) F [2, 1] [0] [0] rfl rfl (by decide) rfl (by decide) (by decide) rfl (fun sz => K_X10_add0 l D xt tb cB (fun _ => 0) va  sz) (cwV 1 hts gX11_feed_X10_add rfl rfl rfl (by decide +kernel) ⟨Nat.le_of_ble_eq_true rfl, Nat.le_of_ble_eq_true rfl⟩) rfl 0 rfl rfl (Nat.le_of_ble_eq_true rfl) ⟨Nat.le_of_ble_eq_true rfl, Nat.le_of_ble_eq_true rfl⟩ dX11_feed_20 (fun _ hw_7 => ?_)
  show gG p l e (gR 2 0 0 61) s m args below meth c D A 6 Q 0 0 [(x0, .inr (10, [.ref xt, .ref xs, .ref xq, .ref xr, .ref xp, .ref xl, .ref xc, .ref xj, .ref xe, .ref xo, .ref pa, .int 0, .int 0, .int (-1)])), (xt, .inr (9, [.ref tb, .int 4, .int 0, .int 0, .int 0, .int 0])), (tb, .inl (cB, 1000, .inl (upd (upd (upd (upd (fun _ => 0) 0 (vp_nar .byte (va >>> (24 &&& 31)).toInt8.toInt32)) 1 (vp_nar .byte (va >>> (16 &&& 31)).toInt8.toInt32)) 2 (vp_nar .byte (va >>> (8 &&& 31)).toInt8.toInt32)) 3 (vp_nar .byte (va >>> (0 &&& 31)).toInt8.toInt32))))] [(cB, .byte)] [(0, .ref x0), (1, .int va), (2, .int vb), (3, .int vc), (4, .int vd), (5, .int ve)] 23 []
  refine g_aload_n F 0 dX11_feed_23 rfl rfl ?_
  refine g_get (C := RX11) (T := TX11) (N := 14) (v := .ref xt) F i_X11 0 rfl rfl 0 (by decide) w_0 rfl rfl dX11_feed_24 ?_
  refine g_iload_n F 2 dX11_feed_27 rfl rfl ?_
  refine g_callVv (k := 0) (n := 0) (b := xt) (As := [.int vb]) (st := []) (wc := [(xt, .inr (9, [.ref tb, .int 4, .int 0, .int 0, .int 0, .int 0])), (tb, .inl (cB, 1000, .inl (upd (upd (upd (upd (fun _ => 0) 0 (vp_nar .byte (va >>> (24 &&& 31)).toInt8.toInt32)) 1 (vp_nar .byte (va >>> (16 &&& 31)).toInt8.toInt32)) 2 (vp_nar .byte (va >>> (8 &&& 31)).toInt8.toInt32)) 3 (vp_nar .byte (va >>> (0 &&& 31)).toInt8.toInt32))))]) (wr := [(x0, .inr (10, [.ref xt, .ref xs, .ref xq, .ref xr, .ref xp, .ref xl, .ref xc, .ref xj, .ref xe, .ref xo, .ref pa, .int 0, .int 0, .int (-1)]))]) F [1, 2] [0] [0] rfl rfl (by decide) rfl (by decide) (by decide) rfl (fun sz => K_X10_add4 l D xt tb cB (upd (upd (upd (upd (fun _ => 0) 0 (vp_nar .byte (va >>> (24 &&& 31)).toInt8.toInt32)) 1 (vp_nar .byte (va >>> (16 &&& 31)).toInt8.toInt32)) 2 (vp_nar .byte (va >>> (8 &&& 31)).toInt8.toInt32)) 3 (vp_nar .byte (va >>> (0 &&& 31)).toInt8.toInt32)) vb  sz) (cwV 1 hts gX11_feed_X10_add rfl rfl rfl (by decide +kernel) ⟨Nat.le_of_ble_eq_true rfl, Nat.le_of_ble_eq_true rfl⟩) rfl 0 rfl rfl (Nat.le_of_ble_eq_true rfl) ⟨Nat.le_of_ble_eq_true rfl, Nat.le_of_ble_eq_true rfl⟩ dX11_feed_28 (fun _ hw_12 => ?_)
  show gG p l e (gR 2 0 0 61) s m args below meth c D A 6 Q 0 0 [(x0, .inr (10, [.ref xt, .ref xs, .ref xq, .ref xr, .ref xp, .ref xl, .ref xc, .ref xj, .ref xe, .ref xo, .ref pa, .int 0, .int 0, .int (-1)])), (xt, .inr (9, [.ref tb, .int 8, .int 0, .int 0, .int 0, .int 0])), (tb, .inl (cB, 1000, .inl (upd (upd (upd (upd (upd (upd (upd (upd (fun _ => 0) 0 (vp_nar .byte (va >>> (24 &&& 31)).toInt8.toInt32)) 1 (vp_nar .byte (va >>> (16 &&& 31)).toInt8.toInt32)) 2 (vp_nar .byte (va >>> (8 &&& 31)).toInt8.toInt32)) 3 (vp_nar .byte (va >>> (0 &&& 31)).toInt8.toInt32)) 4 (vp_nar .byte (vb >>> (24 &&& 31)).toInt8.toInt32)) 5 (vp_nar .byte (vb >>> (16 &&& 31)).toInt8.toInt32)) 6 (vp_nar .byte (vb >>> (8 &&& 31)).toInt8.toInt32)) 7 (vp_nar .byte (vb >>> (0 &&& 31)).toInt8.toInt32))))] [(cB, .byte)] [(0, .ref x0), (1, .int va), (2, .int vb), (3, .int vc), (4, .int vd), (5, .int ve)] 31 []
  refine g_aload_n F 0 dX11_feed_31 rfl rfl ?_
  refine g_get (C := RX11) (T := TX11) (N := 14) (v := .ref xt) F i_X11 0 rfl rfl 0 (by decide) w_0 rfl rfl dX11_feed_32 ?_
  refine g_iload_n F 3 dX11_feed_35 rfl rfl ?_
  refine g_callVv (k := 0) (n := 0) (b := xt) (As := [.int vc]) (st := []) (wc := [(xt, .inr (9, [.ref tb, .int 8, .int 0, .int 0, .int 0, .int 0])), (tb, .inl (cB, 1000, .inl (upd (upd (upd (upd (upd (upd (upd (upd (fun _ => 0) 0 (vp_nar .byte (va >>> (24 &&& 31)).toInt8.toInt32)) 1 (vp_nar .byte (va >>> (16 &&& 31)).toInt8.toInt32)) 2 (vp_nar .byte (va >>> (8 &&& 31)).toInt8.toInt32)) 3 (vp_nar .byte (va >>> (0 &&& 31)).toInt8.toInt32)) 4 (vp_nar .byte (vb >>> (24 &&& 31)).toInt8.toInt32)) 5 (vp_nar .byte (vb >>> (16 &&& 31)).toInt8.toInt32)) 6 (vp_nar .byte (vb >>> (8 &&& 31)).toInt8.toInt32)) 7 (vp_nar .byte (vb >>> (0 &&& 31)).toInt8.toInt32))))]) (wr := [(x0, .inr (10, [.ref xt, .ref xs, .ref xq, .ref xr, .ref xp, .ref xl, .ref xc, .ref xj, .ref xe, .ref xo, .ref pa, .int 0, .int 0, .int (-1)]))]) F [1, 2] [0] [0] rfl rfl (by decide) rfl (by decide) (by decide) rfl (fun sz => K_X10_add8 l D xt tb cB (upd (upd (upd (upd (upd (upd (upd (upd (fun _ => 0) 0 (vp_nar .byte (va >>> (24 &&& 31)).toInt8.toInt32)) 1 (vp_nar .byte (va >>> (16 &&& 31)).toInt8.toInt32)) 2 (vp_nar .byte (va >>> (8 &&& 31)).toInt8.toInt32)) 3 (vp_nar .byte (va >>> (0 &&& 31)).toInt8.toInt32)) 4 (vp_nar .byte (vb >>> (24 &&& 31)).toInt8.toInt32)) 5 (vp_nar .byte (vb >>> (16 &&& 31)).toInt8.toInt32)) 6 (vp_nar .byte (vb >>> (8 &&& 31)).toInt8.toInt32)) 7 (vp_nar .byte (vb >>> (0 &&& 31)).toInt8.toInt32)) vc  sz) (cwV 1 hts gX11_feed_X10_add rfl rfl rfl (by decide +kernel) ⟨Nat.le_of_ble_eq_true rfl, Nat.le_of_ble_eq_true rfl⟩) rfl 0 rfl rfl (Nat.le_of_ble_eq_true rfl) ⟨Nat.le_of_ble_eq_true rfl, Nat.le_of_ble_eq_true rfl⟩ dX11_feed_36 (fun _ hw_17 => ?_)
  show gG p l e (gR 2 0 0 61) s m args below meth c D A 6 Q 0 0 [(x0, .inr (10, [.ref xt, .ref xs, .ref xq, .ref xr, .ref xp, .ref xl, .ref xc, .ref xj, .ref xe, .ref xo, .ref pa, .int 0, .int 0, .int (-1)])), (xt, .inr (9, [.ref tb, .int 12, .int 0, .int 0, .int 0, .int 0])), (tb, .inl (cB, 1000, .inl (upd (upd (upd (upd (upd (upd (upd (upd (upd (upd (upd (upd (fun _ => 0) 0 (vp_nar .byte (va >>> (24 &&& 31)).toInt8.toInt32)) 1 (vp_nar .byte (va >>> (16 &&& 31)).toInt8.toInt32)) 2 (vp_nar .byte (va >>> (8 &&& 31)).toInt8.toInt32)) 3 (vp_nar .byte (va >>> (0 &&& 31)).toInt8.toInt32)) 4 (vp_nar .byte (vb >>> (24 &&& 31)).toInt8.toInt32)) 5 (vp_nar .byte (vb >>> (16 &&& 31)).toInt8.toInt32)) 6 (vp_nar .byte (vb >>> (8 &&& 31)).toInt8.toInt32)) 7 (vp_nar .byte (vb >>> (0 &&& 31)).toInt8.toInt32)) 8 (vp_nar .byte (vc >>> (24 &&& 31)).toInt8.toInt32)) 9 (vp_nar .byte (vc >>> (16 &&& 31)).toInt8.toInt32)) 10 (vp_nar .byte (vc >>> (8 &&& 31)).toInt8.toInt32)) 11 (vp_nar .byte (vc >>> (0 &&& 31)).toInt8.toInt32))))] [(cB, .byte)] [(0, .ref x0), (1, .int va), (2, .int vb), (3, .int vc), (4, .int vd), (5, .int ve)] 39 []
  refine g_aload_n F 0 dX11_feed_39 rfl rfl ?_
  refine g_get (C := RX11) (T := TX11) (N := 14) (v := .ref xt) F i_X11 0 rfl rfl 0 (by decide) w_0 rfl rfl dX11_feed_40 ?_
  refine g_iload F 4 dX11_feed_43 rfl ?_
  refine g_callVv (k := 0) (n := 0) (b := xt) (As := [.int vd]) (st := []) (wc := [(xt, .inr (9, [.ref tb, .int 12, .int 0, .int 0, .int 0, .int 0])), (tb, .inl (cB, 1000, .inl (upd (upd (upd (upd (upd (upd (upd (upd (upd (upd (upd (upd (fun _ => 0) 0 (vp_nar .byte (va >>> (24 &&& 31)).toInt8.toInt32)) 1 (vp_nar .byte (va >>> (16 &&& 31)).toInt8.toInt32)) 2 (vp_nar .byte (va >>> (8 &&& 31)).toInt8.toInt32)) 3 (vp_nar .byte (va >>> (0 &&& 31)).toInt8.toInt32)) 4 (vp_nar .byte (vb >>> (24 &&& 31)).toInt8.toInt32)) 5 (vp_nar .byte (vb >>> (16 &&& 31)).toInt8.toInt32)) 6 (vp_nar .byte (vb >>> (8 &&& 31)).toInt8.toInt32)) 7 (vp_nar .byte (vb >>> (0 &&& 31)).toInt8.toInt32)) 8 (vp_nar .byte (vc >>> (24 &&& 31)).toInt8.toInt32)) 9 (vp_nar .byte (vc >>> (16 &&& 31)).toInt8.toInt32)) 10 (vp_nar .byte (vc >>> (8 &&& 31)).toInt8.toInt32)) 11 (vp_nar .byte (vc >>> (0 &&& 31)).toInt8.toInt32))))]) (wr := [(x0, .inr (10, [.ref xt, .ref xs, .ref xq, .ref xr, .ref xp, .ref xl, .ref xc, .ref xj, .ref xe, .ref xo, .ref pa, .int 0, .int 0, .int (-1)]))]) F [1, 2] [0] [0] rfl rfl (by decide) rfl (by decide) (by decide) rfl (fun sz => K_X10_add12 l D xt tb cB (upd (upd (upd (upd (upd (upd (upd (upd (upd (upd (upd (upd (fun _ => 0) 0 (vp_nar .byte (va >>> (24 &&& 31)).toInt8.toInt32)) 1 (vp_nar .byte (va >>> (16 &&& 31)).toInt8.toInt32)) 2 (vp_nar .byte (va >>> (8 &&& 31)).toInt8.toInt32)) 3 (vp_nar .byte (va >>> (0 &&& 31)).toInt8.toInt32)) 4 (vp_nar .byte (vb >>> (24 &&& 31)).toInt8.toInt32)) 5 (vp_nar .byte (vb >>> (16 &&& 31)).toInt8.toInt32)) 6 (vp_nar .byte (vb >>> (8 &&& 31)).toInt8.toInt32)) 7 (vp_nar .byte (vb >>> (0 &&& 31)).toInt8.toInt32)) 8 (vp_nar .byte (vc >>> (24 &&& 31)).toInt8.toInt32)) 9 (vp_nar .byte (vc >>> (16 &&& 31)).toInt8.toInt32)) 10 (vp_nar .byte (vc >>> (8 &&& 31)).toInt8.toInt32)) 11 (vp_nar .byte (vc >>> (0 &&& 31)).toInt8.toInt32)) vd  sz) (cwV 1 hts gX11_feed_X10_add rfl rfl rfl (by decide +kernel) ⟨Nat.le_of_ble_eq_true rfl, Nat.le_of_ble_eq_true rfl⟩) rfl 0 rfl rfl (Nat.le_of_ble_eq_true rfl) ⟨Nat.le_of_ble_eq_true rfl, Nat.le_of_ble_eq_true rfl⟩ dX11_feed_45 (fun _ hw_22 => ?_)
  show gG p l e (gR 2 0 0 61) s m args below meth c D A 6 Q 0 0 [(x0, .inr (10, [.ref xt, .ref xs, .ref xq, .ref xr, .ref xp, .ref xl, .ref xc, .ref xj, .ref xe, .ref xo, .ref pa, .int 0, .int 0, .int (-1)])), (xt, .inr (9, [.ref tb, .int 16, .int 0, .int 0, .int 0, .int 0])), (tb, .inl (cB, 1000, .inl (upd (upd (upd (upd (upd (upd (upd (upd (upd (upd (upd (upd (upd (upd (upd (upd (fun _ => 0) 0 (vp_nar .byte (va >>> (24 &&& 31)).toInt8.toInt32)) 1 (vp_nar .byte (va >>> (16 &&& 31)).toInt8.toInt32)) 2 (vp_nar .byte (va >>> (8 &&& 31)).toInt8.toInt32)) 3 (vp_nar .byte (va >>> (0 &&& 31)).toInt8.toInt32)) 4 (vp_nar .byte (vb >>> (24 &&& 31)).toInt8.toInt32)) 5 (vp_nar .byte (vb >>> (16 &&& 31)).toInt8.toInt32)) 6 (vp_nar .byte (vb >>> (8 &&& 31)).toInt8.toInt32)) 7 (vp_nar .byte (vb >>> (0 &&& 31)).toInt8.toInt32)) 8 (vp_nar .byte (vc >>> (24 &&& 31)).toInt8.toInt32)) 9 (vp_nar .byte (vc >>> (16 &&& 31)).toInt8.toInt32)) 10 (vp_nar .byte (vc >>> (8 &&& 31)).toInt8.toInt32)) 11 (vp_nar .byte (vc >>> (0 &&& 31)).toInt8.toInt32)) 12 (vp_nar .byte (vd >>> (24 &&& 31)).toInt8.toInt32)) 13 (vp_nar .byte (vd >>> (16 &&& 31)).toInt8.toInt32)) 14 (vp_nar .byte (vd >>> (8 &&& 31)).toInt8.toInt32)) 15 (vp_nar .byte (vd >>> (0 &&& 31)).toInt8.toInt32))))] [(cB, .byte)] [(0, .ref x0), (1, .int va), (2, .int vb), (3, .int vc), (4, .int vd), (5, .int ve)] 48 []
  refine g_aload_n F 0 dX11_feed_48 rfl rfl ?_
  refine g_get (C := RX11) (T := TX11) (N := 14) (v := .ref xt) F i_X11 0 rfl rfl 0 (by decide) w_0 rfl rfl dX11_feed_49 ?_
  refine g_iload F 5 dX11_feed_52 rfl ?_
  refine g_callVv (k := 0) (n := 0) (b := xt) (As := [.int ve]) (st := []) (wc := [(xt, .inr (9, [.ref tb, .int 16, .int 0, .int 0, .int 0, .int 0])), (tb, .inl (cB, 1000, .inl (upd (upd (upd (upd (upd (upd (upd (upd (upd (upd (upd (upd (upd (upd (upd (upd (fun _ => 0) 0 (vp_nar .byte (va >>> (24 &&& 31)).toInt8.toInt32)) 1 (vp_nar .byte (va >>> (16 &&& 31)).toInt8.toInt32)) 2 (vp_nar .byte (va >>> (8 &&& 31)).toInt8.toInt32)) 3 (vp_nar .byte (va >>> (0 &&& 31)).toInt8.toInt32)) 4 (vp_nar .byte (vb >>> (24 &&& 31)).toInt8.toInt32)) 5 (vp_nar .byte (vb >>> (16 &&& 31)).toInt8.toInt32)) 6 (vp_nar .byte (vb >>> (8 &&& 31)).toInt8.toInt32)) 7 (vp_nar .byte (vb >>> (0 &&& 31)).toInt8.toInt32)) 8 (vp_nar .byte (vc >>> (24 &&& 31)).toInt8.toInt32)) 9 (vp_nar .byte (vc >>> (16 &&& 31)).toInt8.toInt32)) 10 (vp_nar .byte (vc >>> (8 &&& 31)).toInt8.toInt32)) 11 (vp_nar .byte (vc >>> (0 &&& 31)).toInt8.toInt32)) 12 (vp_nar .byte (vd >>> (24 &&& 31)).toInt8.toInt32)) 13 (vp_nar .byte (vd >>> (16 &&& 31)).toInt8.toInt32)) 14 (vp_nar .byte (vd >>> (8 &&& 31)).toInt8.toInt32)) 15 (vp_nar .byte (vd >>> (0 &&& 31)).toInt8.toInt32))))]) (wr := [(x0, .inr (10, [.ref xt, .ref xs, .ref xq, .ref xr, .ref xp, .ref xl, .ref xc, .ref xj, .ref xe, .ref xo, .ref pa, .int 0, .int 0, .int (-1)]))]) F [1, 2] [0] [0] rfl rfl (by decide) rfl (by decide) (by decide) rfl (fun sz => K_X10_add16 l D xt tb cB (upd (upd (upd (upd (upd (upd (upd (upd (upd (upd (upd (upd (upd (upd (upd (upd (fun _ => 0) 0 (vp_nar .byte (va >>> (24 &&& 31)).toInt8.toInt32)) 1 (vp_nar .byte (va >>> (16 &&& 31)).toInt8.toInt32)) 2 (vp_nar .byte (va >>> (8 &&& 31)).toInt8.toInt32)) 3 (vp_nar .byte (va >>> (0 &&& 31)).toInt8.toInt32)) 4 (vp_nar .byte (vb >>> (24 &&& 31)).toInt8.toInt32)) 5 (vp_nar .byte (vb >>> (16 &&& 31)).toInt8.toInt32)) 6 (vp_nar .byte (vb >>> (8 &&& 31)).toInt8.toInt32)) 7 (vp_nar .byte (vb >>> (0 &&& 31)).toInt8.toInt32)) 8 (vp_nar .byte (vc >>> (24 &&& 31)).toInt8.toInt32)) 9 (vp_nar .byte (vc >>> (16 &&& 31)).toInt8.toInt32)) 10 (vp_nar .byte (vc >>> (8 &&& 31)).toInt8.toInt32)) 11 (vp_nar .byte (vc >>> (0 &&& 31)).toInt8.toInt32)) 12 (vp_nar .byte (vd >>> (24 &&& 31)).toInt8.toInt32)) 13 (vp_nar .byte (vd >>> (16 &&& 31)).toInt8.toInt32)) 14 (vp_nar .byte (vd >>> (8 &&& 31)).toInt8.toInt32)) 15 (vp_nar .byte (vd >>> (0 &&& 31)).toInt8.toInt32)) ve  sz) (cwV 1 hts gX11_feed_X10_add rfl rfl rfl (by decide +kernel) ⟨Nat.le_of_ble_eq_true rfl, Nat.le_of_ble_eq_true rfl⟩) rfl 0 rfl rfl (Nat.le_of_ble_eq_true rfl) ⟨Nat.le_of_ble_eq_true rfl, Nat.le_of_ble_eq_true rfl⟩ dX11_feed_54 (fun _ hw_27 => ?_)
  show gG p l e (gR 2 0 0 61) s m args below meth c D A 6 Q 0 0 [(x0, .inr (10, [.ref xt, .ref xs, .ref xq, .ref xr, .ref xp, .ref xl, .ref xc, .ref xj, .ref xe, .ref xo, .ref pa, .int 0, .int 0, .int (-1)])), (xt, .inr (9, [.ref tb, .int 20, .int 0, .int 0, .int 0, .int 0])), (tb, .inl (cB, 1000, .inl (upd (upd (upd (upd (upd (upd (upd (upd (upd (upd (upd (upd (upd (upd (upd (upd (upd (upd (upd (upd (fun _ => 0) 0 (vp_nar .byte (va >>> (24 &&& 31)).toInt8.toInt32)) 1 (vp_nar .byte (va >>> (16 &&& 31)).toInt8.toInt32)) 2 (vp_nar .byte (va >>> (8 &&& 31)).toInt8.toInt32)) 3 (vp_nar .byte (va >>> (0 &&& 31)).toInt8.toInt32)) 4 (vp_nar .byte (vb >>> (24 &&& 31)).toInt8.toInt32)) 5 (vp_nar .byte (vb >>> (16 &&& 31)).toInt8.toInt32)) 6 (vp_nar .byte (vb >>> (8 &&& 31)).toInt8.toInt32)) 7 (vp_nar .byte (vb >>> (0 &&& 31)).toInt8.toInt32)) 8 (vp_nar .byte (vc >>> (24 &&& 31)).toInt8.toInt32)) 9 (vp_nar .byte (vc >>> (16 &&& 31)).toInt8.toInt32)) 10 (vp_nar .byte (vc >>> (8 &&& 31)).toInt8.toInt32)) 11 (vp_nar .byte (vc >>> (0 &&& 31)).toInt8.toInt32)) 12 (vp_nar .byte (vd >>> (24 &&& 31)).toInt8.toInt32)) 13 (vp_nar .byte (vd >>> (16 &&& 31)).toInt8.toInt32)) 14 (vp_nar .byte (vd >>> (8 &&& 31)).toInt8.toInt32)) 15 (vp_nar .byte (vd >>> (0 &&& 31)).toInt8.toInt32)) 16 (vp_nar .byte (ve >>> (24 &&& 31)).toInt8.toInt32)) 17 (vp_nar .byte (ve >>> (16 &&& 31)).toInt8.toInt32)) 18 (vp_nar .byte (ve >>> (8 &&& 31)).toInt8.toInt32)) 19 (vp_nar .byte (ve >>> (0 &&& 31)).toInt8.toInt32))))] [(cB, .byte)] [(0, .ref x0), (1, .int va), (2, .int vb), (3, .int vc), (4, .int vd), (5, .int ve)] 57 []
  refine g_aload_n F 0 dX11_feed_57 rfl rfl ?_
  refine g_get (C := RX11) (T := TX11) (N := 14) (v := .ref xt) F i_X11 0 rfl rfl 0 (by decide) w_0 rfl rfl dX11_feed_58 ?_
  refine g_get (C := RX10) (T := TX10) (N := 6) (v := .int 20) F i_X10 1 rfl rfl 1 (by decide) w_1 rfl rfl dX11_feed_61 ?_
  exact g_iret F hA hQ hr (upd (upd (upd (upd (upd (upd (upd (upd (upd (upd (upd (upd (upd (upd (upd (upd (upd (upd (upd (upd (fun _ => 0) 0 (vp_nar .byte (va >>> (24 &&& 31)).toInt8.toInt32)) 1 (vp_nar .byte (va >>> (16 &&& 31)).toInt8.toInt32)) 2 (vp_nar .byte (va >>> (8 &&& 31)).toInt8.toInt32)) 3 (vp_nar .byte (va >>> (0 &&& 31)).toInt8.toInt32)) 4 (vp_nar .byte (vb >>> (24 &&& 31)).toInt8.toInt32)) 5 (vp_nar .byte (vb >>> (16 &&& 31)).toInt8.toInt32)) 6 (vp_nar .byte (vb >>> (8 &&& 31)).toInt8.toInt32)) 7 (vp_nar .byte (vb >>> (0 &&& 31)).toInt8.toInt32)) 8 (vp_nar .byte (vc >>> (24 &&& 31)).toInt8.toInt32)) 9 (vp_nar .byte (vc >>> (16 &&& 31)).toInt8.toInt32)) 10 (vp_nar .byte (vc >>> (8 &&& 31)).toInt8.toInt32)) 11 (vp_nar .byte (vc >>> (0 &&& 31)).toInt8.toInt32)) 12 (vp_nar .byte (vd >>> (24 &&& 31)).toInt8.toInt32)) 13 (vp_nar .byte (vd >>> (16 &&& 31)).toInt8.toInt32)) 14 (vp_nar .byte (vd >>> (8 &&& 31)).toInt8.toInt32)) 15 (vp_nar .byte (vd >>> (0 &&& 31)).toInt8.toInt32)) 16 (vp_nar .byte (ve >>> (24 &&& 31)).toInt8.toInt32)) 17 (vp_nar .byte (ve >>> (16 &&& 31)).toInt8.toInt32)) 18 (vp_nar .byte (ve >>> (8 &&& 31)).toInt8.toInt32)) 19 (vp_nar .byte (ve >>> (0 &&& 31)).toInt8.toInt32)) (rfl) [0, 1, 2] [0] rfl (by decide) rfl rfl dX11_feed_64

theorem dX11_end_0 : decode cX11_end 0 = .ok (.iload_n 1, 1) := by decide +kernel
theorem dX11_end_1 : decode cX11_end 1 = .ok (.ifCond .lt 14, 3) := by decide +kernel
theorem dX11_end_4 : decode cX11_end 4 = .ok (.iload_n 1, 1) := by decide +kernel
theorem dX11_end_5 : decode cX11_end 5 = .ok (.aload_n 0, 1) := by decide +kernel
theorem dX11_end_6 : decode cX11_end 6 = .ok (.getfield 12, 3) := by decide +kernel
theorem dX11_end_9 : decode cX11_end 9 = .ok (.getfield 101, 3) := by decide +kernel
theorem dX11_end_12 : decode cX11_end 12 = .ok (.if_icmp .le 5, 3) := by decide +kernel
theorem dX11_end_15 : decode cX11_end 15 = .ok (.iconst (-1), 1) := by decide +kernel
theorem dX11_end_16 : decode cX11_end 16 = .ok (.ireturn, 1) := by decide +kernel
theorem dX11_end_17 : decode cX11_end 17 = .ok (.aload_n 0, 1) := by decide +kernel
theorem dX11_end_18 : decode cX11_end 18 = .ok (.getfield 12, 3) := by decide +kernel
theorem dX11_end_21 : decode cX11_end 21 = .ok (.iload_n 1, 1) := by decide +kernel
theorem dX11_end_22 : decode cX11_end 22 = .ok (.putfield 101, 3) := by decide +kernel
theorem dX11_end_25 : decode cX11_end 25 = .ok (.iload_n 1, 1) := by decide +kernel
theorem dX11_end_26 : decode cX11_end 26 = .ok (.ireturn, 1) := by decide +kernel
set_option maxHeartbeats 4000000 in
set_option maxRecDepth 100000 in
theorem K_X11_end (l : Launch) (D : va_G) (x0 : Nat) (xt : Nat) (xs : Nat) (xq : Nat) (xr : Nat) (xp : Nat) (xl : Nat) (xc : Nat) (xj : Nat) (xe : Nat) (xo : Nat) (pa : Nat) (tb : Nat) (a : Int32) (sz : Nat) : Ki l yX11_end wsX11_end 1 40 0 0 D [.ref x0, .int a] [(x0, .inr (10, [.ref xt, .ref xs, .ref xq, .ref xr, .ref xp, .ref xl, .ref xc, .ref xj, .ref xe, .ref xo, .ref pa, .int 0, .int 0, .int (-1)])), (xt, .inr (9, [.ref tb, .int 0, .int 0, .int 0, .int 0, .int 0]))] [] sz (fun (r : Int32) (u : Int32) => r = (if a = 0 then 0 else (-1))) (fun (u : Int32) => [(x0, .inr (10, [.ref xt, .ref xs, .ref xq, .ref xr, .ref xp, .ref xl, .ref xc, .ref xj, .ref xe, .ref xo, .ref pa, .int 0, .int 0, .int (-1)])), (xt, .inr (9, [.ref tb, .int u, .int 0, .int 0, .int 0, .int 0]))]) (fun (_ : Int32) => []) := by
  unfold Ki
  refine g_ofW (cc := cX11_end) (lv := [(0, .ref x0), (1, .int a)]) (by decide) rfl (Nat.le_of_ble_eq_true rfl) rfl ?_
  intro p e s m args below meth c A Q hA hQ F hr hnm
  have hts := F.2.2.2.2.1
  have w_0 : (Cond.fieldLink RX11 12 "QuietCut" "tape" "LQuietCut$Tape;").before args s = true := hts _ (List.mem_of_getElem? (i := 1) rfl)
  have i_X11 : ∀ w ∈ u_ws RX11 TX11 14, w ∈ wsX11_end := fun _ h => List.mem_cons_of_mem _ (List.mem_append_left _ (List.mem_append_right _ h))
  have w_1 : (Cond.fieldLink RX11 101 "QuietCut$Tape" "length" "I").before args s = true := hts _ (List.mem_of_getElem? (i := 2) rfl)
  have i_X10 : ∀ w ∈ u_ws RX10 TX10 6, w ∈ wsX11_end := fun _ h => List.mem_cons_of_mem _ (List.mem_append_right _ h)
  refine g_iload_n F 1 dX11_end_0 rfl rfl ?_
  refine g_if_lt F 15 dX11_end_1 (by decide) (fun c_1 => ?_) (fun c_1 => ?_)
  · refine g_iconst F (-1) dX11_end_15 (by decide) ?_
    exact g_iret F hA hQ hr 0 (by first | exact (gi_e (by (simp only [Int32.lt_iff_toInt_lt, Int32.le_iff_toInt_le, ← Int32.toInt_inj, Int32.reduceToInt] at c_1 ⊢; omega)) (by first | rfl | (simp only [← Int32.toInt_inj, Int32.lt_iff_toInt_lt, Int32.le_iff_toInt_le] at *; omega)))) [0, 1] [] rfl (by decide) rfl rfl dX11_end_16
  · refine g_iload_n F 1 dX11_end_4 rfl rfl ?_
    refine g_aload_n F 0 dX11_end_5 rfl rfl ?_
    refine g_get (C := RX11) (T := TX11) (N := 14) (v := .ref xt) F i_X11 0 rfl rfl 0 (by decide) w_0 rfl rfl dX11_end_6 ?_
    refine g_get (C := RX10) (T := TX10) (N := 6) (v := .int 0) F i_X10 1 rfl rfl 1 (by decide) w_1 rfl rfl dX11_end_9 ?_
    refine g_icmp_le F 17 dX11_end_12 (by decide) (fun c_12 => ?_) (fun c_12 => ?_)
    · refine g_aload_n F 0 dX11_end_17 rfl rfl ?_
      refine g_get (C := RX11) (T := TX11) (N := 14) (v := .ref xt) F i_X11 0 rfl rfl 0 (by decide) w_0 rfl rfl dX11_end_18 ?_
      refine g_iload_n F 1 dX11_end_21 rfl rfl ?_
      refine g_put (C := RX10) (T := TX10) (N := 6) (ty := .int) (v := .int a) F i_X10 1 rfl rfl 1 (by decide) w_1 rfl tyX10 tyX10_ok nmX10 rfl (by decide +kernel) rfl rfl (Nat.le_of_ble_eq_true rfl) [(x0, .inr (10, [.ref xt, .ref xs, .ref xq, .ref xr, .ref xp, .ref xl, .ref xc, .ref xj, .ref xe, .ref xo, .ref pa, .int 0, .int 0, .int (-1)])), (xt, .inr (9, [.ref tb, .int a, .int 0, .int 0, .int 0, .int 0]))] rfl dX11_end_22 ?_
      refine g_iload_n F 1 dX11_end_25 rfl rfl ?_
      exact g_iret F hA hQ hr a (by first | exact gi_p (by (simp only [Int32.lt_iff_toInt_lt, Int32.le_iff_toInt_le, ← Int32.toInt_inj, Int32.reduceToInt] at c_1 c_12 ⊢; omega)) (by (simp only [Int32.lt_iff_toInt_lt, Int32.le_iff_toInt_le, ← Int32.toInt_inj, Int32.reduceToInt] at c_1 c_12 ⊢; omega))) [0, 1] [] rfl (by decide) rfl rfl dX11_end_26
    · refine g_iconst F (-1) dX11_end_15 (by decide) ?_
      exact g_iret F hA hQ hr 0 (by first | exact (gi_e (by (simp only [Int32.lt_iff_toInt_lt, Int32.le_iff_toInt_le, ← Int32.toInt_inj, Int32.reduceToInt] at c_1 c_12 ⊢; omega)) (by first | rfl | (simp only [← Int32.toInt_inj, Int32.lt_iff_toInt_lt, Int32.le_iff_toInt_le] at *; omega)))) [0, 1] [] rfl (by decide) rfl rfl dX11_end_16

theorem dX11_fault_0 : decode cX11_fault 0 = .ok (.iload_n 1, 1) := by decide +kernel
theorem dX11_fault_1 : decode cX11_fault 1 = .ok (.ifCond .ne 8, 3) := by decide +kernel
theorem dX11_fault_4 : decode cX11_fault 4 = .ok (.aload_n 0, 1) := by decide +kernel
theorem dX11_fault_5 : decode cX11_fault 5 = .ok (.getfield 111, 3) := by decide +kernel
theorem dX11_fault_8 : decode cX11_fault 8 = .ok (.ireturn, 1) := by decide +kernel
theorem dX11_fault_9 : decode cX11_fault 9 = .ok (.iload_n 1, 1) := by decide +kernel
theorem dX11_fault_10 : decode cX11_fault 10 = .ok (.iconst 1, 1) := by decide +kernel
theorem dX11_fault_11 : decode cX11_fault 11 = .ok (.if_icmp .ne 10, 3) := by decide +kernel
theorem dX11_fault_14 : decode cX11_fault 14 = .ok (.aload_n 0, 1) := by decide +kernel
theorem dX11_fault_15 : decode cX11_fault 15 = .ok (.getfield 89, 3) := by decide +kernel
theorem dX11_fault_18 : decode cX11_fault 18 = .ok (.goto 4, 3) := by decide +kernel
theorem dX11_fault_21 : decode cX11_fault 21 = .ok (.iconst (-1), 1) := by decide +kernel
theorem dX11_fault_22 : decode cX11_fault 22 = .ok (.ireturn, 1) := by decide +kernel
set_option maxHeartbeats 4000000 in
set_option maxRecDepth 100000 in
theorem K_X11_fault (l : Launch) (D : va_G) (x0 : Nat) (xt : Nat) (xs : Nat) (xq : Nat) (xr : Nat) (xp : Nat) (xl : Nat) (xc : Nat) (xj : Nat) (xe : Nat) (xo : Nat) (pa : Nat) (a : Int32) (sz : Nat) : Ki l yX11_fault wsX11_fault 1 40 0 0 D [.ref x0, .int a] [(x0, .inr (10, [.ref xt, .ref xs, .ref xq, .ref xr, .ref xp, .ref xl, .ref xc, .ref xj, .ref xe, .ref xo, .ref pa, .int 0, .int 0, .int (-1)]))] [] sz (fun (r : Int32) (_ : Unit) => r = (if a = 0 then 0 else (-1))) (fun (_ : Unit) => [(x0, .inr (10, [.ref xt, .ref xs, .ref xq, .ref xr, .ref xp, .ref xl, .ref xc, .ref xj, .ref xe, .ref xo, .ref pa, .int 0, .int 0, .int (-1)]))]) (fun (_ : Unit) => []) := by
  unfold Ki
  refine g_ofW (cc := cX11_fault) (lv := [(0, .ref x0), (1, .int a)]) (by decide) rfl (Nat.le_of_ble_eq_true rfl) rfl ?_
  intro p e s m args below meth c A Q hA hQ F hr hnm
  have hts := F.2.2.2.2.1
  have w_0 : (Cond.fieldLink RX11 89 "QuietCut" "faultPlace" "I").before args s = true := hts _ (List.mem_of_getElem? (i := 2) rfl)
  have i_X11 : ∀ w ∈ u_ws RX11 TX11 14, w ∈ wsX11_fault := fun _ h => List.mem_cons_of_mem _ (List.mem_append_right _ h)
  have w_1 : (Cond.fieldLink RX11 111 "QuietCut" "faultKind" "I").before args s = true := hts _ (List.mem_of_getElem? (i := 1) rfl)
  refine g_iload_n F 1 dX11_fault_0 rfl rfl ?_
  refine g_if_ne F 9 dX11_fault_1 (by decide) (fun c_1 => ?_) (fun c_1 => ?_)
  · refine g_iload_n F 1 dX11_fault_9 rfl rfl ?_
    refine g_iconst F 1 dX11_fault_10 (by decide) ?_
    refine g_icmp_ne F 21 dX11_fault_11 (by decide) (fun c_11 => ?_) (fun c_11 => ?_)
    · refine g_iconst F (-1) dX11_fault_21 (by decide) ?_
      exact g_iret F hA hQ hr () (by first | exact (gi_e (by (simp only [Int32.lt_iff_toInt_lt, Int32.le_iff_toInt_le, ← Int32.toInt_inj, Int32.reduceToInt] at c_1 c_11 ⊢; omega)) rfl)) [0] [] rfl (by decide) rfl rfl dX11_fault_22
    · refine g_aload_n F 0 dX11_fault_14 rfl rfl ?_
      refine g_get (C := RX11) (T := TX11) (N := 14) (v := .int (-1)) F i_X11 0 rfl rfl 13 (by decide) w_0 rfl rfl dX11_fault_15 ?_
      refine g_goto F 22 dX11_fault_18 (by decide) ?_
      exact g_iret F hA hQ hr () (by first | exact (gi_e (by (simp only [Int32.lt_iff_toInt_lt, Int32.le_iff_toInt_le, ← Int32.toInt_inj, Int32.reduceToInt] at c_1 c_11 ⊢; omega)) rfl)) [0] [] rfl (by decide) rfl rfl dX11_fault_22
  · refine g_aload_n F 0 dX11_fault_4 rfl rfl ?_
    refine g_get (C := RX11) (T := TX11) (N := 14) (v := .int 0) F i_X11 0 rfl rfl 12 (by decide) w_1 rfl rfl dX11_fault_5 ?_
    exact g_iret F hA hQ hr () (by first | exact (gi_p (by (simp only [Int32.lt_iff_toInt_lt, Int32.le_iff_toInt_le, ← Int32.toInt_inj, Int32.reduceToInt] at c_1 ⊢; omega)) rfl)) [0] [] rfl (by decide) rfl rfl dX11_fault_8

theorem dX6_mayBeHigh_0 : decode cX6_mayBeHigh 0 = .ok (.iload_n 0, 1) := by decide +kernel
theorem dX6_mayBeHigh_1 : decode cX6_mayBeHigh 1 = .ok (.bipush 100, 2) := by decide +kernel
theorem dX6_mayBeHigh_3 : decode cX6_mayBeHigh 3 = .ok (.if_icmp .lt 14, 3) := by decide +kernel
theorem dX6_mayBeHigh_6 : decode cX6_mayBeHigh 6 = .ok (.iload_n 0, 1) := by decide +kernel
theorem dX6_mayBeHigh_7 : decode cX6_mayBeHigh 7 = .ok (.sipush 5000, 3) := by decide +kernel
theorem dX6_mayBeHigh_10 : decode cX6_mayBeHigh 10 = .ok (.if_icmp .gt 7, 3) := by decide +kernel
theorem dX6_mayBeHigh_13 : decode cX6_mayBeHigh 13 = .ok (.iconst 1, 1) := by decide +kernel
theorem dX6_mayBeHigh_14 : decode cX6_mayBeHigh 14 = .ok (.goto 4, 3) := by decide +kernel
theorem dX6_mayBeHigh_17 : decode cX6_mayBeHigh 17 = .ok (.iconst 0, 1) := by decide +kernel
theorem dX6_mayBeHigh_18 : decode cX6_mayBeHigh 18 = .ok (.ireturn, 1) := by decide +kernel
set_option maxHeartbeats 4000000 in
set_option maxRecDepth 100000 in
theorem K_X6_mayBeHigh (l : Launch) (D : va_G) (a : Int32) (sz : Nat) : Ki l yX6_mayBeHigh wsX6_mayBeHigh 1 40 0 0 D [.int a] [] [] sz (fun (r : Int32) (_ : Unit) => r = (if 100 ≤ a ∧ a ≤ 5000 then 1 else 0)) (fun (_ : Unit) => []) (fun (_ : Unit) => []) := by
  unfold Ki
  refine g_ofW (cc := cX6_mayBeHigh) (lv := [(0, .int a)]) (by decide) rfl (Nat.le_of_ble_eq_true rfl) rfl ?_
  intro p e s m args below meth c A Q hA hQ F hr hnm
  have hts := F.2.2.2.2.1
  refine g_iload_n F 0 dX6_mayBeHigh_0 rfl rfl ?_
  refine g_bipush F 100 dX6_mayBeHigh_1 (by decide) ?_
  refine g_icmp_lt F 17 dX6_mayBeHigh_3 (by decide) (fun c_3 => ?_) (fun c_3 => ?_)
  · refine g_iconst F 0 dX6_mayBeHigh_17 (by decide) ?_
    exact g_zret F hA hQ hr rfl () (gb_f (by (simp only [Int32.lt_iff_toInt_lt, Int32.le_iff_toInt_le, ← Int32.toInt_inj, Int32.reduceToInt] at c_3 ⊢; omega))) [] [] rfl (by decide) rfl rfl dX6_mayBeHigh_18
  · refine g_iload_n F 0 dX6_mayBeHigh_6 rfl rfl ?_
    refine g_sipush F 5000 dX6_mayBeHigh_7 (by decide) ?_
    refine g_icmp_gt F 17 dX6_mayBeHigh_10 (by decide) (fun c_10 => ?_) (fun c_10 => ?_)
    · refine g_iconst F 0 dX6_mayBeHigh_17 (by decide) ?_
      exact g_zret F hA hQ hr rfl () (gb_f (by (simp only [Int32.lt_iff_toInt_lt, Int32.le_iff_toInt_le, ← Int32.toInt_inj, Int32.reduceToInt] at c_3 c_10 ⊢; omega))) [] [] rfl (by decide) rfl rfl dX6_mayBeHigh_18
    · refine g_iconst F 1 dX6_mayBeHigh_13 (by decide) ?_
      refine g_goto F 18 dX6_mayBeHigh_14 (by decide) ?_
      exact g_zret F hA hQ hr rfl () (gb_t (by (simp only [Int32.lt_iff_toInt_lt, Int32.le_iff_toInt_le, ← Int32.toInt_inj, Int32.reduceToInt] at c_3 c_10 ⊢; omega))) [] [] rfl (by decide) rfl rfl dX6_mayBeHigh_18

theorem dX11_piece_0 : decode cX11_piece 0 = .ok (.iload_n 1, 1) := by decide +kernel
theorem dX11_piece_1 : decode cX11_piece 1 = .ok (.invokestatic 144, 3) := by decide +kernel
theorem dX11_piece_4 : decode cX11_piece 4 = .ok (.ifCond .ne 6, 3) := by decide +kernel
theorem dX11_piece_7 : decode cX11_piece 7 = .ok (.bipush (-2), 2) := by decide +kernel
theorem dX11_piece_9 : decode cX11_piece 9 = .ok (.ireturn, 1) := by decide +kernel
theorem dX11_piece_10 : decode cX11_piece 10 = .ok (.aload_n 0, 1) := by decide +kernel
theorem dX11_piece_11 : decode cX11_piece 11 = .ok (.getfield 40, 3) := by decide +kernel
theorem dX11_piece_14 : decode cX11_piece 14 = .ok (.iload_n 1, 1) := by decide +kernel
theorem dX11_piece_15 : decode cX11_piece 15 = .ok (.invokevirtual 117, 3) := by decide +kernel
theorem dX11_piece_18 : decode cX11_piece 18 = .ok (.iconst 1, 1) := by decide +kernel
theorem dX11_piece_19 : decode cX11_piece 19 = .ok (.ireturn, 1) := by decide +kernel
set_option maxRecDepth 20000 in
theorem ggX11_piece_X6_makeFresh : GoodIn wsX11_piece wsX6_makeFresh := goodIn_r _ [9, 10, 11, 12, 13, 14, 15, 16, 17, 32, 33, 34, 35, 36] rfl (by decide +kernel)
set_option maxRecDepth 20000 in
theorem gX11_piece_X6_makeFresh : GoodIn wsX11_piece (wsV RX11 117 RX6 yX6_makeFresh wsX6_makeFresh) := goodIn_app (goodIn_of _ (by decide +kernel)) ggX11_piece_X6_makeFresh
set_option maxRecDepth 20000 in
theorem ggX11_piece_X6_mayBeHigh : GoodIn wsX11_piece wsX6_mayBeHigh := goodIn_r _ [5] rfl (by decide +kernel)
set_option maxRecDepth 20000 in
theorem gX11_piece_X6_mayBeHigh : GoodIn wsX11_piece (va_wsS RX11 144 yX6_mayBeHigh wsX6_mayBeHigh) := goodIn_app (goodIn_of _ (by decide +kernel)) ggX11_piece_X6_mayBeHigh
set_option maxHeartbeats 4000000 in
set_option maxRecDepth 100000 in
theorem K_X11_piece (l : Launch) (D : va_G) (x0 : Nat) (xt : Nat) (xs : Nat) (xq : Nat) (xr : Nat) (xp : Nat) (xl : Nat) (xc : Nat) (xj : Nat) (xe : Nat) (xo : Nat) (pa : Nat) (ph : Nat) (pl : Nat) (cI : ClassId) (cII : ClassId) (pr : Nat → Nat) (a : Int32) (sz : Nat) : Ki l yX11_piece wsX11_piece 3 74 0 0 D [.ref x0, .int a] [(x0, .inr (10, [.ref xt, .ref xs, .ref xq, .ref xr, .ref xp, .ref xl, .ref xc, .ref xj, .ref xe, .ref xo, .ref pa, .int 0, .int 0, .int (-1)])), (xp, .inr (5, [.ref xs, .ref ph, .int 0, .int 0, .ref pl])), (ph, .inl (cI, 96, .inl (fun _ => 1000))), (pl, .inl (cII, 4, .inr (.inr (.inr (.inr (fun i => if i < 4 then some (pr i) else none)))))), ((pr 0), .inl (cI, 96, .inl (fun _ => (-1))))] [(cI, .int), (cII, .array .int)] sz (fun (r : Int32) (u : (Nat → Int32)) => r = (if 100 ≤ a ∧ a ≤ 5000 then 1 else (-2))) (fun (u : (Nat → Int32)) => [(x0, .inr (10, [.ref xt, .ref xs, .ref xq, .ref xr, .ref xp, .ref xl, .ref xc, .ref xj, .ref xe, .ref xo, .ref pa, .int 0, .int 0, .int (-1)])), (xp, .inr (5, [.ref xs, .ref ph, .int 0, .int 0, .ref pl])), (ph, .inl (cI, 96, .inl u)), (pl, .inl (cII, 4, .inr (.inr (.inr (.inr (fun i => if i < 4 then some (pr i) else none)))))), ((pr 0), .inl (cI, 96, .inl (fun _ => (-1))))]) (fun (_ : (Nat → Int32)) => [(cI, .int), (cII, .array .int)]) := by
  unfold Ki
  refine g_ofW (cc := cX11_piece) (lv := [(0, .ref x0), (1, .int a)]) (by decide) rfl (Nat.le_of_ble_eq_true rfl) rfl ?_
  intro p e s m args below meth c A Q hA hQ F hr hnm
  have hts := F.2.2.2.2.1
  have w_0 : (Cond.fieldLink RX11 40 "QuietCut" "piece" "LQuietCut$Piece;").before args s = true := hts _ (List.mem_of_getElem? (i := 1) rfl)
  have i_X11 : ∀ w ∈ u_ws RX11 TX11 14, w ∈ wsX11_piece := fun _ h => List.mem_cons_of_mem _ (List.mem_append_left _ (List.mem_append_right _ h))
  refine g_iload_n F 1 dX11_piece_0 rfl rfl ?_
  refine g_callSi (k := 0) (n := 0) (As := [.int a]) (st := []) (wc := []) (wr := [(x0, .inr (10, [.ref xt, .ref xs, .ref xq, .ref xr, .ref xp, .ref xl, .ref xc, .ref xj, .ref xe, .ref xo, .ref pa, .int 0, .int 0, .int (-1)])), (xp, .inr (5, [.ref xs, .ref ph, .int 0, .int 0, .ref pl])), (ph, .inl (cI, 96, .inl (fun _ => 1000))), (pl, .inl (cII, 4, .inr (.inr (.inr (.inr (fun i => if i < 4 then some (pr i) else none)))))), ((pr 0), .inl (cI, 96, .inl (fun _ => (-1))))]) F [] [0, 1, 2, 3, 4] [] rfl rfl (by decide) rfl (by decide) (by decide) rfl (fun sz => K_X6_mayBeHigh l D a  sz) (va_cwS 1 hts gX11_piece_X6_mayBeHigh rfl rfl rfl (by decide +kernel) ⟨Nat.le_of_ble_eq_true rfl, Nat.le_of_ble_eq_true rfl⟩) rfl (Nat.le_of_ble_eq_true rfl) ⟨Nat.le_of_ble_eq_true rfl, Nat.le_of_ble_eq_true rfl⟩ dX11_piece_1 (fun r_1 _ hw_2 => ?_)
  have hw_2 : r_1 = (if 100 ≤ a ∧ a ≤ 5000 then 1 else 0) := hw_2
  have e_r_1 := hw_2
  show gG p l e (gR 3 0 0 74) s m args below meth c D A 2 Q 0 0 [(x0, .inr (10, [.ref xt, .ref xs, .ref xq, .ref xr, .ref xp, .ref xl, .ref xc, .ref xj, .ref xe, .ref xo, .ref pa, .int 0, .int 0, .int (-1)])), (xp, .inr (5, [.ref xs, .ref ph, .int 0, .int 0, .ref pl])), (ph, .inl (cI, 96, .inl (fun _ => 1000))), (pl, .inl (cII, 4, .inr (.inr (.inr (.inr (fun i => if i < 4 then some (pr i) else none)))))), ((pr 0), .inl (cI, 96, .inl (fun _ => (-1))))] [(cI, .int), (cII, .array .int)] [(0, .ref x0), (1, .int a)] 4 [.int r_1]
  refine g_fold (if 100 ≤ a ∧ a ≤ 5000 then 1 else 0) e_r_1 ?_
  refine g_if_ne F 10 dX11_piece_4 (by decide) (fun c_4 => ?_) (fun c_4 => ?_)
  · have c_4 := gb_n0 c_4
    refine g_aload_n F 0 dX11_piece_10 rfl rfl ?_
    refine g_get (C := RX11) (T := TX11) (N := 14) (v := .ref xp) F i_X11 0 rfl rfl 4 (by decide) w_0 rfl rfl dX11_piece_11 ?_
    refine g_iload_n F 1 dX11_piece_14 rfl rfl ?_
    refine g_callVv (k := 0) (n := 0) (b := xp) (As := [.int a]) (st := []) (wc := [(xp, .inr (5, [.ref xs, .ref ph, .int 0, .int 0, .ref pl])), (ph, .inl (cI, 96, .inl (fun _ => 1000))), (pl, .inl (cII, 4, .inr (.inr (.inr (.inr (fun i => if i < 4 then some (pr i) else none)))))), ((pr 0), .inl (cI, 96, .inl (fun _ => (-1))))]) (wr := [(x0, .inr (10, [.ref xt, .ref xs, .ref xq, .ref xr, .ref xp, .ref xl, .ref xc, .ref xj, .ref xe, .ref xo, .ref pa, .int 0, .int 0, .int (-1)]))]) F [1, 2, 3, 4] [0] [0, 1] rfl rfl (by decide) rfl (by decide) (by decide) rfl (fun sz => K_X6_makeFresh l D xp xs ph pl pr cI cII 0 0 (fun _ => 1000) (fun _ => (-1)) a  sz) (cwV 1 hts gX11_piece_X6_makeFresh rfl rfl rfl (by decide +kernel) ⟨Nat.le_of_ble_eq_true rfl, Nat.le_of_ble_eq_true rfl⟩) rfl 0 rfl rfl (Nat.le_of_ble_eq_true rfl) ⟨Nat.le_of_ble_eq_true rfl, Nat.le_of_ble_eq_true rfl⟩ dX11_piece_15 (fun _ hw_7 => ?_)
    show gG p l e (gR 3 0 0 74) s m args below meth c D A 2 Q 0 0 [(x0, .inr (10, [.ref xt, .ref xs, .ref xq, .ref xr, .ref xp, .ref xl, .ref xc, .ref xj, .ref xe, .ref xo, .ref pa, .int 0, .int 0, .int (-1)])), (xp, .inr (5, [.ref xs, .ref ph, .int 0, .int 0, .ref pl])), (ph, .inl (cI, 96, .inl (fun _ => a))), (pl, .inl (cII, 4, .inr (.inr (.inr (.inr (fun i => if i < 4 then some (pr i) else none)))))), ((pr 0), .inl (cI, 96, .inl (fun _ => (-1))))] [(cI, .int), (cII, .array .int)] [(0, .ref x0), (1, .int a)] 18 []
    refine g_iconst F 1 dX11_piece_18 (by decide) ?_
    exact g_iret F hA hQ hr (fun _ => a) (by first | exact (gi_p (by (simp only [Int32.lt_iff_toInt_lt, Int32.le_iff_toInt_le, ← Int32.toInt_inj, Int32.reduceToInt] at c_4 ⊢; omega)) rfl)) [0, 1, 2, 3, 4] [0, 1] rfl (by decide) rfl rfl dX11_piece_19
  · have c_4 := gb_0 c_4
    refine g_bipush F (-2) dX11_piece_7 (by decide) ?_
    exact g_iret F hA hQ hr (fun _ => 1000) (by first | exact (gi_e (by (simp only [Int32.lt_iff_toInt_lt, Int32.le_iff_toInt_le, ← Int32.toInt_inj, Int32.reduceToInt] at c_4 ⊢; omega)) rfl)) [0, 1, 2, 3, 4] [0, 1] rfl (by decide) rfl rfl dX11_piece_9

theorem dX11_change_0 : decode cX11_change 0 = .ok (.aload_n 0, 1) := by decide +kernel
theorem dX11_change_1 : decode cX11_change 1 = .ok (.getfield 40, 3) := by decide +kernel
theorem dX11_change_4 : decode cX11_change 4 = .ok (.getfield 161, 3) := by decide +kernel
theorem dX11_change_7 : decode cX11_change 7 = .ok (.istore_n 1, 1) := by decide +kernel
theorem dX11_change_8 : decode cX11_change 8 = .ok (.aload_n 0, 1) := by decide +kernel
theorem dX11_change_9 : decode cX11_change 9 = .ok (.getfield 40, 3) := by decide +kernel
theorem dX11_change_12 : decode cX11_change 12 = .ok (.iconst 0, 1) := by decide +kernel
theorem dX11_change_13 : decode cX11_change 13 = .ok (.putfield 161, 3) := by decide +kernel
theorem dX11_change_16 : decode cX11_change 16 = .ok (.iload_n 1, 1) := by decide +kernel
theorem dX11_change_17 : decode cX11_change 17 = .ok (.ireturn, 1) := by decide +kernel
set_option maxHeartbeats 4000000 in
set_option maxRecDepth 100000 in
theorem K_X11_change (l : Launch) (D : va_G) (x0 : Nat) (xt : Nat) (xs : Nat) (xq : Nat) (xr : Nat) (xp : Nat) (xl : Nat) (xc : Nat) (xj : Nat) (xe : Nat) (xo : Nat) (pa : Nat) (ph : Nat) (pl : Nat) (sz : Nat) : Ki l yX11_change wsX11_change 1 40 0 0 D [.ref x0] [(x0, .inr (10, [.ref xt, .ref xs, .ref xq, .ref xr, .ref xp, .ref xl, .ref xc, .ref xj, .ref xe, .ref xo, .ref pa, .int 0, .int 0, .int (-1)])), (xp, .inr (5, [.ref xs, .ref ph, .int 0, .int 0, .ref pl]))] [] sz (fun (r : Int32) (_ : Unit) => r = 0) (fun (_ : Unit) => [(x0, .inr (10, [.ref xt, .ref xs, .ref xq, .ref xr, .ref xp, .ref xl, .ref xc, .ref xj, .ref xe, .ref xo, .ref pa, .int 0, .int 0, .int (-1)])), (xp, .inr (5, [.ref xs, .ref ph, .int 0, .int 0, .ref pl]))]) (fun (_ : Unit) => []) := by
  unfold Ki
  refine g_ofW (cc := cX11_change) (lv := [(0, .ref x0)]) (by decide) rfl (Nat.le_of_ble_eq_true rfl) rfl ?_
  intro p e s m args below meth c A Q hA hQ F hr hnm
  have hts := F.2.2.2.2.1
  have w_0 : (Cond.fieldLink RX11 40 "QuietCut" "piece" "LQuietCut$Piece;").before args s = true := hts _ (List.mem_of_getElem? (i := 1) rfl)
  have i_X11 : ∀ w ∈ u_ws RX11 TX11 14, w ∈ wsX11_change := fun _ h => List.mem_cons_of_mem _ (List.mem_append_left _ (List.mem_append_right _ h))
  have w_1 : (Cond.fieldLink RX11 161 "QuietCut$Piece" "wear" "I").before args s = true := hts _ (List.mem_of_getElem? (i := 2) rfl)
  have i_X6 : ∀ w ∈ u_ws RX6 TX6 5, w ∈ wsX11_change := fun _ h => List.mem_cons_of_mem _ (List.mem_append_right _ h)
  refine g_aload_n F 0 dX11_change_0 rfl rfl ?_
  refine g_get (C := RX11) (T := TX11) (N := 14) (v := .ref xp) F i_X11 0 rfl rfl 4 (by decide) w_0 rfl rfl dX11_change_1 ?_
  refine g_get (C := RX6) (T := TX6) (N := 5) (v := .int 0) F i_X6 1 rfl rfl 2 (by decide) w_1 rfl rfl dX11_change_4 ?_
  refine g_istore_n F [(1, .int 0), (0, .ref x0)] dX11_change_7 rfl (by decide) rfl ?_
  refine g_aload_n F 1 dX11_change_8 rfl rfl ?_
  refine g_get (C := RX11) (T := TX11) (N := 14) (v := .ref xp) F i_X11 0 rfl rfl 4 (by decide) w_0 rfl rfl dX11_change_9 ?_
  refine g_iconst F 0 dX11_change_12 (by decide) ?_
  refine g_put (C := RX6) (T := TX6) (N := 5) (ty := .int) (v := .int 0) F i_X6 1 rfl rfl 2 (by decide) w_1 rfl tyX6 tyX6_ok nmX6 rfl (by decide +kernel) rfl rfl (Nat.le_of_ble_eq_true rfl) [(x0, .inr (10, [.ref xt, .ref xs, .ref xq, .ref xr, .ref xp, .ref xl, .ref xc, .ref xj, .ref xe, .ref xo, .ref pa, .int 0, .int 0, .int (-1)])), (xp, .inr (5, [.ref xs, .ref ph, .int 0, .int 0, .ref pl]))] rfl dX11_change_13 ?_
  refine g_iload_n F 0 dX11_change_16 rfl rfl ?_
  exact g_iret F hA hQ hr () (rfl) [0, 1] [] rfl (by decide) rfl rfl dX11_change_17

theorem dX11_passed_0 : decode cX11_passed 0 = .ok (.aload_n 0, 1) := by decide +kernel
theorem dX11_passed_1 : decode cX11_passed 1 = .ok (.getfield 204, 3) := by decide +kernel
theorem dX11_passed_4 : decode cX11_passed 4 = .ok (.ifCond .eq 25, 3) := by decide +kernel
theorem dX11_passed_7 : decode cX11_passed 7 = .ok (.iload_n 1, 1) := by decide +kernel
theorem dX11_passed_8 : decode cX11_passed 8 = .ok (.ifCond .lt 21, 3) := by decide +kernel
theorem dX11_passed_11 : decode cX11_passed 11 = .ok (.iload_n 1, 1) := by decide +kernel
theorem dX11_passed_12 : decode cX11_passed 12 = .ok (.aload_n 0, 1) := by decide +kernel
theorem dX11_passed_13 : decode cX11_passed 13 = .ok (.getfield 85, 3) := by decide +kernel
theorem dX11_passed_16 : decode cX11_passed 16 = .ok (.arraylength, 1) := by decide +kernel
theorem dX11_passed_17 : decode cX11_passed 17 = .ok (.if_icmp .ge 12, 3) := by decide +kernel
theorem dX11_passed_20 : decode cX11_passed 20 = .ok (.aload_n 0, 1) := by decide +kernel
theorem dX11_passed_21 : decode cX11_passed 21 = .ok (.getfield 85, 3) := by decide +kernel
theorem dX11_passed_24 : decode cX11_passed 24 = .ok (.iload_n 1, 1) := by decide +kernel
theorem dX11_passed_25 : decode cX11_passed 25 = .ok (.iaload, 1) := by decide +kernel
theorem dX11_passed_26 : decode cX11_passed 26 = .ok (.goto 5, 3) := by decide +kernel
theorem dX11_passed_29 : decode cX11_passed 29 = .ok (.ldc 208, 2) := by decide +kernel
theorem dX11_passed_31 : decode cX11_passed 31 = .ok (.ireturn, 1) := by decide +kernel
set_option maxHeartbeats 4000000 in
set_option maxRecDepth 100000 in
theorem K_X11_passed (l : Launch) (D : va_G) (x0 : Nat) (xt : Nat) (xs : Nat) (xq : Nat) (xr : Nat) (xp : Nat) (xl : Nat) (xc : Nat) (xj : Nat) (xe : Nat) (xo : Nat) (pa : Nat) (a : Int32) (sz : Nat) : Ki l yX11_passed wsX11_passed 1 40 0 0 D [.ref x0, .int a] [(x0, .inr (10, [.ref xt, .ref xs, .ref xq, .ref xr, .ref xp, .ref xl, .ref xc, .ref xj, .ref xe, .ref xo, .ref pa, .int 0, .int 0, .int (-1)]))] [] sz (fun (r : Int32) (_ : Unit) => r = (-1000000)) (fun (_ : Unit) => [(x0, .inr (10, [.ref xt, .ref xs, .ref xq, .ref xr, .ref xp, .ref xl, .ref xc, .ref xj, .ref xe, .ref xo, .ref pa, .int 0, .int 0, .int (-1)]))]) (fun (_ : Unit) => []) := by
  unfold Ki
  refine g_ofW (cc := cX11_passed) (lv := [(0, .ref x0), (1, .int a)]) (by decide) rfl (Nat.le_of_ble_eq_true rfl) rfl ?_
  intro p e s m args below meth c A Q hA hQ F hr hnm
  have hts := F.2.2.2.2.1
  have w_0 : (Cond.fieldLink RX11 204 "QuietCut" "anyPassed" "Z").before args s = true := hts _ (List.mem_of_getElem? (i := 1) rfl)
  have i_X11 : ∀ w ∈ u_ws RX11 TX11 14, w ∈ wsX11_passed := fun _ h => List.mem_cons_of_mem _ (List.mem_append_right _ h)
  have w_1 : (Cond.constant RX11 208 (-1000000)).before args s = true := hts _ (List.mem_of_getElem? (i := 3) rfl)
  refine g_aload_n F 0 dX11_passed_0 rfl rfl ?_
  refine g_get (C := RX11) (T := TX11) (N := 14) (v := .int 0) F i_X11 0 rfl rfl 11 (by decide) w_0 rfl rfl dX11_passed_1 ?_
  refine g_if_eq F 29 dX11_passed_4 (by decide) (fun c_4 => ?_) (fun h9 => absurd (by decide) h9) 
  refine g_ldc F w_1 dX11_passed_29 ?_
  exact g_iret F hA hQ hr () (rfl) [0] [] rfl (by decide) rfl rfl dX11_passed_31

theorem dX0_plannedPass_0 : decode cX0_plannedPass 0 = .ok (.aload_n 0, 1) := by decide +kernel
theorem dX0_plannedPass_1 : decode cX0_plannedPass 1 = .ok (.getfield 111, 3) := by decide +kernel
theorem dX0_plannedPass_4 : decode cX0_plannedPass 4 = .ok (.ifCond .ne 5, 3) := by decide +kernel
theorem dX0_plannedPass_7 : decode cX0_plannedPass 7 = .ok (.iconst (-1), 1) := by decide +kernel
theorem dX0_plannedPass_8 : decode cX0_plannedPass 8 = .ok (.ireturn, 1) := by decide +kernel
theorem dX0_plannedPass_9 : decode cX0_plannedPass 9 = .ok (.iload_n 1, 1) := by decide +kernel
theorem dX0_plannedPass_10 : decode cX0_plannedPass 10 = .ok (.ifCond .ne 8, 3) := by decide +kernel
theorem dX0_plannedPass_13 : decode cX0_plannedPass 13 = .ok (.aload_n 0, 1) := by decide +kernel
theorem dX0_plannedPass_14 : decode cX0_plannedPass 14 = .ok (.getfield 111, 3) := by decide +kernel
theorem dX0_plannedPass_17 : decode cX0_plannedPass 17 = .ok (.ireturn, 1) := by decide +kernel
theorem dX0_plannedPass_18 : decode cX0_plannedPass 18 = .ok (.iload_n 1, 1) := by decide +kernel
theorem dX0_plannedPass_19 : decode cX0_plannedPass 19 = .ok (.bipush 10, 2) := by decide +kernel
theorem dX0_plannedPass_21 : decode cX0_plannedPass 21 = .ok (.isub, 1) := by decide +kernel
theorem dX0_plannedPass_22 : decode cX0_plannedPass 22 = .ok (.istore_n 2, 1) := by decide +kernel
theorem dX0_plannedPass_23 : decode cX0_plannedPass 23 = .ok (.iload_n 1, 1) := by decide +kernel
theorem dX0_plannedPass_24 : decode cX0_plannedPass 24 = .ok (.bipush 10, 2) := by decide +kernel
theorem dX0_plannedPass_26 : decode cX0_plannedPass 26 = .ok (.if_icmp .lt 27, 3) := by decide +kernel
theorem dX0_plannedPass_29 : decode cX0_plannedPass 29 = .ok (.iload_n 2, 1) := by decide +kernel
theorem dX0_plannedPass_30 : decode cX0_plannedPass 30 = .ok (.aload_n 0, 1) := by decide +kernel
theorem dX0_plannedPass_31 : decode cX0_plannedPass 31 = .ok (.getfield 111, 3) := by decide +kernel
theorem dX0_plannedPass_34 : decode cX0_plannedPass 34 = .ok (.if_icmp .ge 19, 3) := by decide +kernel
theorem dX0_plannedPass_37 : decode cX0_plannedPass 37 = .ok (.iload_n 2, 1) := by decide +kernel
theorem dX0_plannedPass_38 : decode cX0_plannedPass 38 = .ok (.sipush 400, 3) := by decide +kernel
theorem dX0_plannedPass_41 : decode cX0_plannedPass 41 = .ok (.if_icmp .ge 12, 3) := by decide +kernel
theorem dX0_plannedPass_44 : decode cX0_plannedPass 44 = .ok (.aload_n 0, 1) := by decide +kernel
theorem dX0_plannedPass_45 : decode cX0_plannedPass 45 = .ok (.getfield 21, 3) := by decide +kernel
theorem dX0_plannedPass_48 : decode cX0_plannedPass 48 = .ok (.iload_n 2, 1) := by decide +kernel
theorem dX0_plannedPass_49 : decode cX0_plannedPass 49 = .ok (.iaload, 1) := by decide +kernel
theorem dX0_plannedPass_50 : decode cX0_plannedPass 50 = .ok (.goto 4, 3) := by decide +kernel
theorem dX0_plannedPass_53 : decode cX0_plannedPass 53 = .ok (.iconst (-1), 1) := by decide +kernel
theorem dX0_plannedPass_54 : decode cX0_plannedPass 54 = .ok (.ireturn, 1) := by decide +kernel
set_option maxHeartbeats 4000000 in
set_option maxRecDepth 100000 in
theorem K_X0_plannedPass (l : Launch) (D : va_G) (xc : Nat) (xs : Nat) (xp : Nat) (xl : Nat) (ch_s : Nat) (ch_t : Nat) (ch_f : Nat) (ch_p : Nat) (a : Int32) (sz : Nat) : Ki l yX0_plannedPass wsX0_plannedPass 1 40 0 0 D [.ref xc, .int a] [(xc, .inr (0, [.ref xs, .ref xp, .ref xl, .ref ch_s, .ref ch_t, .ref ch_f, .ref ch_p, .int 0]))] [] sz (fun (r : Int32) (_ : Unit) => r = (-1)) (fun (_ : Unit) => [(xc, .inr (0, [.ref xs, .ref xp, .ref xl, .ref ch_s, .ref ch_t, .ref ch_f, .ref ch_p, .int 0]))]) (fun (_ : Unit) => []) := by
  unfold Ki
  refine g_ofW (cc := cX0_plannedPass) (lv := [(0, .ref xc), (1, .int a)]) (by decide) rfl (Nat.le_of_ble_eq_true rfl) rfl ?_
  intro p e s m args below meth c A Q hA hQ F hr hnm
  have hts := F.2.2.2.2.1
  have w_0 : (Cond.fieldLink RX0 111 "QuietCut$Chooser" "planMany" "I").before args s = true := hts _ (List.mem_of_getElem? (i := 1) rfl)
  have i_X0 : ∀ w ∈ u_ws RX0 TX0 8, w ∈ wsX0_plannedPass := fun _ h => List.mem_cons_of_mem _ (List.mem_append_right _ h)
  refine g_aload_n F 0 dX0_plannedPass_0 rfl rfl ?_
  refine g_get (C := RX0) (T := TX0) (N := 8) (v := .int 0) F i_X0 0 rfl rfl 7 (by decide) w_0 rfl rfl dX0_plannedPass_1 ?_
  refine g_if_ne F 9 dX0_plannedPass_4 (by decide) (fun h9 => absurd (by decide) h9) (fun c_4 => ?_)
  refine g_iconst F (-1) dX0_plannedPass_7 (by decide) ?_
  exact g_iret F hA hQ hr () (rfl) [0] [] rfl (by decide) rfl rfl dX0_plannedPass_8

theorem dX11_planned_0 : decode cX11_planned 0 = .ok (.aload_n 0, 1) := by decide +kernel
theorem dX11_planned_1 : decode cX11_planned 1 = .ok (.getfield 56, 3) := by decide +kernel
theorem dX11_planned_4 : decode cX11_planned 4 = .ok (.iload_n 1, 1) := by decide +kernel
theorem dX11_planned_5 : decode cX11_planned 5 = .ok (.invokevirtual 228, 3) := by decide +kernel
theorem dX11_planned_8 : decode cX11_planned 8 = .ok (.ireturn, 1) := by decide +kernel
set_option maxRecDepth 20000 in
theorem ggX11_planned_X0_plannedPass : GoodIn wsX11_planned wsX0_plannedPass := goodIn_r _ [6, 7, 8, 23, 24, 25, 26, 27, 28, 29, 30] rfl (by decide +kernel)
set_option maxRecDepth 20000 in
theorem gX11_planned_X0_plannedPass : GoodIn wsX11_planned (wsV RX11 228 RX0 yX0_plannedPass wsX0_plannedPass) := goodIn_app (goodIn_of _ (by decide +kernel)) ggX11_planned_X0_plannedPass
set_option maxHeartbeats 4000000 in
set_option maxRecDepth 100000 in
theorem K_X11_planned (l : Launch) (D : va_G) (x0 : Nat) (xt : Nat) (xs : Nat) (xq : Nat) (xr : Nat) (xp : Nat) (xl : Nat) (xc : Nat) (xj : Nat) (xe : Nat) (xo : Nat) (pa : Nat) (ch_s : Nat) (ch_t : Nat) (ch_f : Nat) (ch_p : Nat) (a : Int32) (sz : Nat) : Ki l yX11_planned wsX11_planned 2 62 0 0 D [.ref x0, .int a] [(x0, .inr (10, [.ref xt, .ref xs, .ref xq, .ref xr, .ref xp, .ref xl, .ref xc, .ref xj, .ref xe, .ref xo, .ref pa, .int 0, .int 0, .int (-1)])), (xc, .inr (0, [.ref xs, .ref xp, .ref xl, .ref ch_s, .ref ch_t, .ref ch_f, .ref ch_p, .int 0]))] [] sz (fun (r : Int32) (_ : Unit) => r = (-1)) (fun (_ : Unit) => [(x0, .inr (10, [.ref xt, .ref xs, .ref xq, .ref xr, .ref xp, .ref xl, .ref xc, .ref xj, .ref xe, .ref xo, .ref pa, .int 0, .int 0, .int (-1)])), (xc, .inr (0, [.ref xs, .ref xp, .ref xl, .ref ch_s, .ref ch_t, .ref ch_f, .ref ch_p, .int 0]))]) (fun (_ : Unit) => []) := by
  unfold Ki
  refine g_ofW (cc := cX11_planned) (lv := [(0, .ref x0), (1, .int a)]) (by decide) rfl (Nat.le_of_ble_eq_true rfl) rfl ?_
  intro p e s m args below meth c A Q hA hQ F hr hnm
  have hts := F.2.2.2.2.1
  have w_0 : (Cond.fieldLink RX11 56 "QuietCut" "chooser" "LQuietCut$Chooser;").before args s = true := hts _ (List.mem_of_getElem? (i := 1) rfl)
  have i_X11 : ∀ w ∈ u_ws RX11 TX11 14, w ∈ wsX11_planned := fun _ h => List.mem_cons_of_mem _ (List.mem_append_left _ (List.mem_append_right _ h))
  refine g_aload_n F 0 dX11_planned_0 rfl rfl ?_
  refine g_get (C := RX11) (T := TX11) (N := 14) (v := .ref xc) F i_X11 0 rfl rfl 6 (by decide) w_0 rfl rfl dX11_planned_1 ?_
  refine g_iload_n F 1 dX11_planned_4 rfl rfl ?_
  refine g_callVi (k := 0) (n := 0) (b := xc) (As := [.int a]) (st := []) (wc := [(xc, .inr (0, [.ref xs, .ref xp, .ref xl, .ref ch_s, .ref ch_t, .ref ch_f, .ref ch_p, .int 0]))]) (wr := [(x0, .inr (10, [.ref xt, .ref xs, .ref xq, .ref xr, .ref xp, .ref xl, .ref xc, .ref xj, .ref xe, .ref xo, .ref pa, .int 0, .int 0, .int (-1)]))]) F [1] [0] [] rfl rfl (by decide) rfl (by decide) (by decide) rfl (fun sz => K_X0_plannedPass l D xc xs xp xl ch_s ch_t ch_f ch_p a  sz) (cwV 1 hts gX11_planned_X0_plannedPass rfl rfl rfl (by decide +kernel) ⟨Nat.le_of_ble_eq_true rfl, Nat.le_of_ble_eq_true rfl⟩) rfl 0 rfl rfl (Nat.le_of_ble_eq_true rfl) ⟨Nat.le_of_ble_eq_true rfl, Nat.le_of_ble_eq_true rfl⟩ dX11_planned_5 (fun r_1 _ hw_2 => ?_)
  have hw_2 : r_1 = (-1) := hw_2
  have e_r_1 := hw_2
  show gG p l e (gR 2 0 0 62) s m args below meth c D A 2 Q 0 0 [(x0, .inr (10, [.ref xt, .ref xs, .ref xq, .ref xr, .ref xp, .ref xl, .ref xc, .ref xj, .ref xe, .ref xo, .ref pa, .int 0, .int 0, .int (-1)])), (xc, .inr (0, [.ref xs, .ref xp, .ref xl, .ref ch_s, .ref ch_t, .ref ch_f, .ref ch_p, .int 0]))] [] [(0, .ref x0), (1, .int a)] 8 [.int r_1]
  refine g_fold (-1) e_r_1 ?_
  exact g_iret F hA hQ hr () (rfl) [0, 1] [] rfl (by decide) rfl rfl dX11_planned_8

theorem dX4_orderedJob_0 : decode cX4_orderedJob 0 = .ok (.iload_n 1, 1) := by decide +kernel
theorem dX4_orderedJob_1 : decode cX4_orderedJob 1 = .ok (.ifCond .lt 25, 3) := by decide +kernel
theorem dX4_orderedJob_4 : decode cX4_orderedJob 4 = .ok (.iload_n 1, 1) := by decide +kernel
theorem dX4_orderedJob_5 : decode cX4_orderedJob 5 = .ok (.aload_n 0, 1) := by decide +kernel
theorem dX4_orderedJob_6 : decode cX4_orderedJob 6 = .ok (.getfield 41, 3) := by decide +kernel
theorem dX4_orderedJob_9 : decode cX4_orderedJob 9 = .ok (.if_icmp .ge 17, 3) := by decide +kernel
theorem dX4_orderedJob_12 : decode cX4_orderedJob 12 = .ok (.iload_n 1, 1) := by decide +kernel
theorem dX4_orderedJob_13 : decode cX4_orderedJob 13 = .ok (.iconst 5, 1) := by decide +kernel
theorem dX4_orderedJob_14 : decode cX4_orderedJob 14 = .ok (.if_icmp .ge 12, 3) := by decide +kernel
theorem dX4_orderedJob_17 : decode cX4_orderedJob 17 = .ok (.aload_n 0, 1) := by decide +kernel
theorem dX4_orderedJob_18 : decode cX4_orderedJob 18 = .ok (.getfield 26, 3) := by decide +kernel
theorem dX4_orderedJob_21 : decode cX4_orderedJob 21 = .ok (.iload_n 1, 1) := by decide +kernel
theorem dX4_orderedJob_22 : decode cX4_orderedJob 22 = .ok (.iaload, 1) := by decide +kernel
theorem dX4_orderedJob_23 : decode cX4_orderedJob 23 = .ok (.goto 4, 3) := by decide +kernel
theorem dX4_orderedJob_26 : decode cX4_orderedJob 26 = .ok (.iconst (-1), 1) := by decide +kernel
theorem dX4_orderedJob_27 : decode cX4_orderedJob 27 = .ok (.ireturn, 1) := by decide +kernel
set_option maxHeartbeats 4000000 in
set_option maxRecDepth 100000 in
theorem K_X4_orderedJob (l : Launch) (D : va_G) (xj : Nat) (xp : Nat) (xl : Nat) (jj : Nat) (jh : Nat) (jw : Nat) (jo : Nat) (jb : Nat) (a : Int32) (sz : Nat) : Ki l yX4_orderedJob wsX4_orderedJob 1 40 0 0 D [.ref xj, .int a] [(xj, .inr (3, [.ref xp, .ref xl, .ref jj, .int 0, .ref jh, .ref jw, .ref jo, .ref jb, .int 0, .int 0, .int 0, .int 0]))] [] sz (fun (r : Int32) (_ : Unit) => r = (-1)) (fun (_ : Unit) => [(xj, .inr (3, [.ref xp, .ref xl, .ref jj, .int 0, .ref jh, .ref jw, .ref jo, .ref jb, .int 0, .int 0, .int 0, .int 0]))]) (fun (_ : Unit) => []) := by
  unfold Ki
  refine g_ofW (cc := cX4_orderedJob) (lv := [(0, .ref xj), (1, .int a)]) (by decide) rfl (Nat.le_of_ble_eq_true rfl) rfl ?_
  intro p e s m args below meth c A Q hA hQ F hr hnm
  have hts := F.2.2.2.2.1
  have w_0 : (Cond.fieldLink RX4 41 "QuietCut$Jobs" "bestMany" "I").before args s = true := hts _ (List.mem_of_getElem? (i := 1) rfl)
  have i_X4 : ∀ w ∈ u_ws RX4 TX4 12, w ∈ wsX4_orderedJob := fun _ h => List.mem_cons_of_mem _ (List.mem_append_right _ h)
  refine g_iload_n F 1 dX4_orderedJob_0 rfl rfl ?_
  refine g_if_lt F 26 dX4_orderedJob_1 (by decide) (fun c_1 => ?_) (fun c_1 => ?_)
  · refine g_iconst F (-1) dX4_orderedJob_26 (by decide) ?_
    exact g_iret F hA hQ hr () (rfl) [0] [] rfl (by decide) rfl rfl dX4_orderedJob_27
  · refine g_iload_n F 1 dX4_orderedJob_4 rfl rfl ?_
    refine g_aload_n F 0 dX4_orderedJob_5 rfl rfl ?_
    refine g_get (C := RX4) (T := TX4) (N := 12) (v := .int 0) F i_X4 0 rfl rfl 8 (by decide) w_0 rfl rfl dX4_orderedJob_6 ?_
    refine g_icmp_ge F 26 dX4_orderedJob_9 (by decide) (fun c_9 => ?_) (fun c_9 => ?_)
    · refine g_iconst F (-1) dX4_orderedJob_26 (by decide) ?_
      exact g_iret F hA hQ hr () (rfl) [0] [] rfl (by decide) rfl rfl dX4_orderedJob_27
    · exfalso; simp only [Int32.lt_iff_toInt_lt, Int32.le_iff_toInt_le, ← Int32.toInt_inj, Int32.reduceToInt] at c_1 c_9; omega

theorem dX11_ordered_0 : decode cX11_ordered 0 = .ok (.aload_n 0, 1) := by decide +kernel
theorem dX11_ordered_1 : decode cX11_ordered 1 = .ok (.getfield 65, 3) := by decide +kernel
theorem dX11_ordered_4 : decode cX11_ordered 4 = .ok (.iload_n 1, 1) := by decide +kernel
theorem dX11_ordered_5 : decode cX11_ordered 5 = .ok (.invokevirtual 243, 3) := by decide +kernel
theorem dX11_ordered_8 : decode cX11_ordered 8 = .ok (.ireturn, 1) := by decide +kernel
set_option maxRecDepth 20000 in
theorem ggX11_ordered_X4_orderedJob : GoodIn wsX11_ordered wsX4_orderedJob := goodIn_r _ [6, 7, 8, 23, 24, 25, 26, 27, 28, 29, 30, 31, 32, 33, 34] rfl (by decide +kernel)
set_option maxRecDepth 20000 in
theorem gX11_ordered_X4_orderedJob : GoodIn wsX11_ordered (wsV RX11 243 RX4 yX4_orderedJob wsX4_orderedJob) := goodIn_app (goodIn_of _ (by decide +kernel)) ggX11_ordered_X4_orderedJob
set_option maxHeartbeats 4000000 in
set_option maxRecDepth 100000 in
theorem K_X11_ordered (l : Launch) (D : va_G) (x0 : Nat) (xt : Nat) (xs : Nat) (xq : Nat) (xr : Nat) (xp : Nat) (xl : Nat) (xc : Nat) (xj : Nat) (xe : Nat) (xo : Nat) (pa : Nat) (jj : Nat) (jh : Nat) (jw : Nat) (jo : Nat) (jb : Nat) (a : Int32) (sz : Nat) : Ki l yX11_ordered wsX11_ordered 2 61 0 0 D [.ref x0, .int a] [(x0, .inr (10, [.ref xt, .ref xs, .ref xq, .ref xr, .ref xp, .ref xl, .ref xc, .ref xj, .ref xe, .ref xo, .ref pa, .int 0, .int 0, .int (-1)])), (xj, .inr (3, [.ref xp, .ref xl, .ref jj, .int 0, .ref jh, .ref jw, .ref jo, .ref jb, .int 0, .int 0, .int 0, .int 0]))] [] sz (fun (r : Int32) (_ : Unit) => r = (-1)) (fun (_ : Unit) => [(x0, .inr (10, [.ref xt, .ref xs, .ref xq, .ref xr, .ref xp, .ref xl, .ref xc, .ref xj, .ref xe, .ref xo, .ref pa, .int 0, .int 0, .int (-1)])), (xj, .inr (3, [.ref xp, .ref xl, .ref jj, .int 0, .ref jh, .ref jw, .ref jo, .ref jb, .int 0, .int 0, .int 0, .int 0]))]) (fun (_ : Unit) => []) := by
  unfold Ki
  refine g_ofW (cc := cX11_ordered) (lv := [(0, .ref x0), (1, .int a)]) (by decide) rfl (Nat.le_of_ble_eq_true rfl) rfl ?_
  intro p e s m args below meth c A Q hA hQ F hr hnm
  have hts := F.2.2.2.2.1
  have w_0 : (Cond.fieldLink RX11 65 "QuietCut" "jobs" "LQuietCut$Jobs;").before args s = true := hts _ (List.mem_of_getElem? (i := 1) rfl)
  have i_X11 : ∀ w ∈ u_ws RX11 TX11 14, w ∈ wsX11_ordered := fun _ h => List.mem_cons_of_mem _ (List.mem_append_left _ (List.mem_append_right _ h))
  refine g_aload_n F 0 dX11_ordered_0 rfl rfl ?_
  refine g_get (C := RX11) (T := TX11) (N := 14) (v := .ref xj) F i_X11 0 rfl rfl 7 (by decide) w_0 rfl rfl dX11_ordered_1 ?_
  refine g_iload_n F 1 dX11_ordered_4 rfl rfl ?_
  refine g_callVi (k := 0) (n := 0) (b := xj) (As := [.int a]) (st := []) (wc := [(xj, .inr (3, [.ref xp, .ref xl, .ref jj, .int 0, .ref jh, .ref jw, .ref jo, .ref jb, .int 0, .int 0, .int 0, .int 0]))]) (wr := [(x0, .inr (10, [.ref xt, .ref xs, .ref xq, .ref xr, .ref xp, .ref xl, .ref xc, .ref xj, .ref xe, .ref xo, .ref pa, .int 0, .int 0, .int (-1)]))]) F [1] [0] [] rfl rfl (by decide) rfl (by decide) (by decide) rfl (fun sz => K_X4_orderedJob l D xj xp xl jj jh jw jo jb a  sz) (cwV 1 hts gX11_ordered_X4_orderedJob rfl rfl rfl (by decide +kernel) ⟨Nat.le_of_ble_eq_true rfl, Nat.le_of_ble_eq_true rfl⟩) rfl 0 rfl rfl (Nat.le_of_ble_eq_true rfl) ⟨Nat.le_of_ble_eq_true rfl, Nat.le_of_ble_eq_true rfl⟩ dX11_ordered_5 (fun r_1 _ hw_2 => ?_)
  have hw_2 : r_1 = (-1) := hw_2
  have e_r_1 := hw_2
  show gG p l e (gR 2 0 0 61) s m args below meth c D A 2 Q 0 0 [(x0, .inr (10, [.ref xt, .ref xs, .ref xq, .ref xr, .ref xp, .ref xl, .ref xc, .ref xj, .ref xe, .ref xo, .ref pa, .int 0, .int 0, .int (-1)])), (xj, .inr (3, [.ref xp, .ref xl, .ref jj, .int 0, .ref jh, .ref jw, .ref jo, .ref jb, .int 0, .int 0, .int 0, .int 0]))] [] [(0, .ref x0), (1, .int a)] 8 [.int r_1]
  refine g_fold (-1) e_r_1 ?_
  exact g_iret F hA hQ hr () (rfl) [0, 1] [] rfl (by decide) rfl rfl dX11_ordered_8

theorem dX9_mayBeRound_0 : decode cX9_mayBeRound 0 = .ok (.iload_n 0, 1) := by decide +kernel
theorem dX9_mayBeRound_1 : decode cX9_mayBeRound 1 = .ok (.iconst 1, 1) := by decide +kernel
theorem dX9_mayBeRound_2 : decode cX9_mayBeRound 2 = .ok (.if_icmp .lt 13, 3) := by decide +kernel
theorem dX9_mayBeRound_5 : decode cX9_mayBeRound 5 = .ok (.iload_n 0, 1) := by decide +kernel
theorem dX9_mayBeRound_6 : decode cX9_mayBeRound 6 = .ok (.bipush 60, 2) := by decide +kernel
theorem dX9_mayBeRound_8 : decode cX9_mayBeRound 8 = .ok (.if_icmp .gt 7, 3) := by decide +kernel
theorem dX9_mayBeRound_11 : decode cX9_mayBeRound 11 = .ok (.iconst 1, 1) := by decide +kernel
theorem dX9_mayBeRound_12 : decode cX9_mayBeRound 12 = .ok (.goto 4, 3) := by decide +kernel
theorem dX9_mayBeRound_15 : decode cX9_mayBeRound 15 = .ok (.iconst 0, 1) := by decide +kernel
theorem dX9_mayBeRound_16 : decode cX9_mayBeRound 16 = .ok (.ireturn, 1) := by decide +kernel
set_option maxHeartbeats 4000000 in
set_option maxRecDepth 100000 in
theorem K_X9_mayBeRound (l : Launch) (D : va_G) (a : Int32) (sz : Nat) : Ki l yX9_mayBeRound wsX9_mayBeRound 1 40 0 0 D [.int a] [] [] sz (fun (r : Int32) (_ : Unit) => r = (if 1 ≤ a ∧ a ≤ 60 then 1 else 0)) (fun (_ : Unit) => []) (fun (_ : Unit) => []) := by
  unfold Ki
  refine g_ofW (cc := cX9_mayBeRound) (lv := [(0, .int a)]) (by decide) rfl (Nat.le_of_ble_eq_true rfl) rfl ?_
  intro p e s m args below meth c A Q hA hQ F hr hnm
  have hts := F.2.2.2.2.1
  refine g_iload_n F 0 dX9_mayBeRound_0 rfl rfl ?_
  refine g_iconst F 1 dX9_mayBeRound_1 (by decide) ?_
  refine g_icmp_lt F 15 dX9_mayBeRound_2 (by decide) (fun c_2 => ?_) (fun c_2 => ?_)
  · refine g_iconst F 0 dX9_mayBeRound_15 (by decide) ?_
    exact g_zret F hA hQ hr rfl () (gb_f (by (simp only [Int32.lt_iff_toInt_lt, Int32.le_iff_toInt_le, ← Int32.toInt_inj, Int32.reduceToInt] at c_2 ⊢; omega))) [] [] rfl (by decide) rfl rfl dX9_mayBeRound_16
  · refine g_iload_n F 0 dX9_mayBeRound_5 rfl rfl ?_
    refine g_bipush F 60 dX9_mayBeRound_6 (by decide) ?_
    refine g_icmp_gt F 15 dX9_mayBeRound_8 (by decide) (fun c_8 => ?_) (fun c_8 => ?_)
    · refine g_iconst F 0 dX9_mayBeRound_15 (by decide) ?_
      exact g_zret F hA hQ hr rfl () (gb_f (by (simp only [Int32.lt_iff_toInt_lt, Int32.le_iff_toInt_le, ← Int32.toInt_inj, Int32.reduceToInt] at c_2 c_8 ⊢; omega))) [] [] rfl (by decide) rfl rfl dX9_mayBeRound_16
    · refine g_iconst F 1 dX9_mayBeRound_11 (by decide) ?_
      refine g_goto F 16 dX9_mayBeRound_12 (by decide) ?_
      exact g_zret F hA hQ hr rfl () (gb_t (by (simp only [Int32.lt_iff_toInt_lt, Int32.le_iff_toInt_le, ← Int32.toInt_inj, Int32.reduceToInt] at c_2 c_8 ⊢; omega))) [] [] rfl (by decide) rfl rfl dX9_mayBeRound_16

theorem dX11_count_0 : decode cX11_count 0 = .ok (.iload_n 1, 1) := by decide +kernel
theorem dX11_count_1 : decode cX11_count 1 = .ok (.tableswitch 111 0 7 #[47, 55, 63, 71, 79, 87, 95, 103], 47) := by decide +kernel
theorem dX11_count_48 : decode cX11_count 48 = .ok (.aload_n 0, 1) := by decide +kernel
theorem dX11_count_49 : decode cX11_count 49 = .ok (.getfield 40, 3) := by decide +kernel
theorem dX11_count_52 : decode cX11_count 52 = .ok (.getfield 161, 3) := by decide +kernel
theorem dX11_count_55 : decode cX11_count 55 = .ok (.ireturn, 1) := by decide +kernel
theorem dX11_count_56 : decode cX11_count 56 = .ok (.aload_n 0, 1) := by decide +kernel
theorem dX11_count_57 : decode cX11_count 57 = .ok (.getfield 40, 3) := by decide +kernel
theorem dX11_count_60 : decode cX11_count 60 = .ok (.getfield 178, 3) := by decide +kernel
theorem dX11_count_63 : decode cX11_count 63 = .ok (.ireturn, 1) := by decide +kernel
theorem dX11_count_64 : decode cX11_count 64 = .ok (.aload_n 0, 1) := by decide +kernel
theorem dX11_count_65 : decode cX11_count 65 = .ok (.getfield 65, 3) := by decide +kernel
theorem dX11_count_68 : decode cX11_count 68 = .ok (.getfield 279, 3) := by decide +kernel
theorem dX11_count_71 : decode cX11_count 71 = .ok (.ireturn, 1) := by decide +kernel
theorem dX11_count_72 : decode cX11_count 72 = .ok (.aload_n 0, 1) := by decide +kernel
theorem dX11_count_73 : decode cX11_count 73 = .ok (.getfield 74, 3) := by decide +kernel
theorem dX11_count_76 : decode cX11_count 76 = .ok (.getfield 280, 3) := by decide +kernel
theorem dX11_count_79 : decode cX11_count 79 = .ok (.ireturn, 1) := by decide +kernel
theorem dX11_count_80 : decode cX11_count 80 = .ok (.aload_n 0, 1) := by decide +kernel
theorem dX11_count_81 : decode cX11_count 81 = .ok (.getfield 74, 3) := by decide +kernel
theorem dX11_count_84 : decode cX11_count 84 = .ok (.getfield 283, 3) := by decide +kernel
theorem dX11_count_87 : decode cX11_count 87 = .ok (.ireturn, 1) := by decide +kernel
theorem dX11_count_88 : decode cX11_count 88 = .ok (.aload_n 0, 1) := by decide +kernel
theorem dX11_count_89 : decode cX11_count 89 = .ok (.getfield 74, 3) := by decide +kernel
theorem dX11_count_92 : decode cX11_count 92 = .ok (.getfield 286, 3) := by decide +kernel
theorem dX11_count_95 : decode cX11_count 95 = .ok (.ireturn, 1) := by decide +kernel
theorem dX11_count_96 : decode cX11_count 96 = .ok (.aload_n 0, 1) := by decide +kernel
theorem dX11_count_97 : decode cX11_count 97 = .ok (.getfield 81, 3) := by decide +kernel
theorem dX11_count_100 : decode cX11_count 100 = .ok (.getfield 267, 3) := by decide +kernel
theorem dX11_count_103 : decode cX11_count 103 = .ok (.ireturn, 1) := by decide +kernel
theorem dX11_count_104 : decode cX11_count 104 = .ok (.aload_n 0, 1) := by decide +kernel
theorem dX11_count_105 : decode cX11_count 105 = .ok (.getfield 12, 3) := by decide +kernel
theorem dX11_count_108 : decode cX11_count 108 = .ok (.getfield 101, 3) := by decide +kernel
theorem dX11_count_111 : decode cX11_count 111 = .ok (.ireturn, 1) := by decide +kernel
theorem dX11_count_112 : decode cX11_count 112 = .ok (.iconst (-1), 1) := by decide +kernel
theorem dX11_count_113 : decode cX11_count 113 = .ok (.ireturn, 1) := by decide +kernel
set_option maxHeartbeats 4000000 in
set_option maxRecDepth 100000 in
theorem K_X11_count (l : Launch) (D : va_G) (x0 : Nat) (xt : Nat) (xs : Nat) (xq : Nat) (xr : Nat) (xp : Nat) (xl : Nat) (xc : Nat) (xj : Nat) (xe : Nat) (xo : Nat) (pa : Nat) (ph : Nat) (pl : Nat) (jj : Nat) (jh : Nat) (jw : Nat) (jo : Nat) (jb : Nat) (ef : Nat) (ev : Nat) (eh : Nat) (er : Nat) (sn : Nat) (sp : Nat) (tb : Nat) (a : Int32) (sz : Nat) : Ki l yX11_count wsX11_count 1 40 0 0 D [.ref x0, .int a] [(x0, .inr (10, [.ref xt, .ref xs, .ref xq, .ref xr, .ref xp, .ref xl, .ref xc, .ref xj, .ref xe, .ref xo, .ref pa, .int 0, .int 0, .int (-1)])), (xp, .inr (5, [.ref xs, .ref ph, .int 0, .int 0, .ref pl])), (xj, .inr (3, [.ref xp, .ref xl, .ref jj, .int 0, .ref jh, .ref jw, .ref jo, .ref jb, .int 0, .int 0, .int 0, .int 0])), (xe, .inr (1, [.ref xs, .ref xl, .ref ef, .ref ev, .int 0, .ref eh, .int 0, .ref er, .int 0, .int 0])), (xo, .inr (8, [.ref sn, .ref sp, .int 0])), (xt, .inr (9, [.ref tb, .int 0, .int 0, .int 0, .int 0, .int 0]))] [] sz (fun (r : Int32) (_ : Unit) => r = (if 0 ≤ a ∧ a ≤ 7 then 0 else (-1))) (fun (_ : Unit) => [(x0, .inr (10, [.ref xt, .ref xs, .ref xq, .ref xr, .ref xp, .ref xl, .ref xc, .ref xj, .ref xe, .ref xo, .ref pa, .int 0, .int 0, .int (-1)])), (xp, .inr (5, [.ref xs, .ref ph, .int 0, .int 0, .ref pl])), (xj, .inr (3, [.ref xp, .ref xl, .ref jj, .int 0, .ref jh, .ref jw, .ref jo, .ref jb, .int 0, .int 0, .int 0, .int 0])), (xe, .inr (1, [.ref xs, .ref xl, .ref ef, .ref ev, .int 0, .ref eh, .int 0, .ref er, .int 0, .int 0])), (xo, .inr (8, [.ref sn, .ref sp, .int 0])), (xt, .inr (9, [.ref tb, .int 0, .int 0, .int 0, .int 0, .int 0]))]) (fun (_ : Unit) => []) := by
  unfold Ki
  refine g_ofW (cc := cX11_count) (lv := [(0, .ref x0), (1, .int a)]) (by decide) rfl (Nat.le_of_ble_eq_true rfl) rfl ?_
  intro p e s m args below meth c A Q hA hQ F hr hnm
  have hts := F.2.2.2.2.1
  have w_0 : (Cond.fieldLink RX11 40 "QuietCut" "piece" "LQuietCut$Piece;").before args s = true := hts _ (List.mem_of_getElem? (i := 1) rfl)
  have i_X11 : ∀ w ∈ u_ws RX11 TX11 14, w ∈ wsX11_count := fun _ h => List.mem_cons_of_mem _ (List.mem_append_left _ (List.mem_append_left _ (List.mem_append_left _ (List.mem_append_left _ (List.mem_append_left _ (List.mem_append_right _ h))))))
  have w_1 : (Cond.fieldLink RX11 161 "QuietCut$Piece" "wear" "I").before args s = true := hts _ (List.mem_of_getElem? (i := 2) rfl)
  have i_X6 : ∀ w ∈ u_ws RX6 TX6 5, w ∈ wsX11_count := fun _ h => List.mem_cons_of_mem _ (List.mem_append_left _ (List.mem_append_left _ (List.mem_append_left _ (List.mem_append_left _ (List.mem_append_right _ h)))))
  have w_2 : (Cond.fieldLink RX11 178 "QuietCut$Piece" "passes" "I").before args s = true := hts _ (List.mem_of_getElem? (i := 3) rfl)
  have w_3 : (Cond.fieldLink RX11 65 "QuietCut" "jobs" "LQuietCut$Jobs;").before args s = true := hts _ (List.mem_of_getElem? (i := 4) rfl)
  have w_4 : (Cond.fieldLink RX11 279 "QuietCut$Jobs" "many" "I").before args s = true := hts _ (List.mem_of_getElem? (i := 5) rfl)
  have i_X4 : ∀ w ∈ u_ws RX4 TX4 12, w ∈ wsX11_count := fun _ h => List.mem_cons_of_mem _ (List.mem_append_left _ (List.mem_append_left _ (List.mem_append_left _ (List.mem_append_right _ h))))
  have w_5 : (Cond.fieldLink RX11 74 "QuietCut" "ear" "LQuietCut$Ear;").before args s = true := hts _ (List.mem_of_getElem? (i := 6) rfl)
  have w_6 : (Cond.fieldLink RX11 280 "QuietCut$Ear" "offers" "I").before args s = true := hts _ (List.mem_of_getElem? (i := 7) rfl)
  have i_X2 : ∀ w ∈ u_ws RX2 TX2 10, w ∈ wsX11_count := fun _ h => List.mem_cons_of_mem _ (List.mem_append_left _ (List.mem_append_left _ (List.mem_append_right _ h)))
  have w_7 : (Cond.fieldLink RX11 283 "QuietCut$Ear" "heards" "I").before args s = true := hts _ (List.mem_of_getElem? (i := 8) rfl)
  have w_8 : (Cond.fieldLink RX11 286 "QuietCut$Ear" "rights" "I").before args s = true := hts _ (List.mem_of_getElem? (i := 9) rfl)
  have w_9 : (Cond.fieldLink RX11 81 "QuietCut" "sound" "LQuietCut$Sound;").before args s = true := hts _ (List.mem_of_getElem? (i := 10) rfl)
  have w_10 : (Cond.fieldLink RX11 267 "QuietCut$Sound" "many" "I").before args s = true := hts _ (List.mem_of_getElem? (i := 11) rfl)
  have i_X9 : ∀ w ∈ u_ws RX9 TX9 3, w ∈ wsX11_count := fun _ h => List.mem_cons_of_mem _ (List.mem_append_left _ (List.mem_append_right _ h))
  have w_11 : (Cond.fieldLink RX11 12 "QuietCut" "tape" "LQuietCut$Tape;").before args s = true := hts _ (List.mem_of_getElem? (i := 12) rfl)
  have w_12 : (Cond.fieldLink RX11 101 "QuietCut$Tape" "length" "I").before args s = true := hts _ (List.mem_of_getElem? (i := 13) rfl)
  have i_X10 : ∀ w ∈ u_ws RX10 TX10 6, w ∈ wsX11_count := fun _ h => List.mem_cons_of_mem _ (List.mem_append_right _ h)
  refine g_iload_n F 1 dX11_count_0 rfl rfl ?_
  rcases pk_ix a (n := 8) (by decide) with t_1 | t_1 | ⟨j_1, hj_1, t_1⟩
  · refine g_tableOut F 112 dX11_count_1 (by left; simpa only [Int32.lt_iff_toInt_lt, Int32.le_iff_toInt_le, ← Int32.toInt_inj, Int32.reduceToInt] using t_1) (by decide) ?_
    refine g_iconst F (-1) dX11_count_112 (by decide) ?_
    exact g_iret F hA hQ hr () (by first | exact (gi_e (by (simp only [Int32.lt_iff_toInt_lt, Int32.le_iff_toInt_le, ← Int32.toInt_inj, Int32.reduceToInt] at t_1 ⊢; omega)) rfl)) [0, 1, 2, 3, 4, 5] [] rfl (by decide) rfl rfl dX11_count_113
  · have t_1 : 8 ≤ a := t_1
    refine g_tableOut F 112 dX11_count_1 (by right; simp only [Int32.lt_iff_toInt_lt, Int32.le_iff_toInt_le, ← Int32.toInt_inj, Int32.reduceToInt] at t_1; omega) (by decide) ?_
    refine g_iconst F (-1) dX11_count_112 (by decide) ?_
    exact g_iret F hA hQ hr () (by first | exact (gi_e (by (simp only [Int32.lt_iff_toInt_lt, Int32.le_iff_toInt_le, ← Int32.toInt_inj, Int32.reduceToInt] at t_1 ⊢; omega)) rfl)) [0, 1, 2, 3, 4, 5] [] rfl (by decide) rfl rfl dX11_count_113
  · rcases (show j_1 = 0 ∨ j_1 = 1 ∨ j_1 = 2 ∨ j_1 = 3 ∨ j_1 = 4 ∨ j_1 = 5 ∨ j_1 = 6 ∨ j_1 = 7 by omega) with rfl | rfl | rfl | rfl | rfl | rfl | rfl | rfl
    · have t_1 : a = 0 := t_1
      refine g_tableIn F 48 dX11_count_1 (by rw [t_1]; decide) (by rw [t_1]; decide) (by rw [t_1]; rfl) (by decide) ?_
      refine g_aload_n F 0 dX11_count_48 rfl rfl ?_
      refine g_get (C := RX11) (T := TX11) (N := 14) (v := .ref xp) F i_X11 0 rfl rfl 4 (by decide) w_0 rfl rfl dX11_count_49 ?_
      refine g_get (C := RX6) (T := TX6) (N := 5) (v := .int 0) F i_X6 1 rfl rfl 2 (by decide) w_1 rfl rfl dX11_count_52 ?_
      exact g_iret F hA hQ hr () (by first | exact (gi_p (by (simp only [Int32.lt_iff_toInt_lt, Int32.le_iff_toInt_le, ← Int32.toInt_inj, Int32.reduceToInt] at t_1 ⊢; omega)) rfl)) [0, 1, 2, 3, 4, 5] [] rfl (by decide) rfl rfl dX11_count_55
    · have t_1 : a = 1 := t_1
      refine g_tableIn F 56 dX11_count_1 (by rw [t_1]; decide) (by rw [t_1]; decide) (by rw [t_1]; rfl) (by decide) ?_
      refine g_aload_n F 0 dX11_count_56 rfl rfl ?_
      refine g_get (C := RX11) (T := TX11) (N := 14) (v := .ref xp) F i_X11 0 rfl rfl 4 (by decide) w_0 rfl rfl dX11_count_57 ?_
      refine g_get (C := RX6) (T := TX6) (N := 5) (v := .int 0) F i_X6 1 rfl rfl 3 (by decide) w_2 rfl rfl dX11_count_60 ?_
      exact g_iret F hA hQ hr () (by first | exact (gi_p (by (simp only [Int32.lt_iff_toInt_lt, Int32.le_iff_toInt_le, ← Int32.toInt_inj, Int32.reduceToInt] at t_1 ⊢; omega)) rfl)) [0, 1, 2, 3, 4, 5] [] rfl (by decide) rfl rfl dX11_count_63
    · have t_1 : a = 2 := t_1
      refine g_tableIn F 64 dX11_count_1 (by rw [t_1]; decide) (by rw [t_1]; decide) (by rw [t_1]; rfl) (by decide) ?_
      refine g_aload_n F 0 dX11_count_64 rfl rfl ?_
      refine g_get (C := RX11) (T := TX11) (N := 14) (v := .ref xj) F i_X11 0 rfl rfl 7 (by decide) w_3 rfl rfl dX11_count_65 ?_
      refine g_get (C := RX4) (T := TX4) (N := 12) (v := .int 0) F i_X4 2 rfl rfl 3 (by decide) w_4 rfl rfl dX11_count_68 ?_
      exact g_iret F hA hQ hr () (by first | exact (gi_p (by (simp only [Int32.lt_iff_toInt_lt, Int32.le_iff_toInt_le, ← Int32.toInt_inj, Int32.reduceToInt] at t_1 ⊢; omega)) rfl)) [0, 1, 2, 3, 4, 5] [] rfl (by decide) rfl rfl dX11_count_71
    · have t_1 : a = 3 := t_1
      refine g_tableIn F 72 dX11_count_1 (by rw [t_1]; decide) (by rw [t_1]; decide) (by rw [t_1]; rfl) (by decide) ?_
      refine g_aload_n F 0 dX11_count_72 rfl rfl ?_
      refine g_get (C := RX11) (T := TX11) (N := 14) (v := .ref xe) F i_X11 0 rfl rfl 8 (by decide) w_5 rfl rfl dX11_count_73 ?_
      refine g_get (C := RX2) (T := TX2) (N := 10) (v := .int 0) F i_X2 3 rfl rfl 4 (by decide) w_6 rfl rfl dX11_count_76 ?_
      exact g_iret F hA hQ hr () (by first | exact (gi_p (by (simp only [Int32.lt_iff_toInt_lt, Int32.le_iff_toInt_le, ← Int32.toInt_inj, Int32.reduceToInt] at t_1 ⊢; omega)) rfl)) [0, 1, 2, 3, 4, 5] [] rfl (by decide) rfl rfl dX11_count_79
    · have t_1 : a = 4 := t_1
      refine g_tableIn F 80 dX11_count_1 (by rw [t_1]; decide) (by rw [t_1]; decide) (by rw [t_1]; rfl) (by decide) ?_
      refine g_aload_n F 0 dX11_count_80 rfl rfl ?_
      refine g_get (C := RX11) (T := TX11) (N := 14) (v := .ref xe) F i_X11 0 rfl rfl 8 (by decide) w_5 rfl rfl dX11_count_81 ?_
      refine g_get (C := RX2) (T := TX2) (N := 10) (v := .int 0) F i_X2 3 rfl rfl 6 (by decide) w_7 rfl rfl dX11_count_84 ?_
      exact g_iret F hA hQ hr () (by first | exact (gi_p (by (simp only [Int32.lt_iff_toInt_lt, Int32.le_iff_toInt_le, ← Int32.toInt_inj, Int32.reduceToInt] at t_1 ⊢; omega)) rfl)) [0, 1, 2, 3, 4, 5] [] rfl (by decide) rfl rfl dX11_count_87
    · have t_1 : a = 5 := t_1
      refine g_tableIn F 88 dX11_count_1 (by rw [t_1]; decide) (by rw [t_1]; decide) (by rw [t_1]; rfl) (by decide) ?_
      refine g_aload_n F 0 dX11_count_88 rfl rfl ?_
      refine g_get (C := RX11) (T := TX11) (N := 14) (v := .ref xe) F i_X11 0 rfl rfl 8 (by decide) w_5 rfl rfl dX11_count_89 ?_
      refine g_get (C := RX2) (T := TX2) (N := 10) (v := .int 0) F i_X2 3 rfl rfl 8 (by decide) w_8 rfl rfl dX11_count_92 ?_
      exact g_iret F hA hQ hr () (by first | exact (gi_p (by (simp only [Int32.lt_iff_toInt_lt, Int32.le_iff_toInt_le, ← Int32.toInt_inj, Int32.reduceToInt] at t_1 ⊢; omega)) rfl)) [0, 1, 2, 3, 4, 5] [] rfl (by decide) rfl rfl dX11_count_95
    · have t_1 : a = 6 := t_1
      refine g_tableIn F 96 dX11_count_1 (by rw [t_1]; decide) (by rw [t_1]; decide) (by rw [t_1]; rfl) (by decide) ?_
      refine g_aload_n F 0 dX11_count_96 rfl rfl ?_
      refine g_get (C := RX11) (T := TX11) (N := 14) (v := .ref xo) F i_X11 0 rfl rfl 9 (by decide) w_9 rfl rfl dX11_count_97 ?_
      refine g_get (C := RX9) (T := TX9) (N := 3) (v := .int 0) F i_X9 4 rfl rfl 2 (by decide) w_10 rfl rfl dX11_count_100 ?_
      exact g_iret F hA hQ hr () (by first | exact (gi_p (by (simp only [Int32.lt_iff_toInt_lt, Int32.le_iff_toInt_le, ← Int32.toInt_inj, Int32.reduceToInt] at t_1 ⊢; omega)) rfl)) [0, 1, 2, 3, 4, 5] [] rfl (by decide) rfl rfl dX11_count_103
    · have t_1 : a = 7 := t_1
      refine g_tableIn F 104 dX11_count_1 (by rw [t_1]; decide) (by rw [t_1]; decide) (by rw [t_1]; rfl) (by decide) ?_
      refine g_aload_n F 0 dX11_count_104 rfl rfl ?_
      refine g_get (C := RX11) (T := TX11) (N := 14) (v := .ref xt) F i_X11 0 rfl rfl 0 (by decide) w_11 rfl rfl dX11_count_105 ?_
      refine g_get (C := RX10) (T := TX10) (N := 6) (v := .int 0) F i_X10 5 rfl rfl 1 (by decide) w_12 rfl rfl dX11_count_108 ?_
      exact g_iret F hA hQ hr () (by first | exact (gi_p (by (simp only [Int32.lt_iff_toInt_lt, Int32.le_iff_toInt_le, ← Int32.toInt_inj, Int32.reduceToInt] at t_1 ⊢; omega)) rfl)) [0, 1, 2, 3, 4, 5] [] rfl (by decide) rfl rfl dX11_count_111
