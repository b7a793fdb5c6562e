theorem dX13_in_0 : decode cX13_in 0 = .ok (.lload_n 0, 1) := by decide +kernel
theorem dX13_in_1 : decode cX13_in 1 = .ok (.lload_n 2, 1) := by decide +kernel
theorem dX13_in_2 : decode cX13_in 2 = .ok (.lcmp, 1) := by decide +kernel
theorem dX13_in_3 : decode cX13_in 3 = .ok (.ifCond .lt 14, 3) := by decide +kernel
theorem dX13_in_6 : decode cX13_in 6 = .ok (.lload_n 0, 1) := by decide +kernel
theorem dX13_in_7 : decode cX13_in 7 = .ok (.lload 4, 2) := by decide +kernel
theorem dX13_in_9 : decode cX13_in 9 = .ok (.lcmp, 1) := by decide +kernel
theorem dX13_in_10 : decode cX13_in 10 = .ok (.ifCond .gt 7, 3) := by decide +kernel
theorem dX13_in_13 : decode cX13_in 13 = .ok (.iconst 1, 1) := by decide +kernel
theorem dX13_in_14 : decode cX13_in 14 = .ok (.goto 4, 3) := by decide +kernel
theorem dX13_in_17 : decode cX13_in 17 = .ok (.iconst 0, 1) := by decide +kernel
theorem dX13_in_18 : decode cX13_in 18 = .ok (.ireturn, 1) := by decide +kernel
set_option maxHeartbeats 4000000 in
set_option maxRecDepth 100000 in
theorem K_X13_in (l : Launch) (D : va_G) (lv_ : Int64) (lo_ : Int64) (hi_ : Int64) (sz : Nat) : Ki l yX13_in wsX13_in 1 30 0 0 D [.long lv_, .long lo_, .long hi_] [] [] sz (fun (r : Int32) (_ : Unit) => r = (if lo_ ≤ lv_ ∧ lv_ ≤ hi_ then 1 else 0)) (fun (_ : Unit) => []) (fun (_ : Unit) => []) := by
  unfold Ki
  refine g_ofW (cc := cX13_in) (lv := [(0, .long lv_), (2, .long lo_), (4, .long hi_)]) (by decide) rfl (Nat.le_of_ble_eq_true rfl) rfl ?_
  intro p e s m args below meth c A Q hA hQ F hr hnm
  have hts := F.2.2.2.2.1
  refine g_lload_n F 0 dX13_in_0 rfl rfl ?_
  refine g_lload_n F 1 dX13_in_1 rfl rfl ?_
  refine g_lcmp F dX13_in_2 ?_
  refine g_if_lt F 17 dX13_in_3 (by decide) (fun c_3 => ?_) (fun c_3 => ?_)
  · refine g_iconst F 0 dX13_in_17 (by decide) ?_
    exact g_zret F hA hQ hr rfl () (gb_f (fun h9 => absurd ((gl_lt _ _).mp c_3) (Int64.not_lt.mpr h9.1))) [] [] rfl (by decide) rfl rfl dX13_in_18
  · refine g_lload_n F 0 dX13_in_6 rfl rfl ?_
    refine g_lload F 2 dX13_in_7 rfl ?_
    refine g_lcmp F dX13_in_9 ?_
    refine g_if_gt F 17 dX13_in_10 (by decide) (fun c_10 => ?_) (fun c_10 => ?_)
    · refine g_iconst F 0 dX13_in_17 (by decide) ?_
      exact g_zret F hA hQ hr rfl () (gb_f (fun h9 => absurd ((gl_gt _ _).mp c_10) (Int64.not_lt.mpr h9.2))) [] [] rfl (by decide) rfl rfl dX13_in_18
    · refine g_iconst F 1 dX13_in_13 (by decide) ?_
      refine g_goto F 18 dX13_in_14 (by decide) ?_
      exact g_zret F hA hQ hr rfl () (gb_t ⟨Int64.not_lt.mp (fun h9 => c_3 ((gl_lt _ _).mpr h9)), Int64.not_lt.mp (fun h9 => c_10 ((gl_gt _ _).mpr h9))⟩) [] [] rfl (by decide) rfl rfl dX13_in_18

theorem dX13_lay_0 : decode cX13_lay 0 = .ok (.bipush 24, 2) := by decide +kernel
theorem dX13_lay_2 : decode cX13_lay 2 = .ok (.istore_n 2, 1) := by decide +kernel
theorem dX13_lay_3 : decode cX13_lay 3 = .ok (.iload_n 2, 1) := by decide +kernel
theorem dX13_lay_4 : decode cX13_lay 4 = .ok (.ifCond .lt 32, 3) := by decide +kernel
theorem dX13_lay_7 : decode cX13_lay 7 = .ok (.aload_n 0, 1) := by decide +kernel
theorem dX13_lay_8 : decode cX13_lay 8 = .ok (.getfield 20, 3) := by decide +kernel
theorem dX13_lay_11 : decode cX13_lay 11 = .ok (.aload_n 0, 1) := by decide +kernel
theorem dX13_lay_12 : decode cX13_lay 12 = .ok (.getfield 73, 3) := by decide +kernel
theorem dX13_lay_15 : decode cX13_lay 15 = .ok (.iload_n 1, 1) := by decide +kernel
theorem dX13_lay_16 : decode cX13_lay 16 = .ok (.iload_n 2, 1) := by decide +kernel
theorem dX13_lay_17 : decode cX13_lay 17 = .ok (.ishr, 1) := by decide +kernel
theorem dX13_lay_18 : decode cX13_lay 18 = .ok (.i2b, 1) := by decide +kernel
theorem dX13_lay_19 : decode cX13_lay 19 = .ok (.bastore, 1) := by decide +kernel
theorem dX13_lay_20 : decode cX13_lay 20 = .ok (.aload_n 0, 1) := by decide +kernel
theorem dX13_lay_21 : decode cX13_lay 21 = .ok (.dup, 1) := by decide +kernel
theorem dX13_lay_22 : decode cX13_lay 22 = .ok (.getfield 73, 3) := by decide +kernel
theorem dX13_lay_25 : decode cX13_lay 25 = .ok (.iconst 1, 1) := by decide +kernel
theorem dX13_lay_26 : decode cX13_lay 26 = .ok (.iadd, 1) := by decide +kernel
theorem dX13_lay_27 : decode cX13_lay 27 = .ok (.putfield 73, 3) := by decide +kernel
theorem dX13_lay_30 : decode cX13_lay 30 = .ok (.iinc 2 (-8), 3) := by decide +kernel
theorem dX13_lay_33 : decode cX13_lay 33 = .ok (.goto (-30), 3) := by decide +kernel
theorem dX13_lay_36 : decode cX13_lay 36 = .ok (.return_, 1) := by decide +kernel
set_option maxHeartbeats 4000000 in
set_option maxRecDepth 100000 in
theorem K_X13_lay0 (l : Launch) (D : va_G) (m0 : Nat) (m_stop : Nat) (m_tape : Nat) (m_rule : Nat) (m_readRule : Nat) (m_teeth : Nat) (m_readTeeth : Nat) (m_sway : Nat) (m_readSway : Nat) (m_isTold : Nat) (m_markKind : Nat) (m_markValue : Nat) (m_marks : Nat) (m_pile : Nat) (m_height : Nat) (m_leftPass : Nat) (m_leftTurn : Nat) (m_leftTooth : Nat) (m_leftX : Nat) (m_kept : Nat) (m_keptWear : Nat) (m_now : Nat) (m_passed : Nat) (m_planTime : Nat) (m_planMany : Nat) (m_planned : Nat) (m_isQuiet : Nat) (m_keptTeeth : Nat) (m_jobRing : Nat) (m_jobSpeed : Nat) (m_jobFeed : Nat) (m_jobTurns : Nat) (m_orderRow : Nat) (m_bestRow : Nat) (m_orderTold : Nat) (m_offerRing : Nat) (m_offerSpeed : Nat) (m_offerFeed : Nat) (m_offerTurns : Nat) (m_heardOffer : Nat) (m_heardVerdict : Nat) (m_heardAt : Nat) (m_rightOf : Nat) (m_rightVerdict : Nat) (m_rightAt : Nat) (m_verdictOf : Nat) (m_sound : Nat) (m_readSound : Nat) (cB : ClassId) (f : Nat → Int32) (v : Int32) (sz : Nat) : Kv l yX13_lay wsX13_lay 1 30 0 0 D [.ref m0, .int v] [(m0, .inr (12, [.ref m_stop, .ref m_tape, .int 0, .int 0, .int 0, .int 0, .int 0, .int 0, .int 0, .int (-1), .ref m_rule, .ref m_readRule, .ref m_teeth, .ref m_readTeeth, .ref m_sway, .ref m_readSway, .ref m_isTold, .ref m_markKind, .ref m_markValue, .ref m_marks, .int 5, .int 0, .ref m_pile, .ref m_height, .ref m_leftPass, .ref m_leftTurn, .ref m_leftTooth, .ref m_leftX, .int 0, .int 0, .ref m_kept, .ref m_keptWear, .int 0, .ref m_now, .ref m_passed, .int 0, .int 0, .int 0, .ref m_planTime, .ref m_planMany, .ref m_planned, .ref m_isQuiet, .int 0, .int 0, .ref m_keptTeeth, .int 0, .int 0, .ref m_jobRing, .ref m_jobSpeed, .ref m_jobFeed, .ref m_jobTurns, .ref m_orderRow, .ref m_bestRow, .int 0, .ref m_orderTold, .int 0, .int 0, .int 0, .int 0, .ref m_offerRing, .ref m_offerSpeed, .ref m_offerFeed, .ref m_offerTurns, .ref m_heardOffer, .ref m_heardVerdict, .ref m_heardAt, .ref m_rightOf, .ref m_rightVerdict, .ref m_rightAt, .ref m_verdictOf, .ref m_sound, .ref m_readSound, .int 0])), (m_tape, .inl (cB, 1000, .inl f))] [(cB, .byte)] sz (fun (_ : Unit) => True) (fun (_ : Unit) => [(m0, .inr (12, [.ref m_stop, .ref m_tape, .int 4, .int 0, .int 0, .int 0, .int 0, .int 0, .int 0, .int (-1), .ref m_rule, .ref m_readRule, .ref m_teeth, .ref m_readTeeth, .ref m_sway, .ref m_readSway, .ref m_isTold, .ref m_markKind, .ref m_markValue, .ref m_marks, .int 5, .int 0, .ref m_pile, .ref m_height, .ref m_leftPass, .ref m_leftTurn, .ref m_leftTooth, .ref m_leftX, .int 0, .int 0, .ref m_kept, .ref m_keptWear, .int 0, .ref m_now, .ref m_passed, .int 0, .int 0, .int 0, .ref m_planTime, .ref m_planMany, .ref m_planned, .ref m_isQuiet, .int 0, .int 0, .ref m_keptTeeth, .int 0, .int 0, .ref m_jobRing, .ref m_jobSpeed, .ref m_jobFeed, .ref m_jobTurns, .ref m_orderRow, .ref m_bestRow, .int 0, .ref m_orderTold, .int 0, .int 0, .int 0, .int 0, .ref m_offerRing, .ref m_offerSpeed, .ref m_offerFeed, .ref m_offerTurns, .ref m_heardOffer, .ref m_heardVerdict, .ref m_heardAt, .ref m_rightOf, .ref m_rightVerdict, .ref m_rightAt, .ref m_verdictOf, .ref m_sound, .ref m_readSound, .int 0])), (m_tape, .inl (cB, 1000, .inl (upd (upd (upd (upd f 0 (vp_nar .byte (v >>> (24 &&& 31)).toInt8.toInt32)) 1 (vp_nar .byte (v >>> (16 &&& 31)).toInt8.toInt32)) 2 (vp_nar .byte (v >>> (8 &&& 31)).toInt8.toInt32)) 3 (vp_nar .byte (v >>> (0 &&& 31)).toInt8.toInt32))))]) (fun (_ : Unit) => [(cB, .byte)]) := by
  unfold Kv
  refine g_ofW (cc := cX13_lay) (lv := [(0, .ref m0), (1, .int v)]) (by decide) rfl (Nat.le_of_ble_eq_true rfl) rfl ?_
  intro p e s m args below meth c A Q hA hQ F hr hnm
  have hts := F.2.2.2.2.1
  have w_0 : (Cond.fieldLink RX13 20 "QuietCutModel" "tape" "[B").before args s = true := hts _ (List.mem_of_getElem? (i := 1) rfl)
  have i_X13 : ∀ w ∈ u_ws RX13 TX13 73, w ∈ wsX13_lay := fun _ h => List.mem_cons_of_mem _ (List.mem_append_right _ h)
  have w_1 : (Cond.fieldLink RX13 73 "QuietCutModel" "taped" "I").before args s = true := hts _ (List.mem_of_getElem? (i := 2) rfl)
  refine g_bipush F 24 dX13_lay_0 (by decide) ?_
  refine g_istore_n F [(2, .int 24), (0, .ref m0), (1, .int v)] dX13_lay_2 rfl (by decide) rfl ?_
  refine g_iload_n F 0 dX13_lay_3 rfl rfl ?_
  refine g_if_lt F 36 dX13_lay_4 (by decide) (fun h9 => absurd h9 (by decide)) (fun c_4 => ?_)
  refine g_aload_n F 1 dX13_lay_7 rfl rfl ?_
  refine g_get (C := RX13) (T := TX13) (N := 73) (v := .ref m_tape) F i_X13 0 rfl rfl 1 (by decide) w_0 rfl rfl dX13_lay_8 ?_
  refine g_aload_n F 1 dX13_lay_11 rfl rfl ?_
  refine g_get (C := RX13) (T := TX13) (N := 73) (v := .int 0) F i_X13 0 rfl rfl 2 (by decide) w_1 rfl rfl dX13_lay_12 ?_
  refine g_iload_n F 2 dX13_lay_15 rfl rfl ?_
  refine g_iload_n F 0 dX13_lay_16 rfl rfl ?_
  refine g_ishr F dX13_lay_17 ?_
  refine g_i2b F dX13_lay_18 ?_
  refine g_bast F 1 0 rfl rfl (by unfold vp_in; decide) [(m0, .inr (12, [.ref m_stop, .ref m_tape, .int 0, .int 0, .int 0, .int 0, .int 0, .int 0, .int 0, .int (-1), .ref m_rule, .ref m_readRule, .ref m_teeth, .ref m_readTeeth, .ref m_sway, .ref m_readSway, .ref m_isTold, .ref m_markKind, .ref m_markValue, .ref m_marks, .int 5, .int 0, .ref m_pile, .ref m_height, .ref m_leftPass, .ref m_leftTurn, .ref m_leftTooth, .ref m_leftX, .int 0, .int 0, .ref m_kept, .ref m_keptWear, .int 0, .ref m_now, .ref m_passed, .int 0, .int 0, .int 0, .ref m_planTime, .ref m_planMany, .ref m_planned, .ref m_isQuiet, .int 0, .int 0, .ref m_keptTeeth, .int 0, .int 0, .ref m_jobRing, .ref m_jobSpeed, .ref m_jobFeed, .ref m_jobTurns, .ref m_orderRow, .ref m_bestRow, .int 0, .ref m_orderTold, .int 0, .int 0, .int 0, .int 0, .ref m_offerRing, .ref m_offerSpeed, .ref m_offerFeed, .ref m_offerTurns, .ref m_heardOffer, .ref m_heardVerdict, .ref m_heardAt, .ref m_rightOf, .ref m_rightVerdict, .ref m_rightAt, .ref m_verdictOf, .ref m_sound, .ref m_readSound, .int 0])), (m_tape, .inl (cB, 1000, .inl (upd f 0 (vp_nar .byte ((v >>> (24 &&& 31)).toInt8.toInt32)))))] (rfl) dX13_lay_19 ?_
  refine g_aload_n F 1 dX13_lay_20 rfl rfl ?_
  refine g_dup F dX13_lay_21 rfl ?_
  refine g_get (C := RX13) (T := TX13) (N := 73) (v := .int 0) F i_X13 0 rfl rfl 2 (by decide) w_1 rfl rfl dX13_lay_22 ?_
  refine g_iconst F 1 dX13_lay_25 (by decide) ?_
  refine g_iadd F dX13_lay_26 ?_
  refine g_fold 1 (by decide) ?_
  refine g_put (C := RX13) (T := TX13) (N := 73) (ty := .int) (v := .int 1) F i_X13 0 rfl rfl 2 (by decide) w_1 rfl tyX13 tyX13_ok nmX13 rfl (by decide +kernel) rfl rfl (Nat.le_of_ble_eq_true rfl) [(m0, .inr (12, [.ref m_stop, .ref m_tape, .int 1, .int 0, .int 0, .int 0, .int 0, .int 0, .int 0, .int (-1), .ref m_rule, .ref m_readRule, .ref m_teeth, .ref m_readTeeth, .ref m_sway, .ref m_readSway, .ref m_isTold, .ref m_markKind, .ref m_markValue, .ref m_marks, .int 5, .int 0, .ref m_pile, .ref m_height, .ref m_leftPass, .ref m_leftTurn, .ref m_leftTooth, .ref m_leftX, .int 0, .int 0, .ref m_kept, .ref m_keptWear, .int 0, .ref m_now, .ref m_passed, .int 0, .int 0, .int 0, .ref m_planTime, .ref m_planMany, .ref m_planned, .ref m_isQuiet, .int 0, .int 0, .ref m_keptTeeth, .int 0, .int 0, .ref m_jobRing, .ref m_jobSpeed, .ref m_jobFeed, .ref m_jobTurns, .ref m_orderRow, .ref m_bestRow, .int 0, .ref m_orderTold, .int 0, .int 0, .int 0, .int 0, .ref m_offerRing, .ref m_offerSpeed, .ref m_offerFeed, .ref m_offerTurns, .ref m_heardOffer, .ref m_heardVerdict, .ref m_heardAt, .ref m_rightOf, .ref m_rightVerdict, .ref m_rightAt, .ref m_verdictOf, .ref m_sound, .ref m_readSound, .int 0])), (m_tape, .inl (cB, 1000, .inl (upd f 0 (vp_nar .byte ((v >>> (24 &&& 31)).toInt8.toInt32)))))] rfl dX13_lay_27 ?_
  refine g_iinc F (j := 0) 16 [(2, .int 16), (0, .ref m0), (1, .int v)] dX13_lay_30 rfl (by decide) (by decide) rfl ?_
  refine g_goto F 3 dX13_lay_33 (by decide) ?_
  refine g_iload_n F 0 dX13_lay_3 rfl rfl ?_
  refine g_if_lt F 36 dX13_lay_4 (by decide) (fun h9 => absurd h9 (by decide)) (fun c_4 => ?_)
  refine g_aload_n F 1 dX13_lay_7 rfl rfl ?_
  refine g_get (C := RX13) (T := TX13) (N := 73) (v := .ref m_tape) F i_X13 0 rfl rfl 1 (by decide) w_0 rfl rfl dX13_lay_8 ?_
  refine g_aload_n F 1 dX13_lay_11 rfl rfl ?_
  refine g_get (C := RX13) (T := TX13) (N := 73) (v := .int 1) F i_X13 0 rfl rfl 2 (by decide) w_1 rfl rfl dX13_lay_12 ?_
  refine g_iload_n F 2 dX13_lay_15 rfl rfl ?_
  refine g_iload_n F 0 dX13_lay_16 rfl rfl ?_
  refine g_ishr F dX13_lay_17 ?_
  refine g_i2b F dX13_lay_18 ?_
  refine g_bast F 1 0 rfl rfl (by unfold vp_in; decide) [(m0, .inr (12, [.ref m_stop, .ref m_tape, .int 1, .int 0, .int 0, .int 0, .int 0, .int 0, .int 0, .int (-1), .ref m_rule, .ref m_readRule, .ref m_teeth, .ref m_readTeeth, .ref m_sway, .ref m_readSway, .ref m_isTold, .ref m_markKind, .ref m_markValue, .ref m_marks, .int 5, .int 0, .ref m_pile, .ref m_height, .ref m_leftPass, .ref m_leftTurn, .ref m_leftTooth, .ref m_leftX, .int 0, .int 0, .ref m_kept, .ref m_keptWear, .int 0, .ref m_now, .ref m_passed, .int 0, .int 0, .int 0, .ref m_planTime, .ref m_planMany, .ref m_planned, .ref m_isQuiet, .int 0, .int 0, .ref m_keptTeeth, .int 0, .int 0, .ref m_jobRing, .ref m_jobSpeed, .ref m_jobFeed, .ref m_jobTurns, .ref m_orderRow, .ref m_bestRow, .int 0, .ref m_orderTold, .int 0, .int 0, .int 0, .int 0, .ref m_offerRing, .ref m_offerSpeed, .ref m_offerFeed, .ref m_offerTurns, .ref m_heardOffer, .ref m_heardVerdict, .ref m_heardAt, .ref m_rightOf, .ref m_rightVerdict, .ref m_rightAt, .ref m_verdictOf, .ref m_sound, .ref m_readSound, .int 0])), (m_tape, .inl (cB, 1000, .inl (upd (upd f 0 (vp_nar .byte ((v >>> (24 &&& 31)).toInt8.toInt32))) 1 (vp_nar .byte ((v >>> (16 &&& 31)).toInt8.toInt32)))))] (rfl) dX13_lay_19 ?_
  refine g_aload_n F 1 dX13_lay_20 rfl rfl ?_
  refine g_dup F dX13_lay_21 rfl ?_
  refine g_get (C := RX13) (T := TX13) (N := 73) (v := .int 1) F i_X13 0 rfl rfl 2 (by decide) w_1 rfl rfl dX13_lay_22 ?_
  refine g_iconst F 1 dX13_lay_25 (by decide) ?_
  refine g_iadd F dX13_lay_26 ?_
  refine g_fold 2 (by decide) ?_
  refine g_put (C := RX13) (T := TX13) (N := 73) (ty := .int) (v := .int 2) F i_X13 0 rfl rfl 2 (by decide) w_1 rfl tyX13 tyX13_ok nmX13 rfl (by decide +kernel) rfl rfl (Nat.le_of_ble_eq_true rfl) [(m0, .inr (12, [.ref m_stop, .ref m_tape, .int 2, .int 0, .int 0, .int 0, .int 0, .int 0, .int 0, .int (-1), .ref m_rule, .ref m_readRule, .ref m_teeth, .ref m_readTeeth, .ref m_sway, .ref m_readSway, .ref m_isTold, .ref m_markKind, .ref m_markValue, .ref m_marks, .int 5, .int 0, .ref m_pile, .ref m_height, .ref m_leftPass, .ref m_leftTurn, .ref m_leftTooth, .ref m_leftX, .int 0, .int 0, .ref m_kept, .ref m_keptWear, .int 0, .ref m_now, .ref m_passed, .int 0, .int 0, .int 0, .ref m_planTime, .ref m_planMany, .ref m_planned, .ref m_isQuiet, .int 0, .int 0, .ref m_keptTeeth, .int 0, .int 0, .ref m_jobRing, .ref m_jobSpeed, .ref m_jobFeed, .ref m_jobTurns, .ref m_orderRow, .ref m_bestRow, .int 0, .ref m_orderTold, .int 0, .int 0, .int 0, .int 0, .ref m_offerRing, .ref m_offerSpeed, .ref m_offerFeed, .ref m_offerTurns, .ref m_heardOffer, .ref m_heardVerdict, .ref m_heardAt, .ref m_rightOf, .ref m_rightVerdict, .ref m_rightAt, .ref m_verdictOf, .ref m_sound, .ref m_readSound, .int 0])), (m_tape, .inl (cB, 1000, .inl (upd (upd f 0 (vp_nar .byte ((v >>> (24 &&& 31)).toInt8.toInt32))) 1 (vp_nar .byte ((v >>> (16 &&& 31)).toInt8.toInt32)))))] rfl dX13_lay_27 ?_
  refine g_iinc F (j := 0) 8 [(2, .int 8), (0, .ref m0), (1, .int v)] dX13_lay_30 rfl (by decide) (by decide) rfl ?_
  refine g_goto F 3 dX13_lay_33 (by decide) ?_
  refine g_iload_n F 0 dX13_lay_3 rfl rfl ?_
  refine g_if_lt F 36 dX13_lay_4 (by decide) (fun h9 => absurd h9 (by decide)) (fun c_4 => ?_)
  refine g_aload_n F 1 dX13_lay_7 rfl rfl ?_
  refine g_get (C := RX13) (T := TX13) (N := 73) (v := .ref m_tape) F i_X13 0 rfl rfl 1 (by decide) w_0 rfl rfl dX13_lay_8 ?_
  refine g_aload_n F 1 dX13_lay_11 rfl rfl ?_
  refine g_get (C := RX13) (T := TX13) (N := 73) (v := .int 2) F i_X13 0 rfl rfl 2 (by decide) w_1 rfl rfl dX13_lay_12 ?_
  refine g_iload_n F 2 dX13_lay_15 rfl rfl ?_
  refine g_iload_n F 0 dX13_lay_16 rfl rfl ?_
  refine g_ishr F dX13_lay_17 ?_
  refine g_i2b F dX13_lay_18 ?_
  refine g_bast F 1 0 rfl rfl (by unfold vp_in; decide) [(m0, .inr (12, [.ref m_stop, .ref m_tape, .int 2, .int 0, .int 0, .int 0, .int 0, .int 0, .int 0, .int (-1), .ref m_rule, .ref m_readRule, .ref m_teeth, .ref m_readTeeth, .ref m_sway, .ref m_readSway, .ref m_isTold, .ref m_markKind, .ref m_markValue, .ref m_marks, .int 5, .int 0, .ref m_pile, .ref m_height, .ref m_leftPass, .ref m_leftTurn, .ref m_leftTooth, .ref m_leftX, .int 0, .int 0, .ref m_kept, .ref m_keptWear, .int 0, .ref m_now, .ref m_passed, .int 0, .int 0, .int 0, .ref m_planTime, .ref m_planMany, .ref m_planned, .ref m_isQuiet, .int 0, .int 0, .ref m_keptTeeth, .int 0, .int 0, .ref m_jobRing, .ref m_jobSpeed, .ref m_jobFeed, .ref m_jobTurns, .ref m_orderRow, .ref m_bestRow, .int 0, .ref m_orderTold, .int 0, .int 0, .int 0, .int 0, .ref m_offerRing, .ref m_offerSpeed, .ref m_offerFeed, .ref m_offerTurns, .ref m_heardOffer, .ref m_heardVerdict, .ref m_heardAt, .ref m_rightOf, .ref m_rightVerdict, .ref m_rightAt, .ref m_verdictOf, .ref m_sound, .ref m_readSound, .int 0])), (m_tape, .inl (cB, 1000, .inl (upd (upd (upd f 0 (vp_nar .byte ((v >>> (24 &&& 31)).toInt8.toInt32))) 1 (vp_nar .byte ((v >>> (16 &&& 31)).toInt8.toInt32))) 2 (vp_nar .byte ((v >>> (8 &&& 31)).toInt8.toInt32)))))] (rfl) dX13_lay_19 ?_
  refine g_aload_n F 1 dX13_lay_20 rfl rfl ?_
  refine g_dup F dX13_lay_21 rfl ?_
  refine g_get (C := RX13) (T := TX13) (N := 73) (v := .int 2) F i_X13 0 rfl rfl 2 (by decide) w_1 rfl rfl dX13_lay_22 ?_
  refine g_iconst F 1 dX13_lay_25 (by decide) ?_
  refine g_iadd F dX13_lay_26 ?_
  refine g_fold 3 (by decide) ?_
  refine g_put (C := RX13) (T := TX13) (N := 73) (ty := .int) (v := .int 3) F i_X13 0 rfl rfl 2 (by decide) w_1 rfl tyX13 tyX13_ok nmX13 rfl (by decide +kernel) rfl rfl (Nat.le_of_ble_eq_true rfl) [(m0, .inr (12, [.ref m_stop, .ref m_tape, .int 3, .int 0, .int 0, .int 0, .int 0, .int 0, .int 0, .int (-1), .ref m_rule, .ref m_readRule, .ref m_teeth, .ref m_readTeeth, .ref m_sway, .ref m_readSway, .ref m_isTold, .ref m_markKind, .ref m_markValue, .ref m_marks, .int 5, .int 0, .ref m_pile, .ref m_height, .ref m_leftPass, .ref m_leftTurn, .ref m_leftTooth, .ref m_leftX, .int 0, .int 0, .ref m_kept, .ref m_keptWear, .int 0, .ref m_now, .ref m_passed, .int 0, .int 0, .int 0, .ref m_planTime, .ref m_planMany, .ref m_planned, .ref m_isQuiet, .int 0, .int 0, .ref m_keptTeeth, .int 0, .int 0, .ref m_jobRing, .ref m_jobSpeed, .ref m_jobFeed, .ref m_jobTurns, .ref m_orderRow, .ref m_bestRow, .int 0, .ref m_orderTold, .int 0, .int 0, .int 0, .int 0, .ref m_offerRing, .ref m_offerSpeed, .ref m_offerFeed, .ref m_offerTurns, .ref m_heardOffer, .ref m_heardVerdict, .ref m_heardAt, .ref m_rightOf, .ref m_rightVerdict, .ref m_rightAt, .ref m_verdictOf, .ref m_sound, .ref m_readSound, .int 0])), (m_tape, .inl (cB, 1000, .inl (upd (upd (upd f 0 (vp_nar .byte ((v >>> (24 &&& 31)).toInt8.toInt32))) 1 (vp_nar .byte ((v >>> (16 &&& 31)).toInt8.toInt32))) 2 (vp_nar .byte ((v >>> (8 &&& 31)).toInt8.toInt32)))))] rfl dX13_lay_27 ?_
  refine g_iinc F (j := 0) 0 [(2, .int 0), (0, .ref m0), (1, .int v)] dX13_lay_30 rfl (by decide) (by decide) rfl ?_
  refine g_goto F 3 dX13_lay_33 (by decide) ?_
  refine g_iload_n F 0 dX13_lay_3 rfl rfl ?_
  refine g_if_lt F 36 dX13_lay_4 (by decide) (fun h9 => absurd h9 (by decide)) (fun c_4 => ?_)
  refine g_aload_n F 1 dX13_lay_7 rfl rfl ?_
  refine g_get (C := RX13) (T := TX13) (N := 73) (v := .ref m_tape) F i_X13 0 rfl rfl 1 (by decide) w_0 rfl rfl dX13_lay_8 ?_
  refine g_aload_n F 1 dX13_lay_11 rfl rfl ?_
  refine g_get (C := RX13) (T := TX13) (N := 73) (v := .int 3) F i_X13 0 rfl rfl 2 (by decide) w_1 rfl rfl dX13_lay_12 ?_
  refine g_iload_n F 2 dX13_lay_15 rfl rfl ?_
  refine g_iload_n F 0 dX13_lay_16 rfl rfl ?_
  refine g_ishr F dX13_lay_17 ?_
  refine g_i2b F dX13_lay_18 ?_
  refine g_bast F 1 0 rfl rfl (by unfold vp_in; decide) [(m0, .inr (12, [.ref m_stop, .ref m_tape, .int 3, .int 0, .int 0, .int 0, .int 0, .int 0, .int 0, .int (-1), .ref m_rule, .ref m_readRule, .ref m_teeth, .ref m_readTeeth, .ref m_sway, .ref m_readSway, .ref m_isTold, .ref m_markKind, .ref m_markValue, .ref m_marks, .int 5, .int 0, .ref m_pile, .ref m_height, .ref m_leftPass, .ref m_leftTurn, .ref m_leftTooth, .ref m_leftX, .int 0, .int 0, .ref m_kept, .ref m_keptWear, .int 0, .ref m_now, .ref m_passed, .int 0, .int 0, .int 0, .ref m_planTime, .ref m_planMany, .ref m_planned, .ref m_isQuiet, .int 0, .int 0, .ref m_keptTeeth, .int 0, .int 0, .ref m_jobRing, .ref m_jobSpeed, .ref m_jobFeed, .ref m_jobTurns, .ref m_orderRow, .ref m_bestRow, .int 0, .ref m_orderTold, .int 0, .int 0, .int 0, .int 0, .ref m_offerRing, .ref m_offerSpeed, .ref m_offerFeed, .ref m_offerTurns, .ref m_heardOffer, .ref m_heardVerdict, .ref m_heardAt, .ref m_rightOf, .ref m_rightVerdict, .ref m_rightAt, .ref m_verdictOf, .ref m_sound, .ref m_readSound, .int 0])), (m_tape, .inl (cB, 1000, .inl (upd (upd (upd (upd f 0 (vp_nar .byte ((v >>> (24 &&& 31)).toInt8.toInt32))) 1 (vp_nar .byte ((v >>> (16 &&& 31)).toInt8.toInt32))) 2 (vp_nar .byte ((v >>> (8 &&& 31)).toInt8.toInt32))) 3 (vp_nar .byte ((v >>> (0 &&& 31)).toInt8.toInt32)))))] (rfl) dX13_lay_19 ?_
  refine g_aload_n F 1 dX13_lay_20 rfl rfl ?_
  refine g_dup F dX13_lay_21 rfl ?_
  refine g_get (C := RX13) (T := TX13) (N := 73) (v := .int 3) F i_X13 0 rfl rfl 2 (by decide) w_1 rfl rfl dX13_lay_22 ?_
  refine g_iconst F 1 dX13_lay_25 (by decide) ?_
  refine g_iadd F dX13_lay_26 ?_
  refine g_fold 4 (by decide) ?_
  refine g_put (C := RX13) (T := TX13) (N := 73) (ty := .int) (v := .int 4) F i_X13 0 rfl rfl 2 (by decide) w_1 rfl tyX13 tyX13_ok nmX13 rfl (by decide +kernel) rfl rfl (Nat.le_of_ble_eq_true rfl) [(m0, .inr (12, [.ref m_stop, .ref m_tape, .int 4, .int 0, .int 0, .int 0, .int 0, .int 0, .int 0, .int (-1), .ref m_rule, .ref m_readRule, .ref m_teeth, .ref m_readTeeth, .ref m_sway, .ref m_readSway, .ref m_isTold, .ref m_markKind, .ref m_markValue, .ref m_marks, .int 5, .int 0, .ref m_pile, .ref m_height, .ref m_leftPass, .ref m_leftTurn, .ref m_leftTooth, .ref m_leftX, .int 0, .int 0, .ref m_kept, .ref m_keptWear, .int 0, .ref m_now, .ref m_passed, .int 0, .int 0, .int 0, .ref m_planTime, .ref m_planMany, .ref m_planned, .ref m_isQuiet, .int 0, .int 0, .ref m_keptTeeth, .int 0, .int 0, .ref m_jobRing, .ref m_jobSpeed, .ref m_jobFeed, .ref m_jobTurns, .ref m_orderRow, .ref m_bestRow, .int 0, .ref m_orderTold, .int 0, .int 0, .int 0, .int 0, .ref m_offerRing, .ref m_offerSpeed, .ref m_offerFeed, .ref m_offerTurns, .ref m_heardOffer, .ref m_heardVerdict, .ref m_heardAt, .ref m_rightOf, .ref m_rightVerdict, .ref m_rightAt, .ref m_verdictOf, .ref m_sound, .ref m_readSound, .int 0])), (m_tape, .inl (cB, 1000, .inl (upd (upd (upd (upd f 0 (vp_nar .byte ((v >>> (24 &&& 31)).toInt8.toInt32))) 1 (vp_nar .byte ((v >>> (16 &&& 31)).toInt8.toInt32))) 2 (vp_nar .byte ((v >>> (8 &&& 31)).toInt8.toInt32))) 3 (vp_nar .byte ((v >>> (0 &&& 31)).toInt8.toInt32)))))] rfl dX13_lay_27 ?_
  refine g_iinc F (j := 0) (-8) [(2, .int (-8)), (0, .ref m0), (1, .int v)] dX13_lay_30 rfl (by decide) (by decide) rfl ?_
  refine g_goto F 3 dX13_lay_33 (by decide) ?_
  refine g_iload_n F 0 dX13_lay_3 rfl rfl ?_
  refine g_if_lt F 36 dX13_lay_4 (by decide) (fun c_4 => ?_) (fun h9 => absurd (by decide) h9) 
  exact g_vret F hA hQ hr () (trivial) [0, 1] [0] rfl (by decide) rfl rfl dX13_lay_36


set_option maxHeartbeats 4000000 in
set_option maxRecDepth 100000 in
theorem K_X13_lay4 (l : Launch) (D : va_G) (m0 : Nat) (m_stop : Nat) (m_tape : Nat) (m_rule : Nat) (m_readRule : Nat) (m_teeth : Nat) (m_readTeeth : Nat) (m_sway : Nat) (m_readSway : Nat) (m_isTold : Nat) (m_markKind : Nat) (m_markValue : Nat) (m_marks : Nat) (m_pile : Nat) (m_height : Nat) (m_leftPass : Nat) (m_leftTurn : Nat) (m_leftTooth : Nat) (m_leftX : Nat) (m_kept : Nat) (m_keptWear : Nat) (m_now : Nat) (m_passed : Nat) (m_planTime : Nat) (m_planMany : Nat) (m_planned : Nat) (m_isQuiet : Nat) (m_keptTeeth : Nat) (m_jobRing : Nat) (m_jobSpeed : Nat) (m_jobFeed : Nat) (m_jobTurns : Nat) (m_orderRow : Nat) (m_bestRow : Nat) (m_orderTold : Nat) (m_offerRing : Nat) (m_offerSpeed : Nat) (m_offerFeed : Nat) (m_offerTurns : Nat) (m_heardOffer : Nat) (m_heardVerdict : Nat) (m_heardAt : Nat) (m_rightOf : Nat) (m_rightVerdict : Nat) (m_rightAt : Nat) (m_verdictOf : Nat) (m_sound : Nat) (m_readSound : Nat) (cB : ClassId) (f : Nat → Int32) (v : Int32) (sz : Nat) : Kv l yX13_lay wsX13_lay 1 30 0 0 D [.ref m0, .int v] [(m0, .inr (12, [.ref m_stop, .ref m_tape, .int 4, .int 0, .int 0, .int 0, .int 0, .int 0, .int 0, .int (-1), .ref m_rule, .ref m_readRule, .ref m_teeth, .ref m_readTeeth, .ref m_sway, .ref m_readSway, .ref m_isTold, .ref m_markKind, .ref m_markValue, .ref m_marks, .int 5, .int 0, .ref m_pile, .ref m_height, .ref m_leftPass, .ref m_leftTurn, .ref m_leftTooth, .ref m_leftX, .int 0, .int 0, .ref m_kept, .ref m_keptWear, .int 0, .ref m_now, .ref m_passed, .int 0, .int 0, .int 0, .ref m_planTime, .ref m_planMany, .ref m_planned, .ref m_isQuiet, .int 0, .int 0, .ref m_keptTeeth, .int 0, .int 0, .ref m_jobRing, .ref m_jobSpeed, .ref m_jobFeed, .ref m_jobTurns, .ref m_orderRow, .ref m_bestRow, .int 0, .ref m_orderTold, .int 0, .int 0, .int 0, .int 0, .ref m_offerRing, .ref m_offerSpeed, .ref m_offerFeed, .ref m_offerTurns, .ref m_heardOffer, .ref m_heardVerdict, .ref m_heardAt, .ref m_rightOf, .ref m_rightVerdict, .ref m_rightAt, .ref m_verdictOf, .ref m_sound, .ref m_readSound, .int 0])), (m_tape, .inl (cB, 1000, .inl f))] [(cB, .byte)] sz (fun (_ : Unit) => True) (fun (_ : Unit) => [(m0, .inr (12, [.ref m_stop, .ref m_tape, .int 8, .int 0, .int 0, .int 0, .int 0, .int 0, .int 0, .int (-1), .ref m_rule, .ref m_readRule, .ref m_teeth, .ref m_readTeeth, .ref m_sway, .ref m_readSway, .ref m_isTold, .ref m_markKind, .ref m_markValue, .ref m_marks, .int 5, .int 0, .ref m_pile, .ref m_height, .ref m_leftPass, .ref m_leftTurn, .ref m_leftTooth, .ref m_leftX, .int 0, .int 0, .ref m_kept, .ref m_keptWear, .int 0, .ref m_now, .ref m_passed, .int 0, .int 0, .int 0, .ref m_planTime, .ref m_planMany, .ref m_planned, .ref m_isQuiet, .int 0, .int 0, .ref m_keptTeeth, .int 0, .int 0, .ref m_jobRing, .ref m_jobSpeed, .ref m_jobFeed, .ref m_jobTurns, .ref m_orderRow, .ref m_bestRow, .int 0, .ref m_orderTold, .int 0, .int 0, .int 0, .int 0, .ref m_offerRing, .ref m_offerSpeed, .ref m_offerFeed, .ref m_offerTurns, .ref m_heardOffer, .ref m_heardVerdict, .ref m_heardAt, .ref m_rightOf, .ref m_rightVerdict, .ref m_rightAt, .ref m_verdictOf, .ref m_sound, .ref m_readSound, .int 0])), (m_tape, .inl (cB, 1000, .inl (upd (upd (upd (upd f 4 (vp_nar .byte (v >>> (24 &&& 31)).toInt8.toInt32)) 5 (vp_nar .byte (v >>> (16 &&& 31)).toInt8.toInt32)) 6 (vp_nar .byte (v >>> (8 &&& 31)).toInt8.toInt32)) 7 (vp_nar .byte (v >>> (0 &&& 31)).toInt8.toInt32))))]) (fun (_ : Unit) => [(cB, .byte)]) := by
  unfold Kv
  refine g_ofW (cc := cX13_lay) (lv := [(0, .ref m0), (1, .int v)]) (by decide) rfl (Nat.le_of_ble_eq_true rfl) rfl ?_
  intro p e s m args below meth c A Q hA hQ F hr hnm
  have hts := F.2.2.2.2.1
  have w_0 : (Cond.fieldLink RX13 20 "QuietCutModel" "tape" "[B").before args s = true := hts _ (List.mem_of_getElem? (i := 1) rfl)
  have i_X13 : ∀ w ∈ u_ws RX13 TX13 73, w ∈ wsX13_lay := fun _ h => List.mem_cons_of_mem _ (List.mem_append_right _ h)
  have w_1 : (Cond.fieldLink RX13 73 "QuietCutModel" "taped" "I").before args s = true := hts _ (List.mem_of_getElem? (i := 2) rfl)
  refine g_bipush F 24 dX13_lay_0 (by decide) ?_
  refine g_istore_n F [(2, .int 24), (0, .ref m0), (1, .int v)] dX13_lay_2 rfl (by decide) rfl ?_
  refine g_iload_n F 0 dX13_lay_3 rfl rfl ?_
  refine g_if_lt F 36 dX13_lay_4 (by decide) (fun h9 => absurd h9 (by decide)) (fun c_4 => ?_)
  refine g_aload_n F 1 dX13_lay_7 rfl rfl ?_
  refine g_get (C := RX13) (T := TX13) (N := 73) (v := .ref m_tape) F i_X13 0 rfl rfl 1 (by decide) w_0 rfl rfl dX13_lay_8 ?_
  refine g_aload_n F 1 dX13_lay_11 rfl rfl ?_
  refine g_get (C := RX13) (T := TX13) (N := 73) (v := .int 4) F i_X13 0 rfl rfl 2 (by decide) w_1 rfl rfl dX13_lay_12 ?_
  refine g_iload_n F 2 dX13_lay_15 rfl rfl ?_
  refine g_iload_n F 0 dX13_lay_16 rfl rfl ?_
  refine g_ishr F dX13_lay_17 ?_
  refine g_i2b F dX13_lay_18 ?_
  refine g_bast F 1 0 rfl rfl (by unfold vp_in; decide) [(m0, .inr (12, [.ref m_stop, .ref m_tape, .int 4, .int 0, .int 0, .int 0, .int 0, .int 0, .int 0, .int (-1), .ref m_rule, .ref m_readRule, .ref m_teeth, .ref m_readTeeth, .ref m_sway, .ref m_readSway, .ref m_isTold, .ref m_markKind, .ref m_markValue, .ref m_marks, .int 5, .int 0, .ref m_pile, .ref m_height, .ref m_leftPass, .ref m_leftTurn, .ref m_leftTooth, .ref m_leftX, .int 0, .int 0, .ref m_kept, .ref m_keptWear, .int 0, .ref m_now, .ref m_passed, .int 0, .int 0, .int 0, .ref m_planTime, .ref m_planMany, .ref m_planned, .ref m_isQuiet, .int 0, .int 0, .ref m_keptTeeth, .int 0, .int 0, .ref m_jobRing, .ref m_jobSpeed, .ref m_jobFeed, .ref m_jobTurns, .ref m_orderRow, .ref m_bestRow, .int 0, .ref m_orderTold, .int 0, .int 0, .int 0, .int 0, .ref m_offerRing, .ref m_offerSpeed, .ref m_offerFeed, .ref m_offerTurns, .ref m_heardOffer, .ref m_heardVerdict, .ref m_heardAt, .ref m_rightOf, .ref m_rightVerdict, .ref m_rightAt, .ref m_verdictOf, .ref m_sound, .ref m_readSound, .int 0])), (m_tape, .inl (cB, 1000, .inl (upd f 4 (vp_nar .byte ((v >>> (24 &&& 31)).toInt8.toInt32)))))] (rfl) dX13_lay_19 ?_
  refine g_aload_n F 1 dX13_lay_20 rfl rfl ?_
  refine g_dup F dX13_lay_21 rfl ?_
  refine g_get (C := RX13) (T := TX13) (N := 73) (v := .int 4) F i_X13 0 rfl rfl 2 (by decide) w_1 rfl rfl dX13_lay_22 ?_
  refine g_iconst F 1 dX13_lay_25 (by decide) ?_
  refine g_iadd F dX13_lay_26 ?_
  refine g_fold 5 (by decide) ?_
  refine g_put (C := RX13) (T := TX13) (N := 73) (ty := .int) (v := .int 5) F i_X13 0 rfl rfl 2 (by decide) w_1 rfl tyX13 tyX13_ok nmX13 rfl (by decide +kernel) rfl rfl (Nat.le_of_ble_eq_true rfl) [(m0, .inr (12, [.ref m_stop, .ref m_tape, .int 5, .int 0, .int 0, .int 0, .int 0, .int 0, .int 0, .int (-1), .ref m_rule, .ref m_readRule, .ref m_teeth, .ref m_readTeeth, .ref m_sway, .ref m_readSway, .ref m_isTold, .ref m_markKind, .ref m_markValue, .ref m_marks, .int 5, .int 0, .ref m_pile, .ref m_height, .ref m_leftPass, .ref m_leftTurn, .ref m_leftTooth, .ref m_leftX, .int 0, .int 0, .ref m_kept, .ref m_keptWear, .int 0, .ref m_now, .ref m_passed, .int 0, .int 0, .int 0, .ref m_planTime, .ref m_planMany, .ref m_planned, .ref m_isQuiet, .int 0, .int 0, .ref m_keptTeeth, .int 0, .int 0, .ref m_jobRing, .ref m_jobSpeed, .ref m_jobFeed, .ref m_jobTurns, .ref m_orderRow, .ref m_bestRow, .int 0, .ref m_orderTold, .int 0, .int 0, .int 0, .int 0, .ref m_offerRing, .ref m_offerSpeed, .ref m_offerFeed, .ref m_offerTurns, .ref m_heardOffer, .ref m_heardVerdict, .ref m_heardAt, .ref m_rightOf, .ref m_rightVerdict, .ref m_rightAt, .ref m_verdictOf, .ref m_sound, .ref m_readSound, .int 0])), (m_tape, .inl (cB, 1000, .inl (upd f 4 (vp_nar .byte ((v >>> (24 &&& 31)).toInt8.toInt32)))))] rfl dX13_lay_27 ?_
  refine g_iinc F (j := 0) 16 [(2, .int 16), (0, .ref m0), (1, .int v)] dX13_lay_30 rfl (by decide) (by decide) rfl ?_
  refine g_goto F 3 dX13_lay_33 (by decide) ?_
  refine g_iload_n F 0 dX13_lay_3 rfl rfl ?_
  refine g_if_lt F 36 dX13_lay_4 (by decide) (fun h9 => absurd h9 (by decide)) (fun c_4 => ?_)
  refine g_aload_n F 1 dX13_lay_7 rfl rfl ?_
  refine g_get (C := RX13) (T := TX13) (N := 73) (v := .ref m_tape) F i_X13 0 rfl rfl 1 (by decide) w_0 rfl rfl dX13_lay_8 ?_
  refine g_aload_n F 1 dX13_lay_11 rfl rfl ?_
  refine g_get (C := RX13) (T := TX13) (N := 73) (v := .int 5) F i_X13 0 rfl rfl 2 (by decide) w_1 rfl rfl dX13_lay_12 ?_
  refine g_iload_n F 2 dX13_lay_15 rfl rfl ?_
  refine g_iload_n F 0 dX13_lay_16 rfl rfl ?_
  refine g_ishr F dX13_lay_17 ?_
  refine g_i2b F dX13_lay_18 ?_
  refine g_bast F 1 0 rfl rfl (by unfold vp_in; decide) [(m0, .inr (12, [.ref m_stop, .ref m_tape, .int 5, .int 0, .int 0, .int 0, .int 0, .int 0, .int 0, .int (-1), .ref m_rule, .ref m_readRule, .ref m_teeth, .ref m_readTeeth, .ref m_sway, .ref m_readSway, .ref m_isTold, .ref m_markKind, .ref m_markValue, .ref m_marks, .int 5, .int 0, .ref m_pile, .ref m_height, .ref m_leftPass, .ref m_leftTurn, .ref m_leftTooth, .ref m_leftX, .int 0, .int 0, .ref m_kept, .ref m_keptWear, .int 0, .ref m_now, .ref m_passed, .int 0, .int 0, .int 0, .ref m_planTime, .ref m_planMany, .ref m_planned, .ref m_isQuiet, .int 0, .int 0, .ref m_keptTeeth, .int 0, .int 0, .ref m_jobRing, .ref m_jobSpeed, .ref m_jobFeed, .ref m_jobTurns, .ref m_orderRow, .ref m_bestRow, .int 0, .ref m_orderTold, .int 0, .int 0, .int 0, .int 0, .ref m_offerRing, .ref m_offerSpeed, .ref m_offerFeed, .ref m_offerTurns, .ref m_heardOffer, .ref m_heardVerdict, .ref m_heardAt, .ref m_rightOf, .ref m_rightVerdict, .ref m_rightAt, .ref m_verdictOf, .ref m_sound, .ref m_readSound, .int 0])), (m_tape, .inl (cB, 1000, .inl (upd (upd f 4 (vp_nar .byte ((v >>> (24 &&& 31)).toInt8.toInt32))) 5 (vp_nar .byte ((v >>> (16 &&& 31)).toInt8.toInt32)))))] (rfl) dX13_lay_19 ?_
  refine g_aload_n F 1 dX13_lay_20 rfl rfl ?_
  refine g_dup F dX13_lay_21 rfl ?_
  refine g_get (C := RX13) (T := TX13) (N := 73) (v := .int 5) F i_X13 0 rfl rfl 2 (by decide) w_1 rfl rfl dX13_lay_22 ?_
  refine g_iconst F 1 dX13_lay_25 (by decide) ?_
  refine g_iadd F dX13_lay_26 ?_
  refine g_fold 6 (by decide) ?_
  refine g_put (C := RX13) (T := TX13) (N := 73) (ty := .int) (v := .int 6) F i_X13 0 rfl rfl 2 (by decide) w_1 rfl tyX13 tyX13_ok nmX13 rfl (by decide +kernel) rfl rfl (Nat.le_of_ble_eq_true rfl) [(m0, .inr (12, [.ref m_stop, .ref m_tape, .int 6, .int 0, .int 0, .int 0, .int 0, .int 0, .int 0, .int (-1), .ref m_rule, .ref m_readRule, .ref m_teeth, .ref m_readTeeth, .ref m_sway, .ref m_readSway, .ref m_isTold, .ref m_markKind, .ref m_markValue, .ref m_marks, .int 5, .int 0, .ref m_pile, .ref m_height, .ref m_leftPass, .ref m_leftTurn, .ref m_leftTooth, .ref m_leftX, .int 0, .int 0, .ref m_kept, .ref m_keptWear, .int 0, .ref m_now, .ref m_passed, .int 0, .int 0, .int 0, .ref m_planTime, .ref m_planMany, .ref m_planned, .ref m_isQuiet, .int 0, .int 0, .ref m_keptTeeth, .int 0, .int 0, .ref m_jobRing, .ref m_jobSpeed, .ref m_jobFeed, .ref m_jobTurns, .ref m_orderRow, .ref m_bestRow, .int 0, .ref m_orderTold, .int 0, .int 0, .int 0, .int 0, .ref m_offerRing, .ref m_offerSpeed, .ref m_offerFeed, .ref m_offerTurns, .ref m_heardOffer, .ref m_heardVerdict, .ref m_heardAt, .ref m_rightOf, .ref m_rightVerdict, .ref m_rightAt, .ref m_verdictOf, .ref m_sound, .ref m_readSound, .int 0])), (m_tape, .inl (cB, 1000, .inl (upd (upd f 4 (vp_nar .byte ((v >>> (24 &&& 31)).toInt8.toInt32))) 5 (vp_nar .byte ((v >>> (16 &&& 31)).toInt8.toInt32)))))] rfl dX13_lay_27 ?_
  refine g_iinc F (j := 0) 8 [(2, .int 8), (0, .ref m0), (1, .int v)] dX13_lay_30 rfl (by decide) (by decide) rfl ?_
  refine g_goto F 3 dX13_lay_33 (by decide) ?_
  refine g_iload_n F 0 dX13_lay_3 rfl rfl ?_
  refine g_if_lt F 36 dX13_lay_4 (by decide) (fun h9 => absurd h9 (by decide)) (fun c_4 => ?_)
  refine g_aload_n F 1 dX13_lay_7 rfl rfl ?_
  refine g_get (C := RX13) (T := TX13) (N := 73) (v := .ref m_tape) F i_X13 0 rfl rfl 1 (by decide) w_0 rfl rfl dX13_lay_8 ?_
  refine g_aload_n F 1 dX13_lay_11 rfl rfl ?_
  refine g_get (C := RX13) (T := TX13) (N := 73) (v := .int 6) F i_X13 0 rfl rfl 2 (by decide) w_1 rfl rfl dX13_lay_12 ?_
  refine g_iload_n F 2 dX13_lay_15 rfl rfl ?_
  refine g_iload_n F 0 dX13_lay_16 rfl rfl ?_
  refine g_ishr F dX13_lay_17 ?_
  refine g_i2b F dX13_lay_18 ?_
  refine g_bast F 1 0 rfl rfl (by unfold vp_in; decide) [(m0, .inr (12, [.ref m_stop, .ref m_tape, .int 6, .int 0, .int 0, .int 0, .int 0, .int 0, .int 0, .int (-1), .ref m_rule, .ref m_readRule, .ref m_teeth, .ref m_readTeeth, .ref m_sway, .ref m_readSway, .ref m_isTold, .ref m_markKind, .ref m_markValue, .ref m_marks, .int 5, .int 0, .ref m_pile, .ref m_height, .ref m_leftPass, .ref m_leftTurn, .ref m_leftTooth, .ref m_leftX, .int 0, .int 0, .ref m_kept, .ref m_keptWear, .int 0, .ref m_now, .ref m_passed, .int 0, .int 0, .int 0, .ref m_planTime, .ref m_planMany, .ref m_planned, .ref m_isQuiet, .int 0, .int 0, .ref m_keptTeeth, .int 0, .int 0, .ref m_jobRing, .ref m_jobSpeed, .ref m_jobFeed, .ref m_jobTurns, .ref m_orderRow, .ref m_bestRow, .int 0, .ref m_orderTold, .int 0, .int 0, .int 0, .int 0, .ref m_offerRing, .ref m_offerSpeed, .ref m_offerFeed, .ref m_offerTurns, .ref m_heardOffer, .ref m_heardVerdict, .ref m_heardAt, .ref m_rightOf, .ref m_rightVerdict, .ref m_rightAt, .ref m_verdictOf, .ref m_sound, .ref m_readSound, .int 0])), (m_tape, .inl (cB, 1000, .inl (upd (upd (upd f 4 (vp_nar .byte ((v >>> (24 &&& 31)).toInt8.toInt32))) 5 (vp_nar .byte ((v >>> (16 &&& 31)).toInt8.toInt32))) 6 (vp_nar .byte ((v >>> (8 &&& 31)).toInt8.toInt32)))))] (rfl) dX13_lay_19 ?_
  refine g_aload_n F 1 dX13_lay_20 rfl rfl ?_
  refine g_dup F dX13_lay_21 rfl ?_
  refine g_get (C := RX13) (T := TX13) (N := 73) (v := .int 6) F i_X13 0 rfl rfl 2 (by decide) w_1 rfl rfl dX13_lay_22 ?_
  refine g_iconst F 1 dX13_lay_25 (by decide) ?_
  refine g_iadd F dX13_lay_26 ?_
  refine g_fold 7 (by decide) ?_
  refine g_put (C := RX13) (T := TX13) (N := 73) (ty := .int) (v := .int 7) F i_X13 0 rfl rfl 2 (by decide) w_1 rfl tyX13 tyX13_ok nmX13 rfl (by decide +kernel) rfl rfl (Nat.le_of_ble_eq_true rfl) [(m0, .inr (12, [.ref m_stop, .ref m_tape, .int 7, .int 0, .int 0, .int 0, .int 0, .int 0, .int 0, .int (-1), .ref m_rule, .ref m_readRule, .ref m_teeth, .ref m_readTeeth, .ref m_sway, .ref m_readSway, .ref m_isTold, .ref m_markKind, .ref m_markValue, .ref m_marks, .int 5, .int 0, .ref m_pile, .ref m_height, .ref m_leftPass, .ref m_leftTurn, .ref m_leftTooth, .ref m_leftX, .int 0, .int 0, .ref m_kept, .ref m_keptWear, .int 0, .ref m_now, .ref m_passed, .int 0, .int 0, .int 0, .ref m_planTime, .ref m_planMany, .ref m_planned, .ref m_isQuiet, .int 0, .int 0, .ref m_keptTeeth, .int 0, .int 0, .ref m_jobRing, .ref m_jobSpeed, .ref m_jobFeed, .ref m_jobTurns, .ref m_orderRow, .ref m_bestRow, .int 0, .ref m_orderTold, .int 0, .int 0, .int 0, .int 0, .ref m_offerRing, .ref m_offerSpeed, .ref m_offerFeed, .ref m_offerTurns, .ref m_heardOffer, .ref m_heardVerdict, .ref m_heardAt, .ref m_rightOf, .ref m_rightVerdict, .ref m_rightAt, .ref m_verdictOf, .ref m_sound, .ref m_readSound, .int 0])), (m_tape, .inl (cB, 1000, .inl (upd (upd (upd f 4 (vp_nar .byte ((v >>> (24 &&& 31)).toInt8.toInt32))) 5 (vp_nar .byte ((v >>> (16 &&& 31)).toInt8.toInt32))) 6 (vp_nar .byte ((v >>> (8 &&& 31)).toInt8.toInt32)))))] rfl dX13_lay_27 ?_
  refine g_iinc F (j := 0) 0 [(2, .int 0), (0, .ref m0), (1, .int v)] dX13_lay_30 rfl (by decide) (by decide) rfl ?_
  refine g_goto F 3 dX13_lay_33 (by decide) ?_
  refine g_iload_n F 0 dX13_lay_3 rfl rfl ?_
  refine g_if_lt F 36 dX13_lay_4 (by decide) (fun h9 => absurd h9 (by decide)) (fun c_4 => ?_)
  refine g_aload_n F 1 dX13_lay_7 rfl rfl ?_
  refine g_get (C := RX13) (T := TX13) (N := 73) (v := .ref m_tape) F i_X13 0 rfl rfl 1 (by decide) w_0 rfl rfl dX13_lay_8 ?_
  refine g_aload_n F 1 dX13_lay_11 rfl rfl ?_
  refine g_get (C := RX13) (T := TX13) (N := 73) (v := .int 7) F i_X13 0 rfl rfl 2 (by decide) w_1 rfl rfl dX13_lay_12 ?_
  refine g_iload_n F 2 dX13_lay_15 rfl rfl ?_
  refine g_iload_n F 0 dX13_lay_16 rfl rfl ?_
  refine g_ishr F dX13_lay_17 ?_
  refine g_i2b F dX13_lay_18 ?_
  refine g_bast F 1 0 rfl rfl (by unfold vp_in; decide) [(m0, .inr (12, [.ref m_stop, .ref m_tape, .int 7, .int 0, .int 0, .int 0, .int 0, .int 0, .int 0, .int (-1), .ref m_rule, .ref m_readRule, .ref m_teeth, .ref m_readTeeth, .ref m_sway, .ref m_readSway, .ref m_isTold, .ref m_markKind, .ref m_markValue, .ref m_marks, .int 5, .int 0, .ref m_pile, .ref m_height, .ref m_leftPass, .ref m_leftTurn, .ref m_leftTooth, .ref m_leftX, .int 0, .int 0, .ref m_kept, .ref m_keptWear, .int 0, .ref m_now, .ref m_passed, .int 0, .int 0, .int 0, .ref m_planTime, .ref m_planMany, .ref m_planned, .ref m_isQuiet, .int 0, .int 0, .ref m_keptTeeth, .int 0, .int 0, .ref m_jobRing, .ref m_jobSpeed, .ref m_jobFeed, .ref m_jobTurns, .ref m_orderRow, .ref m_bestRow, .int 0, .ref m_orderTold, .int 0, .int 0, .int 0, .int 0, .ref m_offerRing, .ref m_offerSpeed, .ref m_offerFeed, .ref m_offerTurns, .ref m_heardOffer, .ref m_heardVerdict, .ref m_heardAt, .ref m_rightOf, .ref m_rightVerdict, .ref m_rightAt, .ref m_verdictOf, .ref m_sound, .ref m_readSound, .int 0])), (m_tape, .inl (cB, 1000, .inl (upd (upd (upd (upd f 4 (vp_nar .byte ((v >>> (24 &&& 31)).toInt8.toInt32))) 5 (vp_nar .byte ((v >>> (16 &&& 31)).toInt8.toInt32))) 6 (vp_nar .byte ((v >>> (8 &&& 31)).toInt8.toInt32))) 7 (vp_nar .byte ((v >>> (0 &&& 31)).toInt8.toInt32)))))] (rfl) dX13_lay_19 ?_
  refine g_aload_n F 1 dX13_lay_20 rfl rfl ?_
  refine g_dup F dX13_lay_21 rfl ?_
  refine g_get (C := RX13) (T := TX13) (N := 73) (v := .int 7) F i_X13 0 rfl rfl 2 (by decide) w_1 rfl rfl dX13_lay_22 ?_
  refine g_iconst F 1 dX13_lay_25 (by decide) ?_
  refine g_iadd F dX13_lay_26 ?_
  refine g_fold 8 (by decide) ?_
  refine g_put (C := RX13) (T := TX13) (N := 73) (ty := .int) (v := .int 8) F i_X13 0 rfl rfl 2 (by decide) w_1 rfl tyX13 tyX13_ok nmX13 rfl (by decide +kernel) rfl rfl (Nat.le_of_ble_eq_true rfl) [(m0, .inr (12, [.ref m_stop, .ref m_tape, .int 8, .int 0, .int 0, .int 0, .int 0, .int 0, .int 0, .int (-1), .ref m_rule, .ref m_readRule, .ref m_teeth, .ref m_readTeeth, .ref m_sway, .ref m_readSway, .ref m_isTold, .ref m_markKind, .ref m_markValue, .ref m_marks, .int 5, .int 0, .ref m_pile, .ref m_height, .ref m_leftPass, .ref m_leftTurn, .ref m_leftTooth, .ref m_leftX, .int 0, .int 0, .ref m_kept, .ref m_keptWear, .int 0, .ref m_now, .ref m_passed, .int 0, .int 0, .int 0, .ref m_planTime, .ref m_planMany, .ref m_planned, .ref m_isQuiet, .int 0, .int 0, .ref m_keptTeeth, .int 0, .int 0, .ref m_jobRing, .ref m_jobSpeed, .ref m_jobFeed, .ref m_jobTurns, .ref m_orderRow, .ref m_bestRow, .int 0, .ref m_orderTold, .int 0, .int 0, .int 0, .int 0, .ref m_offerRing, .ref m_offerSpeed, .ref m_offerFeed, .ref m_offerTurns, .ref m_heardOffer, .ref m_heardVerdict, .ref m_heardAt, .ref m_rightOf, .ref m_rightVerdict, .ref m_rightAt, .ref m_verdictOf, .ref m_sound, .ref m_readSound, .int 0])), (m_tape, .inl (cB, 1000, .inl (upd (upd (upd (upd f 4 (vp_nar .byte ((v >>> (24 &&& 31)).toInt8.toInt32))) 5 (vp_nar .byte ((v >>> (16 &&& 31)).toInt8.toInt32))) 6 (vp_nar .byte ((v >>> (8 &&& 31)).toInt8.toInt32))) 7 (vp_nar .byte ((v >>> (0 &&& 31)).toInt8.toInt32)))))] rfl dX13_lay_27 ?_
  refine g_iinc F (j := 0) (-8) [(2, .int (-8)), (0, .ref m0), (1, .int v)] dX13_lay_30 rfl (by decide) (by decide) rfl ?_
  refine g_goto F 3 dX13_lay_33 (by decide) ?_
  refine g_iload_n F 0 dX13_lay_3 rfl rfl ?_
  refine g_if_lt F 36 dX13_lay_4 (by decide) (fun c_4 => ?_) (fun h9 => absurd (by decide) h9) 
  exact g_vret F hA hQ hr () (trivial) [0, 1] [0] rfl (by decide) rfl rfl dX13_lay_36


set_option maxHeartbeats 4000000 in
set_option maxRecDepth 100000 in
theorem K_X13_lay8 (l : Launch) (D : va_G) (m0 : Nat) (m_stop : Nat) (m_tape : Nat) (m_rule : Nat) (m_readRule : Nat) (m_teeth : Nat) (m_readTeeth : Nat) (m_sway : Nat) (m_readSway : Nat) (m_isTold : Nat) (m_markKind : Nat) (m_markValue : Nat) (m_marks : Nat) (m_pile : Nat) (m_height : Nat) (m_leftPass : Nat) (m_leftTurn : Nat) (m_leftTooth : Nat) (m_leftX : Nat) (m_kept : Nat) (m_keptWear : Nat) (m_now : Nat) (m_passed : Nat) (m_planTime : Nat) (m_planMany : Nat) (m_planned : Nat) (m_isQuiet : Nat) (m_keptTeeth : Nat) (m_jobRing : Nat) (m_jobSpeed : Nat) (m_jobFeed : Nat) (m_jobTurns : Nat) (m_orderRow : Nat) (m_bestRow : Nat) (m_orderTold : Nat) (m_offerRing : Nat) (m_offerSpeed : Nat) (m_offerFeed : Nat) (m_offerTurns : Nat) (m_heardOffer : Nat) (m_heardVerdict : Nat) (m_heardAt : Nat) (m_rightOf : Nat) (m_rightVerdict : Nat) (m_rightAt : Nat) (m_verdictOf : Nat) (m_sound : Nat) (m_readSound : Nat) (cB : ClassId) (f : Nat → Int32) (v : Int32) (sz : Nat) : Kv l yX13_lay wsX13_lay 1 30 0 0 D [.ref m0, .int v] [(m0, .inr (12, [.ref m_stop, .ref m_tape, .int 8, .int 0, .int 0, .int 0, .int 0, .int 0, .int 0, .int (-1), .ref m_rule, .ref m_readRule, .ref m_teeth, .ref m_readTeeth, .ref m_sway, .ref m_readSway, .ref m_isTold, .ref m_markKind, .ref m_markValue, .ref m_marks, .int 5, .int 0, .ref m_pile, .ref m_height, .ref m_leftPass, .ref m_leftTurn, .ref m_leftTooth, .ref m_leftX, .int 0, .int 0, .ref m_kept, .ref m_keptWear, .int 0, .ref m_now, .ref m_passed, .int 0, .int 0, .int 0, .ref m_planTime, .ref m_planMany, .ref m_planned, .ref m_isQuiet, .int 0, .int 0, .ref m_keptTeeth, .int 0, .int 0, .ref m_jobRing, .ref m_jobSpeed, .ref m_jobFeed, .ref m_jobTurns, .ref m_orderRow, .ref m_bestRow, .int 0, .ref m_orderTold, .int 0, .int 0, .int 0, .int 0, .ref m_offerRing, .ref m_offerSpeed, .ref m_offerFeed, .ref m_offerTurns, .ref m_heardOffer, .ref m_heardVerdict, .ref m_heardAt, .ref m_rightOf, .ref m_rightVerdict, .ref m_rightAt, .ref m_verdictOf, .ref m_sound, .ref m_readSound, .int 0])), (m_tape, .inl (cB, 1000, .inl f))] [(cB, .byte)] sz (fun (_ : Unit) => True) (fun (_ : Unit) => [(m0, .inr (12, [.ref m_stop, .ref m_tape, .int 12, .int 0, .int 0, .int 0, .int 0, .int 0, .int 0, .int (-1), .ref m_rule, .ref m_readRule, .ref m_teeth, .ref m_readTeeth, .ref m_sway, .ref m_readSway, .ref m_isTold, .ref m_markKind, .ref m_markValue, .ref m_marks, .int 5, .int 0, .ref m_pile, .ref m_height, .ref m_leftPass, .ref m_leftTurn, .ref m_leftTooth, .ref m_leftX, .int 0, .int 0, .ref m_kept, .ref m_keptWear, .int 0, .ref m_now, .ref m_passed, .int 0, .int 0, .int 0, .ref m_planTime, .ref m_planMany, .ref m_planned, .ref m_isQuiet, .int 0, .int 0, .ref m_keptTeeth, .int 0, .int 0, .ref m_jobRing, .ref m_jobSpeed, .ref m_jobFeed, .ref m_jobTurns, .ref m_orderRow, .ref m_bestRow, .int 0, .ref m_orderTold, .int 0, .int 0, .int 0, .int 0, .ref m_offerRing, .ref m_offerSpeed, .ref m_offerFeed, .ref m_offerTurns, .ref m_heardOffer, .ref m_heardVerdict, .ref m_heardAt, .ref m_rightOf, .ref m_rightVerdict, .ref m_rightAt, .ref m_verdictOf, .ref m_sound, .ref m_readSound, .int 0])), (m_tape, .inl (cB, 1000, .inl (upd (upd (upd (upd f 8 (vp_nar .byte (v >>> (24 &&& 31)).toInt8.toInt32)) 9 (vp_nar .byte (v >>> (16 &&& 31)).toInt8.toInt32)) 10 (vp_nar .byte (v >>> (8 &&& 31)).toInt8.toInt32)) 11 (vp_nar .byte (v >>> (0 &&& 31)).toInt8.toInt32))))]) (fun (_ : Unit) => [(cB, .byte)]) := by
  unfold Kv
  refine g_ofW (cc := cX13_lay) (lv := [(0, .ref m0), (1, .int v)]) (by decide) rfl (Nat.le_of_ble_eq_true rfl) rfl ?_
  intro p e s m args below meth c A Q hA hQ F hr hnm
  have hts := F.2.2.2.2.1
  have w_0 : (Cond.fieldLink RX13 20 "QuietCutModel" "tape" "[B").before args s = true := hts _ (List.mem_of_getElem? (i := 1) rfl)
  have i_X13 : ∀ w ∈ u_ws RX13 TX13 73, w ∈ wsX13_lay := fun _ h => List.mem_cons_of_mem _ (List.mem_append_right _ h)
  have w_1 : (Cond.fieldLink RX13 73 "QuietCutModel" "taped" "I").before args s = true := hts _ (List.mem_of_getElem? (i := 2) rfl)
  refine g_bipush F 24 dX13_lay_0 (by decide) ?_
  refine g_istore_n F [(2, .int 24), (0, .ref m0), (1, .int v)] dX13_lay_2 rfl (by decide) rfl ?_
  refine g_iload_n F 0 dX13_lay_3 rfl rfl ?_
  refine g_if_lt F 36 dX13_lay_4 (by decide) (fun h9 => absurd h9 (by decide)) (fun c_4 => ?_)
  refine g_aload_n F 1 dX13_lay_7 rfl rfl ?_
  refine g_get (C := RX13) (T := TX13) (N := 73) (v := .ref m_tape) F i_X13 0 rfl rfl 1 (by decide) w_0 rfl rfl dX13_lay_8 ?_
  refine g_aload_n F 1 dX13_lay_11 rfl rfl ?_
  refine g_get (C := RX13) (T := TX13) (N := 73) (v := .int 8) F i_X13 0 rfl rfl 2 (by decide) w_1 rfl rfl dX13_lay_12 ?_
  refine g_iload_n F 2 dX13_lay_15 rfl rfl ?_
  refine g_iload_n F 0 dX13_lay_16 rfl rfl ?_
  refine g_ishr F dX13_lay_17 ?_
  refine g_i2b F dX13_lay_18 ?_
  refine g_bast F 1 0 rfl rfl (by unfold vp_in; decide) [(m0, .inr (12, [.ref m_stop, .ref m_tape, .int 8, .int 0, .int 0, .int 0, .int 0, .int 0, .int 0, .int (-1), .ref m_rule, .ref m_readRule, .ref m_teeth, .ref m_readTeeth, .ref m_sway, .ref m_readSway, .ref m_isTold, .ref m_markKind, .ref m_markValue, .ref m_marks, .int 5, .int 0, .ref m_pile, .ref m_height, .ref m_leftPass, .ref m_leftTurn, .ref m_leftTooth, .ref m_leftX, .int 0, .int 0, .ref m_kept, .ref m_keptWear, .int 0, .ref m_now, .ref m_passed, .int 0, .int 0, .int 0, .ref m_planTime, .ref m_planMany, .ref m_planned, .ref m_isQuiet, .int 0, .int 0, .ref m_keptTeeth, .int 0, .int 0, .ref m_jobRing, .ref m_jobSpeed, .ref m_jobFeed, .ref m_jobTurns, .ref m_orderRow, .ref m_bestRow, .int 0, .ref m_orderTold, .int 0, .int 0, .int 0, .int 0, .ref m_offerRing, .ref m_offerSpeed, .ref m_offerFeed, .ref m_offerTurns, .ref m_heardOffer, .ref m_heardVerdict, .ref m_heardAt, .ref m_rightOf, .ref m_rightVerdict, .ref m_rightAt, .ref m_verdictOf, .ref m_sound, .ref m_readSound, .int 0])), (m_tape, .inl (cB, 1000, .inl (upd f 8 (vp_nar .byte ((v >>> (24 &&& 31)).toInt8.toInt32)))))] (rfl) dX13_lay_19 ?_
  refine g_aload_n F 1 dX13_lay_20 rfl rfl ?_
  refine g_dup F dX13_lay_21 rfl ?_
  refine g_get (C := RX13) (T := TX13) (N := 73) (v := .int 8) F i_X13 0 rfl rfl 2 (by decide) w_1 rfl rfl dX13_lay_22 ?_
  refine g_iconst F 1 dX13_lay_25 (by decide) ?_
  refine g_iadd F dX13_lay_26 ?_
  refine g_fold 9 (by decide) ?_
  refine g_put (C := RX13) (T := TX13) (N := 73) (ty := .int) (v := .int 9) F i_X13 0 rfl rfl 2 (by decide) w_1 rfl tyX13 tyX13_ok nmX13 rfl (by decide +kernel) rfl rfl (Nat.le_of_ble_eq_true rfl) [(m0, .inr (12, [.ref m_stop, .ref m_tape, .int 9, .int 0, .int 0, .int 0, .int 0, .int 0, .int 0, .int (-1), .ref m_rule, .ref m_readRule, .ref m_teeth, .ref m_readTeeth, .ref m_sway, .ref m_readSway, .ref m_isTold, .ref m_markKind, .ref m_markValue, .ref m_marks, .int 5, .int 0, .ref m_pile, .ref m_height, .ref m_leftPass, .ref m_leftTurn, .ref m_leftTooth, .ref m_leftX, .int 0, .int 0, .ref m_kept, .ref m_keptWear, .int 0, .ref m_now, .ref m_passed, .int 0, .int 0, .int 0, .ref m_planTime, .ref m_planMany, .ref m_planned, .ref m_isQuiet, .int 0, .int 0, .ref m_keptTeeth, .int 0, .int 0, .ref m_jobRing, .ref m_jobSpeed, .ref m_jobFeed, .ref m_jobTurns, .ref m_orderRow, .ref m_bestRow, .int 0, .ref m_orderTold, .int 0, .int 0, .int 0, .int 0, .ref m_offerRing, .ref m_offerSpeed, .ref m_offerFeed, .ref m_offerTurns, .ref m_heardOffer, .ref m_heardVerdict, .ref m_heardAt, .ref m_rightOf, .ref m_rightVerdict, .ref m_rightAt, .ref m_verdictOf, .ref m_sound, .ref m_readSound, .int 0])), (m_tape, .inl (cB, 1000, .inl (upd f 8 (vp_nar .byte ((v >>> (24 &&& 31)).toInt8.toInt32)))))] rfl dX13_lay_27 ?_
  refine g_iinc F (j := 0) 16 [(2, .int 16), (0, .ref m0), (1, .int v)] dX13_lay_30 rfl (by decide) (by decide) rfl ?_
  refine g_goto F 3 dX13_lay_33 (by decide) ?_
  refine g_iload_n F 0 dX13_lay_3 rfl rfl ?_
  refine g_if_lt F 36 dX13_lay_4 (by decide) (fun h9 => absurd h9 (by decide)) (fun c_4 => ?_)
  refine g_aload_n F 1 dX13_lay_7 rfl rfl ?_
  refine g_get (C := RX13) (T := TX13) (N := 73) (v := .ref m_tape) F i_X13 0 rfl rfl 1 (by decide) w_0 rfl rfl dX13_lay_8 ?_
  refine g_aload_n F 1 dX13_lay_11 rfl rfl ?_
  refine g_get (C := RX13) (T := TX13) (N := 73) (v := .int 9) F i_X13 0 rfl rfl 2 (by decide) w_1 rfl rfl dX13_lay_12 ?_
  refine g_iload_n F 2 dX13_lay_15 rfl rfl ?_
  refine g_iload_n F 0 dX13_lay_16 rfl rfl ?_
  refine g_ishr F dX13_lay_17 ?_
  refine g_i2b F dX13_lay_18 ?_
  refine g_bast F 1 0 rfl rfl (by unfold vp_in; decide) [(m0, .inr (12, [.ref m_stop, .ref m_tape, .int 9, .int 0, .int 0, .int 0, .int 0, .int 0, .int 0, .int (-1), .ref m_rule, .ref m_readRule, .ref m_teeth, .ref m_readTeeth, .ref m_sway, .ref m_readSway, .ref m_isTold, .ref m_markKind, .ref m_markValue, .ref m_marks, .int 5, .int 0, .ref m_pile, .ref m_height, .ref m_leftPass, .ref m_leftTurn, .ref m_leftTooth, .ref m_leftX, .int 0, .int 0, .ref m_kept, .ref m_keptWear, .int 0, .ref m_now, .ref m_passed, .int 0, .int 0, .int 0, .ref m_planTime, .ref m_planMany, .ref m_planned, .ref m_isQuiet, .int 0, .int 0, .ref m_keptTeeth, .int 0, .int 0, .ref m_jobRing, .ref m_jobSpeed, .ref m_jobFeed, .ref m_jobTurns, .ref m_orderRow, .ref m_bestRow, .int 0, .ref m_orderTold, .int 0, .int 0, .int 0, .int 0, .ref m_offerRing, .ref m_offerSpeed, .ref m_offerFeed, .ref m_offerTurns, .ref m_heardOffer, .ref m_heardVerdict, .ref m_heardAt, .ref m_rightOf, .ref m_rightVerdict, .ref m_rightAt, .ref m_verdictOf, .ref m_sound, .ref m_readSound, .int 0])), (m_tape, .inl (cB, 1000, .inl (upd (upd f 8 (vp_nar .byte ((v >>> (24 &&& 31)).toInt8.toInt32))) 9 (vp_nar .byte ((v >>> (16 &&& 31)).toInt8.toInt32)))))] (rfl) dX13_lay_19 ?_
  refine g_aload_n F 1 dX13_lay_20 rfl rfl ?_
  refine g_dup F dX13_lay_21 rfl ?_
  refine g_get (C := RX13) (T := TX13) (N := 73) (v := .int 9) F i_X13 0 rfl rfl 2 (by decide) w_1 rfl rfl dX13_lay_22 ?_
  refine g_iconst F 1 dX13_lay_25 (by decide) ?_
  refine g_iadd F dX13_lay_26 ?_
  refine g_fold 10 (by decide) ?_
  refine g_put (C := RX13) (T := TX13) (N := 73) (ty := .int) (v := .int 10) F i_X13 0 rfl rfl 2 (by decide) w_1 rfl tyX13 tyX13_ok nmX13 rfl (by decide +kernel) rfl rfl (Nat.le_of_ble_eq_true rfl) [(m0, .inr (12, [.ref m_stop, .ref m_tape, .int 10, .int 0, .int 0, .int 0, .int 0, .int 0, .int 0, .int (-1), .ref m_rule, .ref m_readRule, .ref m_teeth, .ref m_readTeeth, .ref m_sway, .ref m_readSway, .ref m_isTold, .ref m_markKind, .ref m_markValue, .ref m_marks, .int 5, .int 0, .ref m_pile, .ref m_height, .ref m_leftPass, .ref m_leftTurn, .ref m_leftTooth, .ref m_leftX, .int 0, .int 0, .ref m_kept, .ref m_keptWear, .int 0, .ref m_now, .ref m_passed, .int 0, .int 0, .int 0, .ref m_planTime, .ref m_planMany, .ref m_planned, .ref m_isQuiet, .int 0, .int 0, .ref m_keptTeeth, .int 0, .int 0, .ref m_jobRing, .ref m_jobSpeed, .ref m_jobFeed, .ref m_jobTurns, .ref m_orderRow, .ref m_bestRow, .int 0, .ref m_orderTold, .int 0, .int 0, .int 0, .int 0, .ref m_offerRing, .ref m_offerSpeed, .ref m_offerFeed, .ref m_offerTurns, .ref m_heardOffer, .ref m_heardVerdict, .ref m_heardAt, .ref m_rightOf, .ref m_rightVerdict, .ref m_rightAt, .ref m_verdictOf, .ref m_sound, .ref m_readSound, .int 0])), (m_tape, .inl (cB, 1000, .inl (upd (upd f 8 (vp_nar .byte ((v >>> (24 &&& 31)).toInt8.toInt32))) 9 (vp_nar .byte ((v >>> (16 &&& 31)).toInt8.toInt32)))))] rfl dX13_lay_27 ?_
  refine g_iinc F (j := 0) 8 [(2, .int 8), (0, .ref m0), (1, .int v)] dX13_lay_30 rfl (by decide) (by decide) rfl ?_
  refine g_goto F 3 dX13_lay_33 (by decide) ?_
  refine g_iload_n F 0 dX13_lay_3 rfl rfl ?_
  refine g_if_lt F 36 dX13_lay_4 (by decide) (fun h9 => absurd h9 (by decide)) (fun c_4 => ?_)
  refine g_aload_n F 1 dX13_lay_7 rfl rfl ?_
  refine g_get (C := RX13) (T := TX13) (N := 73) (v := .ref m_tape) F i_X13 0 rfl rfl 1 (by decide) w_0 rfl rfl dX13_lay_8 ?_
  refine g_aload_n F 1 dX13_lay_11 rfl rfl ?_
  refine g_get (C := RX13) (T := TX13) (N := 73) (v := .int 10) F i_X13 0 rfl rfl 2 (by decide) w_1 rfl rfl dX13_lay_12 ?_
  refine g_iload_n F 2 dX13_lay_15 rfl rfl ?_
  refine g_iload_n F 0 dX13_lay_16 rfl rfl ?_
  refine g_ishr F dX13_lay_17 ?_
  refine g_i2b F dX13_lay_18 ?_
  refine g_bast F 1 0 rfl rfl (by unfold vp_in; decide) [(m0, .inr (12, [.ref m_stop, .ref m_tape, .int 10, .int 0, .int 0, .int 0, .int 0, .int 0, .int 0, .int (-1), .ref m_rule, .ref m_readRule, .ref m_teeth, .ref m_readTeeth, .ref m_sway, .ref m_readSway, .ref m_isTold, .ref m_markKind, .ref m_markValue, .ref m_marks, .int 5, .int 0, .ref m_pile, .ref m_height, .ref m_leftPass, .ref m_leftTurn, .ref m_leftTooth, .ref m_leftX, .int 0, .int 0, .ref m_kept, .ref m_keptWear, .int 0, .ref m_now, .ref m_passed, .int 0, .int 0, .int 0, .ref m_planTime, .ref m_planMany, .ref m_planned, .ref m_isQuiet, .int 0, .int 0, .ref m_keptTeeth, .int 0, .int 0, .ref m_jobRing, .ref m_jobSpeed, .ref m_jobFeed, .ref m_jobTurns, .ref m_orderRow, .ref m_bestRow, .int 0, .ref m_orderTold, .int 0, .int 0, .int 0, .int 0, .ref m_offerRing, .ref m_offerSpeed, .ref m_offerFeed, .ref m_offerTurns, .ref m_heardOffer, .ref m_heardVerdict, .ref m_heardAt, .ref m_rightOf, .ref m_rightVerdict, .ref m_rightAt, .ref m_verdictOf, .ref m_sound, .ref m_readSound, .int 0])), (m_tape, .inl (cB, 1000, .inl (upd (upd (upd f 8 (vp_nar .byte ((v >>> (24 &&& 31)).toInt8.toInt32))) 9 (vp_nar .byte ((v >>> (16 &&& 31)).toInt8.toInt32))) 10 (vp_nar .byte ((v >>> (8 &&& 31)).toInt8.toInt32)))))] (rfl) dX13_lay_19 ?_
  refine g_aload_n F 1 dX13_lay_20 rfl rfl ?_
  refine g_dup F dX13_lay_21 rfl ?_
  refine g_get (C := RX13) (T := TX13) (N := 73) (v := .int 10) F i_X13 0 rfl rfl 2 (by decide) w_1 rfl rfl dX13_lay_22 ?_
  refine g_iconst F 1 dX13_lay_25 (by decide) ?_
  refine g_iadd F dX13_lay_26 ?_
  refine g_fold 11 (by decide) ?_
  refine g_put (C := RX13) (T := TX13) (N := 73) (ty := .int) (v := .int 11) F i_X13 0 rfl rfl 2 (by decide) w_1 rfl tyX13 tyX13_ok nmX13 rfl (by decide +kernel) rfl rfl (Nat.le_of_ble_eq_true rfl) [(m0, .inr (12, [.ref m_stop, .ref m_tape, .int 11, .int 0, .int 0, .int 0, .int 0, .int 0, .int 0, .int (-1), .ref m_rule, .ref m_readRule, .ref m_teeth, .ref m_readTeeth, .ref m_sway, .ref m_readSway, .ref m_isTold, .ref m_markKind, .ref m_markValue, .ref m_marks, .int 5, .int 0, .ref m_pile, .ref m_height, .ref m_leftPass, .ref m_leftTurn, .ref m_leftTooth, .ref m_leftX, .int 0, .int 0, .ref m_kept, .ref m_keptWear, .int 0, .ref m_now, .ref m_passed, .int 0, .int 0, .int 0, .ref m_planTime, .ref m_planMany, .ref m_planned, .ref m_isQuiet, .int 0, .int 0, .ref m_keptTeeth, .int 0, .int 0, .ref m_jobRing, .ref m_jobSpeed, .ref m_jobFeed, .ref m_jobTurns, .ref m_orderRow, .ref m_bestRow, .int 0, .ref m_orderTold, .int 0, .int 0, .int 0, .int 0, .ref m_offerRing, .ref m_offerSpeed, .ref m_offerFeed, .ref m_offerTurns, .ref m_heardOffer, .ref m_heardVerdict, .ref m_heardAt, .ref m_rightOf, .ref m_rightVerdict, .ref m_rightAt, .ref m_verdictOf, .ref m_sound, .ref m_readSound, .int 0])), (m_tape, .inl (cB, 1000, .inl (upd (upd (upd f 8 (vp_nar .byte ((v >>> (24 &&& 31)).toInt8.toInt32))) 9 (vp_nar .byte ((v >>> (16 &&& 31)).toInt8.toInt32))) 10 (vp_nar .byte ((v >>> (8 &&& 31)).toInt8.toInt32)))))] rfl dX13_lay_27 ?_
  refine g_iinc F (j := 0) 0 [(2, .int 0), (0, .ref m0), (1, .int v)] dX13_lay_30 rfl (by decide) (by decide) rfl ?_
  refine g_goto F 3 dX13_lay_33 (by decide) ?_
  refine g_iload_n F 0 dX13_lay_3 rfl rfl ?_
  refine g_if_lt F 36 dX13_lay_4 (by decide) (fun h9 => absurd h9 (by decide)) (fun c_4 => ?_)
  refine g_aload_n F 1 dX13_lay_7 rfl rfl ?_
  refine g_get (C := RX13) (T := TX13) (N := 73) (v := .ref m_tape) F i_X13 0 rfl rfl 1 (by decide) w_0 rfl rfl dX13_lay_8 ?_
  refine g_aload_n F 1 dX13_lay_11 rfl rfl ?_
  refine g_get (C := RX13) (T := TX13) (N := 73) (v := .int 11) F i_X13 0 rfl rfl 2 (by decide) w_1 rfl rfl dX13_lay_12 ?_
  refine g_iload_n F 2 dX13_lay_15 rfl rfl ?_
  refine g_iload_n F 0 dX13_lay_16 rfl rfl ?_
  refine g_ishr F dX13_lay_17 ?_
  refine g_i2b F dX13_lay_18 ?_
  refine g_bast F 1 0 rfl rfl (by unfold vp_in; decide) [(m0, .inr (12, [.ref m_stop, .ref m_tape, .int 11, .int 0, .int 0, .int 0, .int 0, .int 0, .int 0, .int (-1), .ref m_rule, .ref m_readRule, .ref m_teeth, .ref m_readTeeth, .ref m_sway, .ref m_readSway, .ref m_isTold, .ref m_markKind, .ref m_markValue, .ref m_marks, .int 5, .int 0, .ref m_pile, .ref m_height, .ref m_leftPass, .ref m_leftTurn, .ref m_leftTooth, .ref m_leftX, .int 0, .int 0, .ref m_kept, .ref m_keptWear, .int 0, .ref m_now, .ref m_passed, .int 0, .int 0, .int 0, .ref m_planTime, .ref m_planMany, .ref m_planned, .ref m_isQuiet, .int 0, .int 0, .ref m_keptTeeth, .int 0, .int 0, .ref m_jobRing, .ref m_jobSpeed, .ref m_jobFeed, .ref m_jobTurns, .ref m_orderRow, .ref m_bestRow, .int 0, .ref m_orderTold, .int 0, .int 0, .int 0, .int 0, .ref m_offerRing, .ref m_offerSpeed, .ref m_offerFeed, .ref m_offerTurns, .ref m_heardOffer, .ref m_heardVerdict, .ref m_heardAt, .ref m_rightOf, .ref m_rightVerdict, .ref m_rightAt, .ref m_verdictOf, .ref m_sound, .ref m_readSound, .int 0])), (m_tape, .inl (cB, 1000, .inl (upd (upd (upd (upd f 8 (vp_nar .byte ((v >>> (24 &&& 31)).toInt8.toInt32))) 9 (vp_nar .byte ((v >>> (16 &&& 31)).toInt8.toInt32))) 10 (vp_nar .byte ((v >>> (8 &&& 31)).toInt8.toInt32))) 11 (vp_nar .byte ((v >>> (0 &&& 31)).toInt8.toInt32)))))] (rfl) dX13_lay_19 ?_
  refine g_aload_n F 1 dX13_lay_20 rfl rfl ?_
  refine g_dup F dX13_lay_21 rfl ?_
  refine g_get (C := RX13) (T := TX13) (N := 73) (v := .int 11) F i_X13 0 rfl rfl 2 (by decide) w_1 rfl rfl dX13_lay_22 ?_
  refine g_iconst F 1 dX13_lay_25 (by decide) ?_
  refine g_iadd F dX13_lay_26 ?_
  refine g_fold 12 (by decide) ?_
  refine g_put (C := RX13) (T := TX13) (N := 73) (ty := .int) (v := .int 12) F i_X13 0 rfl rfl 2 (by decide) w_1 rfl tyX13 tyX13_ok nmX13 rfl (by decide +kernel) rfl rfl (Nat.le_of_ble_eq_true rfl) [(m0, .inr (12, [.ref m_stop, .ref m_tape, .int 12, .int 0, .int 0, .int 0, .int 0, .int 0, .int 0, .int (-1), .ref m_rule, .ref m_readRule, .ref m_teeth, .ref m_readTeeth, .ref m_sway, .ref m_readSway, .ref m_isTold, .ref m_markKind, .ref m_markValue, .ref m_marks, .int 5, .int 0, .ref m_pile, .ref m_height, .ref m_leftPass, .ref m_leftTurn, .ref m_leftTooth, .ref m_leftX, .int 0, .int 0, .ref m_kept, .ref m_keptWear, .int 0, .ref m_now, .ref m_passed, .int 0, .int 0, .int 0, .ref m_planTime, .ref m_planMany, .ref m_planned, .ref m_isQuiet, .int 0, .int 0, .ref m_keptTeeth, .int 0, .int 0, .ref m_jobRing, .ref m_jobSpeed, .ref m_jobFeed, .ref m_jobTurns, .ref m_orderRow, .ref m_bestRow, .int 0, .ref m_orderTold, .int 0, .int 0, .int 0, .int 0, .ref m_offerRing, .ref m_offerSpeed, .ref m_offerFeed, .ref m_offerTurns, .ref m_heardOffer, .ref m_heardVerdict, .ref m_heardAt, .ref m_rightOf, .ref m_rightVerdict, .ref m_rightAt, .ref m_verdictOf, .ref m_sound, .ref m_readSound, .int 0])), (m_tape, .inl (cB, 1000, .inl (upd (upd (upd (upd f 8 (vp_nar .byte ((v >>> (24 &&& 31)).toInt8.toInt32))) 9 (vp_nar .byte ((v >>> (16 &&& 31)).toInt8.toInt32))) 10 (vp_nar .byte ((v >>> (8 &&& 31)).toInt8.toInt32))) 11 (vp_nar .byte ((v >>> (0 &&& 31)).toInt8.toInt32)))))] rfl dX13_lay_27 ?_
  refine g_iinc F (j := 0) (-8) [(2, .int (-8)), (0, .ref m0), (1, .int v)] dX13_lay_30 rfl (by decide) (by decide) rfl ?_
  refine g_goto F 3 dX13_lay_33 (by decide) ?_
  refine g_iload_n F 0 dX13_lay_3 rfl rfl ?_
  refine g_if_lt F 36 dX13_lay_4 (by decide) (fun c_4 => ?_) (fun h9 => absurd (by decide) h9) 
  exact g_vret F hA hQ hr () (trivial) [0, 1] [0] rfl (by decide) rfl rfl dX13_lay_36


set_option maxHeartbeats 4000000 in
set_option maxRecDepth 100000 in
theorem K_X13_lay12 (l : Launch) (D : va_G) (m0 : Nat) (m_stop : Nat) (m_tape : Nat) (m_rule : Nat) (m_readRule : Nat) (m_teeth : Nat) (m_readTeeth : Nat) (m_sway : Nat) (m_readSway : Nat) (m_isTold : Nat) (m_markKind : Nat) (m_markValue : Nat) (m_marks : Nat) (m_pile : Nat) (m_height : Nat) (m_leftPass : Nat) (m_leftTurn : Nat) (m_leftTooth : Nat) (m_leftX : Nat) (m_kept : Nat) (m_keptWear : Nat) (m_now : Nat) (m_passed : Nat) (m_planTime : Nat) (m_planMany : Nat) (m_planned : Nat) (m_isQuiet : Nat) (m_keptTeeth : Nat) (m_jobRing : Nat) (m_jobSpeed : Nat) (m_jobFeed : Nat) (m_jobTurns : Nat) (m_orderRow : Nat) (m_bestRow : Nat) (m_orderTold : Nat) (m_offerRing : Nat) (m_offerSpeed : Nat) (m_offerFeed : Nat) (m_offerTurns : Nat) (m_heardOffer : Nat) (m_heardVerdict : Nat) (m_heardAt : Nat) (m_rightOf : Nat) (m_rightVerdict : Nat) (m_rightAt : Nat) (m_verdictOf : Nat) (m_sound : Nat) (m_readSound : Nat) (cB : ClassId) (f : Nat → Int32) (v : Int32) (sz : Nat) : Kv l yX13_lay wsX13_lay 1 30 0 0 D [.ref m0, .int v] [(m0, .inr (12, [.ref m_stop, .ref m_tape, .int 12, .int 0, .int 0, .int 0, .int 0, .int 0, .int 0, .int (-1), .ref m_rule, .ref m_readRule, .ref m_teeth, .ref m_readTeeth, .ref m_sway, .ref m_readSway, .ref m_isTold, .ref m_markKind, .ref m_markValue, .ref m_marks, .int 5, .int 0, .ref m_pile, .ref m_height, .ref m_leftPass, .ref m_leftTurn, .ref m_leftTooth, .ref m_leftX, .int 0, .int 0, .ref m_kept, .ref m_keptWear, .int 0, .ref m_now, .ref m_passed, .int 0, .int 0, .int 0, .ref m_planTime, .ref m_planMany, .ref m_planned, .ref m_isQuiet, .int 0, .int 0, .ref m_keptTeeth, .int 0, .int 0, .ref m_jobRing, .ref m_jobSpeed, .ref m_jobFeed, .ref m_jobTurns, .ref m_orderRow, .ref m_bestRow, .int 0, .ref m_orderTold, .int 0, .int 0, .int 0, .int 0, .ref m_offerRing, .ref m_offerSpeed, .ref m_offerFeed, .ref m_offerTurns, .ref m_heardOffer, .ref m_heardVerdict, .ref m_heardAt, .ref m_rightOf, .ref m_rightVerdict, .ref m_rightAt, .ref m_verdictOf, .ref m_sound, .ref m_readSound, .int 0])), (m_tape, .inl (cB, 1000, .inl f))] [(cB, .byte)] sz (fun (_ : Unit) => True) (fun (_ : Unit) => [(m0, .inr (12, [.ref m_stop, .ref m_tape, .int 16, .int 0, .int 0, .int 0, .int 0, .int 0, .int 0, .int (-1), .ref m_rule, .ref m_readRule, .ref m_teeth, .ref m_readTeeth, .ref m_sway, .ref m_readSway, .ref m_isTold, .ref m_markKind, .ref m_markValue, .ref m_marks, .int 5, .int 0, .ref m_pile, .ref m_height, .ref m_leftPass, .ref m_leftTurn, .ref m_leftTooth, .ref m_leftX, .int 0, .int 0, .ref m_kept, .ref m_keptWear, .int 0, .ref m_now, .ref m_passed, .int 0, .int 0, .int 0, .ref m_planTime, .ref m_planMany, .ref m_planned, .ref m_isQuiet, .int 0, .int 0, .ref m_keptTeeth, .int 0, .int 0, .ref m_jobRing, .ref m_jobSpeed, .ref m_jobFeed, .ref m_jobTurns, .ref m_orderRow, .ref m_bestRow, .int 0, .ref m_orderTold, .int 0, .int 0, .int 0, .int 0, .ref m_offerRing, .ref m_offerSpeed, .ref m_offerFeed, .ref m_offerTurns, .ref m_heardOffer, .ref m_heardVerdict, .ref m_heardAt, .ref m_rightOf, .ref m_rightVerdict, .ref m_rightAt, .ref m_verdictOf, .ref m_sound, .ref m_readSound, .int 0])), (m_tape, .inl (cB, 1000, .inl (upd (upd (upd (upd f 12 (vp_nar .byte (v >>> (24 &&& 31)).toInt8.toInt32)) 13 (vp_nar .byte (v >>> (16 &&& 31)).toInt8.toInt32)) 14 (vp_nar .byte (v >>> (8 &&& 31)).toInt8.toInt32)) 15 (vp_nar .byte (v >>> (0 &&& 31)).toInt8.toInt32))))]) (fun (_ : Unit) => [(cB, .byte)]) := by
  unfold Kv
  refine g_ofW (cc := cX13_lay) (lv := [(0, .ref m0), (1, .int v)]) (by decide) rfl (Nat.le_of_ble_eq_true rfl) rfl ?_
  intro p e s m args below meth c A Q hA hQ F hr hnm
  have hts := F.2.2.2.2.1
  have w_0 : (Cond.fieldLink RX13 20 "QuietCutModel" "tape" "[B").before args s = true := hts _ (List.mem_of_getElem? (i := 1) rfl)
  have i_X13 : ∀ w ∈ u_ws RX13 TX13 73, w ∈ wsX13_lay := fun _ h => List.mem_cons_of_mem _ (List.mem_append_right _ h)
  have w_1 : (Cond.fieldLink RX13 73 "QuietCutModel" "taped" "I").before args s = true := hts _ (List.mem_of_getElem? (i := 2) rfl)
  refine g_bipush F 24 dX13_lay_0 (by decide) ?_
  refine g_istore_n F [(2, .int 24), (0, .ref m0), (1, .int v)] dX13_lay_2 rfl (by decide) rfl ?_
  refine g_iload_n F 0 dX13_lay_3 rfl rfl ?_
  refine g_if_lt F 36 dX13_lay_4 (by decide) (fun h9 => absurd h9 (by decide)) (fun c_4 => ?_)
  refine g_aload_n F 1 dX13_lay_7 rfl rfl ?_
  refine g_get (C := RX13) (T := TX13) (N := 73) (v := .ref m_tape) F i_X13 0 rfl rfl 1 (by decide) w_0 rfl rfl dX13_lay_8 ?_
  refine g_aload_n F 1 dX13_lay_11 rfl rfl ?_
  refine g_get (C := RX13) (T := TX13) (N := 73) (v := .int 12) F i_X13 0 rfl rfl 2 (by decide) w_1 rfl rfl dX13_lay_12 ?_
  refine g_iload_n F 2 dX13_lay_15 rfl rfl ?_
  refine g_iload_n F 0 dX13_lay_16 rfl rfl ?_
  refine g_ishr F dX13_lay_17 ?_
  refine g_i2b F dX13_lay_18 ?_
  refine g_bast F 1 0 rfl rfl (by unfold vp_in; decide) [(m0, .inr (12, [.ref m_stop, .ref m_tape, .int 12, .int 0, .int 0, .int 0, .int 0, .int 0, .int 0, .int (-1), .ref m_rule, .ref m_readRule, .ref m_teeth, .ref m_readTeeth, .ref m_sway, .ref m_readSway, .ref m_isTold, .ref m_markKind, .ref m_markValue, .ref m_marks, .int 5, .int 0, .ref m_pile, .ref m_height, .ref m_leftPass, .ref m_leftTurn, .ref m_leftTooth, .ref m_leftX, .int 0, .int 0, .ref m_kept, .ref m_keptWear, .int 0, .ref m_now, .ref m_passed, .int 0, .int 0, .int 0, .ref m_planTime, .ref m_planMany, .ref m_planned, .ref m_isQuiet, .int 0, .int 0, .ref m_keptTeeth, .int 0, .int 0, .ref m_jobRing, .ref m_jobSpeed, .ref m_jobFeed, .ref m_jobTurns, .ref m_orderRow, .ref m_bestRow, .int 0, .ref m_orderTold, .int 0, .int 0, .int 0, .int 0, .ref m_offerRing, .ref m_offerSpeed, .ref m_offerFeed, .ref m_offerTurns, .ref m_heardOffer, .ref m_heardVerdict, .ref m_heardAt, .ref m_rightOf, .ref m_rightVerdict, .ref m_rightAt, .ref m_verdictOf, .ref m_sound, .ref m_readSound, .int 0])), (m_tape, .inl (cB, 1000, .inl (upd f 12 (vp_nar .byte ((v >>> (24 &&& 31)).toInt8.toInt32)))))] (rfl) dX13_lay_19 ?_
  refine g_aload_n F 1 dX13_lay_20 rfl rfl ?_
  refine g_dup F dX13_lay_21 rfl ?_
  refine g_get (C := RX13) (T := TX13) (N := 73) (v := .int 12) F i_X13 0 rfl rfl 2 (by decide) w_1 rfl rfl dX13_lay_22 ?_
  refine g_iconst F 1 dX13_lay_25 (by decide) ?_
  refine g_iadd F dX13_lay_26 ?_
  refine g_fold 13 (by decide) ?_
  refine g_put (C := RX13) (T := TX13) (N := 73) (ty := .int) (v := .int 13) F i_X13 0 rfl rfl 2 (by decide) w_1 rfl tyX13 tyX13_ok nmX13 rfl (by decide +kernel) rfl rfl (Nat.le_of_ble_eq_true rfl) [(m0, .inr (12, [.ref m_stop, .ref m_tape, .int 13, .int 0, .int 0, .int 0, .int 0, .int 0, .int 0, .int (-1), .ref m_rule, .ref m_readRule, .ref m_teeth, .ref m_readTeeth, .ref m_sway, .ref m_readSway, .ref m_isTold, .ref m_markKind, .ref m_markValue, .ref m_marks, .int 5, .int 0, .ref m_pile, .ref m_height, .ref m_leftPass, .ref m_leftTurn, .ref m_leftTooth, .ref m_leftX, .int 0, .int 0, .ref m_kept, .ref m_keptWear, .int 0, .ref m_now, .ref m_passed, .int 0, .int 0, .int 0, .ref m_planTime, .ref m_planMany, .ref m_planned, .ref m_isQuiet, .int 0, .int 0, .ref m_keptTeeth, .int 0, .int 0, .ref m_jobRing, .ref m_jobSpeed, .ref m_jobFeed, .ref m_jobTurns, .ref m_orderRow, .ref m_bestRow, .int 0, .ref m_orderTold, .int 0, .int 0, .int 0, .int 0, .ref m_offerRing, .ref m_offerSpeed, .ref m_offerFeed, .ref m_offerTurns, .ref m_heardOffer, .ref m_heardVerdict, .ref m_heardAt, .ref m_rightOf, .ref m_rightVerdict, .ref m_rightAt, .ref m_verdictOf, .ref m_sound, .ref m_readSound, .int 0])), (m_tape, .inl (cB, 1000, .inl (upd f 12 (vp_nar .byte ((v >>> (24 &&& 31)).toInt8.toInt32)))))] rfl dX13_lay_27 ?_
  refine g_iinc F (j := 0) 16 [(2, .int 16), (0, .ref m0), (1, .int v)] dX13_lay_30 rfl (by decide) (by decide) rfl ?_
  refine g_goto F 3 dX13_lay_33 (by decide) ?_
  refine g_iload_n F 0 dX13_lay_3 rfl rfl ?_
  refine g_if_lt F 36 dX13_lay_4 (by decide) (fun h9 => absurd h9 (by decide)) (fun c_4 => ?_)
  refine g_aload_n F 1 dX13_lay_7 rfl rfl ?_
  refine g_get (C := RX13) (T := TX13) (N := 73) (v := .ref m_tape) F i_X13 0 rfl rfl 1 (by decide) w_0 rfl rfl dX13_lay_8 ?_
  refine g_aload_n F 1 dX13_lay_11 rfl rfl ?_
  refine g_get (C := RX13) (T := TX13) (N := 73) (v := .int 13) F i_X13 0 rfl rfl 2 (by decide) w_1 rfl rfl dX13_lay_12 ?_
  refine g_iload_n F 2 dX13_lay_15 rfl rfl ?_
  refine g_iload_n F 0 dX13_lay_16 rfl rfl ?_
  refine g_ishr F dX13_lay_17 ?_
  refine g_i2b F dX13_lay_18 ?_
  refine g_bast F 1 0 rfl rfl (by unfold vp_in; decide) [(m0, .inr (12, [.ref m_stop, .ref m_tape, .int 13, .int 0, .int 0, .int 0, .int 0, .int 0, .int 0, .int (-1), .ref m_rule, .ref m_readRule, .ref m_teeth, .ref m_readTeeth, .ref m_sway, .ref m_readSway, .ref m_isTold, .ref m_markKind, .ref m_markValue, .ref m_marks, .int 5, .int 0, .ref m_pile, .ref m_height, .ref m_leftPass, .ref m_leftTurn, .ref m_leftTooth, .ref m_leftX, .int 0, .int 0, .ref m_kept, .ref m_keptWear, .int 0, .ref m_now, .ref m_passed, .int 0, .int 0, .int 0, .ref m_planTime, .ref m_planMany, .ref m_planned, .ref m_isQuiet, .int 0, .int 0, .ref m_keptTeeth, .int 0, .int 0, .ref m_jobRing, .ref m_jobSpeed, .ref m_jobFeed, .ref m_jobTurns, .ref m_orderRow, .ref m_bestRow, .int 0, .ref m_orderTold, .int 0, .int 0, .int 0, .int 0, .ref m_offerRing, .ref m_offerSpeed, .ref m_offerFeed, .ref m_offerTurns, .ref m_heardOffer, .ref m_heardVerdict, .ref m_heardAt, .ref m_rightOf, .ref m_rightVerdict, .ref m_rightAt, .ref m_verdictOf, .ref m_sound, .ref m_readSound, .int 0])), (m_tape, .inl (cB, 1000, .inl (upd (upd f 12 (vp_nar .byte ((v >>> (24 &&& 31)).toInt8.toInt32))) 13 (vp_nar .byte ((v >>> (16 &&& 31)).toInt8.toInt32)))))] (rfl) dX13_lay_19 ?_
  refine g_aload_n F 1 dX13_lay_20 rfl rfl ?_
  refine g_dup F dX13_lay_21 rfl ?_
  refine g_get (C := RX13) (T := TX13) (N := 73) (v := .int 13) F i_X13 0 rfl rfl 2 (by decide) w_1 rfl rfl dX13_lay_22 ?_
  refine g_iconst F 1 dX13_lay_25 (by decide) ?_
  refine g_iadd F dX13_lay_26 ?_
  refine g_fold 14 (by decide) ?_
  refine g_put (C := RX13) (T := TX13) (N := 73) (ty := .int) (v := .int 14) F i_X13 0 rfl rfl 2 (by decide) w_1 rfl tyX13 tyX13_ok nmX13 rfl (by decide +kernel) rfl rfl (Nat.le_of_ble_eq_true rfl) [(m0, .inr (12, [.ref m_stop, .ref m_tape, .int 14, .int 0, .int 0, .int 0, .int 0, .int 0, .int 0, .int (-1), .ref m_rule, .ref m_readRule, .ref m_teeth, .ref m_readTeeth, .ref m_sway, .ref m_readSway, .ref m_isTold, .ref m_markKind, .ref m_markValue, .ref m_marks, .int 5, .int 0, .ref m_pile, .ref m_height, .ref m_leftPass, .ref m_leftTurn, .ref m_leftTooth, .ref m_leftX, .int 0, .int 0, .ref m_kept, .ref m_keptWear, .int 0, .ref m_now, .ref m_passed, .int 0, .int 0, .int 0, .ref m_planTime, .ref m_planMany, .ref m_planned, .ref m_isQuiet, .int 0, .int 0, .ref m_keptTeeth, .int 0, .int 0, .ref m_jobRing, .ref m_jobSpeed, .ref m_jobFeed, .ref m_jobTurns, .ref m_orderRow, .ref m_bestRow, .int 0, .ref m_orderTold, .int 0, .int 0, .int 0, .int 0, .ref m_offerRing, .ref m_offerSpeed, .ref m_offerFeed, .ref m_offerTurns, .ref m_heardOffer, .ref m_heardVerdict, .ref m_heardAt, .ref m_rightOf, .ref m_rightVerdict, .ref m_rightAt, .ref m_verdictOf, .ref m_sound, .ref m_readSound, .int 0])), (m_tape, .inl (cB, 1000, .inl (upd (upd f 12 (vp_nar .byte ((v >>> (24 &&& 31)).toInt8.toInt32))) 13 (vp_nar .byte ((v >>> (16 &&& 31)).toInt8.toInt32)))))] rfl dX13_lay_27 ?_
  refine g_iinc F (j := 0) 8 [(2, .int 8), (0, .ref m0), (1, .int v)] dX13_lay_30 rfl (by decide) (by decide) rfl ?_
  refine g_goto F 3 dX13_lay_33 (by decide) ?_
  refine g_iload_n F 0 dX13_lay_3 rfl rfl ?_
  refine g_if_lt F 36 dX13_lay_4 (by decide) (fun h9 => absurd h9 (by decide)) (fun c_4 => ?_)
  refine g_aload_n F 1 dX13_lay_7 rfl rfl ?_
  refine g_get (C := RX13) (T := TX13) (N := 73) (v := .ref m_tape) F i_X13 0 rfl rfl 1 (by decide) w_0 rfl rfl dX13_lay_8 ?_
  refine g_aload_n F 1 dX13_lay_11 rfl rfl ?_
  refine g_get (C := RX13) (T := TX13) (N := 73) (v := .int 14) F i_X13 0 rfl rfl 2 (by decide) w_1 rfl rfl dX13_lay_12 ?_
  refine g_iload_n F 2 dX13_lay_15 rfl rfl ?_
  refine g_iload_n F 0 dX13_lay_16 rfl rfl ?_
  refine g_ishr F dX13_lay_17 ?_
  refine g_i2b F dX13_lay_18 ?_
  refine g_bast F 1 0 rfl rfl (by unfold vp_in; decide) [(m0, .inr (12, [.ref m_stop, .ref m_tape, .int 14, .int 0, .int 0, .int 0, .int 0, .int 0, .int 0, .int (-1), .ref m_rule, .ref m_readRule, .ref m_teeth, .ref m_readTeeth, .ref m_sway, .ref m_readSway, .ref m_isTold, .ref m_markKind, .ref m_markValue, .ref m_marks, .int 5, .int 0, .ref m_pile, .ref m_height, .ref m_leftPass, .ref m_leftTurn, .ref m_leftTooth, .ref m_leftX, .int 0, .int 0, .ref m_kept, .ref m_keptWear, .int 0, .ref m_now, .ref m_passed, .int 0, .int 0, .int 0, .ref m_planTime, .ref m_planMany, .ref m_planned, .ref m_isQuiet, .int 0, .int 0, .ref m_keptTeeth, .int 0, .int 0, .ref m_jobRing, .ref m_jobSpeed, .ref m_jobFeed, .ref m_jobTurns, .ref m_orderRow, .ref m_bestRow, .int 0, .ref m_orderTold, .int 0, .int 0, .int 0, .int 0, .ref m_offerRing, .ref m_offerSpeed, .ref m_offerFeed, .ref m_offerTurns, .ref m_heardOffer, .ref m_heardVerdict, .ref m_heardAt, .ref m_rightOf, .ref m_rightVerdict, .ref m_rightAt, .ref m_verdictOf, .ref m_sound, .ref m_readSound, .int 0])), (m_tape, .inl (cB, 1000, .inl (upd (upd (upd f 12 (vp_nar .byte ((v >>> (24 &&& 31)).toInt8.toInt32))) 13 (vp_nar .byte ((v >>> (16 &&& 31)).toInt8.toInt32))) 14 (vp_nar .byte ((v >>> (8 &&& 31)).toInt8.toInt32)))))] (rfl) dX13_lay_19 ?_
  refine g_aload_n F 1 dX13_lay_20 rfl rfl ?_
  refine g_dup F dX13_lay_21 rfl ?_
  refine g_get (C := RX13) (T := TX13) (N := 73) (v := .int 14) F i_X13 0 rfl rfl 2 (by decide) w_1 rfl rfl dX13_lay_22 ?_
  refine g_iconst F 1 dX13_lay_25 (by decide) ?_
  refine g_iadd F dX13_lay_26 ?_
  refine g_fold 15 (by decide) ?_
  refine g_put (C := RX13) (T := TX13) (N := 73) (ty := .int) (v := .int 15) F i_X13 0 rfl rfl 2 (by decide) w_1 rfl tyX13 tyX13_ok nmX13 rfl (by decide +kernel) rfl rfl (Nat.le_of_ble_eq_true rfl) [(m0, .inr (12, [.ref m_stop, .ref m_tape, .int 15, .int 0, .int 0, .int 0, .int 0, .int 0, .int 0, .int (-1), .ref m_rule, .ref m_readRule, .ref m_teeth, .ref m_readTeeth, .ref m_sway, .ref m_readSway, .ref m_isTold, .ref m_markKind, .ref m_markValue, .ref m_marks, .int 5, .int 0, .ref m_pile, .ref m_height, .ref m_leftPass, .ref m_leftTurn, .ref m_leftTooth, .ref m_leftX, .int 0, .int 0, .ref m_kept, .ref m_keptWear, .int 0, .ref m_now, .ref m_passed, .int 0, .int 0, .int 0, .ref m_planTime, .ref m_planMany, .ref m_planned, .ref m_isQuiet, .int 0, .int 0, .ref m_keptTeeth, .int 0, .int 0, .ref m_jobRing, .ref m_jobSpeed, .ref m_jobFeed, .ref m_jobTurns, .ref m_orderRow, .ref m_bestRow, .int 0, .ref m_orderTold, .int 0, .int 0, .int 0, .int 0, .ref m_offerRing, .ref m_offerSpeed, .ref m_offerFeed, .ref m_offerTurns, .ref m_heardOffer, .ref m_heardVerdict, .ref m_heardAt, .ref m_rightOf, .ref m_rightVerdict, .ref m_rightAt, .ref m_verdictOf, .ref m_sound, .ref m_readSound, .int 0])), (m_tape, .inl (cB, 1000, .inl (upd (upd (upd f 12 (vp_nar .byte ((v >>> (24 &&& 31)).toInt8.toInt32))) 13 (vp_nar .byte ((v >>> (16 &&& 31)).toInt8.toInt32))) 14 (vp_nar .byte ((v >>> (8 &&& 31)).toInt8.toInt32)))))] rfl dX13_lay_27 ?_
  refine g_iinc F (j := 0) 0 [(2, .int 0), (0, .ref m0), (1, .int v)] dX13_lay_30 rfl (by decide) (by decide) rfl ?_
  refine g_goto F 3 dX13_lay_33 (by decide) ?_
  refine g_iload_n F 0 dX13_lay_3 rfl rfl ?_
  refine g_if_lt F 36 dX13_lay_4 (by decide) (fun h9 => absurd h9 (by decide)) (fun c_4 => ?_)
  refine g_aload_n F 1 dX13_lay_7 rfl rfl ?_
  refine g_get (C := RX13) (T := TX13) (N := 73) (v := .ref m_tape) F i_X13 0 rfl rfl 1 (by decide) w_0 rfl rfl dX13_lay_8 ?_
  refine g_aload_n F 1 dX13_lay_11 rfl rfl ?_
  refine g_get (C := RX13) (T := TX13) (N := 73) (v := .int 15) F i_X13 0 rfl rfl 2 (by decide) w_1 rfl rfl dX13_lay_12 ?_
  refine g_iload_n F 2 dX13_lay_15 rfl rfl ?_
  refine g_iload_n F 0 dX13_lay_16 rfl rfl ?_
  refine g_ishr F dX13_lay_17 ?_
  refine g_i2b F dX13_lay_18 ?_
  refine g_bast F 1 0 rfl rfl (by unfold vp_in; decide) [(m0, .inr (12, [.ref m_stop, .ref m_tape, .int 15, .int 0, .int 0, .int 0, .int 0, .int 0, .int 0, .int (-1), .ref m_rule, .ref m_readRule, .ref m_teeth, .ref m_readTeeth, .ref m_sway, .ref m_readSway, .ref m_isTold, .ref m_markKind, .ref m_markValue, .ref m_marks, .int 5, .int 0, .ref m_pile, .ref m_height, .ref m_leftPass, .ref m_leftTurn, .ref m_leftTooth, .ref m_leftX, .int 0, .int 0, .ref m_kept, .ref m_keptWear, .int 0, .ref m_now, .ref m_passed, .int 0, .int 0, .int 0, .ref m_planTime, .ref m_planMany, .ref m_planned, .ref m_isQuiet, .int 0, .int 0, .ref m_keptTeeth, .int 0, .int 0, .ref m_jobRing, .ref m_jobSpeed, .ref m_jobFeed, .ref m_jobTurns, .ref m_orderRow, .ref m_bestRow, .int 0, .ref m_orderTold, .int 0, .int 0, .int 0, .int 0, .ref m_offerRing, .ref m_offerSpeed, .ref m_offerFeed, .ref m_offerTurns, .ref m_heardOffer, .ref m_heardVerdict, .ref m_heardAt, .ref m_rightOf, .ref m_rightVerdict, .ref m_rightAt, .ref m_verdictOf, .ref m_sound, .ref m_readSound, .int 0])), (m_tape, .inl (cB, 1000, .inl (upd (upd (upd (upd f 12 (vp_nar .byte ((v >>> (24 &&& 31)).toInt8.toInt32))) 13 (vp_nar .byte ((v >>> (16 &&& 31)).toInt8.toInt32))) 14 (vp_nar .byte ((v >>> (8 &&& 31)).toInt8.toInt32))) 15 (vp_nar .byte ((v >>> (0 &&& 31)).toInt8.toInt32)))))] (rfl) dX13_lay_19 ?_
  refine g_aload_n F 1 dX13_lay_20 rfl rfl ?_
  refine g_dup F dX13_lay_21 rfl ?_
  refine g_get (C := RX13) (T := TX13) (N := 73) (v := .int 15) F i_X13 0 rfl rfl 2 (by decide) w_1 rfl rfl dX13_lay_22 ?_
  refine g_iconst F 1 dX13_lay_25 (by decide) ?_
  refine g_iadd F dX13_lay_26 ?_
  refine g_fold 16 (by decide) ?_
  refine g_put (C := RX13) (T := TX13) (N := 73) (ty := .int) (v := .int 16) F i_X13 0 rfl rfl 2 (by decide) w_1 rfl tyX13 tyX13_ok nmX13 rfl (by decide +kernel) rfl rfl (Nat.le_of_ble_eq_true rfl) [(m0, .inr (12, [.ref m_stop, .ref m_tape, .int 16, .int 0, .int 0, .int 0, .int 0, .int 0, .int 0, .int (-1), .ref m_rule, .ref m_readRule, .ref m_teeth, .ref m_readTeeth, .ref m_sway, .ref m_readSway, .ref m_isTold, .ref m_markKind, .ref m_markValue, .ref m_marks, .int 5, .int 0, .ref m_pile, .ref m_height, .ref m_leftPass, .ref m_leftTurn, .ref m_leftTooth, .ref m_leftX, .int 0, .int 0, .ref m_kept, .ref m_keptWear, .int 0, .ref m_now, .ref m_passed, .int 0, .int 0, .int 0, .ref m_planTime, .ref m_planMany, .ref m_planned, .ref m_isQuiet, .int 0, .int 0, .ref m_keptTeeth, .int 0, .int 0, .ref m_jobRing, .ref m_jobSpeed, .ref m_jobFeed, .ref m_jobTurns, .ref m_orderRow, .ref m_bestRow, .int 0, .ref m_orderTold, .int 0, .int 0, .int 0, .int 0, .ref m_offerRing, .ref m_offerSpeed, .ref m_offerFeed, .ref m_offerTurns, .ref m_heardOffer, .ref m_heardVerdict, .ref m_heardAt, .ref m_rightOf, .ref m_rightVerdict, .ref m_rightAt, .ref m_verdictOf, .ref m_sound, .ref m_readSound, .int 0])), (m_tape, .inl (cB, 1000, .inl (upd (upd (upd (upd f 12 (vp_nar .byte ((v >>> (24 &&& 31)).toInt8.toInt32))) 13 (vp_nar .byte ((v >>> (16 &&& 31)).toInt8.toInt32))) 14 (vp_nar .byte ((v >>> (8 &&& 31)).toInt8.toInt32))) 15 (vp_nar .byte ((v >>> (0 &&& 31)).toInt8.toInt32)))))] rfl dX13_lay_27 ?_
  refine g_iinc F (j := 0) (-8) [(2, .int (-8)), (0, .ref m0), (1, .int v)] dX13_lay_30 rfl (by decide) (by decide) rfl ?_
  refine g_goto F 3 dX13_lay_33 (by decide) ?_
  refine g_iload_n F 0 dX13_lay_3 rfl rfl ?_
  refine g_if_lt F 36 dX13_lay_4 (by decide) (fun c_4 => ?_) (fun h9 => absurd (by decide) h9) 
  exact g_vret F hA hQ hr () (trivial) [0, 1] [0] rfl (by decide) rfl rfl dX13_lay_36


set_option maxHeartbeats 4000000 in
set_option maxRecDepth 100000 in
theorem K_X13_lay16 (l : Launch) (D : va_G) (m0 : Nat) (m_stop : Nat) (m_tape : Nat) (m_rule : Nat) (m_readRule : Nat) (m_teeth : Nat) (m_readTeeth : Nat) (m_sway : Nat) (m_readSway : Nat) (m_isTold : Nat) (m_markKind : Nat) (m_markValue : Nat) (m_marks : Nat) (m_pile : Nat) (m_height : Nat) (m_leftPass : Nat) (m_leftTurn : Nat) (m_leftTooth : Nat) (m_leftX : Nat) (m_kept : Nat) (m_keptWear : Nat) (m_now : Nat) (m_passed : Nat) (m_planTime : Nat) (m_planMany : Nat) (m_planned : Nat) (m_isQuiet : Nat) (m_keptTeeth : Nat) (m_jobRing : Nat) (m_jobSpeed : Nat) (m_jobFeed : Nat) (m_jobTurns : Nat) (m_orderRow : Nat) (m_bestRow : Nat) (m_orderTold : Nat) (m_offerRing : Nat) (m_offerSpeed : Nat) (m_offerFeed : Nat) (m_offerTurns : Nat) (m_heardOffer : Nat) (m_heardVerdict : Nat) (m_heardAt : Nat) (m_rightOf : Nat) (m_rightVerdict : Nat) (m_rightAt : Nat) (m_verdictOf : Nat) (m_sound : Nat) (m_readSound : Nat) (cB : ClassId) (f : Nat → Int32) (v : Int32) (sz : Nat) : Kv l yX13_lay wsX13_lay 1 30 0 0 D [.ref m0, .int v] [(m0, .inr (12, [.ref m_stop, .ref m_tape, .int 16, .int 0, .int 0, .int 0, .int 0, .int 0, .int 0, .int (-1), .ref m_rule, .ref m_readRule, .ref m_teeth, .ref m_readTeeth, .ref m_sway, .ref m_readSway, .ref m_isTold, .ref m_markKind, .ref m_markValue, .ref m_marks, .int 5, .int 0, .ref m_pile, .ref m_height, .ref m_leftPass, .ref m_leftTurn, .ref m_leftTooth, .ref m_leftX, .int 0, .int 0, .ref m_kept, .ref m_keptWear, .int 0, .ref m_now, .ref m_passed, .int 0, .int 0, .int 0, .ref m_planTime, .ref m_planMany, .ref m_planned, .ref m_isQuiet, .int 0, .int 0, .ref m_keptTeeth, .int 0, .int 0, .ref m_jobRing, .ref m_jobSpeed, .ref m_jobFeed, .ref m_jobTurns, .ref m_orderRow, .ref m_bestRow, .int 0, .ref m_orderTold, .int 0, .int 0, .int 0, .int 0, .ref m_offerRing, .ref m_offerSpeed, .ref m_offerFeed, .ref m_offerTurns, .ref m_heardOffer, .ref m_heardVerdict, .ref m_heardAt, .ref m_rightOf, .ref m_rightVerdict, .ref m_rightAt, .ref m_verdictOf, .ref m_sound, .ref m_readSound, .int 0])), (m_tape, .inl (cB, 1000, .inl f))] [(cB, .byte)] sz (fun (_ : Unit) => True) (fun (_ : Unit) => [(m0, .inr (12, [.ref m_stop, .ref m_tape, .int 20, .int 0, .int 0, .int 0, .int 0, .int 0, .int 0, .int (-1), .ref m_rule, .ref m_readRule, .ref m_teeth, .ref m_readTeeth, .ref m_sway, .ref m_readSway, .ref m_isTold, .ref m_markKind, .ref m_markValue, .ref m_marks, .int 5, .int 0, .ref m_pile, .ref m_height, .ref m_leftPass, .ref m_leftTurn, .ref m_leftTooth, .ref m_leftX, .int 0, .int 0, .ref m_kept, .ref m_keptWear, .int 0, .ref m_now, .ref m_passed, .int 0, .int 0, .int 0, .ref m_planTime, .ref m_planMany, .ref m_planned, .ref m_isQuiet, .int 0, .int 0, .ref m_keptTeeth, .int 0, .int 0, .ref m_jobRing, .ref m_jobSpeed, .ref m_jobFeed, .ref m_jobTurns, .ref m_orderRow, .ref m_bestRow, .int 0, .ref m_orderTold, .int 0, .int 0, .int 0, .int 0, .ref m_offerRing, .ref m_offerSpeed, .ref m_offerFeed, .ref m_offerTurns, .ref m_heardOffer, .ref m_heardVerdict, .ref m_heardAt, .ref m_rightOf, .ref m_rightVerdict, .ref m_rightAt, .ref m_verdictOf, .ref m_sound, .ref m_readSound, .int 0])), (m_tape, .inl (cB, 1000, .inl (upd (upd (upd (upd f 16 (vp_nar .byte (v >>> (24 &&& 31)).toInt8.toInt32)) 17 (vp_nar .byte (v >>> (16 &&& 31)).toInt8.toInt32)) 18 (vp_nar .byte (v >>> (8 &&& 31)).toInt8.toInt32)) 19 (vp_nar .byte (v >>> (0 &&& 31)).toInt8.toInt32))))]) (fun (_ : Unit) => [(cB, .byte)]) := by
  unfold Kv
  refine g_ofW (cc := cX13_lay) (lv := [(0, .ref m0), (1, .int v)]) (by decide) rfl (Nat.le_of_ble_eq_true rfl) rfl ?_
  intro p e s m args below meth c A Q hA hQ F hr hnm
  have hts := F.2.2.2.2.1
  have w_0 : (Cond.fieldLink RX13 20 "QuietCutModel" "tape" "[B").before args s = true := hts _ (List.mem_of_getElem? (i := 1) rfl)
  have i_X13 : ∀ w ∈ u_ws RX13 TX13 73, w ∈ wsX13_lay := fun _ h => List.mem_cons_of_mem _ (List.mem_append_right _ h)
  have w_1 : (Cond.fieldLink RX13 73 "QuietCutModel" "taped" "I").before args s = true := hts _ (List.mem_of_getElem? (i := 2) rfl)
  refine g_bipush F 24 dX13_lay_0 (by decide) ?_
  refine g_istore_n F [(2, .int 24), (0, .ref m0), (1, .int v)] dX13_lay_2 rfl (by decide) rfl ?_
  refine g_iload_n F 0 dX13_lay_3 rfl rfl ?_
  refine g_if_lt F 36 dX13_lay_4 (by decide) (fun h9 => absurd h9 (by decide)) (fun c_4 => ?_)
  refine g_aload_n F 1 dX13_lay_7 rfl rfl ?_
  refine g_get (C := RX13) (T := TX13) (N := 73) (v := .ref m_tape) F i_X13 0 rfl rfl 1 (by decide) w_0 rfl rfl dX13_lay_8 ?_
  refine g_aload_n F 1 dX13_lay_11 rfl rfl ?_
  refine g_get (C := RX13) (T := TX13) (N := 73) (v := .int 16) F i_X13 0 rfl rfl 2 (by decide) w_1 rfl rfl dX13_lay_12 ?_
  refine g_iload_n F 2 dX13_lay_15 rfl rfl ?_
  refine g_iload_n F 0 dX13_lay_16 rfl rfl ?_
  refine g_ishr F dX13_lay_17 ?_
  refine g_i2b F dX13_lay_18 ?_
  refine g_bast F 1 0 rfl rfl (by unfold vp_in; decide) [(m0, .inr (12, [.ref m_stop, .ref m_tape, .int 16, .int 0, .int 0, .int 0, .int 0, .int 0, .int 0, .int (-1), .ref m_rule, .ref m_readRule, .ref m_teeth, .ref m_readTeeth, .ref m_sway, .ref m_readSway, .ref m_isTold, .ref m_markKind, .ref m_markValue, .ref m_marks, .int 5, .int 0, .ref m_pile, .ref m_height, .ref m_leftPass, .ref m_leftTurn, .ref m_leftTooth, .ref m_leftX, .int 0, .int 0, .ref m_kept, .ref m_keptWear, .int 0, .ref m_now, .ref m_passed, .int 0, .int 0, .int 0, .ref m_planTime, .ref m_planMany, .ref m_planned, .ref m_isQuiet, .int 0, .int 0, .ref m_keptTeeth, .int 0, .int 0, .ref m_jobRing, .ref m_jobSpeed, .ref m_jobFeed, .ref m_jobTurns, .ref m_orderRow, .ref m_bestRow, .int 0, .ref m_orderTold, .int 0, .int 0, .int 0, .int 0, .ref m_offerRing, .ref m_offerSpeed, .ref m_offerFeed, .ref m_offerTurns, .ref m_heardOffer, .ref m_heardVerdict, .ref m_heardAt, .ref m_rightOf, .ref m_rightVerdict, .ref m_rightAt, .ref m_verdictOf, .ref m_sound, .ref m_readSound, .int 0])), (m_tape, .inl (cB, 1000, .inl (upd f 16 (vp_nar .byte ((v >>> (24 &&& 31)).toInt8.toInt32)))))] (rfl) dX13_lay_19 ?_
  refine g_aload_n F 1 dX13_lay_20 rfl rfl ?_
  refine g_dup F dX13_lay_21 rfl ?_
  refine g_get (C := RX13) (T := TX13) (N := 73) (v := .int 16) F i_X13 0 rfl rfl 2 (by decide) w_1 rfl rfl dX13_lay_22 ?_
  refine g_iconst F 1 dX13_lay_25 (by decide) ?_
  refine g_iadd F dX13_lay_26 ?_
  refine g_fold 17 (by decide) ?_
  refine g_put (C := RX13) (T := TX13) (N := 73) (ty := .int) (v := .int 17) F i_X13 0 rfl rfl 2 (by decide) w_1 rfl tyX13 tyX13_ok nmX13 rfl (by decide +kernel) rfl rfl (Nat.le_of_ble_eq_true rfl) [(m0, .inr (12, [.ref m_stop, .ref m_tape, .int 17, .int 0, .int 0, .int 0, .int 0, .int 0, .int 0, .int (-1), .ref m_rule, .ref m_readRule, .ref m_teeth, .ref m_readTeeth, .ref m_sway, .ref m_readSway, .ref m_isTold, .ref m_markKind, .ref m_markValue, .ref m_marks, .int 5, .int 0, .ref m_pile, .ref m_height, .ref m_leftPass, .ref m_leftTurn, .ref m_leftTooth, .ref m_leftX, .int 0, .int 0, .ref m_kept, .ref m_keptWear, .int 0, .ref m_now, .ref m_passed, .int 0, .int 0, .int 0, .ref m_planTime, .ref m_planMany, .ref m_planned, .ref m_isQuiet, .int 0, .int 0, .ref m_keptTeeth, .int 0, .int 0, .ref m_jobRing, .ref m_jobSpeed, .ref m_jobFeed, .ref m_jobTurns, .ref m_orderRow, .ref m_bestRow, .int 0, .ref m_orderTold, .int 0, .int 0, .int 0, .int 0, .ref m_offerRing, .ref m_offerSpeed, .ref m_offerFeed, .ref m_offerTurns, .ref m_heardOffer, .ref m_heardVerdict, .ref m_heardAt, .ref m_rightOf, .ref m_rightVerdict, .ref m_rightAt, .ref m_verdictOf, .ref m_sound, .ref m_readSound, .int 0])), (m_tape, .inl (cB, 1000, .inl (upd f 16 (vp_nar .byte ((v >>> (24 &&& 31)).toInt8.toInt32)))))] rfl dX13_lay_27 ?_
  refine g_iinc F (j := 0) 16 [(2, .int 16), (0, .ref m0), (1, .int v)] dX13_lay_30 rfl (by decide) (by decide) rfl ?_
  refine g_goto F 3 dX13_lay_33 (by decide) ?_
  refine g_iload_n F 0 dX13_lay_3 rfl rfl ?_
  refine g_if_lt F 36 dX13_lay_4 (by decide) (fun h9 => absurd h9 (by decide)) (fun c_4 => ?_)
  refine g_aload_n F 1 dX13_lay_7 rfl rfl ?_
  refine g_get (C := RX13) (T := TX13) (N := 73) (v := .ref m_tape) F i_X13 0 rfl rfl 1 (by decide) w_0 rfl rfl dX13_lay_8 ?_
  refine g_aload_n F 1 dX13_lay_11 rfl rfl ?_
  refine g_get (C := RX13) (T := TX13) (N := 73) (v := .int 17) F i_X13 0 rfl rfl 2 (by decide) w_1 rfl rfl dX13_lay_12 ?_
  refine g_iload_n F 2 dX13_lay_15 rfl rfl ?_
  refine g_iload_n F 0 dX13_lay_16 rfl rfl ?_
  refine g_ishr F dX13_lay_17 ?_
  refine g_i2b F dX13_lay_18 ?_
  refine g_bast F 1 0 rfl rfl (by unfold vp_in; decide) [(m0, .inr (12, [.ref m_stop, .ref m_tape, .int 17, .int 0, .int 0, .int 0, .int 0, .int 0, .int 0, .int (-1), .ref m_rule, .ref m_readRule, .ref m_teeth, .ref m_readTeeth, .ref m_sway, .ref m_readSway, .ref m_isTold, .ref m_markKind, .ref m_markValue, .ref m_marks, .int 5, .int 0, .ref m_pile, .ref m_height, .ref m_leftPass, .ref m_leftTurn, .ref m_leftTooth, .ref m_leftX, .int 0, .int 0, .ref m_kept, .ref m_keptWear, .int 0, .ref m_now, .ref m_passed, .int 0, .int 0, .int 0, .ref m_planTime, .ref m_planMany, .ref m_planned, .ref m_isQuiet, .int 0, .int 0, .ref m_keptTeeth, .int 0, .int 0, .ref m_jobRing, .ref m_jobSpeed, .ref m_jobFeed, .ref m_jobTurns, .ref m_orderRow, .ref m_bestRow, .int 0, .ref m_orderTold, .int 0, .int 0, .int 0, .int 0, .ref m_offerRing, .ref m_offerSpeed, .ref m_offerFeed, .ref m_offerTurns, .ref m_heardOffer, .ref m_heardVerdict, .ref m_heardAt, .ref m_rightOf, .ref m_rightVerdict, .ref m_rightAt, .ref m_verdictOf, .ref m_sound, .ref m_readSound, .int 0])), (m_tape, .inl (cB, 1000, .inl (upd (upd f 16 (vp_nar .byte ((v >>> (24 &&& 31)).toInt8.toInt32))) 17 (vp_nar .byte ((v >>> (16 &&& 31)).toInt8.toInt32)))))] (rfl) dX13_lay_19 ?_
  refine g_aload_n F 1 dX13_lay_20 rfl rfl ?_
  refine g_dup F dX13_lay_21 rfl ?_
  refine g_get (C := RX13) (T := TX13) (N := 73) (v := .int 17) F i_X13 0 rfl rfl 2 (by decide) w_1 rfl rfl dX13_lay_22 ?_
  refine g_iconst F 1 dX13_lay_25 (by decide) ?_
  refine g_iadd F dX13_lay_26 ?_
  refine g_fold 18 (by decide) ?_
  refine g_put (C := RX13) (T := TX13) (N := 73) (ty := .int) (v := .int 18) F i_X13 0 rfl rfl 2 (by decide) w_1 rfl tyX13 tyX13_ok nmX13 rfl (by decide +kernel) rfl rfl (Nat.le_of_ble_eq_true rfl) [(m0, .inr (12, [.ref m_stop, .ref m_tape, .int 18, .int 0, .int 0, .int 0, .int 0, .int 0, .int 0, .int (-1), .ref m_rule, .ref m_readRule, .ref m_teeth, .ref m_readTeeth, .ref m_sway, .ref m_readSway, .ref m_isTold, .ref m_markKind, .ref m_markValue, .ref m_marks, .int 5, .int 0, .ref m_pile, .ref m_height, .ref m_leftPass, .ref m_leftTurn, .ref m_leftTooth, .ref m_leftX, .int 0, .int 0, .ref m_kept, .ref m_keptWear, .int 0, .ref m_now, .ref m_passed, .int 0, .int 0, .int 0, .ref m_planTime, .ref m_planMany, .ref m_planned, .ref m_isQuiet, .int 0, .int 0, .ref m_keptTeeth, .int 0, .int 0, .ref m_jobRing, .ref m_jobSpeed, .ref m_jobFeed, .ref m_jobTurns, .ref m_orderRow, .ref m_bestRow, .int 0, .ref m_orderTold, .int 0, .int 0, .int 0, .int 0, .ref m_offerRing, .ref m_offerSpeed, .ref m_offerFeed, .ref m_offerTurns, .ref m_heardOffer, .ref m_heardVerdict, .ref m_heardAt, .ref m_rightOf, .ref m_rightVerdict, .ref m_rightAt, .ref m_verdictOf, .ref m_sound, .ref m_readSound, .int 0])), (m_tape, .inl (cB, 1000, .inl (upd (upd f 16 (vp_nar .byte ((v >>> (24 &&& 31)).toInt8.toInt32))) 17 (vp_nar .byte ((v >>> (16 &&& 31)).toInt8.toInt32)))))] rfl dX13_lay_27 ?_
  refine g_iinc F (j := 0) 8 [(2, .int 8), (0, .ref m0), (1, .int v)] dX13_lay_30 rfl (by decide) (by decide) rfl ?_
  refine g_goto F 3 dX13_lay_33 (by decide) ?_
  refine g_iload_n F 0 dX13_lay_3 rfl rfl ?_
  refine g_if_lt F 36 dX13_lay_4 (by decide) (fun h9 => absurd h9 (by decide)) (fun c_4 => ?_)
  refine g_aload_n F 1 dX13_lay_7 rfl rfl ?_
  refine g_get (C := RX13) (T := TX13) (N := 73) (v := .ref m_tape) F i_X13 0 rfl rfl 1 (by decide) w_0 rfl rfl dX13_lay_8 ?_
  refine g_aload_n F 1 dX13_lay_11 rfl rfl ?_
  refine g_get (C := RX13) (T := TX13) (N := 73) (v := .int 18) F i_X13 0 rfl rfl 2 (by decide) w_1 rfl rfl dX13_lay_12 ?_
  refine g_iload_n F 2 dX13_lay_15 rfl rfl ?_
  refine g_iload_n F 0 dX13_lay_16 rfl rfl ?_
  refine g_ishr F dX13_lay_17 ?_
  refine g_i2b F dX13_lay_18 ?_
  refine g_bast F 1 0 rfl rfl (by unfold vp_in; decide) [(m0, .inr (12, [.ref m_stop, .ref m_tape, .int 18, .int 0, .int 0, .int 0, .int 0, .int 0, .int 0, .int (-1), .ref m_rule, .ref m_readRule, .ref m_teeth, .ref m_readTeeth, .ref m_sway, .ref m_readSway, .ref m_isTold, .ref m_markKind, .ref m_markValue, .ref m_marks, .int 5, .int 0, .ref m_pile, .ref m_height, .ref m_leftPass, .ref m_leftTurn, .ref m_leftTooth, .ref m_leftX, .int 0, .int 0, .ref m_kept, .ref m_keptWear, .int 0, .ref m_now, .ref m_passed, .int 0, .int 0, .int 0, .ref m_planTime, .ref m_planMany, .ref m_planned, .ref m_isQuiet, .int 0, .int 0, .ref m_keptTeeth, .int 0, .int 0, .ref m_jobRing, .ref m_jobSpeed, .ref m_jobFeed, .ref m_jobTurns, .ref m_orderRow, .ref m_bestRow, .int 0, .ref m_orderTold, .int 0, .int 0, .int 0, .int 0, .ref m_offerRing, .ref m_offerSpeed, .ref m_offerFeed, .ref m_offerTurns, .ref m_heardOffer, .ref m_heardVerdict, .ref m_heardAt, .ref m_rightOf, .ref m_rightVerdict, .ref m_rightAt, .ref m_verdictOf, .ref m_sound, .ref m_readSound, .int 0])), (m_tape, .inl (cB, 1000, .inl (upd (upd (upd f 16 (vp_nar .byte ((v >>> (24 &&& 31)).toInt8.toInt32))) 17 (vp_nar .byte ((v >>> (16 &&& 31)).toInt8.toInt32))) 18 (vp_nar .byte ((v >>> (8 &&& 31)).toInt8.toInt32)))))] (rfl) dX13_lay_19 ?_
  refine g_aload_n F 1 dX13_lay_20 rfl rfl ?_
  refine g_dup F dX13_lay_21 rfl ?_
  refine g_get (C := RX13) (T := TX13) (N := 73) (v := .int 18) F i_X13 0 rfl rfl 2 (by decide) w_1 rfl rfl dX13_lay_22 ?_
  refine g_iconst F 1 dX13_lay_25 (by decide) ?_
  refine g_iadd F dX13_lay_26 ?_
  refine g_fold 19 (by decide) ?_
  refine g_put (C := RX13) (T := TX13) (N := 73) (ty := .int) (v := .int 19) F i_X13 0 rfl rfl 2 (by decide) w_1 rfl tyX13 tyX13_ok nmX13 rfl (by decide +kernel) rfl rfl (Nat.le_of_ble_eq_true rfl) [(m0, .inr (12, [.ref m_stop, .ref m_tape, .int 19, .int 0, .int 0, .int 0, .int 0, .int 0, .int 0, .int (-1), .ref m_rule, .ref m_readRule, .ref m_teeth, .ref m_readTeeth, .ref m_sway, .ref m_readSway, .ref m_isTold, .ref m_markKind, .ref m_markValue, .ref m_marks, .int 5, .int 0, .ref m_pile, .ref m_height, .ref m_leftPass, .ref m_leftTurn, .ref m_leftTooth, .ref m_leftX, .int 0, .int 0, .ref m_kept, .ref m_keptWear, .int 0, .ref m_now, .ref m_passed, .int 0, .int 0, .int 0, .ref m_planTime, .ref m_planMany, .ref m_planned, .ref m_isQuiet, .int 0, .int 0, .ref m_keptTeeth, .int 0, .int 0, .ref m_jobRing, .ref m_jobSpeed, .ref m_jobFeed, .ref m_jobTurns, .ref m_orderRow, .ref m_bestRow, .int 0, .ref m_orderTold, .int 0, .int 0, .int 0, .int 0, .ref m_offerRing, .ref m_offerSpeed, .ref m_offerFeed, .ref m_offerTurns, .ref m_heardOffer, .ref m_heardVerdict, .ref m_heardAt, .ref m_rightOf, .ref m_rightVerdict, .ref m_rightAt, .ref m_verdictOf, .ref m_sound, .ref m_readSound, .int 0])), (m_tape, .inl (cB, 1000, .inl (upd (upd (upd f 16 (vp_nar .byte ((v >>> (24 &&& 31)).toInt8.toInt32))) 17 (vp_nar .byte ((v >>> (16 &&& 31)).toInt8.toInt32))) 18 (vp_nar .byte ((v >>> (8 &&& 31)).toInt8.toInt32)))))] rfl dX13_lay_27 ?_
  refine g_iinc F (j := 0) 0 [(2, .int 0), (0, .ref m0), (1, .int v)] dX13_lay_30 rfl (by decide) (by decide) rfl ?_
  refine g_goto F 3 dX13_lay_33 (by decide) ?_
  refine g_iload_n F 0 dX13_lay_3 rfl rfl ?_
  refine g_if_lt F 36 dX13_lay_4 (by decide) (fun h9 => absurd h9 (by decide)) (fun c_4 => ?_)
  refine g_aload_n F 1 dX13_lay_7 rfl rfl ?_
  refine g_get (C := RX13) (T := TX13) (N := 73) (v := .ref m_tape) F i_X13 0 rfl rfl 1 (by decide) w_0 rfl rfl dX13_lay_8 ?_
  refine g_aload_n F 1 dX13_lay_11 rfl rfl ?_
  refine g_get (C := RX13) (T := TX13) (N := 73) (v := .int 19) F i_X13 0 rfl rfl 2 (by decide) w_1 rfl rfl dX13_lay_12 ?_
  refine g_iload_n F 2 dX13_lay_15 rfl rfl ?_
  refine g_iload_n F 0 dX13_lay_16 rfl rfl ?_
  refine g_ishr F dX13_lay_17 ?_
  refine g_i2b F dX13_lay_18 ?_
  refine g_bast F 1 0 rfl rfl (by unfold vp_in; decide) [(m0, .inr (12, [.ref m_stop, .ref m_tape, .int 19, .int 0, .int 0, .int 0, .int 0, .int 0, .int 0, .int (-1), .ref m_rule, .ref m_readRule, .ref m_teeth, .ref m_readTeeth, .ref m_sway, .ref m_readSway, .ref m_isTold, .ref m_markKind, .ref m_markValue, .ref m_marks, .int 5, .int 0, .ref m_pile, .ref m_height, .ref m_leftPass, .ref m_leftTurn, .ref m_leftTooth, .ref m_leftX, .int 0, .int 0, .ref m_kept, .ref m_keptWear, .int 0, .ref m_now, .ref m_passed, .int 0, .int 0, .int 0, .ref m_planTime, .ref m_planMany, .ref m_planned, .ref m_isQuiet, .int 0, .int 0, .ref m_keptTeeth, .int 0, .int 0, .ref m_jobRing, .ref m_jobSpeed, .ref m_jobFeed, .ref m_jobTurns, .ref m_orderRow, .ref m_bestRow, .int 0, .ref m_orderTold, .int 0, .int 0, .int 0, .int 0, .ref m_offerRing, .ref m_offerSpeed, .ref m_offerFeed, .ref m_offerTurns, .ref m_heardOffer, .ref m_heardVerdict, .ref m_heardAt, .ref m_rightOf, .ref m_rightVerdict, .ref m_rightAt, .ref m_verdictOf, .ref m_sound, .ref m_readSound, .int 0])), (m_tape, .inl (cB, 1000, .inl (upd (upd (upd (upd f 16 (vp_nar .byte ((v >>> (24 &&& 31)).toInt8.toInt32))) 17 (vp_nar .byte ((v >>> (16 &&& 31)).toInt8.toInt32))) 18 (vp_nar .byte ((v >>> (8 &&& 31)).toInt8.toInt32))) 19 (vp_nar .byte ((v >>> (0 &&& 31)).toInt8.toInt32)))))] (rfl) dX13_lay_19 ?_
  refine g_aload_n F 1 dX13_lay_20 rfl rfl ?_
  refine g_dup F dX13_lay_21 rfl ?_
  refine g_get (C := RX13) (T := TX13) (N := 73) (v := .int 19) F i_X13 0 rfl rfl 2 (by decide) w_1 rfl rfl dX13_lay_22 ?_
  refine g_iconst F 1 dX13_lay_25 (by decide) ?_
  refine g_iadd F dX13_lay_26 ?_
  refine g_fold 20 (by decide) ?_
  refine g_put (C := RX13) (T := TX13) (N := 73) (ty := .int) (v := .int 20) F i_X13 0 rfl rfl 2 (by decide) w_1 rfl tyX13 tyX13_ok nmX13 rfl (by decide +kernel) rfl rfl (Nat.le_of_ble_eq_true rfl) [(m0, .inr (12, [.ref m_stop, .ref m_tape, .int 20, .int 0, .int 0, .int 0, .int 0, .int 0, .int 0, .int (-1), .ref m_rule, .ref m_readRule, .ref m_teeth, .ref m_readTeeth, .ref m_sway, .ref m_readSway, .ref m_isTold, .ref m_markKind, .ref m_markValue, .ref m_marks, .int 5, .int 0, .ref m_pile, .ref m_height, .ref m_leftPass, .ref m_leftTurn, .ref m_leftTooth, .ref m_leftX, .int 0, .int 0, .ref m_kept, .ref m_keptWear, .int 0, .ref m_now, .ref m_passed, .int 0, .int 0, .int 0, .ref m_planTime, .ref m_planMany, .ref m_planned, .ref m_isQuiet, .int 0, .int 0, .ref m_keptTeeth, .int 0, .int 0, .ref m_jobRing, .ref m_jobSpeed, .ref m_jobFeed, .ref m_jobTurns, .ref m_orderRow, .ref m_bestRow, .int 0, .ref m_orderTold, .int 0, .int 0, .int 0, .int 0, .ref m_offerRing, .ref m_offerSpeed, .ref m_offerFeed, .ref m_offerTurns, .ref m_heardOffer, .ref m_heardVerdict, .ref m_heardAt, .ref m_rightOf, .ref m_rightVerdict, .ref m_rightAt, .ref m_verdictOf, .ref m_sound, .ref m_readSound, .int 0])), (m_tape, .inl (cB, 1000, .inl (upd (upd (upd (upd f 16 (vp_nar .byte ((v >>> (24 &&& 31)).toInt8.toInt32))) 17 (vp_nar .byte ((v >>> (16 &&& 31)).toInt8.toInt32))) 18 (vp_nar .byte ((v >>> (8 &&& 31)).toInt8.toInt32))) 19 (vp_nar .byte ((v >>> (0 &&& 31)).toInt8.toInt32)))))] rfl dX13_lay_27 ?_
  refine g_iinc F (j := 0) (-8) [(2, .int (-8)), (0, .ref m0), (1, .int v)] dX13_lay_30 rfl (by decide) (by decide) rfl ?_
  refine g_goto F 3 dX13_lay_33 (by decide) ?_
  refine g_iload_n F 0 dX13_lay_3 rfl rfl ?_
  refine g_if_lt F 36 dX13_lay_4 (by decide) (fun c_4 => ?_) (fun h9 => absurd (by decide) h9) 
  exact g_vret F hA hQ hr () (trivial) [0, 1] [0] rfl (by decide) rfl rfl dX13_lay_36

theorem dX13_feed_0 : decode cX13_feed 0 = .ok (.aload_n 0, 1) := by decide +kernel
theorem dX13_feed_1 : decode cX13_feed 1 = .ok (.getfield 73, 3) := by decide +kernel
theorem dX13_feed_4 : decode cX13_feed 4 = .ok (.bipush 20, 2) := by decide +kernel
theorem dX13_feed_6 : decode cX13_feed 6 = .ok (.iadd, 1) := by decide +kernel
theorem dX13_feed_7 : decode cX13_feed 7 = .ok (.sipush 1000, 3) := by decide +kernel
theorem dX13_feed_10 : decode cX13_feed 10 = .ok (.if_icmp .le 6, 3) := by decide +kernel
theorem dX13_feed_13 : decode cX13_feed 13 = .ok (.bipush (-3), 2) := by decide +kernel
theorem dX13_feed_15 : decode cX13_feed 15 = .ok (.ireturn, 1) := by decide +kernel
theorem dX13_feed_16 : decode cX13_feed 16 = .ok (.aload_n 0, 1) := by decide +kernel
theorem dX13_feed_17 : decode cX13_feed 17 = .ok (.iload_n 1, 1) := by decide +kernel
theorem dX13_feed_18 : decode cX13_feed 18 = .ok (.invokevirtual 322, 3) := by decide +kernel
theorem dX13_feed_21 : decode cX13_feed 21 = .ok (.aload_n 0, 1) := by decide +kernel
theorem dX13_feed_22 : decode cX13_feed 22 = .ok (.iload_n 2, 1) := by decide +kernel
theorem dX13_feed_23 : decode cX13_feed 23 = .ok (.invokevirtual 322, 3) := by decide +kernel
theorem dX13_feed_26 : decode cX13_feed 26 = .ok (.aload_n 0, 1) := by decide +kernel
theorem dX13_feed_27 : decode cX13_feed 27 = .ok (.iload_n 3, 1) := by decide +kernel
theorem dX13_feed_28 : decode cX13_feed 28 = .ok (.invokevirtual 322, 3) := by decide +kernel
theorem dX13_feed_31 : decode cX13_feed 31 = .ok (.aload_n 0, 1) := by decide +kernel
theorem dX13_feed_32 : decode cX13_feed 32 = .ok (.iload 4, 2) := by decide +kernel
theorem dX13_feed_34 : decode cX13_feed 34 = .ok (.invokevirtual 322, 3) := by decide +kernel
theorem dX13_feed_37 : decode cX13_feed 37 = .ok (.aload_n 0, 1) := by decide +kernel
theorem dX13_feed_38 : decode cX13_feed 38 = .ok (.iload 5, 2) := by decide +kernel
theorem dX13_feed_40 : decode cX13_feed 40 = .ok (.invokevirtual 322, 3) := by decide +kernel
theorem dX13_feed_43 : decode cX13_feed 43 = .ok (.aload_n 0, 1) := by decide +kernel
theorem dX13_feed_44 : decode cX13_feed 44 = .ok (.getfield 73, 3) := by decide +kernel
theorem dX13_feed_47 : decode cX13_feed 47 = .ok (.ireturn, 1) := by decide +kernel
set_option maxRecDepth 20000 in
theorem ggX13_feed_X13_lay : GoodIn wsX13_feed wsX13_lay := goodIn_r _ [6, 7, 1, 8, 9, 10, 11, 12, 13, 14, 15, 16, 17, 18, 19, 20, 21, 22, 23, 24, 25, 26, 27, 28, 29, 30, 31, 32, 33, 34, 35, 36, 37, 38, 39, 40, 41, 42, 43, 44, 45, 46, 47, 48, 49, 50, 51, 52, 53, 54, 55, 56, 57, 58, 59, 60, 61, 62, 63, 64, 65, 66, 67, 68, 69, 70, 71, 72, 73, 74, 75, 76, 77, 78, 79, 80] rfl (by decide +kernel)
set_option maxRecDepth 20000 in
theorem gX13_feed_X13_lay : GoodIn wsX13_feed (wsV RX13 322 RX13 yX13_lay wsX13_lay) := goodIn_app (goodIn_of _ (by decide +kernel)) ggX13_feed_X13_lay
set_option maxHeartbeats 4000000 in
set_option maxRecDepth 100000 in
theorem K_X13_feed (l : Launch) (D : va_G) (m0 : Nat) (m_stop : Nat) (m_tape : Nat) (m_rule : Nat) (m_readRule : Nat) (m_teeth : Nat) (m_readTeeth : Nat) (m_sway : Nat) (m_readSway : Nat) (m_isTold : Nat) (m_markKind : Nat) (m_markValue : Nat) (m_marks : Nat) (m_pile : Nat) (m_height : Nat) (m_leftPass : Nat) (m_leftTurn : Nat) (m_leftTooth : Nat) (m_leftX : Nat) (m_kept : Nat) (m_keptWear : Nat) (m_now : Nat) (m_passed : Nat) (m_planTime : Nat) (m_planMany : Nat) (m_planned : Nat) (m_isQuiet : Nat) (m_keptTeeth : Nat) (m_jobRing : Nat) (m_jobSpeed : Nat) (m_jobFeed : Nat) (m_jobTurns : Nat) (m_orderRow : Nat) (m_bestRow : Nat) (m_orderTold : Nat) (m_offerRing : Nat) (m_offerSpeed : Nat) (m_offerFeed : Nat) (m_offerTurns : Nat) (m_heardOffer : Nat) (m_heardVerdict : Nat) (m_heardAt : Nat) (m_rightOf : Nat) (m_rightVerdict : Nat) (m_rightAt : Nat) (m_verdictOf : Nat) (m_sound : Nat) (m_readSound : Nat) (cB : ClassId) (va : Int32) (vb : Int32) (vc : Int32) (vd : Int32) (ve : Int32) (sz : Nat) : Ki l yX13_feed wsX13_feed 2 52 0 0 D [.ref m0, .int va, .int vb, .int vc, .int vd, .int ve] [(m0, .inr (12, [.ref m_stop, .ref m_tape, .int 0, .int 0, .int 0, .int 0, .int 0, .int 0, .int 0, .int (-1), .ref m_rule, .ref m_readRule, .ref m_teeth, .ref m_readTeeth, .ref m_sway, .ref m_readSway, .ref m_isTold, .ref m_markKind, .ref m_markValue, .ref m_marks, .int 5, .int 0, .ref m_pile, .ref m_height, .ref m_leftPass, .ref m_leftTurn, .ref m_leftTooth, .ref m_leftX, .int 0, .int 0, .ref m_kept, .ref m_keptWear, .int 0, .ref m_now, .ref m_passed, .int 0, .int 0, .int 0, .ref m_planTime, .ref m_planMany, .ref m_planned, .ref m_isQuiet, .int 0, .int 0, .ref m_keptTeeth, .int 0, .int 0, .ref m_jobRing, .ref m_jobSpeed, .ref m_jobFeed, .ref m_jobTurns, .ref m_orderRow, .ref m_bestRow, .int 0, .ref m_orderTold, .int 0, .int 0, .int 0, .int 0, .ref m_offerRing, .ref m_offerSpeed, .ref m_offerFeed, .ref m_offerTurns, .ref m_heardOffer, .ref m_heardVerdict, .ref m_heardAt, .ref m_rightOf, .ref m_rightVerdict, .ref m_rightAt, .ref m_verdictOf, .ref m_sound, .ref m_readSound, .int 0])), (m_tape, .inl (cB, 1000, .inl (fun _ => 0)))] [(cB, .byte)] sz (fun (r : Int32) (_ : Unit) => r = 20) (fun (_ : Unit) => []) (fun (_ : Unit) => [(cB, .byte)]) := by
  unfold Ki
  refine g_ofW (cc := cX13_feed) (lv := [(0, .ref m0), (1, .int va), (2, .int vb), (3, .int vc), (4, .int vd), (5, .int ve)]) (by decide) rfl (Nat.le_of_ble_eq_true rfl) rfl ?_
  intro p e s m args below meth c A Q hA hQ F hr hnm
  have hts := F.2.2.2.2.1
  have w_0 : (Cond.fieldLink RX13 73 "QuietCutModel" "taped" "I").before args s = true := hts _ (List.mem_of_getElem? (i := 1) rfl)
  have i_X13 : ∀ w ∈ u_ws RX13 TX13 73, w ∈ wsX13_feed := fun _ h => List.mem_cons_of_mem _ (List.mem_append_right _ h)
  refine g_aload_n F 0 dX13_feed_0 rfl rfl ?_
  refine g_get (C := RX13) (T := TX13) (N := 73) (v := .int 0) F i_X13 0 rfl rfl 2 (by decide) w_0 rfl rfl dX13_feed_1 ?_
  refine g_bipush F 20 dX13_feed_4 (by decide) ?_
  refine g_iadd F dX13_feed_6 ?_
  refine g_fold 20 (by decide) ?_
  refine g_sipush F 1000 dX13_feed_7 (by decide) ?_
  refine g_icmp_le F 16 dX13_feed_10 (by decide) (fun c_10 => ?_) (fun h9 => absurd (by decide) h9) 
  refine g_aload_n F 0 dX13_feed_16 rfl rfl ?_
  refine g_iload_n F 1 dX13_feed_17 rfl rfl ?_
  refine g_callVv (k := 0) (n := 0) (b := m0) (As := [.int va]) (st := []) (wc := [(m0, .inr (12, [.ref m_stop, .ref m_tape, .int 0, .int 0, .int 0, .int 0, .int 0, .int 0, .int 0, .int (-1), .ref m_rule, .ref m_readRule, .ref m_teeth, .ref m_readTeeth, .ref m_sway, .ref m_readSway, .ref m_isTold, .ref m_markKind, .ref m_markValue, .ref m_marks, .int 5, .int 0, .ref m_pile, .ref m_height, .ref m_leftPass, .ref m_leftTurn, .ref m_leftTooth, .ref m_leftX, .int 0, .int 0, .ref m_kept, .ref m_keptWear, .int 0, .ref m_now, .ref m_passed, .int 0, .int 0, .int 0, .ref m_planTime, .ref m_planMany, .ref m_planned, .ref m_isQuiet, .int 0, .int 0, .ref m_keptTeeth, .int 0, .int 0, .ref m_jobRing, .ref m_jobSpeed, .ref m_jobFeed, .ref m_jobTurns, .ref m_orderRow, .ref m_bestRow, .int 0, .ref m_orderTold, .int 0, .int 0, .int 0, .int 0, .ref m_offerRing, .ref m_offerSpeed, .ref m_offerFeed, .ref m_offerTurns, .ref m_heardOffer, .ref m_heardVerdict, .ref m_heardAt, .ref m_rightOf, .ref m_rightVerdict, .ref m_rightAt, .ref m_verdictOf, .ref m_sound, .ref m_readSound, .int 0])), (m_tape, .inl (cB, 1000, .inl (fun _ => 0)))]) (wr := []) F [0, 1] [] [0] rfl rfl (by decide) rfl (by decide) (by decide) rfl (fun sz => K_X13_lay0 l D m0 m_stop m_tape m_rule m_readRule m_teeth m_readTeeth m_sway m_readSway m_isTold m_markKind m_markValue m_marks m_pile m_height m_leftPass m_leftTurn m_leftTooth m_leftX m_kept m_keptWear m_now m_passed m_planTime m_planMany m_planned m_isQuiet m_keptTeeth m_jobRing m_jobSpeed m_jobFeed m_jobTurns m_orderRow m_bestRow m_orderTold m_offerRing m_offerSpeed m_offerFeed m_offerTurns m_heardOffer m_heardVerdict m_heardAt m_rightOf m_rightVerdict m_rightAt m_verdictOf m_sound m_readSound cB (fun _ => 0) va  sz) (cwV 1 hts gX13_feed_X13_lay rfl rfl rfl (by decide +kernel) ⟨Nat.le_of_ble_eq_true rfl, Nat.le_of_ble_eq_true rfl⟩) rfl 0 rfl rfl (Nat.le_of_ble_eq_true rfl) ⟨Nat.le_of_ble_eq_true rfl, Nat.le_of_ble_eq_true rfl⟩ dX13_feed_18 (fun _ hw_2 => ?_)
  show gG p l e (gR 2 0 0 52) s m args below meth c D A 6 Q 0 0 [(m0, .inr (12, [.ref m_stop, .ref m_tape, .int 4, .int 0, .int 0, .int 0, .int 0, .int 0, .int 0, .int (-1), .ref m_rule, .ref m_readRule, .ref m_teeth, .ref m_readTeeth, .ref m_sway, .ref m_readSway, .ref m_isTold, .ref m_markKind, .ref m_markValue, .ref m_marks, .int 5, .int 0, .ref m_pile, .ref m_height, .ref m_leftPass, .ref m_leftTurn, .ref m_leftTooth, .ref m_leftX, .int 0, .int 0, .ref m_kept, .ref m_keptWear, .int 0, .ref m_now, .ref m_passed, .int 0, .int 0, .int 0, .ref m_planTime, .ref m_planMany, .ref m_planned, .ref m_isQuiet, .int 0, .int 0, .ref m_keptTeeth, .int 0, .int 0, .ref m_jobRing, .ref m_jobSpeed, .ref m_jobFeed, .ref m_jobTurns, .ref m_orderRow, .ref m_bestRow, .int 0, .ref m_orderTold, .int 0, .int 0, .int 0, .int 0, .ref m_offerRing, .ref m_offerSpeed, .ref m_offerFeed, .ref m_offerTurns, .ref m_heardOffer, .ref m_heardVerdict, .ref m_heardAt, .ref m_rightOf, .ref m_rightVerdict, .ref m_rightAt, .ref m_verdictOf, .ref m_sound, .ref m_readSound, .int 0])), (m_tape, .inl (cB, 1000, .inl (upd (upd (upd (upd (fun _ => 0) 0 (vp_nar .byte (va >>> (24 &&& 31)).toInt8.toInt32)) 1 (vp_nar .byte (va >>> (16 &&& 31)).toInt8.toInt32)) 2 (vp_nar .byte (va >>> (8 &&& 31)).toInt8.toInt32)) 3 (vp_nar .byte (va >>> (0 &&& 31)).toInt8.toInt32))))] [(cB, .byte)] [(0, .ref m0), (1, .int va), (2, .int vb), (3, .int vc), (4, .int vd), (5, .int ve)] 21 []
  refine g_aload_n F 0 dX13_feed_21 rfl rfl ?_
  refine g_iload_n F 2 dX13_feed_22 rfl rfl ?_
  refine g_callVv (k := 0) (n := 0) (b := m0) (As := [.int vb]) (st := []) (wc := [(m0, .inr (12, [.ref m_stop, .ref m_tape, .int 4, .int 0, .int 0, .int 0, .int 0, .int 0, .int 0, .int (-1), .ref m_rule, .ref m_readRule, .ref m_teeth, .ref m_readTeeth, .ref m_sway, .ref m_readSway, .ref m_isTold, .ref m_markKind, .ref m_markValue, .ref m_marks, .int 5, .int 0, .ref m_pile, .ref m_height, .ref m_leftPass, .ref m_leftTurn, .ref m_leftTooth, .ref m_leftX, .int 0, .int 0, .ref m_kept, .ref m_keptWear, .int 0, .ref m_now, .ref m_passed, .int 0, .int 0, .int 0, .ref m_planTime, .ref m_planMany, .ref m_planned, .ref m_isQuiet, .int 0, .int 0, .ref m_keptTeeth, .int 0, .int 0, .ref m_jobRing, .ref m_jobSpeed, .ref m_jobFeed, .ref m_jobTurns, .ref m_orderRow, .ref m_bestRow, .int 0, .ref m_orderTold, .int 0, .int 0, .int 0, .int 0, .ref m_offerRing, .ref m_offerSpeed, .ref m_offerFeed, .ref m_offerTurns, .ref m_heardOffer, .ref m_heardVerdict, .ref m_heardAt, .ref m_rightOf, .ref m_rightVerdict, .ref m_rightAt, .ref m_verdictOf, .ref m_sound, .ref m_readSound, .int 0])), (m_tape, .inl (cB, 1000, .inl (upd (upd (upd (upd (fun _ => 0) 0 (vp_nar .byte (va >>> (24 &&& 31)).toInt8.toInt32)) 1 (vp_nar .byte (va >>> (16 &&& 31)).toInt8.toInt32)) 2 (vp_nar .byte (va >>> (8 &&& 31)).toInt8.toInt32)) 3 (vp_nar .byte (va >>> (0 &&& 31)).toInt8.toInt32))))]) (wr := []) F [0, 1] [] [0] rfl rfl (by decide) rfl (by decide) (by decide) rfl (fun sz => K_X13_lay4 l D m0 m_stop m_tape m_rule m_readRule m_teeth m_readTeeth m_sway m_readSway m_isTold m_markKind m_markValue m_marks m_pile m_height m_leftPass m_leftTurn m_leftTooth m_leftX m_kept m_keptWear m_now m_passed m_planTime m_planMany m_planned m_isQuiet m_keptTeeth m_jobRing m_jobSpeed m_jobFeed m_jobTurns m_orderRow m_bestRow m_orderTold m_offerRing m_offerSpeed m_offerFeed m_offerTurns m_heardOffer m_heardVerdict m_heardAt m_rightOf m_rightVerdict m_rightAt m_verdictOf m_sound m_readSound cB (upd (upd (upd (upd (fun _ => 0) 0 (vp_nar .byte (va >>> (24 &&& 31)).toInt8.toInt32)) 1 (vp_nar .byte (va >>> (16 &&& 31)).toInt8.toInt32)) 2 (vp_nar .byte (va >>> (8 &&& 31)).toInt8.toInt32)) 3 (vp_nar .byte (va >>> (0 &&& 31)).toInt8.toInt32)) vb  sz) (cwV 1 hts gX13_feed_X13_lay rfl rfl rfl (by decide +kernel) ⟨Nat.le_of_ble_eq_true rfl, Nat.le_of_ble_eq_true rfl⟩) rfl 0 rfl rfl (Nat.le_of_ble_eq_true rfl) ⟨Nat.le_of_ble_eq_true rfl, Nat.le_of_ble_eq_true rfl⟩ dX13_feed_23 (fun _ hw_7 => ?_)
  show gG p l e (gR 2 0 0 52) s m args below meth c D A 6 Q 0 0 [(m0, .inr (12, [.ref m_stop, .ref m_tape, .int 8, .int 0, .int 0, .int 0, .int 0, .int 0, .int 0, .int (-1), .ref m_rule, .ref m_readRule, .ref m_teeth, .ref m_readTeeth, .ref m_sway, .ref m_readSway, .ref m_isTold, .ref m_markKind, .ref m_markValue, .ref m_marks, .int 5, .int 0, .ref m_pile, .ref m_height, .ref m_leftPass, .ref m_leftTurn, .ref m_leftTooth, .ref m_leftX, .int 0, .int 0, .ref m_kept, .ref m_keptWear, .int 0, .ref m_now, .ref m_passed, .int 0, .int 0, .int 0, .ref m_planTime, .ref m_planMany, .ref m_planned, .ref m_isQuiet, .int 0, .int 0, .ref m_keptTeeth, .int 0, .int 0, .ref m_jobRing, .ref m_jobSpeed, .ref m_jobFeed, .ref m_jobTurns, .ref m_orderRow, .ref m_bestRow, .int 0, .ref m_orderTold, .int 0, .int 0, .int 0, .int 0, .ref m_offerRing, .ref m_offerSpeed, .ref m_offerFeed, .ref m_offerTurns, .ref m_heardOffer, .ref m_heardVerdict, .ref m_heardAt, .ref m_rightOf, .ref m_rightVerdict, .ref m_rightAt, .ref m_verdictOf, .ref m_sound, .ref m_readSound, .int 0])), (m_tape, .inl (cB, 1000, .inl (upd (upd (upd (upd (upd (upd (upd (upd (fun _ => 0) 0 (vp_nar .byte (va >>> (24 &&& 31)).toInt8.toInt32)) 1 (vp_nar .byte (va >>> (16 &&& 31)).toInt8.toInt32)) 2 (vp_nar .byte (va >>> (8 &&& 31)).toInt8.toInt32)) 3 (vp_nar .byte (va >>> (0 &&& 31)).toInt8.toInt32)) 4 (vp_nar .byte (vb >>> (24 &&& 31)).toInt8.toInt32)) 5 (vp_nar .byte (vb >>> (16 &&& 31)).toInt8.toInt32)) 6 (vp_nar .byte (vb >>> (8 &&& 31)).toInt8.toInt32)) 7 (vp_nar .byte (vb >>> (0 &&& 31)).toInt8.toInt32))))] [(cB, .byte)] [(0, .ref m0), (1, .int va), (2, .int vb), (3, .int vc), (4, .int vd), (5, .int ve)] 26 []
  refine g_aload_n F 0 dX13_feed_26 rfl rfl ?_
  refine g_iload_n F 3 dX13_feed_27 rfl rfl ?_
  refine g_callVv (k := 0) (n := 0) (b := m0) (As := [.int vc]) (st := []) (wc := [(m0, .inr (12, [.ref m_stop, .ref m_tape, .int 8, .int 0, .int 0, .int 0, .int 0, .int 0, .int 0, .int (-1), .ref m_rule, .ref m_readRule, .ref m_teeth, .ref m_readTeeth, .ref m_sway, .ref m_readSway, .ref m_isTold, .ref m_markKind, .ref m_markValue, .ref m_marks, .int 5, .int 0, .ref m_pile, .ref m_height, .ref m_leftPass, .ref m_leftTurn, .ref m_leftTooth, .ref m_leftX, .int 0, .int 0, .ref m_kept, .ref m_keptWear, .int 0, .ref m_now, .ref m_passed, .int 0, .int 0, .int 0, .ref m_planTime, .ref m_planMany, .ref m_planned, .ref m_isQuiet, .int 0, .int 0, .ref m_keptTeeth, .int 0, .int 0, .ref m_jobRing, .ref m_jobSpeed, .ref m_jobFeed, .ref m_jobTurns, .ref m_orderRow, .ref m_bestRow, .int 0, .ref m_orderTold, .int 0, .int 0, .int 0, .int 0, .ref m_offerRing, .ref m_offerSpeed, .ref m_offerFeed, .ref m_offerTurns, .ref m_heardOffer, .ref m_heardVerdict, .ref m_heardAt, .ref m_rightOf, .ref m_rightVerdict, .ref m_rightAt, .ref m_verdictOf, .ref m_sound, .ref m_readSound, .int 0])), (m_tape, .inl (cB, 1000, .inl (upd (upd (upd (upd (upd (upd (upd (upd (fun _ => 0) 0 (vp_nar .byte (va >>> (24 &&& 31)).toInt8.toInt32)) 1 (vp_nar .byte (va >>> (16 &&& 31)).toInt8.toInt32)) 2 (vp_nar .byte (va >>> (8 &&& 31)).toInt8.toInt32)) 3 (vp_nar .byte (va >>> (0 &&& 31)).toInt8.toInt32)) 4 (vp_nar .byte (vb >>> (24 &&& 31)).toInt8.toInt32)) 5 (vp_nar .byte (vb >>> (16 &&& 31)).toInt8.toInt32)) 6 (vp_nar .byte (vb >>> (8 &&& 31)).toInt8.toInt32)) 7 (vp_nar .byte (vb >>> (0 &&& 31)).toInt8.toInt32))))]) (wr := []) F [0, 1] [] [0] rfl rfl (by decide) rfl (by decide) (by decide) rfl (fun sz => K_X13_lay8 l D m0 m_stop m_tape m_rule m_readRule m_teeth m_readTeeth m_sway m_readSway m_isTold m_markKind m_markValue m_marks m_pile m_height m_leftPass m_leftTurn m_leftTooth m_leftX m_kept m_keptWear m_now m_passed m_planTime m_planMany m_planned m_isQuiet m_keptTeeth m_jobRing m_jobSpeed m_jobFeed m_jobTurns m_orderRow m_bestRow m_orderTold m_offerRing m_offerSpeed m_offerFeed m_offerTurns m_heardOffer m_heardVerdict m_heardAt m_rightOf m_rightVerdict m_rightAt m_verdictOf m_sound m_readSound cB (upd (upd (upd (upd (upd (upd (upd (upd (fun _ => 0) 0 (vp_nar .byte (va >>> (24 &&& 31)).toInt8.toInt32)) 1 (vp_nar .byte (va >>> (16 &&& 31)).toInt8.toInt32)) 2 (vp_nar .byte (va >>> (8 &&& 31)).toInt8.toInt32)) 3 (vp_nar .byte (va >>> (0 &&& 31)).toInt8.toInt32)) 4 (vp_nar .byte (vb >>> (24 &&& 31)).toInt8.toInt32)) 5 (vp_nar .byte (vb >>> (16 &&& 31)).toInt8.toInt32)) 6 (vp_nar .byte (vb >>> (8 &&& 31)).toInt8.toInt32)) 7 (vp_nar .byte (vb >>> (0 &&& 31)).toInt8.toInt32)) vc  sz) (cwV 1 hts gX13_feed_X13_lay rfl rfl rfl (by decide +kernel) ⟨Nat.le_of_ble_eq_true rfl, Nat.le_of_ble_eq_true rfl⟩) rfl 0 rfl rfl (Nat.le_of_ble_eq_true rfl) ⟨Nat.le_of_ble_eq_true rfl, Nat.le_of_ble_eq_true rfl⟩ dX13_feed_28 (fun _ hw_12 => ?_)
  show gG p l e (gR 2 0 0 52) s m args below meth c D A 6 Q 0 0 [(m0, .inr (12, [.ref m_stop, .ref m_tape, .int 12, .int 0, .int 0, .int 0, .int 0, .int 0, .int 0, .int (-1), .ref m_rule, .ref m_readRule, .ref m_teeth, .ref m_readTeeth, .ref m_sway, .ref m_readSway, .ref m_isTold, .ref m_markKind, .ref m_markValue, .ref m_marks, .int 5, .int 0, .ref m_pile, .ref m_height, .ref m_leftPass, .ref m_leftTurn, .ref m_leftTooth, .ref m_leftX, .int 0, .int 0, .ref m_kept, .ref m_keptWear, .int 0, .ref m_now, .ref m_passed, .int 0, .int 0, .int 0, .ref m_planTime, .ref m_planMany, .ref m_planned, .ref m_isQuiet, .int 0, .int 0, .ref m_keptTeeth, .int 0, .int 0, .ref m_jobRing, .ref m_jobSpeed, .ref m_jobFeed, .ref m_jobTurns, .ref m_orderRow, .ref m_bestRow, .int 0, .ref m_orderTold, .int 0, .int 0, .int 0, .int 0, .ref m_offerRing, .ref m_offerSpeed, .ref m_offerFeed, .ref m_offerTurns, .ref m_heardOffer, .ref m_heardVerdict, .ref m_heardAt, .ref m_rightOf, .ref m_rightVerdict, .ref m_rightAt, .ref m_verdictOf, .ref m_sound, .ref m_readSound, .int 0])), (m_tape, .inl (cB, 1000, .inl (upd (upd (upd (upd (upd (upd (upd (upd (upd (upd (upd (upd (fun _ => 0) 0 (vp_nar .byte (va >>> (24 &&& 31)).toInt8.toInt32)) 1 (vp_nar .byte (va >>> (16 &&& 31)).toInt8.toInt32)) 2 (vp_nar .byte (va >>> (8 &&& 31)).toInt8.toInt32)) 3 (vp_nar .byte (va >>> (0 &&& 31)).toInt8.toInt32)) 4 (vp_nar .byte (vb >>> (24 &&& 31)).toInt8.toInt32)) 5 (vp_nar .byte (vb >>> (16 &&& 31)).toInt8.toInt32)) 6 (vp_nar .byte (vb >>> (8 &&& 31)).toInt8.toInt32)) 7 (vp_nar .byte (vb >>> (0 &&& 31)).toInt8.toInt32)) 8 (vp_nar .byte (vc >>> (24 &&& 31)).toInt8.toInt32)) 9 (vp_nar .byte (vc >>> (16 &&& 31)).toInt8.toInt32)) 10 (vp_nar .byte (vc >>> (8 &&& 31)).toInt8.toInt32)) 11 (vp_nar .byte (vc >>> (0 &&& 31)).toInt8.toInt32))))] [(cB, .byte)] [(0, .ref m0), (1, .int va), (2, .int vb), (3, .int vc), (4, .int vd), (5, .int ve)] 31 []
  refine g_aload_n F 0 dX13_feed_31 rfl rfl ?_
  refine g_iload F 4 dX13_feed_32 rfl ?_
  refine g_callVv (k := 0) (n := 0) (b := m0) (As := [.int vd]) (st := []) (wc := [(m0, .inr (12, [.ref m_stop, .ref m_tape, .int 12, .int 0, .int 0, .int 0, .int 0, .int 0, .int 0, .int (-1), .ref m_rule, .ref m_readRule, .ref m_teeth, .ref m_readTeeth, .ref m_sway, .ref m_readSway, .ref m_isTold, .ref m_markKind, .ref m_markValue, .ref m_marks, .int 5, .int 0, .ref m_pile, .ref m_height, .ref m_leftPass, .ref m_leftTurn, .ref m_leftTooth, .ref m_leftX, .int 0, .int 0, .ref m_kept, .ref m_keptWear, .int 0, .ref m_now, .ref m_passed, .int 0, .int 0, .int 0, .ref m_planTime, .ref m_planMany, .ref m_planned, .ref m_isQuiet, .int 0, .int 0, .ref m_keptTeeth, .int 0, .int 0, .ref m_jobRing, .ref m_jobSpeed, .ref m_jobFeed, .ref m_jobTurns, .ref m_orderRow, .ref m_bestRow, .int 0, .ref m_orderTold, .int 0, .int 0, .int 0, .int 0, .ref m_offerRing, .ref m_offerSpeed, .ref m_offerFeed, .ref m_offerTurns, .ref m_heardOffer, .ref m_heardVerdict, .ref m_heardAt, .ref m_rightOf, .ref m_rightVerdict, .ref m_rightAt, .ref m_verdictOf, .ref m_sound, .ref m_readSound, .int 0])), (m_tape, .inl (cB, 1000, .inl (upd (upd (upd (upd (upd (upd (upd (upd (upd (upd (upd (upd (fun _ => 0) 0 (vp_nar .byte (va >>> (24 &&& 31)).toInt8.toInt32)) 1 (vp_nar .byte (va >>> (16 &&& 31)).toInt8.toInt32)) 2 (vp_nar .byte (va >>> (8 &&& 31)).toInt8.toInt32)) 3 (vp_nar .byte (va >>> (0 &&& 31)).toInt8.toInt32)) 4 (vp_nar .byte (vb >>> (24 &&& 31)).toInt8.toInt32)) 5 (vp_nar .byte (vb >>> (16 &&& 31)).toInt8.toInt32)) 6 (vp_nar .byte (vb >>> (8 &&& 31)).toInt8.toInt32)) 7 (vp_nar .byte (vb >>> (0 &&& 31)).toInt8.toInt32)) 8 (vp_nar .byte (vc >>> (24 &&& 31)).toInt8.toInt32)) 9 (vp_nar .byte (vc >>> (16 &&& 31)).toInt8.toInt32)) 10 (vp_nar .byte (vc >>> (8 &&& 31)).toInt8.toInt32)) 11 (vp_nar .byte (vc >>> (0 &&& 31)).toInt8.toInt32))))]) (wr := []) F [0, 1] [] [0] rfl rfl (by decide) rfl (by decide) (by decide) rfl (fun sz => K_X13_lay12 l D m0 m_stop m_tape m_rule m_readRule m_teeth m_readTeeth m_sway m_readSway m_isTold m_markKind m_markValue m_marks m_pile m_height m_leftPass m_leftTurn m_leftTooth m_leftX m_kept m_keptWear m_now m_passed m_planTime m_planMany m_planned m_isQuiet m_keptTeeth m_jobRing m_jobSpeed m_jobFeed m_jobTurns m_orderRow m_bestRow m_orderTold m_offerRing m_offerSpeed m_offerFeed m_offerTurns m_heardOffer m_heardVerdict m_heardAt m_rightOf m_rightVerdict m_rightAt m_verdictOf m_sound m_readSound cB (upd (upd (upd (upd (upd (upd (upd (upd (upd (upd (upd (upd (fun _ => 0) 0 (vp_nar .byte (va >>> (24 &&& 31)).toInt8.toInt32)) 1 (vp_nar .byte (va >>> (16 &&& 31)).toInt8.toInt32)) 2 (vp_nar .byte (va >>> (8 &&& 31)).toInt8.toInt32)) 3 (vp_nar .byte (va >>> (0 &&& 31)).toInt8.toInt32)) 4 (vp_nar .byte (vb >>> (24 &&& 31)).toInt8.toInt32)) 5 (vp_nar .byte (vb >>> (16 &&& 31)).toInt8.toInt32)) 6 (vp_nar .byte (vb >>> (8 &&& 31)).toInt8.toInt32)) 7 (vp_nar .byte (vb >>> (0 &&& 31)).toInt8.toInt32)) 8 (vp_nar .byte (vc >>> (24 &&& 31)).toInt8.toInt32)) 9 (vp_nar .byte (vc >>> (16 &&& 31)).toInt8.toInt32)) 10 (vp_nar .byte (vc >>> (8 &&& 31)).toInt8.toInt32)) 11 (vp_nar .byte (vc >>> (0 &&& 31)).toInt8.toInt32)) vd  sz) (cwV 1 hts gX13_feed_X13_lay rfl rfl rfl (by decide +kernel) ⟨Nat.le_of_ble_eq_true rfl, Nat.le_of_ble_eq_true rfl⟩) rfl 0 rfl rfl (Nat.le_of_ble_eq_true rfl) ⟨Nat.le_of_ble_eq_true rfl, Nat.le_of_ble_eq_true rfl⟩ dX13_feed_34 (fun _ hw_17 => ?_)
  show gG p l e (gR 2 0 0 52) s m args below meth c D A 6 Q 0 0 [(m0, .inr (12, [.ref m_stop, .ref m_tape, .int 16, .int 0, .int 0, .int 0, .int 0, .int 0, .int 0, .int (-1), .ref m_rule, .ref m_readRule, .ref m_teeth, .ref m_readTeeth, .ref m_sway, .ref m_readSway, .ref m_isTold, .ref m_markKind, .ref m_markValue, .ref m_marks, .int 5, .int 0, .ref m_pile, .ref m_height, .ref m_leftPass, .ref m_leftTurn, .ref m_leftTooth, .ref m_leftX, .int 0, .int 0, .ref m_kept, .ref m_keptWear, .int 0, .ref m_now, .ref m_passed, .int 0, .int 0, .int 0, .ref m_planTime, .ref m_planMany, .ref m_planned, .ref m_isQuiet, .int 0, .int 0, .ref m_keptTeeth, .int 0, .int 0, .ref m_jobRing, .ref m_jobSpeed, .ref m_jobFeed, .ref m_jobTurns, .ref m_orderRow, .ref m_bestRow, .int 0, .ref m_orderTold, .int 0, .int 0, .int 0, .int 0, .ref m_offerRing, .ref m_offerSpeed, .ref m_offerFeed, .ref m_offerTurns, .ref m_heardOffer, .ref m_heardVerdict, .ref m_heardAt, .ref m_rightOf, .ref m_rightVerdict, .ref m_rightAt, .ref m_verdictOf, .ref m_sound, .ref m_readSound, .int 0])), (m_tape, .inl (cB, 1000, .inl (upd (upd (upd (upd (upd (upd (upd (upd (upd (upd (upd (upd (upd (upd (upd (upd (fun _ => 0) 0 (vp_nar .byte (va >>> (24 &&& 31)).toInt8.toInt32)) 1 (vp_nar .byte (va >>> (16 &&& 31)).toInt8.toInt32)) 2 (vp_nar .byte (va >>> (8 &&& 31)).toInt8.toInt32)) 3 (vp_nar .byte (va >>> (0 &&& 31)).toInt8.toInt32)) 4 (vp_nar .byte (vb >>> (24 &&& 31)).toInt8.toInt32)) 5 (vp_nar .byte (vb >>> (16 &&& 31)).toInt8.toInt32)) 6 (vp_nar .byte (vb >>> (8 &&& 31)).toInt8.toInt32)) 7 (vp_nar .byte (vb >>> (0 &&& 31)).toInt8.toInt32)) 8 (vp_nar .byte (vc >>> (24 &&& 31)).toInt8.toInt32)) 9 (vp_nar .byte (vc >>> (16 &&& 31)).toInt8.toInt32)) 10 (vp_nar .byte (vc >>> (8 &&& 31)).toInt8.toInt32)) 11 (vp_nar .byte (vc >>> (0 &&& 31)).toInt8.toInt32)) 12 (vp_nar .byte (vd >>> (24 &&& 31)).toInt8.toInt32)) 13 (vp_nar .byte (vd >>> (16 &&& 31)).toInt8.toInt32)) 14 (vp_nar .byte (vd >>> (8 &&& 31)).toInt8.toInt32)) 15 (vp_nar .byte (vd >>> (0 &&& 31)).toInt8.toInt32))))] [(cB, .byte)] [(0, .ref m0), (1, .int va), (2, .int vb), (3, .int vc), (4, .int vd), (5, .int ve)] 37 []
  refine g_aload_n F 0 dX13_feed_37 rfl rfl ?_
  refine g_iload F 5 dX13_feed_38 rfl ?_
  refine g_callVv (k := 0) (n := 0) (b := m0) (As := [.int ve]) (st := []) (wc := [(m0, .inr (12, [.ref m_stop, .ref m_tape, .int 16, .int 0, .int 0, .int 0, .int 0, .int 0, .int 0, .int (-1), .ref m_rule, .ref m_readRule, .ref m_teeth, .ref m_readTeeth, .ref m_sway, .ref m_readSway, .ref m_isTold, .ref m_markKind, .ref m_markValue, .ref m_marks, .int 5, .int 0, .ref m_pile, .ref m_height, .ref m_leftPass, .ref m_leftTurn, .ref m_leftTooth, .ref m_leftX, .int 0, .int 0, .ref m_kept, .ref m_keptWear, .int 0, .ref m_now, .ref m_passed, .int 0, .int 0, .int 0, .ref m_planTime, .ref m_planMany, .ref m_planned, .ref m_isQuiet, .int 0, .int 0, .ref m_keptTeeth, .int 0, .int 0, .ref m_jobRing, .ref m_jobSpeed, .ref m_jobFeed, .ref m_jobTurns, .ref m_orderRow, .ref m_bestRow, .int 0, .ref m_orderTold, .int 0, .int 0, .int 0, .int 0, .ref m_offerRing, .ref m_offerSpeed, .ref m_offerFeed, .ref m_offerTurns, .ref m_heardOffer, .ref m_heardVerdict, .ref m_heardAt, .ref m_rightOf, .ref m_rightVerdict, .ref m_rightAt, .ref m_verdictOf, .ref m_sound, .ref m_readSound, .int 0])), (m_tape, .inl (cB, 1000, .inl (upd (upd (upd (upd (upd (upd (upd (upd (upd (upd (upd (upd (upd (upd (upd (upd (fun _ => 0) 0 (vp_nar .byte (va >>> (24 &&& 31)).toInt8.toInt32)) 1 (vp_nar .byte (va >>> (16 &&& 31)).toInt8.toInt32)) 2 (vp_nar .byte (va >>> (8 &&& 31)).toInt8.toInt32)) 3 (vp_nar .byte (va >>> (0 &&& 31)).toInt8.toInt32)) 4 (vp_nar .byte (vb >>> (24 &&& 31)).toInt8.toInt32)) 5 (vp_nar .byte (vb >>> (16 &&& 31)).toInt8.toInt32)) 6 (vp_nar .byte (vb >>> (8 &&& 31)).toInt8.toInt32)) 7 (vp_nar .byte (vb >>> (0 &&& 31)).toInt8.toInt32)) 8 (vp_nar .byte (vc >>> (24 &&& 31)).toInt8.toInt32)) 9 (vp_nar .byte (vc >>> (16 &&& 31)).toInt8.toInt32)) 10 (vp_nar .byte (vc >>> (8 &&& 31)).toInt8.toInt32)) 11 (vp_nar .byte (vc >>> (0 &&& 31)).toInt8.toInt32)) 12 (vp_nar .byte (vd >>> (24 &&& 31)).toInt8.toInt32)) 13 (vp_nar .byte (vd >>> (16 &&& 31)).toInt8.toInt32)) 14 (vp_nar .byte (vd >>> (8 &&& 31)).toInt8.toInt32)) 15 (vp_nar .byte (vd >>> (0 &&& 31)).toInt8.toInt32))))]) (wr := []) F [0, 1] [] [0] rfl rfl (by decide) rfl (by decide) (by decide) rfl (fun sz => K_X13_lay16 l D m0 m_stop m_tape m_rule m_readRule m_teeth m_readTeeth m_sway m_readSway m_isTold m_markKind m_markValue m_marks m_pile m_height m_leftPass m_leftTurn m_leftTooth m_leftX m_kept m_keptWear m_now m_passed m_planTime m_planMany m_planned m_isQuiet m_keptTeeth m_jobRing m_jobSpeed m_jobFeed m_jobTurns m_orderRow m_bestRow m_orderTold m_offerRing m_offerSpeed m_offerFeed m_offerTurns m_heardOffer m_heardVerdict m_heardAt m_rightOf m_rightVerdict m_rightAt m_verdictOf m_sound m_readSound cB (upd (upd (upd (upd (upd (upd (upd (upd (upd (upd (upd (upd (upd (upd (upd (upd (fun _ => 0) 0 (vp_nar .byte (va >>> (24 &&& 31)).toInt8.toInt32)) 1 (vp_nar .byte (va >>> (16 &&& 31)).toInt8.toInt32)) 2 (vp_nar .byte (va >>> (8 &&& 31)).toInt8.toInt32)) 3 (vp_nar .byte (va >>> (0 &&& 31)).toInt8.toInt32)) 4 (vp_nar .byte (vb >>> (24 &&& 31)).toInt8.toInt32)) 5 (vp_nar .byte (vb >>> (16 &&& 31)).toInt8.toInt32)) 6 (vp_nar .byte (vb >>> (8 &&& 31)).toInt8.toInt32)) 7 (vp_nar .byte (vb >>> (0 &&& 31)).toInt8.toInt32)) 8 (vp_nar .byte (vc >>> (24 &&& 31)).toInt8.toInt32)) 9 (vp_nar .byte (vc >>> (16 &&& 31)).toInt8.toInt32)) 10 (vp_nar .byte (vc >>> (8 &&& 31)).toInt8.toInt32)) 11 (vp_nar .byte (vc >>> (0 &&& 31)).toInt8.toInt32)) 12 (vp_nar .byte (vd >>> (24 &&& 31)).toInt8.toInt32)) 13 (vp_nar .byte (vd >>> (16 &&& 31)).toInt8.toInt32)) 14 (vp_nar .byte (vd >>> (8 &&& 31)).toInt8.toInt32)) 15 (vp_nar .byte (vd >>> (0 &&& 31)).toInt8.toInt32)) ve  sz) (cwV 1 hts gX13_feed_X13_lay rfl rfl rfl (by decide +kernel) ⟨Nat.le_of_ble_eq_true rfl, Nat.le_of_ble_eq_true rfl⟩) rfl 0 rfl rfl (Nat.le_of_ble_eq_true rfl) ⟨Nat.le_of_ble_eq_true rfl, Nat.le_of_ble_eq_true rfl⟩ dX13_feed_40 (fun _ hw_22 => ?_)
  show gG p l e (gR 2 0 0 52) s m args below meth c D A 6 Q 0 0 [(m0, .inr (12, [.ref m_stop, .ref m_tape, .int 20, .int 0, .int 0, .int 0, .int 0, .int 0, .int 0, .int (-1), .ref m_rule, .ref m_readRule, .ref m_teeth, .ref m_readTeeth, .ref m_sway, .ref m_readSway, .ref m_isTold, .ref m_markKind, .ref m_markValue, .ref m_marks, .int 5, .int 0, .ref m_pile, .ref m_height, .ref m_leftPass, .ref m_leftTurn, .ref m_leftTooth, .ref m_leftX, .int 0, .int 0, .ref m_kept, .ref m_keptWear, .int 0, .ref m_now, .ref m_passed, .int 0, .int 0, .int 0, .ref m_planTime, .ref m_planMany, .ref m_planned, .ref m_isQuiet, .int 0, .int 0, .ref m_keptTeeth, .int 0, .int 0, .ref m_jobRing, .ref m_jobSpeed, .ref m_jobFeed, .ref m_jobTurns, .ref m_orderRow, .ref m_bestRow, .int 0, .ref m_orderTold, .int 0, .int 0, .int 0, .int 0, .ref m_offerRing, .ref m_offerSpeed, .ref m_offerFeed, .ref m_offerTurns, .ref m_heardOffer, .ref m_heardVerdict, .ref m_heardAt, .ref m_rightOf, .ref m_rightVerdict, .ref m_rightAt, .ref m_verdictOf, .ref m_sound, .ref m_readSound, .int 0])), (m_tape, .inl (cB, 1000, .inl (upd (upd (upd (upd (upd (upd (upd (upd (upd (upd (upd (upd (upd (upd (upd (upd (upd (upd (upd (upd (fun _ => 0) 0 (vp_nar .byte (va >>> (24 &&& 31)).toInt8.toInt32)) 1 (vp_nar .byte (va >>> (16 &&& 31)).toInt8.toInt32)) 2 (vp_nar .byte (va >>> (8 &&& 31)).toInt8.toInt32)) 3 (vp_nar .byte (va >>> (0 &&& 31)).toInt8.toInt32)) 4 (vp_nar .byte (vb >>> (24 &&& 31)).toInt8.toInt32)) 5 (vp_nar .byte (vb >>> (16 &&& 31)).toInt8.toInt32)) 6 (vp_nar .byte (vb >>> (8 &&& 31)).toInt8.toInt32)) 7 (vp_nar .byte (vb >>> (0 &&& 31)).toInt8.toInt32)) 8 (vp_nar .byte (vc >>> (24 &&& 31)).toInt8.toInt32)) 9 (vp_nar .byte (vc >>> (16 &&& 31)).toInt8.toInt32)) 10 (vp_nar .byte (vc >>> (8 &&& 31)).toInt8.toInt32)) 11 (vp_nar .byte (vc >>> (0 &&& 31)).toInt8.toInt32)) 12 (vp_nar .byte (vd >>> (24 &&& 31)).toInt8.toInt32)) 13 (vp_nar .byte (vd >>> (16 &&& 31)).toInt8.toInt32)) 14 (vp_nar .byte (vd >>> (8 &&& 31)).toInt8.toInt32)) 15 (vp_nar .byte (vd >>> (0 &&& 31)).toInt8.toInt32)) 16 (vp_nar .byte (ve >>> (24 &&& 31)).toInt8.toInt32)) 17 (vp_nar .byte (ve >>> (16 &&& 31)).toInt8.toInt32)) 18 (vp_nar .byte (ve >>> (8 &&& 31)).toInt8.toInt32)) 19 (vp_nar .byte (ve >>> (0 &&& 31)).toInt8.toInt32))))] [(cB, .byte)] [(0, .ref m0), (1, .int va), (2, .int vb), (3, .int vc), (4, .int vd), (5, .int ve)] 43 []
  refine g_aload_n F 0 dX13_feed_43 rfl rfl ?_
  refine g_get (C := RX13) (T := TX13) (N := 73) (v := .int 20) F i_X13 0 rfl rfl 2 (by decide) w_0 rfl rfl dX13_feed_44 ?_
  exact g_iret F hA hQ hr () (rfl) [] [0] rfl (by decide) rfl rfl dX13_feed_47

theorem dX13_end_0 : decode cX13_end 0 = .ok (.iload_n 1, 1) := by decide +kernel
theorem dX13_end_1 : decode cX13_end 1 = .ok (.i2l, 1) := by decide +kernel
theorem dX13_end_2 : decode cX13_end 2 = .ok (.lconst 0, 1) := by decide +kernel
theorem dX13_end_3 : decode cX13_end 3 = .ok (.aload_n 0, 1) := by decide +kernel
theorem dX13_end_4 : decode cX13_end 4 = .ok (.getfield 73, 3) := by decide +kernel
theorem dX13_end_7 : decode cX13_end 7 = .ok (.i2l, 1) := by decide +kernel
theorem dX13_end_8 : decode cX13_end 8 = .ok (.invokestatic 61, 3) := by decide +kernel
theorem dX13_end_11 : decode cX13_end 11 = .ok (.ifCond .ne 5, 3) := by decide +kernel
theorem dX13_end_14 : decode cX13_end 14 = .ok (.iconst (-1), 1) := by decide +kernel
theorem dX13_end_15 : decode cX13_end 15 = .ok (.ireturn, 1) := by decide +kernel
theorem dX13_end_16 : decode cX13_end 16 = .ok (.aload_n 0, 1) := by decide +kernel
theorem dX13_end_17 : decode cX13_end 17 = .ok (.iload_n 1, 1) := by decide +kernel
theorem dX13_end_18 : decode cX13_end 18 = .ok (.putfield 73, 3) := by decide +kernel
theorem dX13_end_21 : decode cX13_end 21 = .ok (.iload_n 1, 1) := by decide +kernel
theorem dX13_end_22 : decode cX13_end 22 = .ok (.ireturn, 1) := by decide +kernel
set_option maxRecDepth 20000 in
theorem ggX13_end_X13_in : GoodIn wsX13_end wsX13_in := goodIn_r _ [5] rfl (by decide +kernel)
set_option maxRecDepth 20000 in
theorem gX13_end_X13_in : GoodIn wsX13_end (va_wsS RX13 61 yX13_in wsX13_in) := goodIn_app (goodIn_of _ (by decide +kernel)) ggX13_end_X13_in
set_option maxHeartbeats 4000000 in
set_option maxRecDepth 100000 in
theorem K_X13_end (l : Launch) (D : va_G) (m0 : Nat) (m_stop : Nat) (m_tape : Nat) (m_rule : Nat) (m_readRule : Nat) (m_teeth : Nat) (m_readTeeth : Nat) (m_sway : Nat) (m_readSway : Nat) (m_isTold : Nat) (m_markKind : Nat) (m_markValue : Nat) (m_marks : Nat) (m_pile : Nat) (m_height : Nat) (m_leftPass : Nat) (m_leftTurn : Nat) (m_leftTooth : Nat) (m_leftX : Nat) (m_kept : Nat) (m_keptWear : Nat) (m_now : Nat) (m_passed : Nat) (m_planTime : Nat) (m_planMany : Nat) (m_planned : Nat) (m_isQuiet : Nat) (m_keptTeeth : Nat) (m_jobRing : Nat) (m_jobSpeed : Nat) (m_jobFeed : Nat) (m_jobTurns : Nat) (m_orderRow : Nat) (m_bestRow : Nat) (m_orderTold : Nat) (m_offerRing : Nat) (m_offerSpeed : Nat) (m_offerFeed : Nat) (m_offerTurns : Nat) (m_heardOffer : Nat) (m_heardVerdict : Nat) (m_heardAt : Nat) (m_rightOf : Nat) (m_rightVerdict : Nat) (m_rightAt : Nat) (m_verdictOf : Nat) (m_sound : Nat) (m_readSound : Nat) (a : Int32) (sz : Nat) : Ki l yX13_end wsX13_end 2 55 0 0 D [.ref m0, .int a] [(m0, .inr (12, [.ref m_stop, .ref m_tape, .int 0, .int 0, .int 0, .int 0, .int 0, .int 0, .int 0, .int (-1), .ref m_rule, .ref m_readRule, .ref m_teeth, .ref m_readTeeth, .ref m_sway, .ref m_readSway, .ref m_isTold, .ref m_markKind, .ref m_markValue, .ref m_marks, .int 5, .int 0, .ref m_pile, .ref m_height, .ref m_leftPass, .ref m_leftTurn, .ref m_leftTooth, .ref m_leftX, .int 0, .int 0, .ref m_kept, .ref m_keptWear, .int 0, .ref m_now, .ref m_passed, .int 0, .int 0, .int 0, .ref m_planTime, .ref m_planMany, .ref m_planned, .ref m_isQuiet, .int 0, .int 0, .ref m_keptTeeth, .int 0, .int 0, .ref m_jobRing, .ref m_jobSpeed, .ref m_jobFeed, .ref m_jobTurns, .ref m_orderRow, .ref m_bestRow, .int 0, .ref m_orderTold, .int 0, .int 0, .int 0, .int 0, .ref m_offerRing, .ref m_offerSpeed, .ref m_offerFeed, .ref m_offerTurns, .ref m_heardOffer, .ref m_heardVerdict, .ref m_heardAt, .ref m_rightOf, .ref m_rightVerdict, .ref m_rightAt, .ref m_verdictOf, .ref m_sound, .ref m_readSound, .int 0]))] [] sz (fun (r : Int32) (_ : Unit) => r = (if a = 0 then 0 else (-1))) (fun (_ : Unit) => []) (fun (_ : Unit) => []) := by
  unfold Ki
  refine g_ofW (cc := cX13_end) (lv := [(0, .ref m0), (1, .int a)]) (by decide) rfl (Nat.le_of_ble_eq_true rfl) rfl ?_
  intro p e s m args below meth c A Q hA hQ F hr hnm
  have hts := F.2.2.2.2.1
  have w_0 : (Cond.fieldLink RX13 73 "QuietCutModel" "taped" "I").before args s = true := hts _ (List.mem_of_getElem? (i := 1) rfl)
  have i_X13 : ∀ w ∈ u_ws RX13 TX13 73, w ∈ wsX13_end := fun _ h => List.mem_cons_of_mem _ (List.mem_append_right _ h)
  refine g_iload_n F 1 dX13_end_0 rfl rfl ?_
  refine g_i2l F dX13_end_1 ?_
  refine g_lconst F 0 dX13_end_2 (by decide) ?_
  refine g_aload_n F 0 dX13_end_3 rfl rfl ?_
  refine g_get (C := RX13) (T := TX13) (N := 73) (v := .int 0) F i_X13 0 rfl rfl 2 (by decide) w_0 rfl rfl dX13_end_4 ?_
  refine g_i2l F dX13_end_7 ?_
  refine g_callSi (k := 0) (n := 0) (As := [.long a.toInt64, .long 0, .long ((0 : Int32).toInt64)]) (st := []) (wc := []) (wr := [(m0, .inr (12, [.ref m_stop, .ref m_tape, .int 0, .int 0, .int 0, .int 0, .int 0, .int 0, .int 0, .int (-1), .ref m_rule, .ref m_readRule, .ref m_teeth, .ref m_readTeeth, .ref m_sway, .ref m_readSway, .ref m_isTold, .ref m_markKind, .ref m_markValue, .ref m_marks, .int 5, .int 0, .ref m_pile, .ref m_height, .ref m_leftPass, .ref m_leftTurn, .ref m_leftTooth, .ref m_leftX, .int 0, .int 0, .ref m_kept, .ref m_keptWear, .int 0, .ref m_now, .ref m_passed, .int 0, .int 0, .int 0, .ref m_planTime, .ref m_planMany, .ref m_planned, .ref m_isQuiet, .int 0, .int 0, .ref m_keptTeeth, .int 0, .int 0, .ref m_jobRing, .ref m_jobSpeed, .ref m_jobFeed, .ref m_jobTurns, .ref m_orderRow, .ref m_bestRow, .int 0, .ref m_orderTold, .int 0, .int 0, .int 0, .int 0, .ref m_offerRing, .ref m_offerSpeed, .ref m_offerFeed, .ref m_offerTurns, .ref m_heardOffer, .ref m_heardVerdict, .ref m_heardAt, .ref m_rightOf, .ref m_rightVerdict, .ref m_rightAt, .ref m_verdictOf, .ref m_sound, .ref m_readSound, .int 0]))]) F [] [0] [] rfl rfl (by decide) rfl (by decide) (by decide) rfl (fun sz => K_X13_in l D a.toInt64 0 ((0 : Int32).toInt64)  sz) (va_cwS 3 hts gX13_end_X13_in rfl rfl rfl (by decide +kernel) ⟨Nat.le_of_ble_eq_true rfl, Nat.le_of_ble_eq_true rfl⟩) rfl (Nat.le_of_ble_eq_true rfl) ⟨Nat.le_of_ble_eq_true rfl, Nat.le_of_ble_eq_true rfl⟩ dX13_end_8 (fun r_1 _ hw_2 => ?_)
  have hw_2 : r_1 = (if 0 ≤ a.toInt64 ∧ a.toInt64 ≤ ((0 : Int32).toInt64) then 1 else 0) := hw_2
  have e_r_1 := hw_2
  show gG p l e (gR 2 0 0 55) s m args below meth c D A 2 Q 0 0 [(m0, .inr (12, [.ref m_stop, .ref m_tape, .int 0, .int 0, .int 0, .int 0, .int 0, .int 0, .int 0, .int (-1), .ref m_rule, .ref m_readRule, .ref m_teeth, .ref m_readTeeth, .ref m_sway, .ref m_readSway, .ref m_isTold, .ref m_markKind, .ref m_markValue, .ref m_marks, .int 5, .int 0, .ref m_pile, .ref m_height, .ref m_leftPass, .ref m_leftTurn, .ref m_leftTooth, .ref m_leftX, .int 0, .int 0, .ref m_kept, .ref m_keptWear, .int 0, .ref m_now, .ref m_passed, .int 0, .int 0, .int 0, .ref m_planTime, .ref m_planMany, .ref m_planned, .ref m_isQuiet, .int 0, .int 0, .ref m_keptTeeth, .int 0, .int 0, .ref m_jobRing, .ref m_jobSpeed, .ref m_jobFeed, .ref m_jobTurns, .ref m_orderRow, .ref m_bestRow, .int 0, .ref m_orderTold, .int 0, .int 0, .int 0, .int 0, .ref m_offerRing, .ref m_offerSpeed, .ref m_offerFeed, .ref m_offerTurns, .ref m_heardOffer, .ref m_heardVerdict, .ref m_heardAt, .ref m_rightOf, .ref m_rightVerdict, .ref m_rightAt, .ref m_verdictOf, .ref m_sound, .ref m_readSound, .int 0]))] [] [(0, .ref m0), (1, .int a)] 11 [.int r_1]
  refine g_fold (if 0 ≤ a.toInt64 ∧ a.toInt64 ≤ ((0 : Int32).toInt64) then 1 else 0) e_r_1 ?_
  refine g_fold (if 0 ≤ a ∧ a ≤ 0 then 1 else 0) (gl_in a 0 0 _ _ (by decide) (by decide)) ?_
  refine g_if_ne F 16 dX13_end_11 (by decide) (fun c_11 => ?_) (fun c_11 => ?_)
  · have c_11 := gb_n0 c_11
    refine g_aload_n F 0 dX13_end_16 rfl rfl ?_
    refine g_iload_n F 1 dX13_end_17 rfl rfl ?_
    refine g_put (C := RX13) (T := TX13) (N := 73) (ty := .int) (v := .int a) F i_X13 0 rfl rfl 2 (by decide) w_0 rfl tyX13 tyX13_ok nmX13 rfl (by decide +kernel) rfl rfl (Nat.le_of_ble_eq_true rfl) [(m0, .inr (12, [.ref m_stop, .ref m_tape, .int a, .int 0, .int 0, .int 0, .int 0, .int 0, .int 0, .int (-1), .ref m_rule, .ref m_readRule, .ref m_teeth, .ref m_readTeeth, .ref m_sway, .ref m_readSway, .ref m_isTold, .ref m_markKind, .ref m_markValue, .ref m_marks, .int 5, .int 0, .ref m_pile, .ref m_height, .ref m_leftPass, .ref m_leftTurn, .ref m_leftTooth, .ref m_leftX, .int 0, .int 0, .ref m_kept, .ref m_keptWear, .int 0, .ref m_now, .ref m_passed, .int 0, .int 0, .int 0, .ref m_planTime, .ref m_planMany, .ref m_planned, .ref m_isQuiet, .int 0, .int 0, .ref m_keptTeeth, .int 0, .int 0, .ref m_jobRing, .ref m_jobSpeed, .ref m_jobFeed, .ref m_jobTurns, .ref m_orderRow, .ref m_bestRow, .int 0, .ref m_orderTold, .int 0, .int 0, .int 0, .int 0, .ref m_offerRing, .ref m_offerSpeed, .ref m_offerFeed, .ref m_offerTurns, .ref m_heardOffer, .ref m_heardVerdict, .ref m_heardAt, .ref m_rightOf, .ref m_rightVerdict, .ref m_rightAt, .ref m_verdictOf, .ref m_sound, .ref m_readSound, .int 0]))] rfl dX13_end_18 ?_
    refine g_iload_n F 1 dX13_end_21 rfl rfl ?_
    exact g_iret F hA hQ hr () (by exact gi_p (by (simp only [Int32.lt_iff_toInt_lt, Int32.le_iff_toInt_le, ← Int32.toInt_inj, Int32.reduceToInt] at c_11 ⊢; omega)) (by (simp only [Int32.lt_iff_toInt_lt, Int32.le_iff_toInt_le, ← Int32.toInt_inj, Int32.reduceToInt] at c_11 ⊢; omega))) [] [] rfl (by decide) rfl rfl dX13_end_22
  · have c_11 := gb_0 c_11
    refine g_iconst F (-1) dX13_end_14 (by decide) ?_
    exact g_iret F hA hQ hr () (by first | exact (gi_e (by (simp only [Int32.lt_iff_toInt_lt, Int32.le_iff_toInt_le, ← Int32.toInt_inj, Int32.reduceToInt] at c_11 ⊢; omega)) rfl)) [] [] rfl (by decide) rfl rfl dX13_end_15

theorem dX13_fault_0 : decode cX13_fault 0 = .ok (.iload_n 1, 1) := by decide +kernel
theorem dX13_fault_1 : decode cX13_fault 1 = .ok (.ifCond .ne 10, 3) := by decide +kernel
theorem dX13_fault_4 : decode cX13_fault 4 = .ok (.aload_n 0, 1) := by decide +kernel
theorem dX13_fault_5 : decode cX13_fault 5 = .ok (.getfield 3, 3) := by decide +kernel
theorem dX13_fault_8 : decode cX13_fault 8 = .ok (.goto 16, 3) := by decide +kernel
theorem dX13_fault_11 : decode cX13_fault 11 = .ok (.iload_n 1, 1) := by decide +kernel
theorem dX13_fault_12 : decode cX13_fault 12 = .ok (.iconst 1, 1) := by decide +kernel
theorem dX13_fault_13 : decode cX13_fault 13 = .ok (.if_icmp .ne 10, 3) := by decide +kernel
theorem dX13_fault_16 : decode cX13_fault 16 = .ok (.aload_n 0, 1) := by decide +kernel
theorem dX13_fault_17 : decode cX13_fault 17 = .ok (.getfield 10, 3) := by decide +kernel
theorem dX13_fault_20 : decode cX13_fault 20 = .ok (.goto 4, 3) := by decide +kernel
theorem dX13_fault_23 : decode cX13_fault 23 = .ok (.iconst (-1), 1) := by decide +kernel
theorem dX13_fault_24 : decode cX13_fault 24 = .ok (.ireturn, 1) := by decide +kernel
set_option maxHeartbeats 4000000 in
set_option maxRecDepth 100000 in
theorem K_X13_fault (l : Launch) (D : va_G) (m0 : Nat) (m_stop : Nat) (m_tape : Nat) (m_rule : Nat) (m_readRule : Nat) (m_teeth : Nat) (m_readTeeth : Nat) (m_sway : Nat) (m_readSway : Nat) (m_isTold : Nat) (m_markKind : Nat) (m_markValue : Nat) (m_marks : Nat) (m_pile : Nat) (m_height : Nat) (m_leftPass : Nat) (m_leftTurn : Nat) (m_leftTooth : Nat) (m_leftX : Nat) (m_kept : Nat) (m_keptWear : Nat) (m_now : Nat) (m_passed : Nat) (m_planTime : Nat) (m_planMany : Nat) (m_planned : Nat) (m_isQuiet : Nat) (m_keptTeeth : Nat) (m_jobRing : Nat) (m_jobSpeed : Nat) (m_jobFeed : Nat) (m_jobTurns : Nat) (m_orderRow : Nat) (m_bestRow : Nat) (m_orderTold : Nat) (m_offerRing : Nat) (m_offerSpeed : Nat) (m_offerFeed : Nat) (m_offerTurns : Nat) (m_heardOffer : Nat) (m_heardVerdict : Nat) (m_heardAt : Nat) (m_rightOf : Nat) (m_rightVerdict : Nat) (m_rightAt : Nat) (m_verdictOf : Nat) (m_sound : Nat) (m_readSound : Nat) (a : Int32) (sz : Nat) : Ki l yX13_fault wsX13_fault 1 40 0 0 D [.ref m0, .int a] [(m0, .inr (12, [.ref m_stop, .ref m_tape, .int 0, .int 0, .int 0, .int 0, .int 0, .int 0, .int 0, .int (-1), .ref m_rule, .ref m_readRule, .ref m_teeth, .ref m_readTeeth, .ref m_sway, .ref m_readSway, .ref m_isTold, .ref m_markKind, .ref m_markValue, .ref m_marks, .int 5, .int 0, .ref m_pile, .ref m_height, .ref m_leftPass, .ref m_leftTurn, .ref m_leftTooth, .ref m_leftX, .int 0, .int 0, .ref m_kept, .ref m_keptWear, .int 0, .ref m_now, .ref m_passed, .int 0, .int 0, .int 0, .ref m_planTime, .ref m_planMany, .ref m_planned, .ref m_isQuiet, .int 0, .int 0, .ref m_keptTeeth, .int 0, .int 0, .ref m_jobRing, .ref m_jobSpeed, .ref m_jobFeed, .ref m_jobTurns, .ref m_orderRow, .ref m_bestRow, .int 0, .ref m_orderTold, .int 0, .int 0, .int 0, .int 0, .ref m_offerRing, .ref m_offerSpeed, .ref m_offerFeed, .ref m_offerTurns, .ref m_heardOffer, .ref m_heardVerdict, .ref m_heardAt, .ref m_rightOf, .ref m_rightVerdict, .ref m_rightAt, .ref m_verdictOf, .ref m_sound, .ref m_readSound, .int 0]))] [] sz (fun (r : Int32) (_ : Unit) => r = (if a = 0 then 0 else (-1))) (fun (_ : Unit) => [(m0, .inr (12, [.ref m_stop, .ref m_tape, .int 0, .int 0, .int 0, .int 0, .int 0, .int 0, .int 0, .int (-1), .ref m_rule, .ref m_readRule, .ref m_teeth, .ref m_readTeeth, .ref m_sway, .ref m_readSway, .ref m_isTold, .ref m_markKind, .ref m_markValue, .ref m_marks, .int 5, .int 0, .ref m_pile, .ref m_height, .ref m_leftPass, .ref m_leftTurn, .ref m_leftTooth, .ref m_leftX, .int 0, .int 0, .ref m_kept, .ref m_keptWear, .int 0, .ref m_now, .ref m_passed, .int 0, .int 0, .int 0, .ref m_planTime, .ref m_planMany, .ref m_planned, .ref m_isQuiet, .int 0, .int 0, .ref m_keptTeeth, .int 0, .int 0, .ref m_jobRing, .ref m_jobSpeed, .ref m_jobFeed, .ref m_jobTurns, .ref m_orderRow, .ref m_bestRow, .int 0, .ref m_orderTold, .int 0, .int 0, .int 0, .int 0, .ref m_offerRing, .ref m_offerSpeed, .ref m_offerFeed, .ref m_offerTurns, .ref m_heardOffer, .ref m_heardVerdict, .ref m_heardAt, .ref m_rightOf, .ref m_rightVerdict, .ref m_rightAt, .ref m_verdictOf, .ref m_sound, .ref m_readSound, .int 0]))]) (fun (_ : Unit) => []) := by
  unfold Ki
  refine g_ofW (cc := cX13_fault) (lv := [(0, .ref m0), (1, .int a)]) (by decide) rfl (Nat.le_of_ble_eq_true rfl) rfl ?_
  intro p e s m args below meth c A Q hA hQ F hr hnm
  have hts := F.2.2.2.2.1
  have w_0 : (Cond.fieldLink RX13 10 "QuietCutModel" "faultAt" "I").before args s = true := hts _ (List.mem_of_getElem? (i := 2) rfl)
  have i_X13 : ∀ w ∈ u_ws RX13 TX13 73, w ∈ wsX13_fault := fun _ h => List.mem_cons_of_mem _ (List.mem_append_right _ h)
  have w_1 : (Cond.fieldLink RX13 3 "QuietCutModel" "fault" "I").before args s = true := hts _ (List.mem_of_getElem? (i := 1) rfl)
  refine g_iload_n F 1 dX13_fault_0 rfl rfl ?_
  refine g_if_ne F 11 dX13_fault_1 (by decide) (fun c_1 => ?_) (fun c_1 => ?_)
  · refine g_iload_n F 1 dX13_fault_11 rfl rfl ?_
    refine g_iconst F 1 dX13_fault_12 (by decide) ?_
    refine g_icmp_ne F 23 dX13_fault_13 (by decide) (fun c_13 => ?_) (fun c_13 => ?_)
    · refine g_iconst F (-1) dX13_fault_23 (by decide) ?_
      exact g_iret F hA hQ hr () (by first | exact (gi_e (by (simp only [Int32.lt_iff_toInt_lt, Int32.le_iff_toInt_le, ← Int32.toInt_inj, Int32.reduceToInt] at c_1 c_13 ⊢; omega)) rfl)) [0] [] rfl (by decide) rfl rfl dX13_fault_24
    · refine g_aload_n F 0 dX13_fault_16 rfl rfl ?_
      refine g_get (C := RX13) (T := TX13) (N := 73) (v := .int (-1)) F i_X13 0 rfl rfl 9 (by decide) w_0 rfl rfl dX13_fault_17 ?_
      refine g_goto F 24 dX13_fault_20 (by decide) ?_
      exact g_iret F hA hQ hr () (by first | exact (gi_e (by (simp only [Int32.lt_iff_toInt_lt, Int32.le_iff_toInt_le, ← Int32.toInt_inj, Int32.reduceToInt] at c_1 c_13 ⊢; omega)) rfl)) [0] [] rfl (by decide) rfl rfl dX13_fault_24
  · refine g_aload_n F 0 dX13_fault_4 rfl rfl ?_
    refine g_get (C := RX13) (T := TX13) (N := 73) (v := .int 0) F i_X13 0 rfl rfl 8 (by decide) w_1 rfl rfl dX13_fault_5 ?_
    refine g_goto F 24 dX13_fault_8 (by decide) ?_
    exact g_iret F hA hQ hr () (by first | exact (gi_p (by (simp only [Int32.lt_iff_toInt_lt, Int32.le_iff_toInt_le, ← Int32.toInt_inj, Int32.reduceToInt] at c_1 ⊢; omega)) rfl)) [0] [] rfl (by decide) rfl rfl dX13_fault_24

theorem dX13_told_0 : decode cX13_told 0 = .ok (.iload_n 1, 1) := by decide +kernel
theorem dX13_told_1 : decode cX13_told 1 = .ok (.i2l, 1) := by decide +kernel
theorem dX13_told_2 : decode cX13_told 2 = .ok (.lconst 0, 1) := by decide +kernel
theorem dX13_told_3 : decode cX13_told 3 = .ok (.ldc2_w 350, 3) := by decide +kernel
theorem dX13_told_6 : decode cX13_told 6 = .ok (.invokestatic 61, 3) := by decide +kernel
theorem dX13_told_9 : decode cX13_told 9 = .ok (.ifCond .eq 10, 3) := by decide +kernel
theorem dX13_told_12 : decode cX13_told 12 = .ok (.aload_n 0, 1) := by decide +kernel
theorem dX13_told_13 : decode cX13_told 13 = .ok (.getfield 199, 3) := by decide +kernel
theorem dX13_told_16 : decode cX13_told 16 = .ok (.iload_n 1, 1) := by decide +kernel
theorem dX13_told_17 : decode cX13_told 17 = .ok (.iaload, 1) := by decide +kernel
theorem dX13_told_18 : decode cX13_told 18 = .ok (.ireturn, 1) := by decide +kernel
theorem dX13_told_19 : decode cX13_told 19 = .ok (.iload_n 1, 1) := by decide +kernel
theorem dX13_told_20 : decode cX13_told 20 = .ok (.i2l, 1) := by decide +kernel
theorem dX13_told_21 : decode cX13_told 21 = .ok (.ldc2_w 352, 3) := by decide +kernel
theorem dX13_told_24 : decode cX13_told 24 = .ok (.ldc2_w 354, 3) := by decide +kernel
theorem dX13_told_27 : decode cX13_told 27 = .ok (.aload_n 0, 1) := by decide +kernel
theorem dX13_told_28 : decode cX13_told 28 = .ok (.getfield 199, 3) := by decide +kernel
theorem dX13_told_31 : decode cX13_told 31 = .ok (.bipush 10, 2) := by decide +kernel
theorem dX13_told_33 : decode cX13_told 33 = .ok (.iaload, 1) := by decide +kernel
theorem dX13_told_34 : decode cX13_told 34 = .ok (.i2l, 1) := by decide +kernel
theorem dX13_told_35 : decode cX13_told 35 = .ok (.ladd, 1) := by decide +kernel
theorem dX13_told_36 : decode cX13_told 36 = .ok (.invokestatic 61, 3) := by decide +kernel
theorem dX13_told_39 : decode cX13_told 39 = .ok (.ifCond .eq 13, 3) := by decide +kernel
theorem dX13_told_42 : decode cX13_told 42 = .ok (.aload_n 0, 1) := by decide +kernel
theorem dX13_told_43 : decode cX13_told 43 = .ok (.getfield 202, 3) := by decide +kernel
theorem dX13_told_46 : decode cX13_told 46 = .ok (.iload_n 1, 1) := by decide +kernel
theorem dX13_told_47 : decode cX13_told 47 = .ok (.bipush 20, 2) := by decide +kernel
theorem dX13_told_49 : decode cX13_told 49 = .ok (.isub, 1) := by decide +kernel
theorem dX13_told_50 : decode cX13_told 50 = .ok (.iaload, 1) := by decide +kernel
theorem dX13_told_51 : decode cX13_told 51 = .ok (.ireturn, 1) := by decide +kernel
theorem dX13_told_52 : decode cX13_told 52 = .ok (.iload_n 1, 1) := by decide +kernel
theorem dX13_told_53 : decode cX13_told 53 = .ok (.i2l, 1) := by decide +kernel
theorem dX13_told_54 : decode cX13_told 54 = .ok (.ldc2_w 356, 3) := by decide +kernel
theorem dX13_told_57 : decode cX13_told 57 = .ok (.ldc2_w 358, 3) := by decide +kernel
theorem dX13_told_60 : decode cX13_told 60 = .ok (.aload_n 0, 1) := by decide +kernel
theorem dX13_told_61 : decode cX13_told 61 = .ok (.getfield 199, 3) := by decide +kernel
theorem dX13_told_64 : decode cX13_told 64 = .ok (.bipush 11, 2) := by decide +kernel
theorem dX13_told_66 : decode cX13_told 66 = .ok (.iaload, 1) := by decide +kernel
theorem dX13_told_67 : decode cX13_told 67 = .ok (.i2l, 1) := by decide +kernel
theorem dX13_told_68 : decode cX13_told 68 = .ok (.ladd, 1) := by decide +kernel
theorem dX13_told_69 : decode cX13_told 69 = .ok (.invokestatic 61, 3) := by decide +kernel
theorem dX13_told_72 : decode cX13_told 72 = .ok (.ifCond .eq 15, 3) := by decide +kernel
theorem dX13_told_75 : decode cX13_told 75 = .ok (.aload_n 0, 1) := by decide +kernel
theorem dX13_told_76 : decode cX13_told 76 = .ok (.getfield 204, 3) := by decide +kernel
theorem dX13_told_79 : decode cX13_told 79 = .ok (.iload_n 1, 1) := by decide +kernel
theorem dX13_told_80 : decode cX13_told 80 = .ok (.bipush 30, 2) := by decide +kernel
theorem dX13_told_82 : decode cX13_told 82 = .ok (.isub, 1) := by decide +kernel
theorem dX13_told_83 : decode cX13_told 83 = .ok (.iaload, 1) := by decide +kernel
theorem dX13_told_84 : decode cX13_told 84 = .ok (.goto 4, 3) := by decide +kernel
theorem dX13_told_87 : decode cX13_told 87 = .ok (.iconst (-1), 1) := by decide +kernel
theorem dX13_told_88 : decode cX13_told 88 = .ok (.ireturn, 1) := by decide +kernel
set_option maxRecDepth 20000 in
theorem ggX13_told_X13_in : GoodIn wsX13_told wsX13_in := goodIn_r _ [12] rfl (by decide +kernel)
set_option maxRecDepth 20000 in
theorem gX13_told_X13_in : GoodIn wsX13_told (va_wsS RX13 61 yX13_in wsX13_in) := goodIn_app (goodIn_of _ (by decide +kernel)) ggX13_told_X13_in
set_option maxHeartbeats 4000000 in
set_option maxRecDepth 100000 in
theorem K_X13_told (l : Launch) (D : va_G) (m0 : Nat) (m_stop : Nat) (m_tape : Nat) (m_rule : Nat) (m_readRule : Nat) (m_teeth : Nat) (m_readTeeth : Nat) (m_sway : Nat) (m_readSway : Nat) (m_isTold : Nat) (m_markKind : Nat) (m_markValue : Nat) (m_marks : Nat) (m_pile : Nat) (m_height : Nat) (m_leftPass : Nat) (m_leftTurn : Nat) (m_leftTooth : Nat) (m_leftX : Nat) (m_kept : Nat) (m_keptWear : Nat) (m_now : Nat) (m_passed : Nat) (m_planTime : Nat) (m_planMany : Nat) (m_planned : Nat) (m_isQuiet : Nat) (m_keptTeeth : Nat) (m_jobRing : Nat) (m_jobSpeed : Nat) (m_jobFeed : Nat) (m_jobTurns : Nat) (m_orderRow : Nat) (m_bestRow : Nat) (m_orderTold : Nat) (m_offerRing : Nat) (m_offerSpeed : Nat) (m_offerFeed : Nat) (m_offerTurns : Nat) (m_heardOffer : Nat) (m_heardVerdict : Nat) (m_heardAt : Nat) (m_rightOf : Nat) (m_rightVerdict : Nat) (m_rightAt : Nat) (m_verdictOf : Nat) (m_sound : Nat) (m_readSound : Nat) (cI : ClassId) (a : Int32) (sz : Nat) : Ki l yX13_told wsX13_told 2 55 0 0 D [.ref m0, .int a] [(m0, .inr (12, [.ref m_stop, .ref m_tape, .int 0, .int 0, .int 0, .int 0, .int 0, .int 0, .int 0, .int (-1), .ref m_rule, .ref m_readRule, .ref m_teeth, .ref m_readTeeth, .ref m_sway, .ref m_readSway, .ref m_isTold, .ref m_markKind, .ref m_markValue, .ref m_marks, .int 5, .int 0, .ref m_pile, .ref m_height, .ref m_leftPass, .ref m_leftTurn, .ref m_leftTooth, .ref m_leftX, .int 0, .int 0, .ref m_kept, .ref m_keptWear, .int 0, .ref m_now, .ref m_passed, .int 0, .int 0, .int 0, .ref m_planTime, .ref m_planMany, .ref m_planned, .ref m_isQuiet, .int 0, .int 0, .ref m_keptTeeth, .int 0, .int 0, .ref m_jobRing, .ref m_jobSpeed, .ref m_jobFeed, .ref m_jobTurns, .ref m_orderRow, .ref m_bestRow, .int 0, .ref m_orderTold, .int 0, .int 0, .int 0, .int 0, .ref m_offerRing, .ref m_offerSpeed, .ref m_offerFeed, .ref m_offerTurns, .ref m_heardOffer, .ref m_heardVerdict, .ref m_heardAt, .ref m_rightOf, .ref m_rightVerdict, .ref m_rightAt, .ref m_verdictOf, .ref m_sound, .ref m_readSound, .int 0])), (m_rule, .inl (cI, 12, .inl gz_untold)), (m_teeth, .inl (cI, 4, .inl (upd (fun _ => 0) 0 0))), (m_sway, .inl (cI, 6, .inl (upd (fun _ => 0) 0 0)))] [(cI, .int)] sz (fun (r : Int32) (_ : Unit) => r = (if 0 ≤ a ∧ a ≤ 11 then (gz_untold a.toNatClampNeg) else (if a = 20 then 0 else (if a = 30 then 0 else (-1))))) (fun (_ : Unit) => [(m0, .inr (12, [.ref m_stop, .ref m_tape, .int 0, .int 0, .int 0, .int 0, .int 0, .int 0, .int 0, .int (-1), .ref m_rule, .ref m_readRule, .ref m_teeth, .ref m_readTeeth, .ref m_sway, .ref m_readSway, .ref m_isTold, .ref m_markKind, .ref m_markValue, .ref m_marks, .int 5, .int 0, .ref m_pile, .ref m_height, .ref m_leftPass, .ref m_leftTurn, .ref m_leftTooth, .ref m_leftX, .int 0, .int 0, .ref m_kept, .ref m_keptWear, .int 0, .ref m_now, .ref m_passed, .int 0, .int 0, .int 0, .ref m_planTime, .ref m_planMany, .ref m_planned, .ref m_isQuiet, .int 0, .int 0, .ref m_keptTeeth, .int 0, .int 0, .ref m_jobRing, .ref m_jobSpeed, .ref m_jobFeed, .ref m_jobTurns, .ref m_orderRow, .ref m_bestRow, .int 0, .ref m_orderTold, .int 0, .int 0, .int 0, .int 0, .ref m_offerRing, .ref m_offerSpeed, .ref m_offerFeed, .ref m_offerTurns, .ref m_heardOffer, .ref m_heardVerdict, .ref m_heardAt, .ref m_rightOf, .ref m_rightVerdict, .ref m_rightAt, .ref m_verdictOf, .ref m_sound, .ref m_readSound, .int 0])), (m_rule, .inl (cI, 12, .inl gz_untold)), (m_teeth, .inl (cI, 4, .inl (upd (fun _ => 0) 0 0))), (m_sway, .inl (cI, 6, .inl (upd (fun _ => 0) 0 0)))]) (fun (_ : Unit) => [(cI, .int)]) := by
  unfold Ki
  refine g_ofW (cc := cX13_told) (lv := [(0, .ref m0), (1, .int a)]) (by decide) rfl (Nat.le_of_ble_eq_true rfl) rfl ?_
  intro p e s m args below meth c A Q hA hQ F hr hnm
  have hts := F.2.2.2.2.1
  have w_0 : (Cond.constantLong RX13 350 (11)).before args s = true := hts _ (List.mem_of_getElem? (i := 1) rfl)
  have w_1 : (Cond.constantLong RX13 352 (20)).before args s = true := hts _ (List.mem_of_getElem? (i := 3) rfl)
  have w_2 : (Cond.constantLong RX13 354 (19)).before args s = true := hts _ (List.mem_of_getElem? (i := 4) rfl)
  have w_3 : (Cond.fieldLink RX13 199 "QuietCutModel" "rule" "[I").before args s = true := hts _ (List.mem_of_getElem? (i := 2) rfl)
  have i_X13 : ∀ w ∈ u_ws RX13 TX13 73, w ∈ wsX13_told := fun _ h => List.mem_cons_of_mem _ (List.mem_append_right _ h)
  have w_4 : (Cond.constantLong RX13 356 (30)).before args s = true := hts _ (List.mem_of_getElem? (i := 6) rfl)
  have w_5 : (Cond.constantLong RX13 358 (29)).before args s = true := hts _ (List.mem_of_getElem? (i := 7) rfl)
  have w_6 : (Cond.fieldLink RX13 204 "QuietCutModel" "sway" "[I").before args s = true := hts _ (List.mem_of_getElem? (i := 8) rfl)
  have w_7 : (Cond.fieldLink RX13 202 "QuietCutModel" "teeth" "[I").before args s = true := hts _ (List.mem_of_getElem? (i := 5) rfl)
  refine g_iload_n F 1 dX13_told_0 rfl rfl ?_
  refine g_i2l F dX13_told_1 ?_
  refine g_lconst F 0 dX13_told_2 (by decide) ?_
  refine g_ldc2 F w_0 dX13_told_3 ?_
  refine g_callSi (k := 0) (n := 0) (As := [.long a.toInt64, .long 0, .long 11]) (st := []) (wc := []) (wr := [(m0, .inr (12, [.ref m_stop, .ref m_tape, .int 0, .int 0, .int 0, .int 0, .int 0, .int 0, .int 0, .int (-1), .ref m_rule, .ref m_readRule, .ref m_teeth, .ref m_readTeeth, .ref m_sway, .ref m_readSway, .ref m_isTold, .ref m_markKind, .ref m_markValue, .ref m_marks, .int 5, .int 0, .ref m_pile, .ref m_height, .ref m_leftPass, .ref m_leftTurn, .ref m_leftTooth, .ref m_leftX, .int 0, .int 0, .ref m_kept, .ref m_keptWear, .int 0, .ref m_now, .ref m_passed, .int 0, .int 0, .int 0, .ref m_planTime, .ref m_planMany, .ref m_planned, .ref m_isQuiet, .int 0, .int 0, .ref m_keptTeeth, .int 0, .int 0, .ref m_jobRing, .ref m_jobSpeed, .ref m_jobFeed, .ref m_jobTurns, .ref m_orderRow, .ref m_bestRow, .int 0, .ref m_orderTold, .int 0, .int 0, .int 0, .int 0, .ref m_offerRing, .ref m_offerSpeed, .ref m_offerFeed, .ref m_offerTurns, .ref m_heardOffer, .ref m_heardVerdict, .ref m_heardAt, .ref m_rightOf, .ref m_rightVerdict, .ref m_rightAt, .ref m_verdictOf, .ref m_sound, .ref m_readSound, .int 0])), (m_rule, .inl (cI, 12, .inl gz_untold)), (m_teeth, .inl (cI, 4, .inl (upd (fun _ => 0) 0 0))), (m_sway, .inl (cI, 6, .inl (upd (fun _ => 0) 0 0)))]) F [] [0, 1, 2, 3] [] rfl rfl (by decide) rfl (by decide) (by decide) rfl (fun sz => K_X13_in l D a.toInt64 0 11  sz) (va_cwS 3 hts gX13_told_X13_in rfl rfl rfl (by decide +kernel) ⟨Nat.le_of_ble_eq_true rfl, Nat.le_of_ble_eq_true rfl⟩) rfl (Nat.le_of_ble_eq_true rfl) ⟨Nat.le_of_ble_eq_true rfl, Nat.le_of_ble_eq_true rfl⟩ dX13_told_6 (fun r_1 _ hw_2 => ?_)
  have hw_2 : r_1 = (if 0 ≤ a.toInt64 ∧ a.toInt64 ≤ 11 then 1 else 0) := hw_2
  have e_r_1 := hw_2
  show gG p l e (gR 2 0 0 55) s m args below meth c D A 2 Q 0 0 [(m0, .inr (12, [.ref m_stop, .ref m_tape, .int 0, .int 0, .int 0, .int 0, .int 0, .int 0, .int 0, .int (-1), .ref m_rule, .ref m_readRule, .ref m_teeth, .ref m_readTeeth, .ref m_sway, .ref m_readSway, .ref m_isTold, .ref m_markKind, .ref m_markValue, .ref m_marks, .int 5, .int 0, .ref m_pile, .ref m_height, .ref m_leftPass, .ref m_leftTurn, .ref m_leftTooth, .ref m_leftX, .int 0, .int 0, .ref m_kept, .ref m_keptWear, .int 0, .ref m_now, .ref m_passed, .int 0, .int 0, .int 0, .ref m_planTime, .ref m_planMany, .ref m_planned, .ref m_isQuiet, .int 0, .int 0, .ref m_keptTeeth, .int 0, .int 0, .ref m_jobRing, .ref m_jobSpeed, .ref m_jobFeed, .ref m_jobTurns, .ref m_orderRow, .ref m_bestRow, .int 0, .ref m_orderTold, .int 0, .int 0, .int 0, .int 0, .ref m_offerRing, .ref m_offerSpeed, .ref m_offerFeed, .ref m_offerTurns, .ref m_heardOffer, .ref m_heardVerdict, .ref m_heardAt, .ref m_rightOf, .ref m_rightVerdict, .ref m_rightAt, .ref m_verdictOf, .ref m_sound, .ref m_readSound, .int 0])), (m_rule, .inl (cI, 12, .inl gz_untold)), (m_teeth, .inl (cI, 4, .inl (upd (fun _ => 0) 0 0))), (m_sway, .inl (cI, 6, .inl (upd (fun _ => 0) 0 0)))] [(cI, .int)] [(0, .ref m0), (1, .int a)] 9 [.int r_1]
  refine g_fold (if 0 ≤ a.toInt64 ∧ a.toInt64 ≤ 11 then 1 else 0) e_r_1 ?_
  refine g_fold (if 0 ≤ a ∧ a ≤ 11 then 1 else 0) (gl_in a 0 11 _ _ (by decide) (by decide)) ?_
  refine g_if_eq F 19 dX13_told_9 (by decide) (fun c_9 => ?_) (fun c_9 => ?_)
  · have c_9 := gb_0 c_9
    refine g_iload_n F 1 dX13_told_19 rfl rfl ?_
    refine g_i2l F dX13_told_20 ?_
    refine g_ldc2 F w_1 dX13_told_21 ?_
    refine g_ldc2 F w_2 dX13_told_24 ?_
    refine g_aload_n F 0 dX13_told_27 rfl rfl ?_
    refine g_get (C := RX13) (T := TX13) (N := 73) (v := .ref m_rule) F i_X13 0 rfl rfl 10 (by decide) w_3 rfl rfl dX13_told_28 ?_
    refine g_bipush F 10 dX13_told_31 (by decide) ?_
    refine g_iald F 1 0 rfl rfl (by unfold vp_in; decide) dX13_told_33 ?_
    refine g_fold 1 (by rfl) ?_
    refine g_i2l F dX13_told_34 ?_
    refine g_ladd F dX13_told_35 ?_
    refine g_callSi (k := 0) (n := 0) (As := [.long a.toInt64, .long 20, .long (19 + ((1 : Int32).toInt64))]) (st := []) (wc := []) (wr := [(m0, .inr (12, [.ref m_stop, .ref m_tape, .int 0, .int 0, .int 0, .int 0, .int 0, .int 0, .int 0, .int (-1), .ref m_rule, .ref m_readRule, .ref m_teeth, .ref m_readTeeth, .ref m_sway, .ref m_readSway, .ref m_isTold, .ref m_markKind, .ref m_markValue, .ref m_marks, .int 5, .int 0, .ref m_pile, .ref m_height, .ref m_leftPass, .ref m_leftTurn, .ref m_leftTooth, .ref m_leftX, .int 0, .int 0, .ref m_kept, .ref m_keptWear, .int 0, .ref m_now, .ref m_passed, .int 0, .int 0, .int 0, .ref m_planTime, .ref m_planMany, .ref m_planned, .ref m_isQuiet, .int 0, .int 0, .ref m_keptTeeth, .int 0, .int 0, .ref m_jobRing, .ref m_jobSpeed, .ref m_jobFeed, .ref m_jobTurns, .ref m_orderRow, .ref m_bestRow, .int 0, .ref m_orderTold, .int 0, .int 0, .int 0, .int 0, .ref m_offerRing, .ref m_offerSpeed, .ref m_offerFeed, .ref m_offerTurns, .ref m_heardOffer, .ref m_heardVerdict, .ref m_heardAt, .ref m_rightOf, .ref m_rightVerdict, .ref m_rightAt, .ref m_verdictOf, .ref m_sound, .ref m_readSound, .int 0])), (m_rule, .inl (cI, 12, .inl gz_untold)), (m_teeth, .inl (cI, 4, .inl (upd (fun _ => 0) 0 0))), (m_sway, .inl (cI, 6, .inl (upd (fun _ => 0) 0 0)))]) F [] [0, 1, 2, 3] [] rfl rfl (by decide) rfl (by decide) (by decide) rfl (fun sz => K_X13_in l D a.toInt64 20 (19 + ((1 : Int32).toInt64))  sz) (va_cwS 3 hts gX13_told_X13_in rfl rfl rfl (by decide +kernel) ⟨Nat.le_of_ble_eq_true rfl, Nat.le_of_ble_eq_true rfl⟩) rfl (Nat.le_of_ble_eq_true rfl) ⟨Nat.le_of_ble_eq_true rfl, Nat.le_of_ble_eq_true rfl⟩ dX13_told_36 (fun r_6 _ hw_7 => ?_)
    have hw_7 : r_6 = (if 20 ≤ a.toInt64 ∧ a.toInt64 ≤ (19 + ((1 : Int32).toInt64)) then 1 else 0) := hw_7
    have e_r_6 := hw_7
    show gG p l e (gR 2 0 0 55) s m args below meth c D A 2 Q 0 0 [(m0, .inr (12, [.ref m_stop, .ref m_tape, .int 0, .int 0, .int 0, .int 0, .int 0, .int 0, .int 0, .int (-1), .ref m_rule, .ref m_readRule, .ref m_teeth, .ref m_readTeeth, .ref m_sway, .ref m_readSway, .ref m_isTold, .ref m_markKind, .ref m_markValue, .ref m_marks, .int 5, .int 0, .ref m_pile, .ref m_height, .ref m_leftPass, .ref m_leftTurn, .ref m_leftTooth, .ref m_leftX, .int 0, .int 0, .ref m_kept, .ref m_keptWear, .int 0, .ref m_now, .ref m_passed, .int 0, .int 0, .int 0, .ref m_planTime, .ref m_planMany, .ref m_planned, .ref m_isQuiet, .int 0, .int 0, .ref m_keptTeeth, .int 0, .int 0, .ref m_jobRing, .ref m_jobSpeed, .ref m_jobFeed, .ref m_jobTurns, .ref m_orderRow, .ref m_bestRow, .int 0, .ref m_orderTold, .int 0, .int 0, .int 0, .int 0, .ref m_offerRing, .ref m_offerSpeed, .ref m_offerFeed, .ref m_offerTurns, .ref m_heardOffer, .ref m_heardVerdict, .ref m_heardAt, .ref m_rightOf, .ref m_rightVerdict, .ref m_rightAt, .ref m_verdictOf, .ref m_sound, .ref m_readSound, .int 0])), (m_rule, .inl (cI, 12, .inl gz_untold)), (m_teeth, .inl (cI, 4, .inl (upd (fun _ => 0) 0 0))), (m_sway, .inl (cI, 6, .inl (upd (fun _ => 0) 0 0)))] [(cI, .int)] [(0, .ref m0), (1, .int a)] 39 [.int r_6]
    refine g_fold (if 20 ≤ a.toInt64 ∧ a.toInt64 ≤ (19 + ((1 : Int32).toInt64)) then 1 else 0) e_r_6 ?_
    refine g_fold (if 20 ≤ a ∧ a ≤ 20 then 1 else 0) (gl_in a 20 20 _ _ (by decide) (by decide)) ?_
    refine g_if_eq F 52 dX13_told_39 (by decide) (fun c_39 => ?_) (fun c_39 => ?_)
    · have c_39 := gb_0 c_39
      refine g_iload_n F 1 dX13_told_52 rfl rfl ?_
      refine g_i2l F dX13_told_53 ?_
      refine g_ldc2 F w_4 dX13_told_54 ?_
      refine g_ldc2 F w_5 dX13_told_57 ?_
      refine g_aload_n F 0 dX13_told_60 rfl rfl ?_
      refine g_get (C := RX13) (T := TX13) (N := 73) (v := .ref m_rule) F i_X13 0 rfl rfl 10 (by decide) w_3 rfl rfl dX13_told_61 ?_
      refine g_bipush F 11 dX13_told_64 (by decide) ?_
      refine g_iald F 1 0 rfl rfl (by unfold vp_in; decide) dX13_told_66 ?_
      refine g_fold 1 (by rfl) ?_
      refine g_i2l F dX13_told_67 ?_
      refine g_ladd F dX13_told_68 ?_
      refine g_callSi (k := 0) (n := 0) (As := [.long a.toInt64, .long 30, .long (29 + ((1 : Int32).toInt64))]) (st := []) (wc := []) (wr := [(m0, .inr (12, [.ref m_stop, .ref m_tape, .int 0, .int 0, .int 0, .int 0, .int 0, .int 0, .int 0, .int (-1), .ref m_rule, .ref m_readRule, .ref m_teeth, .ref m_readTeeth, .ref m_sway, .ref m_readSway, .ref m_isTold, .ref m_markKind, .ref m_markValue, .ref m_marks, .int 5, .int 0, .ref m_pile, .ref m_height, .ref m_leftPass, .ref m_leftTurn, .ref m_leftTooth, .ref m_leftX, .int 0, .int 0, .ref m_kept, .ref m_keptWear, .int 0, .ref m_now, .ref m_passed, .int 0, .int 0, .int 0, .ref m_planTime, .ref m_planMany, .ref m_planned, .ref m_isQuiet, .int 0, .int 0, .ref m_keptTeeth, .int 0, .int 0, .ref m_jobRing, .ref m_jobSpeed, .ref m_jobFeed, .ref m_jobTurns, .ref m_orderRow, .ref m_bestRow, .int 0, .ref m_orderTold, .int 0, .int 0, .int 0, .int 0, .ref m_offerRing, .ref m_offerSpeed, .ref m_offerFeed, .ref m_offerTurns, .ref m_heardOffer, .ref m_heardVerdict, .ref m_heardAt, .ref m_rightOf, .ref m_rightVerdict, .ref m_rightAt, .ref m_verdictOf, .ref m_sound, .ref m_readSound, .int 0])), (m_rule, .inl (cI, 12, .inl gz_untold)), (m_teeth, .inl (cI, 4, .inl (upd (fun _ => 0) 0 0))), (m_sway, .inl (cI, 6, .inl (upd (fun _ => 0) 0 0)))]) F [] [0, 1, 2, 3] [] rfl rfl (by decide) rfl (by decide) (by decide) rfl (fun sz => K_X13_in l D a.toInt64 30 (29 + ((1 : Int32).toInt64))  sz) (va_cwS 3 hts gX13_told_X13_in rfl rfl rfl (by decide +kernel) ⟨Nat.le_of_ble_eq_true rfl, Nat.le_of_ble_eq_true rfl⟩) rfl (Nat.le_of_ble_eq_true rfl) ⟨Nat.le_of_ble_eq_true rfl, Nat.le_of_ble_eq_true rfl⟩ dX13_told_69 (fun r_11 _ hw_12 => ?_)
      have hw_12 : r_11 = (if 30 ≤ a.toInt64 ∧ a.toInt64 ≤ (29 + ((1 : Int32).toInt64)) then 1 else 0) := hw_12
      have e_r_11 := hw_12
      show gG p l e (gR 2 0 0 55) s m args below meth c D A 2 Q 0 0 [(m0, .inr (12, [.ref m_stop, .ref m_tape, .int 0, .int 0, .int 0, .int 0, .int 0, .int 0, .int 0, .int (-1), .ref m_rule, .ref m_readRule, .ref m_teeth, .ref m_readTeeth, .ref m_sway, .ref m_readSway, .ref m_isTold, .ref m_markKind, .ref m_markValue, .ref m_marks, .int 5, .int 0, .ref m_pile, .ref m_height, .ref m_leftPass, .ref m_leftTurn, .ref m_leftTooth, .ref m_leftX, .int 0, .int 0, .ref m_kept, .ref m_keptWear, .int 0, .ref m_now, .ref m_passed, .int 0, .int 0, .int 0, .ref m_planTime, .ref m_planMany, .ref m_planned, .ref m_isQuiet, .int 0, .int 0, .ref m_keptTeeth, .int 0, .int 0, .ref m_jobRing, .ref m_jobSpeed, .ref m_jobFeed, .ref m_jobTurns, .ref m_orderRow, .ref m_bestRow, .int 0, .ref m_orderTold, .int 0, .int 0, .int 0, .int 0, .ref m_offerRing, .ref m_offerSpeed, .ref m_offerFeed, .ref m_offerTurns, .ref m_heardOffer, .ref m_heardVerdict, .ref m_heardAt, .ref m_rightOf, .ref m_rightVerdict, .ref m_rightAt, .ref m_verdictOf, .ref m_sound, .ref m_readSound, .int 0])), (m_rule, .inl (cI, 12, .inl gz_untold)), (m_teeth, .inl (cI, 4, .inl (upd (fun _ => 0) 0 0))), (m_sway, .inl (cI, 6, .inl (upd (fun _ => 0) 0 0)))] [(cI, .int)] [(0, .ref m0), (1, .int a)] 72 [.int r_11]
      refine g_fold (if 30 ≤ a.toInt64 ∧ a.toInt64 ≤ (29 + ((1 : Int32).toInt64)) then 1 else 0) e_r_11 ?_
      refine g_fold (if 30 ≤ a ∧ a ≤ 30 then 1 else 0) (gl_in a 30 30 _ _ (by decide) (by decide)) ?_
      refine g_if_eq F 87 dX13_told_72 (by decide) (fun c_72 => ?_) (fun c_72 => ?_)
      · have c_72 := gb_0 c_72
        refine g_iconst F (-1) dX13_told_87 (by decide) ?_
        exact g_iret F hA hQ hr () (by first | exact (gi_e (by (simp only [Int32.lt_iff_toInt_lt, Int32.le_iff_toInt_le, ← Int32.toInt_inj, Int32.reduceToInt] at c_9 c_39 c_72 ⊢; omega)) (gi_e (by (simp only [Int32.lt_iff_toInt_lt, Int32.le_iff_toInt_le, ← Int32.toInt_inj, Int32.reduceToInt] at c_9 c_39 c_72 ⊢; omega)) (gi_e (by (simp only [Int32.lt_iff_toInt_lt, Int32.le_iff_toInt_le, ← Int32.toInt_inj, Int32.reduceToInt] at c_9 c_39 c_72 ⊢; omega)) rfl)))) [0, 1, 2, 3] [0] rfl (by decide) rfl rfl dX13_told_88
      · have c_72 := gb_n0 c_72
        refine g_aload_n F 0 dX13_told_75 rfl rfl ?_
        refine g_get (C := RX13) (T := TX13) (N := 73) (v := .ref m_sway) F i_X13 0 rfl rfl 14 (by decide) w_6 rfl rfl dX13_told_76 ?_
        refine g_iload_n F 1 dX13_told_79 rfl rfl ?_
        refine g_bipush F 30 dX13_told_80 (by decide) ?_
        refine g_isub F dX13_told_82 ?_
        refine g_iald F 3 0 rfl rfl (by rw [show a = 30 from by (simp only [Int32.lt_iff_toInt_lt, Int32.le_iff_toInt_le, ← Int32.toInt_inj, Int32.reduceToInt] at c_72 ⊢; omega)]; unfold vp_in; decide) dX13_told_83 ?_
        refine g_fold 0 (by rw [show a = 30 from by (simp only [Int32.lt_iff_toInt_lt, Int32.le_iff_toInt_le, ← Int32.toInt_inj, Int32.reduceToInt] at c_72 ⊢; omega)]; rfl) ?_
        refine g_goto F 88 dX13_told_84 (by decide) ?_
        exact g_iret F hA hQ hr () (by first | exact (gi_e (by (simp only [Int32.lt_iff_toInt_lt, Int32.le_iff_toInt_le, ← Int32.toInt_inj, Int32.reduceToInt] at c_9 c_39 c_72 ⊢; omega)) (gi_p (by (simp only [Int32.lt_iff_toInt_lt, Int32.le_iff_toInt_le, ← Int32.toInt_inj, Int32.reduceToInt] at c_9 c_39 c_72 ⊢; omega)) rfl)) | exact (gi_e (by (simp only [Int32.lt_iff_toInt_lt, Int32.le_iff_toInt_le, ← Int32.toInt_inj, Int32.reduceToInt] at c_9 c_39 c_72 ⊢; omega)) (gi_e (by (simp only [Int32.lt_iff_toInt_lt, Int32.le_iff_toInt_le, ← Int32.toInt_inj, Int32.reduceToInt] at c_9 c_39 c_72 ⊢; omega)) (gi_p (by (simp only [Int32.lt_iff_toInt_lt, Int32.le_iff_toInt_le, ← Int32.toInt_inj, Int32.reduceToInt] at c_9 c_39 c_72 ⊢; omega)) rfl)))) [0, 1, 2, 3] [0] rfl (by decide) rfl rfl dX13_told_88
    · have c_39 := gb_n0 c_39
      refine g_aload_n F 0 dX13_told_42 rfl rfl ?_
      refine g_get (C := RX13) (T := TX13) (N := 73) (v := .ref m_teeth) F i_X13 0 rfl rfl 12 (by decide) w_7 rfl rfl dX13_told_43 ?_
      refine g_iload_n F 1 dX13_told_46 rfl rfl ?_
      refine g_bipush F 20 dX13_told_47 (by decide) ?_
      refine g_isub F dX13_told_49 ?_
      refine g_iald F 2 0 rfl rfl (by rw [show a = 20 from by (simp only [Int32.lt_iff_toInt_lt, Int32.le_iff_toInt_le, ← Int32.toInt_inj, Int32.reduceToInt] at c_39 ⊢; omega)]; unfold vp_in; decide) dX13_told_50 ?_
      refine g_fold 0 (by rw [show a = 20 from by (simp only [Int32.lt_iff_toInt_lt, Int32.le_iff_toInt_le, ← Int32.toInt_inj, Int32.reduceToInt] at c_39 ⊢; omega)]; rfl) ?_
      exact g_iret F hA hQ hr () (by first | exact (gi_e (by (simp only [Int32.lt_iff_toInt_lt, Int32.le_iff_toInt_le, ← Int32.toInt_inj, Int32.reduceToInt] at c_9 c_39 ⊢; omega)) (gi_p (by (simp only [Int32.lt_iff_toInt_lt, Int32.le_iff_toInt_le, ← Int32.toInt_inj, Int32.reduceToInt] at c_9 c_39 ⊢; omega)) rfl)) | exact (gi_e (by (simp only [Int32.lt_iff_toInt_lt, Int32.le_iff_toInt_le, ← Int32.toInt_inj, Int32.reduceToInt] at c_9 c_39 ⊢; omega)) (gi_e (by (simp only [Int32.lt_iff_toInt_lt, Int32.le_iff_toInt_le, ← Int32.toInt_inj, Int32.reduceToInt] at c_9 c_39 ⊢; omega)) (gi_p (by (simp only [Int32.lt_iff_toInt_lt, Int32.le_iff_toInt_le, ← Int32.toInt_inj, Int32.reduceToInt] at c_9 c_39 ⊢; omega)) rfl)))) [0, 1, 2, 3] [0] rfl (by decide) rfl rfl dX13_told_51
  · have c_9 := gb_n0 c_9
    refine g_aload_n F 0 dX13_told_12 rfl rfl ?_
    refine g_get (C := RX13) (T := TX13) (N := 73) (v := .ref m_rule) F i_X13 0 rfl rfl 10 (by decide) w_3 rfl rfl dX13_told_13 ?_
    refine g_iload_n F 1 dX13_told_16 rfl rfl ?_
    obtain ⟨j_, hj_, ej_⟩ := gi_in36 (a := a) 12 (by (simp only [Int32.lt_iff_toInt_lt, Int32.le_iff_toInt_le, ← Int32.toInt_inj, Int32.reduceToInt] at c_9 ⊢; omega)) (by (simp only [Int32.lt_iff_toInt_lt, Int32.le_iff_toInt_le, ← Int32.toInt_inj, Int32.reduceToInt] at c_9 ⊢; omega)) (by decide)
    refine g_iald F 1 0 rfl rfl (by rw [ej_]; exact vp_in_nI (by omega) (by decide)) dX13_told_17 ?_
    exact g_iret F hA hQ hr () (by first | exact (gi_p (by (simp only [Int32.lt_iff_toInt_lt, Int32.le_iff_toInt_le, ← Int32.toInt_inj, Int32.reduceToInt] at c_9 ⊢; omega)) rfl)) [0, 1, 2, 3] [0] rfl (by decide) rfl rfl dX13_told_18

theorem dX13_sumOf_0 : decode cX13_sumOf 0 = .ok (.iconst 0, 1) := by decide +kernel
theorem dX13_sumOf_1 : decode cX13_sumOf 1 = .ok (.istore 4, 2) := by decide +kernel
theorem dX13_sumOf_3 : decode cX13_sumOf 3 = .ok (.bipush 80, 2) := by decide +kernel
theorem dX13_sumOf_5 : decode cX13_sumOf 5 = .ok (.iload_n 1, 1) := by decide +kernel
theorem dX13_sumOf_6 : decode cX13_sumOf 6 = .ok (.imul, 1) := by decide +kernel
theorem dX13_sumOf_7 : decode cX13_sumOf 7 = .ok (.istore 5, 2) := by decide +kernel
theorem dX13_sumOf_9 : decode cX13_sumOf 9 = .ok (.iload 5, 2) := by decide +kernel
theorem dX13_sumOf_11 : decode cX13_sumOf 11 = .ok (.bipush 80, 2) := by decide +kernel
theorem dX13_sumOf_13 : decode cX13_sumOf 13 = .ok (.iload_n 1, 1) := by decide +kernel
theorem dX13_sumOf_14 : decode cX13_sumOf 14 = .ok (.imul, 1) := by decide +kernel
theorem dX13_sumOf_15 : decode cX13_sumOf 15 = .ok (.aload_n 0, 1) := by decide +kernel
theorem dX13_sumOf_16 : decode cX13_sumOf 16 = .ok (.getfield 86, 3) := by decide +kernel
theorem dX13_sumOf_19 : decode cX13_sumOf 19 = .ok (.iload_n 1, 1) := by decide +kernel
theorem dX13_sumOf_20 : decode cX13_sumOf 20 = .ok (.iaload, 1) := by decide +kernel
theorem dX13_sumOf_21 : decode cX13_sumOf 21 = .ok (.iadd, 1) := by decide +kernel
theorem dX13_sumOf_22 : decode cX13_sumOf 22 = .ok (.if_icmp .ge 129, 3) := by decide +kernel
theorem dX13_sumOf_25 : decode cX13_sumOf 25 = .ok (.aload_n 0, 1) := by decide +kernel
theorem dX13_sumOf_26 : decode cX13_sumOf 26 = .ok (.getfield 103, 3) := by decide +kernel
theorem dX13_sumOf_29 : decode cX13_sumOf 29 = .ok (.iload 5, 2) := by decide +kernel
theorem dX13_sumOf_31 : decode cX13_sumOf 31 = .ok (.iaload, 1) := by decide +kernel
theorem dX13_sumOf_32 : decode cX13_sumOf 32 = .ok (.istore 6, 2) := by decide +kernel
theorem dX13_sumOf_34 : decode cX13_sumOf 34 = .ok (.aload_n 0, 1) := by decide +kernel
theorem dX13_sumOf_35 : decode cX13_sumOf 35 = .ok (.getfield 100, 3) := by decide +kernel
theorem dX13_sumOf_38 : decode cX13_sumOf 38 = .ok (.iload 5, 2) := by decide +kernel
theorem dX13_sumOf_40 : decode cX13_sumOf 40 = .ok (.iaload, 1) := by decide +kernel
theorem dX13_sumOf_41 : decode cX13_sumOf 41 = .ok (.iconst 2, 1) := by decide +kernel
theorem dX13_sumOf_42 : decode cX13_sumOf 42 = .ok (.if_icmp .eq 41, 3) := by decide +kernel
theorem dX13_sumOf_45 : decode cX13_sumOf 45 = .ok (.aload_n 0, 1) := by decide +kernel
theorem dX13_sumOf_46 : decode cX13_sumOf 46 = .ok (.getfield 137, 3) := by decide +kernel
theorem dX13_sumOf_49 : decode cX13_sumOf 49 = .ok (.iload 4, 2) := by decide +kernel
theorem dX13_sumOf_51 : decode cX13_sumOf 51 = .ok (.aload_n 0, 1) := by decide +kernel
theorem dX13_sumOf_52 : decode cX13_sumOf 52 = .ok (.getfield 100, 3) := by decide +kernel
theorem dX13_sumOf_55 : decode cX13_sumOf 55 = .ok (.iload 5, 2) := by decide +kernel
theorem dX13_sumOf_57 : decode cX13_sumOf 57 = .ok (.iaload, 1) := by decide +kernel
theorem dX13_sumOf_58 : decode cX13_sumOf 58 = .ok (.ifCond .ne 8, 3) := by decide +kernel
theorem dX13_sumOf_61 : decode cX13_sumOf 61 = .ok (.iload 6, 2) := by decide +kernel
theorem dX13_sumOf_63 : decode cX13_sumOf 63 = .ok (.goto 13, 3) := by decide +kernel
theorem dX13_sumOf_66 : decode cX13_sumOf 66 = .ok (.iload 6, 2) := by decide +kernel
theorem dX13_sumOf_68 : decode cX13_sumOf 68 = .ok (.ifCond .ne 7, 3) := by decide +kernel
theorem dX13_sumOf_71 : decode cX13_sumOf 71 = .ok (.iload_n 2, 1) := by decide +kernel
theorem dX13_sumOf_72 : decode cX13_sumOf 72 = .ok (.goto 4, 3) := by decide +kernel
theorem dX13_sumOf_75 : decode cX13_sumOf 75 = .ok (.iload_n 3, 1) := by decide +kernel
theorem dX13_sumOf_76 : decode cX13_sumOf 76 = .ok (.iastore, 1) := by decide +kernel
theorem dX13_sumOf_77 : decode cX13_sumOf 77 = .ok (.iinc 4 1, 3) := by decide +kernel
theorem dX13_sumOf_80 : decode cX13_sumOf 80 = .ok (.goto 65, 3) := by decide +kernel
theorem dX13_sumOf_83 : decode cX13_sumOf 83 = .ok (.iload 6, 2) := by decide +kernel
theorem dX13_sumOf_85 : decode cX13_sumOf 85 = .ok (.bipush 33, 2) := by decide +kernel
theorem dX13_sumOf_87 : decode cX13_sumOf 87 = .ok (.if_icmp .ne 25, 3) := by decide +kernel
theorem dX13_sumOf_90 : decode cX13_sumOf 90 = .ok (.aload_n 0, 1) := by decide +kernel
theorem dX13_sumOf_91 : decode cX13_sumOf 91 = .ok (.getfield 137, 3) := by decide +kernel
theorem dX13_sumOf_94 : decode cX13_sumOf 94 = .ok (.iload 4, 2) := by decide +kernel
theorem dX13_sumOf_96 : decode cX13_sumOf 96 = .ok (.iconst 1, 1) := by decide +kernel
theorem dX13_sumOf_97 : decode cX13_sumOf 97 = .ok (.isub, 1) := by decide +kernel
theorem dX13_sumOf_98 : decode cX13_sumOf 98 = .ok (.aload_n 0, 1) := by decide +kernel
theorem dX13_sumOf_99 : decode cX13_sumOf 99 = .ok (.getfield 137, 3) := by decide +kernel
theorem dX13_sumOf_102 : decode cX13_sumOf 102 = .ok (.iload 4, 2) := by decide +kernel
theorem dX13_sumOf_104 : decode cX13_sumOf 104 = .ok (.iconst 1, 1) := by decide +kernel
theorem dX13_sumOf_105 : decode cX13_sumOf 105 = .ok (.isub, 1) := by decide +kernel
theorem dX13_sumOf_106 : decode cX13_sumOf 106 = .ok (.iaload, 1) := by decide +kernel
theorem dX13_sumOf_107 : decode cX13_sumOf 107 = .ok (.ineg, 1) := by decide +kernel
theorem dX13_sumOf_108 : decode cX13_sumOf 108 = .ok (.iastore, 1) := by decide +kernel
theorem dX13_sumOf_109 : decode cX13_sumOf 109 = .ok (.goto 36, 3) := by decide +kernel
theorem dX13_sumOf_112 : decode cX13_sumOf 112 = .ok (.iinc 4 (-1), 3) := by decide +kernel
theorem dX13_sumOf_115 : decode cX13_sumOf 115 = .ok (.aload_n 0, 1) := by decide +kernel
theorem dX13_sumOf_116 : decode cX13_sumOf 116 = .ok (.getfield 137, 3) := by decide +kernel
theorem dX13_sumOf_119 : decode cX13_sumOf 119 = .ok (.iload 4, 2) := by decide +kernel
theorem dX13_sumOf_121 : decode cX13_sumOf 121 = .ok (.iconst 1, 1) := by decide +kernel
theorem dX13_sumOf_122 : decode cX13_sumOf 122 = .ok (.isub, 1) := by decide +kernel
theorem dX13_sumOf_123 : decode cX13_sumOf 123 = .ok (.iload 6, 2) := by decide +kernel
theorem dX13_sumOf_125 : decode cX13_sumOf 125 = .ok (.aload_n 0, 1) := by decide +kernel
theorem dX13_sumOf_126 : decode cX13_sumOf 126 = .ok (.getfield 137, 3) := by decide +kernel
theorem dX13_sumOf_129 : decode cX13_sumOf 129 = .ok (.iload 4, 2) := by decide +kernel
theorem dX13_sumOf_131 : decode cX13_sumOf 131 = .ok (.iconst 1, 1) := by decide +kernel
theorem dX13_sumOf_132 : decode cX13_sumOf 132 = .ok (.isub, 1) := by decide +kernel
theorem dX13_sumOf_133 : decode cX13_sumOf 133 = .ok (.iaload, 1) := by decide +kernel
theorem dX13_sumOf_134 : decode cX13_sumOf 134 = .ok (.aload_n 0, 1) := by decide +kernel
theorem dX13_sumOf_135 : decode cX13_sumOf 135 = .ok (.getfield 137, 3) := by decide +kernel
theorem dX13_sumOf_138 : decode cX13_sumOf 138 = .ok (.iload 4, 2) := by decide +kernel
theorem dX13_sumOf_140 : decode cX13_sumOf 140 = .ok (.iaload, 1) := by decide +kernel
theorem dX13_sumOf_141 : decode cX13_sumOf 141 = .ok (.invokestatic 140, 3) := by decide +kernel
theorem dX13_sumOf_144 : decode cX13_sumOf 144 = .ok (.iastore, 1) := by decide +kernel
theorem dX13_sumOf_145 : decode cX13_sumOf 145 = .ok (.iinc 5 1, 3) := by decide +kernel
theorem dX13_sumOf_148 : decode cX13_sumOf 148 = .ok (.goto (-139), 3) := by decide +kernel
theorem dX13_sumOf_151 : decode cX13_sumOf 151 = .ok (.aload_n 0, 1) := by decide +kernel
theorem dX13_sumOf_152 : decode cX13_sumOf 152 = .ok (.getfield 137, 3) := by decide +kernel
theorem dX13_sumOf_155 : decode cX13_sumOf 155 = .ok (.iconst 0, 1) := by decide +kernel
theorem dX13_sumOf_156 : decode cX13_sumOf 156 = .ok (.iaload, 1) := by decide +kernel
theorem dX13_sumOf_157 : decode cX13_sumOf 157 = .ok (.ireturn, 1) := by decide +kernel
set_option maxHeartbeats 4000000 in
set_option maxRecDepth 100000 in
theorem K_X13_sumOf0 (l : Launch) (D : va_G) (m0 : Nat) (m_stop : Nat) (m_tape : Nat) (i_taped : Int32) (i_length : Int32) (i_from : Int32) (i_behind : Int32) (i_hand : Int32) (i_value : Int32) (i_fault : Int32) (i_faultAt : Int32) (m_rule : Nat) (m_readRule : Nat) (m_teeth : Nat) (m_readTeeth : Nat) (m_sway : Nat) (m_readSway : Nat) (m_isTold : Nat) (m_markKind : Nat) (m_markValue : Nat) (m_marks : Nat) (i_sum : Int32) (i_parts : Int32) (m_pile : Nat) (m_height : Nat) (m_leftPass : Nat) (m_leftTurn : Nat) (m_leftTooth : Nat) (m_leftX : Nat) (i_wear : Int32) (i_cuts : Int32) (m_kept : Nat) (m_keptWear : Nat) (i_deep : Int32) (m_now : Nat) (m_passed : Nat) (i_x : Int32) (i_v : Int32) (i_hasPassed : Int32) (m_planTime : Nat) (m_planMany : Nat) (m_planned : Nat) (m_isQuiet : Nat) (i_plans : Int32) (i_hasPlan : Int32) (m_keptTeeth : Nat) (i_jobs : Int32) (i_orderBest : Int32) (m_jobRing : Nat) (m_jobSpeed : Nat) (m_jobFeed : Nat) (m_jobTurns : Nat) (m_orderRow : Nat) (m_bestRow : Nat) (i_hasOrder : Int32) (m_orderTold : Nat) (i_offers : Int32) (i_heards : Int32) (i_rights : Int32) (i_telling : Int32) (m_offerRing : Nat) (m_offerSpeed : Nat) (m_offerFeed : Nat) (m_offerTurns : Nat) (m_heardOffer : Nat) (m_heardVerdict : Nat) (m_heardAt : Nat) (m_rightOf : Nat) (m_rightVerdict : Nat) (m_rightAt : Nat) (m_verdictOf : Nat) (m_sound : Nat) (m_readSound : Nat) (i_sounds : Int32) (cI : ClassId) (fp : Nat → Int32) (va : Int32) (vb : Int32) (sz : Nat) : Ki l yX13_sumOf wsX13_sumOf 1 40 0 0 D [.ref m0, .int 0, .int va, .int vb] [(m0, .inr (12, [.ref m_stop, .ref m_tape, .int i_taped, .int i_length, .int i_from, .int i_behind, .int i_hand, .int i_value, .int i_fault, .int i_faultAt, .ref m_rule, .ref m_readRule, .ref m_teeth, .ref m_readTeeth, .ref m_sway, .ref m_readSway, .ref m_isTold, .ref m_markKind, .ref m_markValue, .ref m_marks, .int i_sum, .int i_parts, .ref m_pile, .ref m_height, .ref m_leftPass, .ref m_leftTurn, .ref m_leftTooth, .ref m_leftX, .int i_wear, .int i_cuts, .ref m_kept, .ref m_keptWear, .int i_deep, .ref m_now, .ref m_passed, .int i_x, .int i_v, .int i_hasPassed, .ref m_planTime, .ref m_planMany, .ref m_planned, .ref m_isQuiet, .int i_plans, .int i_hasPlan, .ref m_keptTeeth, .int i_jobs, .int i_orderBest, .ref m_jobRing, .ref m_jobSpeed, .ref m_jobFeed, .ref m_jobTurns, .ref m_orderRow, .ref m_bestRow, .int i_hasOrder, .ref m_orderTold, .int i_offers, .int i_heards, .int i_rights, .int i_telling, .ref m_offerRing, .ref m_offerSpeed, .ref m_offerFeed, .ref m_offerTurns, .ref m_heardOffer, .ref m_heardVerdict, .ref m_heardAt, .ref m_rightOf, .ref m_rightVerdict, .ref m_rightAt, .ref m_verdictOf, .ref m_sound, .ref m_readSound, .int i_sounds])), (m_marks, .inl (cI, 6, .inl (upd (upd (upd (upd (upd (upd (upd (upd (upd (fun _ => 0) 3 0) 4 0) 5 0) 3 1) 4 1) 5 1) 0 1) 1 1) 2 1))), (m_markKind, .inl (cI, 480, .inl (upd (upd (upd (upd (upd (upd (fun _ => 0) 240 1) 320 0) 400 0) 0 1) 80 0) 160 0))), (m_markValue, .inl (cI, 480, .inl (upd (upd (upd (upd (upd (upd (fun _ => 0) 240 0) 320 0) 400 0) 0 0) 80 0) 160 0))), (m_pile, .inl (cI, 80, .inl fp))] [(cI, .int)] sz (fun (r : Int32) (_ : Unit) => r = va) (fun (_ : Unit) => [(m0, .inr (12, [.ref m_stop, .ref m_tape, .int i_taped, .int i_length, .int i_from, .int i_behind, .int i_hand, .int i_value, .int i_fault, .int i_faultAt, .ref m_rule, .ref m_readRule, .ref m_teeth, .ref m_readTeeth, .ref m_sway, .ref m_readSway, .ref m_isTold, .ref m_markKind, .ref m_markValue, .ref m_marks, .int i_sum, .int i_parts, .ref m_pile, .ref m_height, .ref m_leftPass, .ref m_leftTurn, .ref m_leftTooth, .ref m_leftX, .int i_wear, .int i_cuts, .ref m_kept, .ref m_keptWear, .int i_deep, .ref m_now, .ref m_passed, .int i_x, .int i_v, .int i_hasPassed, .ref m_planTime, .ref m_planMany, .ref m_planned, .ref m_isQuiet, .int i_plans, .int i_hasPlan, .ref m_keptTeeth, .int i_jobs, .int i_orderBest, .ref m_jobRing, .ref m_jobSpeed, .ref m_jobFeed, .ref m_jobTurns, .ref m_orderRow, .ref m_bestRow, .int i_hasOrder, .ref m_orderTold, .int i_offers, .int i_heards, .int i_rights, .int i_telling, .ref m_offerRing, .ref m_offerSpeed, .ref m_offerFeed, .ref m_offerTurns, .ref m_heardOffer, .ref m_heardVerdict, .ref m_heardAt, .ref m_rightOf, .ref m_rightVerdict, .ref m_rightAt, .ref m_verdictOf, .ref m_sound, .ref m_readSound, .int i_sounds])), (m_marks, .inl (cI, 6, .inl (upd (upd (upd (upd (upd (upd (upd (upd (upd (fun _ => 0) 3 0) 4 0) 5 0) 3 1) 4 1) 5 1) 0 1) 1 1) 2 1))), (m_markKind, .inl (cI, 480, .inl (upd (upd (upd (upd (upd (upd (fun _ => 0) 240 1) 320 0) 400 0) 0 1) 80 0) 160 0))), (m_markValue, .inl (cI, 480, .inl (upd (upd (upd (upd (upd (upd (fun _ => 0) 240 0) 320 0) 400 0) 0 0) 80 0) 160 0))), (m_pile, .inl (cI, 80, .inl (upd fp 0 va)))]) (fun (_ : Unit) => [(cI, .int)]) := by
  unfold Ki
  refine g_ofW (cc := cX13_sumOf) (lv := [(0, .ref m0), (1, .int 0), (2, .int va), (3, .int vb)]) (by decide) rfl (Nat.le_of_ble_eq_true rfl) rfl ?_
  intro p e s m args below meth c A Q hA hQ F hr hnm
  have hts := F.2.2.2.2.1
  have w_0 : (Cond.fieldLink RX13 86 "QuietCutModel" "marks" "[I").before args s = true := hts _ (List.mem_of_getElem? (i := 1) rfl)
  have i_X13 : ∀ w ∈ u_ws RX13 TX13 73, w ∈ wsX13_sumOf := fun _ h => List.mem_cons_of_mem _ (List.mem_append_right _ h)
  have w_1 : (Cond.fieldLink RX13 103 "QuietCutModel" "markValue" "[I").before args s = true := hts _ (List.mem_of_getElem? (i := 2) rfl)
  have w_2 : (Cond.fieldLink RX13 100 "QuietCutModel" "markKind" "[I").before args s = true := hts _ (List.mem_of_getElem? (i := 3) rfl)
  have w_3 : (Cond.fieldLink RX13 137 "QuietCutModel" "pile" "[I").before args s = true := hts _ (List.mem_of_getElem? (i := 4) rfl)
  refine g_iconst F 0 dX13_sumOf_0 (by decide) ?_
  refine g_istore F [(4, .int 0), (0, .ref m0), (1, .int 0), (2, .int va), (3, .int vb)] dX13_sumOf_1 (by decide) rfl ?_
  refine g_bipush F 80 dX13_sumOf_3 (by decide) ?_
  refine g_iload_n F 2 dX13_sumOf_5 rfl rfl ?_
  refine g_imul F dX13_sumOf_6 ?_
  refine g_fold 0 (by decide) ?_
  refine g_istore F [(5, .int 0), (4, .int 0), (0, .ref m0), (1, .int 0), (2, .int va), (3, .int vb)] dX13_sumOf_7 (by decide) rfl ?_
  refine g_iload F 0 dX13_sumOf_9 rfl ?_
  refine g_bipush F 80 dX13_sumOf_11 (by decide) ?_
  refine g_iload_n F 3 dX13_sumOf_13 rfl rfl ?_
  refine g_imul F dX13_sumOf_14 ?_
  refine g_fold 0 (by decide) ?_
  refine g_aload_n F 2 dX13_sumOf_15 rfl rfl ?_
  refine g_get (C := RX13) (T := TX13) (N := 73) (v := .ref m_marks) F i_X13 0 rfl rfl 19 (by decide) w_0 rfl rfl dX13_sumOf_16 ?_
  refine g_iload_n F 3 dX13_sumOf_19 rfl rfl ?_
  refine g_iald F 1 0 rfl rfl (by unfold vp_in; decide) dX13_sumOf_20 ?_
  refine g_fold 1 (by rfl) ?_
  refine g_iadd F dX13_sumOf_21 ?_
  refine g_fold 1 (by decide) ?_
  refine g_icmp_ge F 151 dX13_sumOf_22 (by decide) (fun h9 => absurd h9 (by decide)) (fun c_22 => ?_)
  refine g_aload_n F 2 dX13_sumOf_25 rfl rfl ?_
  refine g_get (C := RX13) (T := TX13) (N := 73) (v := .ref m_markValue) F i_X13 0 rfl rfl 18 (by decide) w_1 rfl rfl dX13_sumOf_26 ?_
  refine g_iload F 0 dX13_sumOf_29 rfl ?_
  refine g_iald F 3 0 rfl rfl (by unfold vp_in; decide) dX13_sumOf_31 ?_
  refine g_fold 0 (by rfl) ?_
  refine g_istore F [(6, .int 0), (5, .int 0), (4, .int 0), (0, .ref m0), (1, .int 0), (2, .int va), (3, .int vb)] dX13_sumOf_32 (by decide) rfl ?_
  refine g_aload_n F 3 dX13_sumOf_34 rfl rfl ?_
  refine g_get (C := RX13) (T := TX13) (N := 73) (v := .ref m_markKind) F i_X13 0 rfl rfl 17 (by decide) w_2 rfl rfl dX13_sumOf_35 ?_
  refine g_iload F 1 dX13_sumOf_38 rfl ?_
  refine g_iald F 2 0 rfl rfl (by unfold vp_in; decide) dX13_sumOf_40 ?_
  refine g_fold 1 (by rfl) ?_
  refine g_iconst F 2 dX13_sumOf_41 (by decide) ?_
  refine g_icmp_eq F 83 dX13_sumOf_42 (by decide) (fun h9 => absurd h9 (by decide)) (fun c_42 => ?_)
  refine g_aload_n F 3 dX13_sumOf_45 rfl rfl ?_
  refine g_get (C := RX13) (T := TX13) (N := 73) (v := .ref m_pile) F i_X13 0 rfl rfl 22 (by decide) w_3 rfl rfl dX13_sumOf_46 ?_
  refine g_iload F 2 dX13_sumOf_49 rfl ?_
  refine g_aload_n F 3 dX13_sumOf_51 rfl rfl ?_
  refine g_get (C := RX13) (T := TX13) (N := 73) (v := .ref m_markKind) F i_X13 0 rfl rfl 17 (by decide) w_2 rfl rfl dX13_sumOf_52 ?_
  refine g_iload F 1 dX13_sumOf_55 rfl ?_
  refine g_iald F 2 0 rfl rfl (by unfold vp_in; decide) dX13_sumOf_57 ?_
  refine g_fold 1 (by rfl) ?_
  refine g_if_ne F 66 dX13_sumOf_58 (by decide) (fun c_58 => ?_) (fun h9 => absurd h9 (by decide)) 
  refine g_iload F 0 dX13_sumOf_66 rfl ?_
  refine g_if_ne F 75 dX13_sumOf_68 (by decide) (fun h9 => absurd (by decide) h9) (fun c_68 => ?_)
  refine g_iload_n F 5 dX13_sumOf_71 rfl rfl ?_
  refine g_goto F 76 dX13_sumOf_72 (by decide) ?_
  refine g_iast F 4 0 rfl rfl (by unfold vp_in; decide) [(m0, .inr (12, [.ref m_stop, .ref m_tape, .int i_taped, .int i_length, .int i_from, .int i_behind, .int i_hand, .int i_value, .int i_fault, .int i_faultAt, .ref m_rule, .ref m_readRule, .ref m_teeth, .ref m_readTeeth, .ref m_sway, .ref m_readSway, .ref m_isTold, .ref m_markKind, .ref m_markValue, .ref m_marks, .int i_sum, .int i_parts, .ref m_pile, .ref m_height, .ref m_leftPass, .ref m_leftTurn, .ref m_leftTooth, .ref m_leftX, .int i_wear, .int i_cuts, .ref m_kept, .ref m_keptWear, .int i_deep, .ref m_now, .ref m_passed, .int i_x, .int i_v, .int i_hasPassed, .ref m_planTime, .ref m_planMany, .ref m_planned, .ref m_isQuiet, .int i_plans, .int i_hasPlan, .ref m_keptTeeth, .int i_jobs, .int i_orderBest, .ref m_jobRing, .ref m_jobSpeed, .ref m_jobFeed, .ref m_jobTurns, .ref m_orderRow, .ref m_bestRow, .int i_hasOrder, .ref m_orderTold, .int i_offers, .int i_heards, .int i_rights, .int i_telling, .ref m_offerRing, .ref m_offerSpeed, .ref m_offerFeed, .ref m_offerTurns, .ref m_heardOffer, .ref m_heardVerdict, .ref m_heardAt, .ref m_rightOf, .ref m_rightVerdict, .ref m_rightAt, .ref m_verdictOf, .ref m_sound, .ref m_readSound, .int i_sounds])), (m_marks, .inl (cI, 6, .inl (upd (upd (upd (upd (upd (upd (upd (upd (upd (fun _ => 0) 3 0) 4 0) 5 0) 3 1) 4 1) 5 1) 0 1) 1 1) 2 1))), (m_markKind, .inl (cI, 480, .inl (upd (upd (upd (upd (upd (upd (fun _ => 0) 240 1) 320 0) 400 0) 0 1) 80 0) 160 0))), (m_markValue, .inl (cI, 480, .inl (upd (upd (upd (upd (upd (upd (fun _ => 0) 240 0) 320 0) 400 0) 0 0) 80 0) 160 0))), (m_pile, .inl (cI, 80, .inl (upd fp 0 va)))] (rfl) dX13_sumOf_76 ?_
  refine g_iinc F (j := 2) 1 [(4, .int 1), (6, .int 0), (5, .int 0), (0, .ref m0), (1, .int 0), (2, .int va), (3, .int vb)] dX13_sumOf_77 rfl (by decide) (by decide) rfl ?_
  refine g_goto F 145 dX13_sumOf_80 (by decide) ?_
  refine g_iinc F (j := 2) 1 [(5, .int 1), (4, .int 1), (6, .int 0), (0, .ref m0), (1, .int 0), (2, .int va), (3, .int vb)] dX13_sumOf_145 rfl (by decide) (by decide) rfl ?_
  refine g_goto F 9 dX13_sumOf_148 (by decide) ?_
  refine g_iload F 0 dX13_sumOf_9 rfl ?_
  refine g_bipush F 80 dX13_sumOf_11 (by decide) ?_
  refine g_iload_n F 4 dX13_sumOf_13 rfl rfl ?_
  refine g_imul F dX13_sumOf_14 ?_
  refine g_fold 0 (by decide) ?_
  refine g_aload_n F 3 dX13_sumOf_15 rfl rfl ?_
  refine g_get (C := RX13) (T := TX13) (N := 73) (v := .ref m_marks) F i_X13 0 rfl rfl 19 (by decide) w_0 rfl rfl dX13_sumOf_16 ?_
  refine g_iload_n F 4 dX13_sumOf_19 rfl rfl ?_
  refine g_iald F 1 0 rfl rfl (by unfold vp_in; decide) dX13_sumOf_20 ?_
  refine g_fold 1 (by rfl) ?_
  refine g_iadd F dX13_sumOf_21 ?_
  refine g_fold 1 (by decide) ?_
  refine g_icmp_ge F 151 dX13_sumOf_22 (by decide) (fun c_22 => ?_) (fun h9 => absurd (by decide) h9) 
  refine g_aload_n F 3 dX13_sumOf_151 rfl rfl ?_
  refine g_get (C := RX13) (T := TX13) (N := 73) (v := .ref m_pile) F i_X13 0 rfl rfl 22 (by decide) w_3 rfl rfl dX13_sumOf_152 ?_
  refine g_iconst F 0 dX13_sumOf_155 (by decide) ?_
  refine g_iald F 4 0 rfl rfl (by unfold vp_in; decide) dX13_sumOf_156 ?_
  refine g_fold va (by rfl) ?_
  exact g_iret F hA hQ hr () (rfl) [0, 1, 2, 3, 4] [0] rfl (by decide) rfl rfl dX13_sumOf_157


set_option maxHeartbeats 4000000 in
set_option maxRecDepth 100000 in
theorem K_X13_sumOf1 (l : Launch) (D : va_G) (m0 : Nat) (m_stop : Nat) (m_tape : Nat) (i_taped : Int32) (i_length : Int32) (i_from : Int32) (i_behind : Int32) (i_hand : Int32) (i_value : Int32) (i_fault : Int32) (i_faultAt : Int32) (m_rule : Nat) (m_readRule : Nat) (m_teeth : Nat) (m_readTeeth : Nat) (m_sway : Nat) (m_readSway : Nat) (m_isTold : Nat) (m_markKind : Nat) (m_markValue : Nat) (m_marks : Nat) (i_sum : Int32) (i_parts : Int32) (m_pile : Nat) (m_height : Nat) (m_leftPass : Nat) (m_leftTurn : Nat) (m_leftTooth : Nat) (m_leftX : Nat) (i_wear : Int32) (i_cuts : Int32) (m_kept : Nat) (m_keptWear : Nat) (i_deep : Int32) (m_now : Nat) (m_passed : Nat) (i_x : Int32) (i_v : Int32) (i_hasPassed : Int32) (m_planTime : Nat) (m_planMany : Nat) (m_planned : Nat) (m_isQuiet : Nat) (i_plans : Int32) (i_hasPlan : Int32) (m_keptTeeth : Nat) (i_jobs : Int32) (i_orderBest : Int32) (m_jobRing : Nat) (m_jobSpeed : Nat) (m_jobFeed : Nat) (m_jobTurns : Nat) (m_orderRow : Nat) (m_bestRow : Nat) (i_hasOrder : Int32) (m_orderTold : Nat) (i_offers : Int32) (i_heards : Int32) (i_rights : Int32) (i_telling : Int32) (m_offerRing : Nat) (m_offerSpeed : Nat) (m_offerFeed : Nat) (m_offerTurns : Nat) (m_heardOffer : Nat) (m_heardVerdict : Nat) (m_heardAt : Nat) (m_rightOf : Nat) (m_rightVerdict : Nat) (m_rightAt : Nat) (m_verdictOf : Nat) (m_sound : Nat) (m_readSound : Nat) (i_sounds : Int32) (cI : ClassId) (fp : Nat → Int32) (va : Int32) (vb : Int32) (sz : Nat) : Ki l yX13_sumOf wsX13_sumOf 1 40 0 0 D [.ref m0, .int 1, .int va, .int vb] [(m0, .inr (12, [.ref m_stop, .ref m_tape, .int i_taped, .int i_length, .int i_from, .int i_behind, .int i_hand, .int i_value, .int i_fault, .int i_faultAt, .ref m_rule, .ref m_readRule, .ref m_teeth, .ref m_readTeeth, .ref m_sway, .ref m_readSway, .ref m_isTold, .ref m_markKind, .ref m_markValue, .ref m_marks, .int i_sum, .int i_parts, .ref m_pile, .ref m_height, .ref m_leftPass, .ref m_leftTurn, .ref m_leftTooth, .ref m_leftX, .int i_wear, .int i_cuts, .ref m_kept, .ref m_keptWear, .int i_deep, .ref m_now, .ref m_passed, .int i_x, .int i_v, .int i_hasPassed, .ref m_planTime, .ref m_planMany, .ref m_planned, .ref m_isQuiet, .int i_plans, .int i_hasPlan, .ref m_keptTeeth, .int i_jobs, .int i_orderBest, .ref m_jobRing, .ref m_jobSpeed, .ref m_jobFeed, .ref m_jobTurns, .ref m_orderRow, .ref m_bestRow, .int i_hasOrder, .ref m_orderTold, .int i_offers, .int i_heards, .int i_rights, .int i_telling, .ref m_offerRing, .ref m_offerSpeed, .ref m_offerFeed, .ref m_offerTurns, .ref m_heardOffer, .ref m_heardVerdict, .ref m_heardAt, .ref m_rightOf, .ref m_rightVerdict, .ref m_rightAt, .ref m_verdictOf, .ref m_sound, .ref m_readSound, .int i_sounds])), (m_marks, .inl (cI, 6, .inl (upd (upd (upd (upd (upd (upd (upd (upd (upd (fun _ => 0) 3 0) 4 0) 5 0) 3 1) 4 1) 5 1) 0 1) 1 1) 2 1))), (m_markKind, .inl (cI, 480, .inl (upd (upd (upd (upd (upd (upd (fun _ => 0) 240 1) 320 0) 400 0) 0 1) 80 0) 160 0))), (m_markValue, .inl (cI, 480, .inl (upd (upd (upd (upd (upd (upd (fun _ => 0) 240 0) 320 0) 400 0) 0 0) 80 0) 160 0))), (m_pile, .inl (cI, 80, .inl fp))] [(cI, .int)] sz (fun (r : Int32) (_ : Unit) => r = 0) (fun (_ : Unit) => [(m0, .inr (12, [.ref m_stop, .ref m_tape, .int i_taped, .int i_length, .int i_from, .int i_behind, .int i_hand, .int i_value, .int i_fault, .int i_faultAt, .ref m_rule, .ref m_readRule, .ref m_teeth, .ref m_readTeeth, .ref m_sway, .ref m_readSway, .ref m_isTold, .ref m_markKind, .ref m_markValue, .ref m_marks, .int i_sum, .int i_parts, .ref m_pile, .ref m_height, .ref m_leftPass, .ref m_leftTurn, .ref m_leftTooth, .ref m_leftX, .int i_wear, .int i_cuts, .ref m_kept, .ref m_keptWear, .int i_deep, .ref m_now, .ref m_passed, .int i_x, .int i_v, .int i_hasPassed, .ref m_planTime, .ref m_planMany, .ref m_planned, .ref m_isQuiet, .int i_plans, .int i_hasPlan, .ref m_keptTeeth, .int i_jobs, .int i_orderBest, .ref m_jobRing, .ref m_jobSpeed, .ref m_jobFeed, .ref m_jobTurns, .ref m_orderRow, .ref m_bestRow, .int i_hasOrder, .ref m_orderTold, .int i_offers, .int i_heards, .int i_rights, .int i_telling, .ref m_offerRing, .ref m_offerSpeed, .ref m_offerFeed, .ref m_offerTurns, .ref m_heardOffer, .ref m_heardVerdict, .ref m_heardAt, .ref m_rightOf, .ref m_rightVerdict, .ref m_rightAt, .ref m_verdictOf, .ref m_sound, .ref m_readSound, .int i_sounds])), (m_marks, .inl (cI, 6, .inl (upd (upd (upd (upd (upd (upd (upd (upd (upd (fun _ => 0) 3 0) 4 0) 5 0) 3 1) 4 1) 5 1) 0 1) 1 1) 2 1))), (m_markKind, .inl (cI, 480, .inl (upd (upd (upd (upd (upd (upd (fun _ => 0) 240 1) 320 0) 400 0) 0 1) 80 0) 160 0))), (m_markValue, .inl (cI, 480, .inl (upd (upd (upd (upd (upd (upd (fun _ => 0) 240 0) 320 0) 400 0) 0 0) 80 0) 160 0))), (m_pile, .inl (cI, 80, .inl (upd fp 0 0)))]) (fun (_ : Unit) => [(cI, .int)]) := by
  unfold Ki
  refine g_ofW (cc := cX13_sumOf) (lv := [(0, .ref m0), (1, .int 1), (2, .int va), (3, .int vb)]) (by decide) rfl (Nat.le_of_ble_eq_true rfl) rfl ?_
  intro p e s m args below meth c A Q hA hQ F hr hnm
  have hts := F.2.2.2.2.1
  have w_0 : (Cond.fieldLink RX13 86 "QuietCutModel" "marks" "[I").before args s = true := hts _ (List.mem_of_getElem? (i := 1) rfl)
  have i_X13 : ∀ w ∈ u_ws RX13 TX13 73, w ∈ wsX13_sumOf := fun _ h => List.mem_cons_of_mem _ (List.mem_append_right _ h)
  have w_1 : (Cond.fieldLink RX13 103 "QuietCutModel" "markValue" "[I").before args s = true := hts _ (List.mem_of_getElem? (i := 2) rfl)
  have w_2 : (Cond.fieldLink RX13 100 "QuietCutModel" "markKind" "[I").before args s = true := hts _ (List.mem_of_getElem? (i := 3) rfl)
  have w_3 : (Cond.fieldLink RX13 137 "QuietCutModel" "pile" "[I").before args s = true := hts _ (List.mem_of_getElem? (i := 4) rfl)
  refine g_iconst F 0 dX13_sumOf_0 (by decide) ?_
  refine g_istore F [(4, .int 0), (0, .ref m0), (1, .int 1), (2, .int va), (3, .int vb)] dX13_sumOf_1 (by decide) rfl ?_
  refine g_bipush F 80 dX13_sumOf_3 (by decide) ?_
  refine g_iload_n F 2 dX13_sumOf_5 rfl rfl ?_
  refine g_imul F dX13_sumOf_6 ?_
  refine g_fold 80 (by decide) ?_
  refine g_istore F [(5, .int 80), (4, .int 0), (0, .ref m0), (1, .int 1), (2, .int va), (3, .int vb)] dX13_sumOf_7 (by decide) rfl ?_
  refine g_iload F 0 dX13_sumOf_9 rfl ?_
  refine g_bipush F 80 dX13_sumOf_11 (by decide) ?_
  refine g_iload_n F 3 dX13_sumOf_13 rfl rfl ?_
  refine g_imul F dX13_sumOf_14 ?_
  refine g_fold 80 (by decide) ?_
  refine g_aload_n F 2 dX13_sumOf_15 rfl rfl ?_
  refine g_get (C := RX13) (T := TX13) (N := 73) (v := .ref m_marks) F i_X13 0 rfl rfl 19 (by decide) w_0 rfl rfl dX13_sumOf_16 ?_
  refine g_iload_n F 3 dX13_sumOf_19 rfl rfl ?_
  refine g_iald F 1 0 rfl rfl (by unfold vp_in; decide) dX13_sumOf_20 ?_
  refine g_fold 1 (by rfl) ?_
  refine g_iadd F dX13_sumOf_21 ?_
  refine g_fold 81 (by decide) ?_
  refine g_icmp_ge F 151 dX13_sumOf_22 (by decide) (fun h9 => absurd h9 (by decide)) (fun c_22 => ?_)
  refine g_aload_n F 2 dX13_sumOf_25 rfl rfl ?_
  refine g_get (C := RX13) (T := TX13) (N := 73) (v := .ref m_markValue) F i_X13 0 rfl rfl 18 (by decide) w_1 rfl rfl dX13_sumOf_26 ?_
  refine g_iload F 0 dX13_sumOf_29 rfl ?_
  refine g_iald F 3 0 rfl rfl (by unfold vp_in; decide) dX13_sumOf_31 ?_
  refine g_fold 0 (by rfl) ?_
  refine g_istore F [(6, .int 0), (5, .int 80), (4, .int 0), (0, .ref m0), (1, .int 1), (2, .int va), (3, .int vb)] dX13_sumOf_32 (by decide) rfl ?_
  refine g_aload_n F 3 dX13_sumOf_34 rfl rfl ?_
  refine g_get (C := RX13) (T := TX13) (N := 73) (v := .ref m_markKind) F i_X13 0 rfl rfl 17 (by decide) w_2 rfl rfl dX13_sumOf_35 ?_
  refine g_iload F 1 dX13_sumOf_38 rfl ?_
  refine g_iald F 2 0 rfl rfl (by unfold vp_in; decide) dX13_sumOf_40 ?_
  refine g_fold 0 (by rfl) ?_
  refine g_iconst F 2 dX13_sumOf_41 (by decide) ?_
  refine g_icmp_eq F 83 dX13_sumOf_42 (by decide) (fun h9 => absurd h9 (by decide)) (fun c_42 => ?_)
  refine g_aload_n F 3 dX13_sumOf_45 rfl rfl ?_
  refine g_get (C := RX13) (T := TX13) (N := 73) (v := .ref m_pile) F i_X13 0 rfl rfl 22 (by decide) w_3 rfl rfl dX13_sumOf_46 ?_
  refine g_iload F 2 dX13_sumOf_49 rfl ?_
  refine g_aload_n F 3 dX13_sumOf_51 rfl rfl ?_
  refine g_get (C := RX13) (T := TX13) (N := 73) (v := .ref m_markKind) F i_X13 0 rfl rfl 17 (by decide) w_2 rfl rfl dX13_sumOf_52 ?_
  refine g_iload F 1 dX13_sumOf_55 rfl ?_
  refine g_iald F 2 0 rfl rfl (by unfold vp_in; decide) dX13_sumOf_57 ?_
  refine g_fold 0 (by rfl) ?_
  refine g_if_ne F 66 dX13_sumOf_58 (by decide) (fun h9 => absurd (by decide) h9) (fun c_58 => ?_)
  refine g_iload F 0 dX13_sumOf_61 rfl ?_
  refine g_goto F 76 dX13_sumOf_63 (by decide) ?_
  refine g_iast F 4 0 rfl rfl (by unfold vp_in; decide) [(m0, .inr (12, [.ref m_stop, .ref m_tape, .int i_taped, .int i_length, .int i_from, .int i_behind, .int i_hand, .int i_value, .int i_fault, .int i_faultAt, .ref m_rule, .ref m_readRule, .ref m_teeth, .ref m_readTeeth, .ref m_sway, .ref m_readSway, .ref m_isTold, .ref m_markKind, .ref m_markValue, .ref m_marks, .int i_sum, .int i_parts, .ref m_pile, .ref m_height, .ref m_leftPass, .ref m_leftTurn, .ref m_leftTooth, .ref m_leftX, .int i_wear, .int i_cuts, .ref m_kept, .ref m_keptWear, .int i_deep, .ref m_now, .ref m_passed, .int i_x, .int i_v, .int i_hasPassed, .ref m_planTime, .ref m_planMany, .ref m_planned, .ref m_isQuiet, .int i_plans, .int i_hasPlan, .ref m_keptTeeth, .int i_jobs, .int i_orderBest, .ref m_jobRing, .ref m_jobSpeed, .ref m_jobFeed, .ref m_jobTurns, .ref m_orderRow, .ref m_bestRow, .int i_hasOrder, .ref m_orderTold, .int i_offers, .int i_heards, .int i_rights, .int i_telling, .ref m_offerRing, .ref m_offerSpeed, .ref m_offerFeed, .ref m_offerTurns, .ref m_heardOffer, .ref m_heardVerdict, .ref m_heardAt, .ref m_rightOf, .ref m_rightVerdict, .ref m_rightAt, .ref m_verdictOf, .ref m_sound, .ref m_readSound, .int i_sounds])), (m_marks, .inl (cI, 6, .inl (upd (upd (upd (upd (upd (upd (upd (upd (upd (fun _ => 0) 3 0) 4 0) 5 0) 3 1) 4 1) 5 1) 0 1) 1 1) 2 1))), (m_markKind, .inl (cI, 480, .inl (upd (upd (upd (upd (upd (upd (fun _ => 0) 240 1) 320 0) 400 0) 0 1) 80 0) 160 0))), (m_markValue, .inl (cI, 480, .inl (upd (upd (upd (upd (upd (upd (fun _ => 0) 240 0) 320 0) 400 0) 0 0) 80 0) 160 0))), (m_pile, .inl (cI, 80, .inl (upd fp 0 0)))] (rfl) dX13_sumOf_76 ?_
  refine g_iinc F (j := 2) 1 [(4, .int 1), (6, .int 0), (5, .int 80), (0, .ref m0), (1, .int 1), (2, .int va), (3, .int vb)] dX13_sumOf_77 rfl (by decide) (by decide) rfl ?_
  refine g_goto F 145 dX13_sumOf_80 (by decide) ?_
  refine g_iinc F (j := 2) 81 [(5, .int 81), (4, .int 1), (6, .int 0), (0, .ref m0), (1, .int 1), (2, .int va), (3, .int vb)] dX13_sumOf_145 rfl (by decide) (by decide) rfl ?_
  refine g_goto F 9 dX13_sumOf_148 (by decide) ?_
  refine g_iload F 0 dX13_sumOf_9 rfl ?_
  refine g_bipush F 80 dX13_sumOf_11 (by decide) ?_
  refine g_iload_n F 4 dX13_sumOf_13 rfl rfl ?_
  refine g_imul F dX13_sumOf_14 ?_
  refine g_fold 80 (by decide) ?_
  refine g_aload_n F 3 dX13_sumOf_15 rfl rfl ?_
  refine g_get (C := RX13) (T := TX13) (N := 73) (v := .ref m_marks) F i_X13 0 rfl rfl 19 (by decide) w_0 rfl rfl dX13_sumOf_16 ?_
  refine g_iload_n F 4 dX13_sumOf_19 rfl rfl ?_
  refine g_iald F 1 0 rfl rfl (by unfold vp_in; decide) dX13_sumOf_20 ?_
  refine g_fold 1 (by rfl) ?_
  refine g_iadd F dX13_sumOf_21 ?_
  refine g_fold 81 (by decide) ?_
  refine g_icmp_ge F 151 dX13_sumOf_22 (by decide) (fun c_22 => ?_) (fun h9 => absurd (by decide) h9) 
  refine g_aload_n F 3 dX13_sumOf_151 rfl rfl ?_
  refine g_get (C := RX13) (T := TX13) (N := 73) (v := .ref m_pile) F i_X13 0 rfl rfl 22 (by decide) w_3 rfl rfl dX13_sumOf_152 ?_
  refine g_iconst F 0 dX13_sumOf_155 (by decide) ?_
  refine g_iald F 4 0 rfl rfl (by unfold vp_in; decide) dX13_sumOf_156 ?_
  refine g_fold 0 (by rfl) ?_
  exact g_iret F hA hQ hr () (rfl) [0, 1, 2, 3, 4] [0] rfl (by decide) rfl rfl dX13_sumOf_157


set_option maxHeartbeats 4000000 in
set_option maxRecDepth 100000 in
theorem K_X13_sumOf2 (l : Launch) (D : va_G) (m0 : Nat) (m_stop : Nat) (m_tape : Nat) (i_taped : Int32) (i_length : Int32) (i_from : Int32) (i_behind : Int32) (i_hand : Int32) (i_value : Int32) (i_fault : Int32) (i_faultAt : Int32) (m_rule : Nat) (m_readRule : Nat) (m_teeth : Nat) (m_readTeeth : Nat) (m_sway : Nat) (m_readSway : Nat) (m_isTold : Nat) (m_markKind : Nat) (m_markValue : Nat) (m_marks : Nat) (i_sum : Int32) (i_parts : Int32) (m_pile : Nat) (m_height : Nat) (m_leftPass : Nat) (m_leftTurn : Nat) (m_leftTooth : Nat) (m_leftX : Nat) (i_wear : Int32) (i_cuts : Int32) (m_kept : Nat) (m_keptWear : Nat) (i_deep : Int32) (m_now : Nat) (m_passed : Nat) (i_x : Int32) (i_v : Int32) (i_hasPassed : Int32) (m_planTime : Nat) (m_planMany : Nat) (m_planned : Nat) (m_isQuiet : Nat) (i_plans : Int32) (i_hasPlan : Int32) (m_keptTeeth : Nat) (i_jobs : Int32) (i_orderBest : Int32) (m_jobRing : Nat) (m_jobSpeed : Nat) (m_jobFeed : Nat) (m_jobTurns : Nat) (m_orderRow : Nat) (m_bestRow : Nat) (i_hasOrder : Int32) (m_orderTold : Nat) (i_offers : Int32) (i_heards : Int32) (i_rights : Int32) (i_telling : Int32) (m_offerRing : Nat) (m_offerSpeed : Nat) (m_offerFeed : Nat) (m_offerTurns : Nat) (m_heardOffer : Nat) (m_heardVerdict : Nat) (m_heardAt : Nat) (m_rightOf : Nat) (m_rightVerdict : Nat) (m_rightAt : Nat) (m_verdictOf : Nat) (m_sound : Nat) (m_readSound : Nat) (i_sounds : Int32) (cI : ClassId) (fp : Nat → Int32) (va : Int32) (vb : Int32) (sz : Nat) : Ki l yX13_sumOf wsX13_sumOf 1 40 0 0 D [.ref m0, .int 2, .int va, .int vb] [(m0, .inr (12, [.ref m_stop, .ref m_tape, .int i_taped, .int i_length, .int i_from, .int i_behind, .int i_hand, .int i_value, .int i_fault, .int i_faultAt, .ref m_rule, .ref m_readRule, .ref m_teeth, .ref m_readTeeth, .ref m_sway, .ref m_readSway, .ref m_isTold, .ref m_markKind, .ref m_markValue, .ref m_marks, .int i_sum, .int i_parts, .ref m_pile, .ref m_height, .ref m_leftPass, .ref m_leftTurn, .ref m_leftTooth, .ref m_leftX, .int i_wear, .int i_cuts, .ref m_kept, .ref m_keptWear, .int i_deep, .ref m_now, .ref m_passed, .int i_x, .int i_v, .int i_hasPassed, .ref m_planTime, .ref m_planMany, .ref m_planned, .ref m_isQuiet, .int i_plans, .int i_hasPlan, .ref m_keptTeeth, .int i_jobs, .int i_orderBest, .ref m_jobRing, .ref m_jobSpeed, .ref m_jobFeed, .ref m_jobTurns, .ref m_orderRow, .ref m_bestRow, .int i_hasOrder, .ref m_orderTold, .int i_offers, .int i_heards, .int i_rights, .int i_telling, .ref m_offerRing, .ref m_offerSpeed, .ref m_offerFeed, .ref m_offerTurns, .ref m_heardOffer, .ref m_heardVerdict, .ref m_heardAt, .ref m_rightOf, .ref m_rightVerdict, .ref m_rightAt, .ref m_verdictOf, .ref m_sound, .ref m_readSound, .int i_sounds])), (m_marks, .inl (cI, 6, .inl (upd (upd (upd (upd (upd (upd (upd (upd (upd (fun _ => 0) 3 0) 4 0) 5 0) 3 1) 4 1) 5 1) 0 1) 1 1) 2 1))), (m_markKind, .inl (cI, 480, .inl (upd (upd (upd (upd (upd (upd (fun _ => 0) 240 1) 320 0) 400 0) 0 1) 80 0) 160 0))), (m_markValue, .inl (cI, 480, .inl (upd (upd (upd (upd (upd (upd (fun _ => 0) 240 0) 320 0) 400 0) 0 0) 80 0) 160 0))), (m_pile, .inl (cI, 80, .inl fp))] [(cI, .int)] sz (fun (r : Int32) (_ : Unit) => r = 0) (fun (_ : Unit) => [(m0, .inr (12, [.ref m_stop, .ref m_tape, .int i_taped, .int i_length, .int i_from, .int i_behind, .int i_hand, .int i_value, .int i_fault, .int i_faultAt, .ref m_rule, .ref m_readRule, .ref m_teeth, .ref m_readTeeth, .ref m_sway, .ref m_readSway, .ref m_isTold, .ref m_markKind, .ref m_markValue, .ref m_marks, .int i_sum, .int i_parts, .ref m_pile, .ref m_height, .ref m_leftPass, .ref m_leftTurn, .ref m_leftTooth, .ref m_leftX, .int i_wear, .int i_cuts, .ref m_kept, .ref m_keptWear, .int i_deep, .ref m_now, .ref m_passed, .int i_x, .int i_v, .int i_hasPassed, .ref m_planTime, .ref m_planMany, .ref m_planned, .ref m_isQuiet, .int i_plans, .int i_hasPlan, .ref m_keptTeeth, .int i_jobs, .int i_orderBest, .ref m_jobRing, .ref m_jobSpeed, .ref m_jobFeed, .ref m_jobTurns, .ref m_orderRow, .ref m_bestRow, .int i_hasOrder, .ref m_orderTold, .int i_offers, .int i_heards, .int i_rights, .int i_telling, .ref m_offerRing, .ref m_offerSpeed, .ref m_offerFeed, .ref m_offerTurns, .ref m_heardOffer, .ref m_heardVerdict, .ref m_heardAt, .ref m_rightOf, .ref m_rightVerdict, .ref m_rightAt, .ref m_verdictOf, .ref m_sound, .ref m_readSound, .int i_sounds])), (m_marks, .inl (cI, 6, .inl (upd (upd (upd (upd (upd (upd (upd (upd (upd (fun _ => 0) 3 0) 4 0) 5 0) 3 1) 4 1) 5 1) 0 1) 1 1) 2 1))), (m_markKind, .inl (cI, 480, .inl (upd (upd (upd (upd (upd (upd (fun _ => 0) 240 1) 320 0) 400 0) 0 1) 80 0) 160 0))), (m_markValue, .inl (cI, 480, .inl (upd (upd (upd (upd (upd (upd (fun _ => 0) 240 0) 320 0) 400 0) 0 0) 80 0) 160 0))), (m_pile, .inl (cI, 80, .inl (upd fp 0 0)))]) (fun (_ : Unit) => [(cI, .int)]) := by
  unfold Ki
  refine g_ofW (cc := cX13_sumOf) (lv := [(0, .ref m0), (1, .int 2), (2, .int va), (3, .int vb)]) (by decide) rfl (Nat.le_of_ble_eq_true rfl) rfl ?_
  intro p e s m args below meth c A Q hA hQ F hr hnm
  have hts := F.2.2.2.2.1
  have w_0 : (Cond.fieldLink RX13 86 "QuietCutModel" "marks" "[I").before args s = true := hts _ (List.mem_of_getElem? (i := 1) rfl)
  have i_X13 : ∀ w ∈ u_ws RX13 TX13 73, w ∈ wsX13_sumOf := fun _ h => List.mem_cons_of_mem _ (List.mem_append_right _ h)
  have w_1 : (Cond.fieldLink RX13 103 "QuietCutModel" "markValue" "[I").before args s = true := hts _ (List.mem_of_getElem? (i := 2) rfl)
  have w_2 : (Cond.fieldLink RX13 100 "QuietCutModel" "markKind" "[I").before args s = true := hts _ (List.mem_of_getElem? (i := 3) rfl)
  have w_3 : (Cond.fieldLink RX13 137 "QuietCutModel" "pile" "[I").before args s = true := hts _ (List.mem_of_getElem? (i := 4) rfl)
  refine g_iconst F 0 dX13_sumOf_0 (by decide) ?_
  refine g_istore F [(4, .int 0), (0, .ref m0), (1, .int 2), (2, .int va), (3, .int vb)] dX13_sumOf_1 (by decide) rfl ?_
  refine g_bipush F 80 dX13_sumOf_3 (by decide) ?_
  refine g_iload_n F 2 dX13_sumOf_5 rfl rfl ?_
  refine g_imul F dX13_sumOf_6 ?_
  refine g_fold 160 (by decide) ?_
  refine g_istore F [(5, .int 160), (4, .int 0), (0, .ref m0), (1, .int 2), (2, .int va), (3, .int vb)] dX13_sumOf_7 (by decide) rfl ?_
  refine g_iload F 0 dX13_sumOf_9 rfl ?_
  refine g_bipush F 80 dX13_sumOf_11 (by decide) ?_
  refine g_iload_n F 3 dX13_sumOf_13 rfl rfl ?_
  refine g_imul F dX13_sumOf_14 ?_
  refine g_fold 160 (by decide) ?_
  refine g_aload_n F 2 dX13_sumOf_15 rfl rfl ?_
  refine g_get (C := RX13) (T := TX13) (N := 73) (v := .ref m_marks) F i_X13 0 rfl rfl 19 (by decide) w_0 rfl rfl dX13_sumOf_16 ?_
  refine g_iload_n F 3 dX13_sumOf_19 rfl rfl ?_
  refine g_iald F 1 0 rfl rfl (by unfold vp_in; decide) dX13_sumOf_20 ?_
  refine g_fold 1 (by rfl) ?_
  refine g_iadd F dX13_sumOf_21 ?_
  refine g_fold 161 (by decide) ?_
  refine g_icmp_ge F 151 dX13_sumOf_22 (by decide) (fun h9 => absurd h9 (by decide)) (fun c_22 => ?_)
  refine g_aload_n F 2 dX13_sumOf_25 rfl rfl ?_
  refine g_get (C := RX13) (T := TX13) (N := 73) (v := .ref m_markValue) F i_X13 0 rfl rfl 18 (by decide) w_1 rfl rfl dX13_sumOf_26 ?_
  refine g_iload F 0 dX13_sumOf_29 rfl ?_
  refine g_iald F 3 0 rfl rfl (by unfold vp_in; decide) dX13_sumOf_31 ?_
  refine g_fold 0 (by rfl) ?_
  refine g_istore F [(6, .int 0), (5, .int 160), (4, .int 0), (0, .ref m0), (1, .int 2), (2, .int va), (3, .int vb)] dX13_sumOf_32 (by decide) rfl ?_
  refine g_aload_n F 3 dX13_sumOf_34 rfl rfl ?_
  refine g_get (C := RX13) (T := TX13) (N := 73) (v := .ref m_markKind) F i_X13 0 rfl rfl 17 (by decide) w_2 rfl rfl dX13_sumOf_35 ?_
  refine g_iload F 1 dX13_sumOf_38 rfl ?_
  refine g_iald F 2 0 rfl rfl (by unfold vp_in; decide) dX13_sumOf_40 ?_
  refine g_fold 0 (by rfl) ?_
  refine g_iconst F 2 dX13_sumOf_41 (by decide) ?_
  refine g_icmp_eq F 83 dX13_sumOf_42 (by decide) (fun h9 => absurd h9 (by decide)) (fun c_42 => ?_)
  refine g_aload_n F 3 dX13_sumOf_45 rfl rfl ?_
  refine g_get (C := RX13) (T := TX13) (N := 73) (v := .ref m_pile) F i_X13 0 rfl rfl 22 (by decide) w_3 rfl rfl dX13_sumOf_46 ?_
  refine g_iload F 2 dX13_sumOf_49 rfl ?_
  refine g_aload_n F 3 dX13_sumOf_51 rfl rfl ?_
  refine g_get (C := RX13) (T := TX13) (N := 73) (v := .ref m_markKind) F i_X13 0 rfl rfl 17 (by decide) w_2 rfl rfl dX13_sumOf_52 ?_
  refine g_iload F 1 dX13_sumOf_55 rfl ?_
  refine g_iald F 2 0 rfl rfl (by unfold vp_in; decide) dX13_sumOf_57 ?_
  refine g_fold 0 (by rfl) ?_
  refine g_if_ne F 66 dX13_sumOf_58 (by decide) (fun h9 => absurd (by decide) h9) (fun c_58 => ?_)
  refine g_iload F 0 dX13_sumOf_61 rfl ?_
  refine g_goto F 76 dX13_sumOf_63 (by decide) ?_
  refine g_iast F 4 0 rfl rfl (by unfold vp_in; decide) [(m0, .inr (12, [.ref m_stop, .ref m_tape, .int i_taped, .int i_length, .int i_from, .int i_behind, .int i_hand, .int i_value, .int i_fault, .int i_faultAt, .ref m_rule, .ref m_readRule, .ref m_teeth, .ref m_readTeeth, .ref m_sway, .ref m_readSway, .ref m_isTold, .ref m_markKind, .ref m_markValue, .ref m_marks, .int i_sum, .int i_parts, .ref m_pile, .ref m_height, .ref m_leftPass, .ref m_leftTurn, .ref m_leftTooth, .ref m_leftX, .int i_wear, .int i_cuts, .ref m_kept, .ref m_keptWear, .int i_deep, .ref m_now, .ref m_passed, .int i_x, .int i_v, .int i_hasPassed, .ref m_planTime, .ref m_planMany, .ref m_planned, .ref m_isQuiet, .int i_plans, .int i_hasPlan, .ref m_keptTeeth, .int i_jobs, .int i_orderBest, .ref m_jobRing, .ref m_jobSpeed, .ref m_jobFeed, .ref m_jobTurns, .ref m_orderRow, .ref m_bestRow, .int i_hasOrder, .ref m_orderTold, .int i_offers, .int i_heards, .int i_rights, .int i_telling, .ref m_offerRing, .ref m_offerSpeed, .ref m_offerFeed, .ref m_offerTurns, .ref m_heardOffer, .ref m_heardVerdict, .ref m_heardAt, .ref m_rightOf, .ref m_rightVerdict, .ref m_rightAt, .ref m_verdictOf, .ref m_sound, .ref m_readSound, .int i_sounds])), (m_marks, .inl (cI, 6, .inl (upd (upd (upd (upd (upd (upd (upd (upd (upd (fun _ => 0) 3 0) 4 0) 5 0) 3 1) 4 1) 5 1) 0 1) 1 1) 2 1))), (m_markKind, .inl (cI, 480, .inl (upd (upd (upd (upd (upd (upd (fun _ => 0) 240 1) 320 0) 400 0) 0 1) 80 0) 160 0))), (m_markValue, .inl (cI, 480, .inl (upd (upd (upd (upd (upd (upd (fun _ => 0) 240 0) 320 0) 400 0) 0 0) 80 0) 160 0))), (m_pile, .inl (cI, 80, .inl (upd fp 0 0)))] (rfl) dX13_sumOf_76 ?_
  refine g_iinc F (j := 2) 1 [(4, .int 1), (6, .int 0), (5, .int 160), (0, .ref m0), (1, .int 2), (2, .int va), (3, .int vb)] dX13_sumOf_77 rfl (by decide) (by decide) rfl ?_
  refine g_goto F 145 dX13_sumOf_80 (by decide) ?_
  refine g_iinc F (j := 2) 161 [(5, .int 161), (4, .int 1), (6, .int 0), (0, .ref m0), (1, .int 2), (2, .int va), (3, .int vb)] dX13_sumOf_145 rfl (by decide) (by decide) rfl ?_
  refine g_goto F 9 dX13_sumOf_148 (by decide) ?_
  refine g_iload F 0 dX13_sumOf_9 rfl ?_
  refine g_bipush F 80 dX13_sumOf_11 (by decide) ?_
  refine g_iload_n F 4 dX13_sumOf_13 rfl rfl ?_
  refine g_imul F dX13_sumOf_14 ?_
  refine g_fold 160 (by decide) ?_
  refine g_aload_n F 3 dX13_sumOf_15 rfl rfl ?_
  refine g_get (C := RX13) (T := TX13) (N := 73) (v := .ref m_marks) F i_X13 0 rfl rfl 19 (by decide) w_0 rfl rfl dX13_sumOf_16 ?_
  refine g_iload_n F 4 dX13_sumOf_19 rfl rfl ?_
  refine g_iald F 1 0 rfl rfl (by unfold vp_in; decide) dX13_sumOf_20 ?_
  refine g_fold 1 (by rfl) ?_
  refine g_iadd F dX13_sumOf_21 ?_
  refine g_fold 161 (by decide) ?_
  refine g_icmp_ge F 151 dX13_sumOf_22 (by decide) (fun c_22 => ?_) (fun h9 => absurd (by decide) h9) 
  refine g_aload_n F 3 dX13_sumOf_151 rfl rfl ?_
  refine g_get (C := RX13) (T := TX13) (N := 73) (v := .ref m_pile) F i_X13 0 rfl rfl 22 (by decide) w_3 rfl rfl dX13_sumOf_152 ?_
  refine g_iconst F 0 dX13_sumOf_155 (by decide) ?_
  refine g_iald F 4 0 rfl rfl (by unfold vp_in; decide) dX13_sumOf_156 ?_
  refine g_fold 0 (by rfl) ?_
  exact g_iret F hA hQ hr () (rfl) [0, 1, 2, 3, 4] [0] rfl (by decide) rfl rfl dX13_sumOf_157

theorem dX13_tells_0 : decode cX13_tells 0 = .ok (.iload_n 1, 1) := by decide +kernel
theorem dX13_tells_1 : decode cX13_tells 1 = .ok (.i2l, 1) := by decide +kernel
theorem dX13_tells_2 : decode cX13_tells 2 = .ok (.lconst 0, 1) := by decide +kernel
theorem dX13_tells_3 : decode cX13_tells 3 = .ok (.ldc2_w 360, 3) := by decide +kernel
theorem dX13_tells_6 : decode cX13_tells 6 = .ok (.invokestatic 61, 3) := by decide +kernel
theorem dX13_tells_9 : decode cX13_tells 9 = .ok (.ifCond .eq 13, 3) := by decide +kernel
theorem dX13_tells_12 : decode cX13_tells 12 = .ok (.aload_n 0, 1) := by decide +kernel
theorem dX13_tells_13 : decode cX13_tells 13 = .ok (.iload_n 1, 1) := by decide +kernel
theorem dX13_tells_14 : decode cX13_tells 14 = .ok (.iload_n 2, 1) := by decide +kernel
theorem dX13_tells_15 : decode cX13_tells 15 = .ok (.iload_n 3, 1) := by decide +kernel
theorem dX13_tells_16 : decode cX13_tells 16 = .ok (.invokevirtual 144, 3) := by decide +kernel
theorem dX13_tells_19 : decode cX13_tells 19 = .ok (.goto 4, 3) := by decide +kernel
theorem dX13_tells_22 : decode cX13_tells 22 = .ok (.iconst 0, 1) := by decide +kernel
theorem dX13_tells_23 : decode cX13_tells 23 = .ok (.ireturn, 1) := by decide +kernel
set_option maxRecDepth 20000 in
theorem ggX13_tells_X13_in : GoodIn wsX13_tells wsX13_in := goodIn_r _ [5] rfl (by decide +kernel)
set_option maxRecDepth 20000 in
theorem gX13_tells_X13_in : GoodIn wsX13_tells (va_wsS RX13 61 yX13_in wsX13_in) := goodIn_app (goodIn_of _ (by decide +kernel)) ggX13_tells_X13_in
set_option maxRecDepth 20000 in
theorem ggX13_tells_X13_sumOf : GoodIn wsX13_tells wsX13_sumOf := goodIn_r _ [9, 10, 11, 12, 13, 14, 15, 4, 16, 17, 18, 19, 20, 21, 22, 23, 24, 25, 26, 27, 28, 29, 30, 31, 32, 33, 34, 35, 36, 37, 38, 39, 40, 41, 42, 43, 44, 45, 46, 47, 48, 49, 50, 51, 52, 53, 54, 55, 56, 57, 58, 59, 60, 61, 62, 63, 64, 65, 66, 67, 68, 69, 70, 71, 72, 73, 74, 75, 76, 77, 78, 79, 80, 81, 82, 83, 84, 85, 86, 87, 88, 89] rfl (by decide +kernel)
set_option maxRecDepth 20000 in
theorem gX13_tells_X13_sumOf : GoodIn wsX13_tells (wsV RX13 144 RX13 yX13_sumOf wsX13_sumOf) := goodIn_app (goodIn_of _ (by decide +kernel)) ggX13_tells_X13_sumOf
set_option maxHeartbeats 4000000 in
set_option maxRecDepth 100000 in
theorem K_X13_tells (l : Launch) (D : va_G) (m0 : Nat) (m_stop : Nat) (m_tape : Nat) (m_rule : Nat) (m_readRule : Nat) (m_teeth : Nat) (m_readTeeth : Nat) (m_sway : Nat) (m_readSway : Nat) (m_isTold : Nat) (m_markKind : Nat) (m_markValue : Nat) (m_marks : Nat) (m_pile : Nat) (m_height : Nat) (m_leftPass : Nat) (m_leftTurn : Nat) (m_leftTooth : Nat) (m_leftX : Nat) (m_kept : Nat) (m_keptWear : Nat) (m_now : Nat) (m_passed : Nat) (m_planTime : Nat) (m_planMany : Nat) (m_planned : Nat) (m_isQuiet : Nat) (m_keptTeeth : Nat) (m_jobRing : Nat) (m_jobSpeed : Nat) (m_jobFeed : Nat) (m_jobTurns : Nat) (m_orderRow : Nat) (m_bestRow : Nat) (m_orderTold : Nat) (m_offerRing : Nat) (m_offerSpeed : Nat) (m_offerFeed : Nat) (m_offerTurns : Nat) (m_heardOffer : Nat) (m_heardVerdict : Nat) (m_heardAt : Nat) (m_rightOf : Nat) (m_rightVerdict : Nat) (m_rightAt : Nat) (m_verdictOf : Nat) (m_sound : Nat) (m_readSound : Nat) (cI : ClassId) (a : Int32) (va : Int32) (vb : Int32) (sz : Nat) : Ki l yX13_tells wsX13_tells 2 66 0 0 D [.ref m0, .int a, .int va, .int vb] [(m0, .inr (12, [.ref m_stop, .ref m_tape, .int 0, .int 0, .int 0, .int 0, .int 0, .int 0, .int 0, .int (-1), .ref m_rule, .ref m_readRule, .ref m_teeth, .ref m_readTeeth, .ref m_sway, .ref m_readSway, .ref m_isTold, .ref m_markKind, .ref m_markValue, .ref m_marks, .int 5, .int 0, .ref m_pile, .ref m_height, .ref m_leftPass, .ref m_leftTurn, .ref m_leftTooth, .ref m_leftX, .int 0, .int 0, .ref m_kept, .ref m_keptWear, .int 0, .ref m_now, .ref m_passed, .int 0, .int 0, .int 0, .ref m_planTime, .ref m_planMany, .ref m_planned, .ref m_isQuiet, .int 0, .int 0, .ref m_keptTeeth, .int 0, .int 0, .ref m_jobRing, .ref m_jobSpeed, .ref m_jobFeed, .ref m_jobTurns, .ref m_orderRow, .ref m_bestRow, .int 0, .ref m_orderTold, .int 0, .int 0, .int 0, .int 0, .ref m_offerRing, .ref m_offerSpeed, .ref m_offerFeed, .ref m_offerTurns, .ref m_heardOffer, .ref m_heardVerdict, .ref m_heardAt, .ref m_rightOf, .ref m_rightVerdict, .ref m_rightAt, .ref m_verdictOf, .ref m_sound, .ref m_readSound, .int 0])), (m_marks, .inl (cI, 6, .inl (upd (upd (upd (upd (upd (upd (upd (upd (upd (fun _ => 0) 3 0) 4 0) 5 0) 3 1) 4 1) 5 1) 0 1) 1 1) 2 1))), (m_markKind, .inl (cI, 480, .inl (upd (upd (upd (upd (upd (upd (fun _ => 0) 240 1) 320 0) 400 0) 0 1) 80 0) 160 0))), (m_markValue, .inl (cI, 480, .inl (upd (upd (upd (upd (upd (upd (fun _ => 0) 240 0) 320 0) 400 0) 0 0) 80 0) 160 0))), (m_pile, .inl (cI, 80, .inl (fun _ => 0)))] [(cI, .int)] sz (fun (r : Int32) (_ : Unit) => r = (if a = 0 then va else 0)) (fun (_ : Unit) => []) (fun (_ : Unit) => [(cI, .int)]) := by
  unfold Ki
  refine g_ofW (cc := cX13_tells) (lv := [(0, .ref m0), (1, .int a), (2, .int va), (3, .int vb)]) (by decide) rfl (Nat.le_of_ble_eq_true rfl) rfl ?_
  intro p e s m args below meth c A Q hA hQ F hr hnm
  have hts := F.2.2.2.2.1
  have w_0 : (Cond.constantLong RX13 360 (2)).before args s = true := hts _ (List.mem_of_getElem? (i := 1) rfl)
  refine g_iload_n F 1 dX13_tells_0 rfl rfl ?_
  refine g_i2l F dX13_tells_1 ?_
  refine g_lconst F 0 dX13_tells_2 (by decide) ?_
  refine g_ldc2 F w_0 dX13_tells_3 ?_
  refine g_callSi (k := 0) (n := 0) (As := [.long a.toInt64, .long 0, .long 2]) (st := []) (wc := []) (wr := [(m0, .inr (12, [.ref m_stop, .ref m_tape, .int 0, .int 0, .int 0, .int 0, .int 0, .int 0, .int 0, .int (-1), .ref m_rule, .ref m_readRule, .ref m_teeth, .ref m_readTeeth, .ref m_sway, .ref m_readSway, .ref m_isTold, .ref m_markKind, .ref m_markValue, .ref m_marks, .int 5, .int 0, .ref m_pile, .ref m_height, .ref m_leftPass, .ref m_leftTurn, .ref m_leftTooth, .ref m_leftX, .int 0, .int 0, .ref m_kept, .ref m_keptWear, .int 0, .ref m_now, .ref m_passed, .int 0, .int 0, .int 0, .ref m_planTime, .ref m_planMany, .ref m_planned, .ref m_isQuiet, .int 0, .int 0, .ref m_keptTeeth, .int 0, .int 0, .ref m_jobRing, .ref m_jobSpeed, .ref m_jobFeed, .ref m_jobTurns, .ref m_orderRow, .ref m_bestRow, .int 0, .ref m_orderTold, .int 0, .int 0, .int 0, .int 0, .ref m_offerRing, .ref m_offerSpeed, .ref m_offerFeed, .ref m_offerTurns, .ref m_heardOffer, .ref m_heardVerdict, .ref m_heardAt, .ref m_rightOf, .ref m_rightVerdict, .ref m_rightAt, .ref m_verdictOf, .ref m_sound, .ref m_readSound, .int 0])), (m_marks, .inl (cI, 6, .inl (upd (upd (upd (upd (upd (upd (upd (upd (upd (fun _ => 0) 3 0) 4 0) 5 0) 3 1) 4 1) 5 1) 0 1) 1 1) 2 1))), (m_markKind, .inl (cI, 480, .inl (upd (upd (upd (upd (upd (upd (fun _ => 0) 240 1) 320 0) 400 0) 0 1) 80 0) 160 0))), (m_markValue, .inl (cI, 480, .inl (upd (upd (upd (upd (upd (upd (fun _ => 0) 240 0) 320 0) 400 0) 0 0) 80 0) 160 0))), (m_pile, .inl (cI, 80, .inl (fun _ => 0)))]) F [] [0, 1, 2, 3, 4] [] rfl rfl (by decide) rfl (by decide) (by decide) rfl (fun sz => K_X13_in l D a.toInt64 0 2  sz) (va_cwS 3 hts gX13_tells_X13_in rfl rfl rfl (by decide +kernel) ⟨Nat.le_of_ble_eq_true rfl, Nat.le_of_ble_eq_true rfl⟩) rfl (Nat.le_of_ble_eq_true rfl) ⟨Nat.le_of_ble_eq_true rfl, Nat.le_of_ble_eq_true rfl⟩ dX13_tells_6 (fun r_1 _ hw_2 => ?_)
  have hw_2 : r_1 = (if 0 ≤ a.toInt64 ∧ a.toInt64 ≤ 2 then 1 else 0) := hw_2
  have e_r_1 := hw_2
  show gG p l e (gR 2 0 0 66) s m args below meth c D A 4 Q 0 0 [(m0, .inr (12, [.ref m_stop, .ref m_tape, .int 0, .int 0, .int 0, .int 0, .int 0, .int 0, .int 0, .int (-1), .ref m_rule, .ref m_readRule, .ref m_teeth, .ref m_readTeeth, .ref m_sway, .ref m_readSway, .ref m_isTold, .ref m_markKind, .ref m_markValue, .ref m_marks, .int 5, .int 0, .ref m_pile, .ref m_height, .ref m_leftPass, .ref m_leftTurn, .ref m_leftTooth, .ref m_leftX, .int 0, .int 0, .ref m_kept, .ref m_keptWear, .int 0, .ref m_now, .ref m_passed, .int 0, .int 0, .int 0, .ref m_planTime, .ref m_planMany, .ref m_planned, .ref m_isQuiet, .int 0, .int 0, .ref m_keptTeeth, .int 0, .int 0, .ref m_jobRing, .ref m_jobSpeed, .ref m_jobFeed, .ref m_jobTurns, .ref m_orderRow, .ref m_bestRow, .int 0, .ref m_orderTold, .int 0, .int 0, .int 0, .int 0, .ref m_offerRing, .ref m_offerSpeed, .ref m_offerFeed, .ref m_offerTurns, .ref m_heardOffer, .ref m_heardVerdict, .ref m_heardAt, .ref m_rightOf, .ref m_rightVerdict, .ref m_rightAt, .ref m_verdictOf, .ref m_sound, .ref m_readSound, .int 0])), (m_marks, .inl (cI, 6, .inl (upd (upd (upd (upd (upd (upd (upd (upd (upd (fun _ => 0) 3 0) 4 0) 5 0) 3 1) 4 1) 5 1) 0 1) 1 1) 2 1))), (m_markKind, .inl (cI, 480, .inl (upd (upd (upd (upd (upd (upd (fun _ => 0) 240 1) 320 0) 400 0) 0 1) 80 0) 160 0))), (m_markValue, .inl (cI, 480, .inl (upd (upd (upd (upd (upd (upd (fun _ => 0) 240 0) 320 0) 400 0) 0 0) 80 0) 160 0))), (m_pile, .inl (cI, 80, .inl (fun _ => 0)))] [(cI, .int)] [(0, .ref m0), (1, .int a), (2, .int va), (3, .int vb)] 9 [.int r_1]
  refine g_fold (if 0 ≤ a.toInt64 ∧ a.toInt64 ≤ 2 then 1 else 0) e_r_1 ?_
  refine g_fold (if 0 ≤ a ∧ a ≤ 2 then 1 else 0) (gl_in a 0 2 _ _ (by decide) (by decide)) ?_
  refine g_if_eq F 22 dX13_tells_9 (by decide) (fun c_9 => ?_) (fun c_9 => ?_)
  · have c_9 := gb_0 c_9
    refine g_iconst F 0 dX13_tells_22 (by decide) ?_
    exact g_iret F hA hQ hr () (by first | rfl | exact gi_p rfl rfl | exact gi_e (by decide) rfl | (exact gi_e (by (simp only [Int32.lt_iff_toInt_lt, Int32.le_iff_toInt_le, ← Int32.toInt_inj, Int32.reduceToInt] at c_9 ⊢; omega)) rfl)) [] [0] rfl (by decide) rfl rfl dX13_tells_23
  · have c_9 := gb_n0 c_9
    rcases (show a = 0 ∨ a = 1 ∨ a = 2 by (simp only [Int32.lt_iff_toInt_lt, Int32.le_iff_toInt_le, ← Int32.toInt_inj, Int32.reduceToInt] at c_9 ⊢; omega)) with rfl | rfl | rfl
    · refine g_aload_n F 0 dX13_tells_12 rfl rfl ?_
      refine g_iload_n F 1 dX13_tells_13 rfl rfl ?_
      refine g_iload_n F 2 dX13_tells_14 rfl rfl ?_
      refine g_iload_n F 3 dX13_tells_15 rfl rfl ?_
      refine g_callVi (k := 0) (n := 0) (b := m0) (As := [.int 0, .int va, .int vb]) (st := []) (wc := [(m0, .inr (12, [.ref m_stop, .ref m_tape, .int 0, .int 0, .int 0, .int 0, .int 0, .int 0, .int 0, .int (-1), .ref m_rule, .ref m_readRule, .ref m_teeth, .ref m_readTeeth, .ref m_sway, .ref m_readSway, .ref m_isTold, .ref m_markKind, .ref m_markValue, .ref m_marks, .int 5, .int 0, .ref m_pile, .ref m_height, .ref m_leftPass, .ref m_leftTurn, .ref m_leftTooth, .ref m_leftX, .int 0, .int 0, .ref m_kept, .ref m_keptWear, .int 0, .ref m_now, .ref m_passed, .int 0, .int 0, .int 0, .ref m_planTime, .ref m_planMany, .ref m_planned, .ref m_isQuiet, .int 0, .int 0, .ref m_keptTeeth, .int 0, .int 0, .ref m_jobRing, .ref m_jobSpeed, .ref m_jobFeed, .ref m_jobTurns, .ref m_orderRow, .ref m_bestRow, .int 0, .ref m_orderTold, .int 0, .int 0, .int 0, .int 0, .ref m_offerRing, .ref m_offerSpeed, .ref m_offerFeed, .ref m_offerTurns, .ref m_heardOffer, .ref m_heardVerdict, .ref m_heardAt, .ref m_rightOf, .ref m_rightVerdict, .ref m_rightAt, .ref m_verdictOf, .ref m_sound, .ref m_readSound, .int 0])), (m_marks, .inl (cI, 6, .inl (upd (upd (upd (upd (upd (upd (upd (upd (upd (fun _ => 0) 3 0) 4 0) 5 0) 3 1) 4 1) 5 1) 0 1) 1 1) 2 1))), (m_markKind, .inl (cI, 480, .inl (upd (upd (upd (upd (upd (upd (fun _ => 0) 240 1) 320 0) 400 0) 0 1) 80 0) 160 0))), (m_markValue, .inl (cI, 480, .inl (upd (upd (upd (upd (upd (upd (fun _ => 0) 240 0) 320 0) 400 0) 0 0) 80 0) 160 0))), (m_pile, .inl (cI, 80, .inl (fun _ => 0)))]) (wr := []) F [0, 1, 2, 3, 4] [] [0] rfl rfl (by decide) rfl (by decide) (by decide) rfl (fun sz => K_X13_sumOf0 l D m0 m_stop m_tape 0 0 0 0 0 0 0 (-1) m_rule m_readRule m_teeth m_readTeeth m_sway m_readSway m_isTold m_markKind m_markValue m_marks 5 0 m_pile m_height m_leftPass m_leftTurn m_leftTooth m_leftX 0 0 m_kept m_keptWear 0 m_now m_passed 0 0 0 m_planTime m_planMany m_planned m_isQuiet 0 0 m_keptTeeth 0 0 m_jobRing m_jobSpeed m_jobFeed m_jobTurns m_orderRow m_bestRow 0 m_orderTold 0 0 0 0 m_offerRing m_offerSpeed m_offerFeed m_offerTurns m_heardOffer m_heardVerdict m_heardAt m_rightOf m_rightVerdict m_rightAt m_verdictOf m_sound m_readSound 0 cI (fun _ => 0) va vb  sz) (cwV 3 hts gX13_tells_X13_sumOf rfl rfl rfl (by decide +kernel) ⟨Nat.le_of_ble_eq_true rfl, Nat.le_of_ble_eq_true rfl⟩) rfl 0 rfl rfl (Nat.le_of_ble_eq_true rfl) ⟨Nat.le_of_ble_eq_true rfl, Nat.le_of_ble_eq_true rfl⟩ dX13_tells_16 (fun r_6 _ hw_7 => ?_)
      have hw_7 : r_6 = va := hw_7
      have e_r_6 := hw_7
      show gG p l e (gR 2 0 0 66) s m args below meth c D A 4 Q 0 0 [(m0, .inr (12, [.ref m_stop, .ref m_tape, .int 0, .int 0, .int 0, .int 0, .int 0, .int 0, .int 0, .int (-1), .ref m_rule, .ref m_readRule, .ref m_teeth, .ref m_readTeeth, .ref m_sway, .ref m_readSway, .ref m_isTold, .ref m_markKind, .ref m_markValue, .ref m_marks, .int 5, .int 0, .ref m_pile, .ref m_height, .ref m_leftPass, .ref m_leftTurn, .ref m_leftTooth, .ref m_leftX, .int 0, .int 0, .ref m_kept, .ref m_keptWear, .int 0, .ref m_now, .ref m_passed, .int 0, .int 0, .int 0, .ref m_planTime, .ref m_planMany, .ref m_planned, .ref m_isQuiet, .int 0, .int 0, .ref m_keptTeeth, .int 0, .int 0, .ref m_jobRing, .ref m_jobSpeed, .ref m_jobFeed, .ref m_jobTurns, .ref m_orderRow, .ref m_bestRow, .int 0, .ref m_orderTold, .int 0, .int 0, .int 0, .int 0, .ref m_offerRing, .ref m_offerSpeed, .ref m_offerFeed, .ref m_offerTurns, .ref m_heardOffer, .ref m_heardVerdict, .ref m_heardAt, .ref m_rightOf, .ref m_rightVerdict, .ref m_rightAt, .ref m_verdictOf, .ref m_sound, .ref m_readSound, .int 0])), (m_marks, .inl (cI, 6, .inl (upd (upd (upd (upd (upd (upd (upd (upd (upd (fun _ => 0) 3 0) 4 0) 5 0) 3 1) 4 1) 5 1) 0 1) 1 1) 2 1))), (m_markKind, .inl (cI, 480, .inl (upd (upd (upd (upd (upd (upd (fun _ => 0) 240 1) 320 0) 400 0) 0 1) 80 0) 160 0))), (m_markValue, .inl (cI, 480, .inl (upd (upd (upd (upd (upd (upd (fun _ => 0) 240 0) 320 0) 400 0) 0 0) 80 0) 160 0))), (m_pile, .inl (cI, 80, .inl (upd (fun _ => 0) 0 va)))] [(cI, .int)] [(0, .ref m0), (1, .int 0), (2, .int va), (3, .int vb)] 19 [.int r_6]
      refine g_fold va e_r_6 ?_
      refine g_goto F 23 dX13_tells_19 (by decide) ?_
      exact g_iret F hA hQ hr () (by first | exact gi_p rfl rfl | exact gi_e (by decide) rfl) [] [0] rfl (by decide) rfl rfl dX13_tells_23
    · refine g_aload_n F 0 dX13_tells_12 rfl rfl ?_
      refine g_iload_n F 1 dX13_tells_13 rfl rfl ?_
      refine g_iload_n F 2 dX13_tells_14 rfl rfl ?_
      refine g_iload_n F 3 dX13_tells_15 rfl rfl ?_
      refine g_callVi (k := 0) (n := 0) (b := m0) (As := [.int 1, .int va, .int vb]) (st := []) (wc := [(m0, .inr (12, [.ref m_stop, .ref m_tape, .int 0, .int 0, .int 0, .int 0, .int 0, .int 0, .int 0, .int (-1), .ref m_rule, .ref m_readRule, .ref m_teeth, .ref m_readTeeth, .ref m_sway, .ref m_readSway, .ref m_isTold, .ref m_markKind, .ref m_markValue, .ref m_marks, .int 5, .int 0, .ref m_pile, .ref m_height, .ref m_leftPass, .ref m_leftTurn, .ref m_leftTooth, .ref m_leftX, .int 0, .int 0, .ref m_kept, .ref m_keptWear, .int 0, .ref m_now, .ref m_passed, .int 0, .int 0, .int 0, .ref m_planTime, .ref m_planMany, .ref m_planned, .ref m_isQuiet, .int 0, .int 0, .ref m_keptTeeth, .int 0, .int 0, .ref m_jobRing, .ref m_jobSpeed, .ref m_jobFeed, .ref m_jobTurns, .ref m_orderRow, .ref m_bestRow, .int 0, .ref m_orderTold, .int 0, .int 0, .int 0, .int 0, .ref m_offerRing, .ref m_offerSpeed, .ref m_offerFeed, .ref m_offerTurns, .ref m_heardOffer, .ref m_heardVerdict, .ref m_heardAt, .ref m_rightOf, .ref m_rightVerdict, .ref m_rightAt, .ref m_verdictOf, .ref m_sound, .ref m_readSound, .int 0])), (m_marks, .inl (cI, 6, .inl (upd (upd (upd (upd (upd (upd (upd (upd (upd (fun _ => 0) 3 0) 4 0) 5 0) 3 1) 4 1) 5 1) 0 1) 1 1) 2 1))), (m_markKind, .inl (cI, 480, .inl (upd (upd (upd (upd (upd (upd (fun _ => 0) 240 1) 320 0) 400 0) 0 1) 80 0) 160 0))), (m_markValue, .inl (cI, 480, .inl (upd (upd (upd (upd (upd (upd (fun _ => 0) 240 0) 320 0) 400 0) 0 0) 80 0) 160 0))), (m_pile, .inl (cI, 80, .inl (fun _ => 0)))]) (wr := []) F [0, 1, 2, 3, 4] [] [0] rfl rfl (by decide) rfl (by decide) (by decide) rfl (fun sz => K_X13_sumOf1 l D m0 m_stop m_tape 0 0 0 0 0 0 0 (-1) m_rule m_readRule m_teeth m_readTeeth m_sway m_readSway m_isTold m_markKind m_markValue m_marks 5 0 m_pile m_height m_leftPass m_leftTurn m_leftTooth m_leftX 0 0 m_kept m_keptWear 0 m_now m_passed 0 0 0 m_planTime m_planMany m_planned m_isQuiet 0 0 m_keptTeeth 0 0 m_jobRing m_jobSpeed m_jobFeed m_jobTurns m_orderRow m_bestRow 0 m_orderTold 0 0 0 0 m_offerRing m_offerSpeed m_offerFeed m_offerTurns m_heardOffer m_heardVerdict m_heardAt m_rightOf m_rightVerdict m_rightAt m_verdictOf m_sound m_readSound 0 cI (fun _ => 0) va vb  sz) (cwV 3 hts gX13_tells_X13_sumOf rfl rfl rfl (by decide +kernel) ⟨Nat.le_of_ble_eq_true rfl, Nat.le_of_ble_eq_true rfl⟩) rfl 0 rfl rfl (Nat.le_of_ble_eq_true rfl) ⟨Nat.le_of_ble_eq_true rfl, Nat.le_of_ble_eq_true rfl⟩ dX13_tells_16 (fun r_11 _ hw_12 => ?_)
      have hw_12 : r_11 = 0 := hw_12
      have e_r_11 := hw_12
      show gG p l e (gR 2 0 0 66) s m args below meth c D A 4 Q 0 0 [(m0, .inr (12, [.ref m_stop, .ref m_tape, .int 0, .int 0, .int 0, .int 0, .int 0, .int 0, .int 0, .int (-1), .ref m_rule, .ref m_readRule, .ref m_teeth, .ref m_readTeeth, .ref m_sway, .ref m_readSway, .ref m_isTold, .ref m_markKind, .ref m_markValue, .ref m_marks, .int 5, .int 0, .ref m_pile, .ref m_height, .ref m_leftPass, .ref m_leftTurn, .ref m_leftTooth, .ref m_leftX, .int 0, .int 0, .ref m_kept, .ref m_keptWear, .int 0, .ref m_now, .ref m_passed, .int 0, .int 0, .int 0, .ref m_planTime, .ref m_planMany, .ref m_planned, .ref m_isQuiet, .int 0, .int 0, .ref m_keptTeeth, .int 0, .int 0, .ref m_jobRing, .ref m_jobSpeed, .ref m_jobFeed, .ref m_jobTurns, .ref m_orderRow, .ref m_bestRow, .int 0, .ref m_orderTold, .int 0, .int 0, .int 0, .int 0, .ref m_offerRing, .ref m_offerSpeed, .ref m_offerFeed, .ref m_offerTurns, .ref m_heardOffer, .ref m_heardVerdict, .ref m_heardAt, .ref m_rightOf, .ref m_rightVerdict, .ref m_rightAt, .ref m_verdictOf, .ref m_sound, .ref m_readSound, .int 0])), (m_marks, .inl (cI, 6, .inl (upd (upd (upd (upd (upd (upd (upd (upd (upd (fun _ => 0) 3 0) 4 0) 5 0) 3 1) 4 1) 5 1) 0 1) 1 1) 2 1))), (m_markKind, .inl (cI, 480, .inl (upd (upd (upd (upd (upd (upd (fun _ => 0) 240 1) 320 0) 400 0) 0 1) 80 0) 160 0))), (m_markValue, .inl (cI, 480, .inl (upd (upd (upd (upd (upd (upd (fun _ => 0) 240 0) 320 0) 400 0) 0 0) 80 0) 160 0))), (m_pile, .inl (cI, 80, .inl (upd (fun _ => 0) 0 0)))] [(cI, .int)] [(0, .ref m0), (1, .int 1), (2, .int va), (3, .int vb)] 19 [.int r_11]
      refine g_fold 0 e_r_11 ?_
      refine g_goto F 23 dX13_tells_19 (by decide) ?_
      exact g_iret F hA hQ hr () (by first | exact gi_p rfl rfl | exact gi_e (by decide) rfl) [] [0] rfl (by decide) rfl rfl dX13_tells_23
    · refine g_aload_n F 0 dX13_tells_12 rfl rfl ?_
      refine g_iload_n F 1 dX13_tells_13 rfl rfl ?_
      refine g_iload_n F 2 dX13_tells_14 rfl rfl ?_
      refine g_iload_n F 3 dX13_tells_15 rfl rfl ?_
      refine g_callVi (k := 0) (n := 0) (b := m0) (As := [.int 2, .int va, .int vb]) (st := []) (wc := [(m0, .inr (12, [.ref m_stop, .ref m_tape, .int 0, .int 0, .int 0, .int 0, .int 0, .int 0, .int 0, .int (-1), .ref m_rule, .ref m_readRule, .ref m_teeth, .ref m_readTeeth, .ref m_sway, .ref m_readSway, .ref m_isTold, .ref m_markKind, .ref m_markValue, .ref m_marks, .int 5, .int 0, .ref m_pile, .ref m_height, .ref m_leftPass, .ref m_leftTurn, .ref m_leftTooth, .ref m_leftX, .int 0, .int 0, .ref m_kept, .ref m_keptWear, .int 0, .ref m_now, .ref m_passed, .int 0, .int 0, .int 0, .ref m_planTime, .ref m_planMany, .ref m_planned, .ref m_isQuiet, .int 0, .int 0, .ref m_keptTeeth, .int 0, .int 0, .ref m_jobRing, .ref m_jobSpeed, .ref m_jobFeed, .ref m_jobTurns, .ref m_orderRow, .ref m_bestRow, .int 0, .ref m_orderTold, .int 0, .int 0, .int 0, .int 0, .ref m_offerRing, .ref m_offerSpeed, .ref m_offerFeed, .ref m_offerTurns, .ref m_heardOffer, .ref m_heardVerdict, .ref m_heardAt, .ref m_rightOf, .ref m_rightVerdict, .ref m_rightAt, .ref m_verdictOf, .ref m_sound, .ref m_readSound, .int 0])), (m_marks, .inl (cI, 6, .inl (upd (upd (upd (upd (upd (upd (upd (upd (upd (fun _ => 0) 3 0) 4 0) 5 0) 3 1) 4 1) 5 1) 0 1) 1 1) 2 1))), (m_markKind, .inl (cI, 480, .inl (upd (upd (upd (upd (upd (upd (fun _ => 0) 240 1) 320 0) 400 0) 0 1) 80 0) 160 0))), (m_markValue, .inl (cI, 480, .inl (upd (upd (upd (upd (upd (upd (fun _ => 0) 240 0) 320 0) 400 0) 0 0) 80 0) 160 0))), (m_pile, .inl (cI, 80, .inl (fun _ => 0)))]) (wr := []) F [0, 1, 2, 3, 4] [] [0] rfl rfl (by decide) rfl (by decide) (by decide) rfl (fun sz => K_X13_sumOf2 l D m0 m_stop m_tape 0 0 0 0 0 0 0 (-1) m_rule m_readRule m_teeth m_readTeeth m_sway m_readSway m_isTold m_markKind m_markValue m_marks 5 0 m_pile m_height m_leftPass m_leftTurn m_leftTooth m_leftX 0 0 m_kept m_keptWear 0 m_now m_passed 0 0 0 m_planTime m_planMany m_planned m_isQuiet 0 0 m_keptTeeth 0 0 m_jobRing m_jobSpeed m_jobFeed m_jobTurns m_orderRow m_bestRow 0 m_orderTold 0 0 0 0 m_offerRing m_offerSpeed m_offerFeed m_offerTurns m_heardOffer m_heardVerdict m_heardAt m_rightOf m_rightVerdict m_rightAt m_verdictOf m_sound m_readSound 0 cI (fun _ => 0) va vb  sz) (cwV 3 hts gX13_tells_X13_sumOf rfl rfl rfl (by decide +kernel) ⟨Nat.le_of_ble_eq_true rfl, Nat.le_of_ble_eq_true rfl⟩) rfl 0 rfl rfl (Nat.le_of_ble_eq_true rfl) ⟨Nat.le_of_ble_eq_true rfl, Nat.le_of_ble_eq_true rfl⟩ dX13_tells_16 (fun r_16 _ hw_17 => ?_)
      have hw_17 : r_16 = 0 := hw_17
      have e_r_16 := hw_17
      show gG p l e (gR 2 0 0 66) s m args below meth c D A 4 Q 0 0 [(m0, .inr (12, [.ref m_stop, .ref m_tape, .int 0, .int 0, .int 0, .int 0, .int 0, .int 0, .int 0, .int (-1), .ref m_rule, .ref m_readRule, .ref m_teeth, .ref m_readTeeth, .ref m_sway, .ref m_readSway, .ref m_isTold, .ref m_markKind, .ref m_markValue, .ref m_marks, .int 5, .int 0, .ref m_pile, .ref m_height, .ref m_leftPass, .ref m_leftTurn, .ref m_leftTooth, .ref m_leftX, .int 0, .int 0, .ref m_kept, .ref m_keptWear, .int 0, .ref m_now, .ref m_passed, .int 0, .int 0, .int 0, .ref m_planTime, .ref m_planMany, .ref m_planned, .ref m_isQuiet, .int 0, .int 0, .ref m_keptTeeth, .int 0, .int 0, .ref m_jobRing, .ref m_jobSpeed, .ref m_jobFeed, .ref m_jobTurns, .ref m_orderRow, .ref m_bestRow, .int 0, .ref m_orderTold, .int 0, .int 0, .int 0, .int 0, .ref m_offerRing, .ref m_offerSpeed, .ref m_offerFeed, .ref m_offerTurns, .ref m_heardOffer, .ref m_heardVerdict, .ref m_heardAt, .ref m_rightOf, .ref m_rightVerdict, .ref m_rightAt, .ref m_verdictOf, .ref m_sound, .ref m_readSound, .int 0])), (m_marks, .inl (cI, 6, .inl (upd (upd (upd (upd (upd (upd (upd (upd (upd (fun _ => 0) 3 0) 4 0) 5 0) 3 1) 4 1) 5 1) 0 1) 1 1) 2 1))), (m_markKind, .inl (cI, 480, .inl (upd (upd (upd (upd (upd (upd (fun _ => 0) 240 1) 320 0) 400 0) 0 1) 80 0) 160 0))), (m_markValue, .inl (cI, 480, .inl (upd (upd (upd (upd (upd (upd (fun _ => 0) 240 0) 320 0) 400 0) 0 0) 80 0) 160 0))), (m_pile, .inl (cI, 80, .inl (upd (fun _ => 0) 0 0)))] [(cI, .int)] [(0, .ref m0), (1, .int 2), (2, .int va), (3, .int vb)] 19 [.int r_16]
      refine g_fold 0 e_r_16 ?_
      refine g_goto F 23 dX13_tells_19 (by decide) ?_
      exact g_iret F hA hQ hr () (by first | exact gi_p rfl rfl | exact gi_e (by decide) rfl) [] [0] rfl (by decide) rfl rfl dX13_tells_23

theorem dX13_isRing_0 : decode cX13_isRing 0 = .ok (.iload_n 1, 1) := by decide +kernel
theorem dX13_isRing_1 : decode cX13_isRing 1 = .ok (.i2l, 1) := by decide +kernel
theorem dX13_isRing_2 : decode cX13_isRing 2 = .ok (.lconst 0, 1) := by decide +kernel
theorem dX13_isRing_3 : decode cX13_isRing 3 = .ok (.aload_n 0, 1) := by decide +kernel
theorem dX13_isRing_4 : decode cX13_isRing 4 = .ok (.getfield 199, 3) := by decide +kernel
theorem dX13_isRing_7 : decode cX13_isRing 7 = .ok (.iconst 1, 1) := by decide +kernel
theorem dX13_isRing_8 : decode cX13_isRing 8 = .ok (.iaload, 1) := by decide +kernel
theorem dX13_isRing_9 : decode cX13_isRing 9 = .ok (.i2l, 1) := by decide +kernel
theorem dX13_isRing_10 : decode cX13_isRing 10 = .ok (.lconst 1, 1) := by decide +kernel
theorem dX13_isRing_11 : decode cX13_isRing 11 = .ok (.lsub, 1) := by decide +kernel
theorem dX13_isRing_12 : decode cX13_isRing 12 = .ok (.invokestatic 61, 3) := by decide +kernel
theorem dX13_isRing_15 : decode cX13_isRing 15 = .ok (.ireturn, 1) := by decide +kernel
set_option maxRecDepth 20000 in
theorem ggX13_isRing_X13_in : GoodIn wsX13_isRing wsX13_in := goodIn_r _ [5] rfl (by decide +kernel)
set_option maxRecDepth 20000 in
theorem gX13_isRing_X13_in : GoodIn wsX13_isRing (va_wsS RX13 61 yX13_in wsX13_in) := goodIn_app (goodIn_of _ (by decide +kernel)) ggX13_isRing_X13_in
set_option maxHeartbeats 4000000 in
set_option maxRecDepth 100000 in
theorem K_X13_isRing (l : Launch) (D : va_G) (m0 : Nat) (m_stop : Nat) (m_tape : Nat) (i_taped : Int32) (i_length : Int32) (i_from : Int32) (i_behind : Int32) (i_hand : Int32) (i_value : Int32) (i_fault : Int32) (i_faultAt : Int32) (m_rule : Nat) (m_readRule : Nat) (m_teeth : Nat) (m_readTeeth : Nat) (m_sway : Nat) (m_readSway : Nat) (m_isTold : Nat) (m_markKind : Nat) (m_markValue : Nat) (m_marks : Nat) (i_sum : Int32) (i_parts : Int32) (m_pile : Nat) (m_height : Nat) (m_leftPass : Nat) (m_leftTurn : Nat) (m_leftTooth : Nat) (m_leftX : Nat) (i_wear : Int32) (i_cuts : Int32) (m_kept : Nat) (m_keptWear : Nat) (i_deep : Int32) (m_now : Nat) (m_passed : Nat) (i_x : Int32) (i_v : Int32) (i_hasPassed : Int32) (m_planTime : Nat) (m_planMany : Nat) (m_planned : Nat) (m_isQuiet : Nat) (i_plans : Int32) (i_hasPlan : Int32) (m_keptTeeth : Nat) (i_jobs : Int32) (i_orderBest : Int32) (m_jobRing : Nat) (m_jobSpeed : Nat) (m_jobFeed : Nat) (m_jobTurns : Nat) (m_orderRow : Nat) (m_bestRow : Nat) (i_hasOrder : Int32) (m_orderTold : Nat) (i_offers : Int32) (i_heards : Int32) (i_rights : Int32) (i_telling : Int32) (m_offerRing : Nat) (m_offerSpeed : Nat) (m_offerFeed : Nat) (m_offerTurns : Nat) (m_heardOffer : Nat) (m_heardVerdict : Nat) (m_heardAt : Nat) (m_rightOf : Nat) (m_rightVerdict : Nat) (m_rightAt : Nat) (m_verdictOf : Nat) (m_sound : Nat) (m_readSound : Nat) (i_sounds : Int32) (cI : ClassId) (a : Int32) (sz : Nat) : Ki l yX13_isRing wsX13_isRing 2 55 0 0 D [.ref m0, .int a] [(m0, .inr (12, [.ref m_stop, .ref m_tape, .int i_taped, .int i_length, .int i_from, .int i_behind, .int i_hand, .int i_value, .int i_fault, .int i_faultAt, .ref m_rule, .ref m_readRule, .ref m_teeth, .ref m_readTeeth, .ref m_sway, .ref m_readSway, .ref m_isTold, .ref m_markKind, .ref m_markValue, .ref m_marks, .int i_sum, .int i_parts, .ref m_pile, .ref m_height, .ref m_leftPass, .ref m_leftTurn, .ref m_leftTooth, .ref m_leftX, .int i_wear, .int i_cuts, .ref m_kept, .ref m_keptWear, .int i_deep, .ref m_now, .ref m_passed, .int i_x, .int i_v, .int i_hasPassed, .ref m_planTime, .ref m_planMany, .ref m_planned, .ref m_isQuiet, .int i_plans, .int i_hasPlan, .ref m_keptTeeth, .int i_jobs, .int i_orderBest, .ref m_jobRing, .ref m_jobSpeed, .ref m_jobFeed, .ref m_jobTurns, .ref m_orderRow, .ref m_bestRow, .int i_hasOrder, .ref m_orderTold, .int i_offers, .int i_heards, .int i_rights, .int i_telling, .ref m_offerRing, .ref m_offerSpeed, .ref m_offerFeed, .ref m_offerTurns, .ref m_heardOffer, .ref m_heardVerdict, .ref m_heardAt, .ref m_rightOf, .ref m_rightVerdict, .ref m_rightAt, .ref m_verdictOf, .ref m_sound, .ref m_readSound, .int i_sounds])), (m_rule, .inl (cI, 12, .inl gz_untold))] [(cI, .int)] sz (fun (r : Int32) (_ : Unit) => r = (if 0 ≤ a ∧ a ≤ 2 then 1 else 0)) (fun (_ : Unit) => [(m0, .inr (12, [.ref m_stop, .ref m_tape, .int i_taped, .int i_length, .int i_from, .int i_behind, .int i_hand, .int i_value, .int i_fault, .int i_faultAt, .ref m_rule, .ref m_readRule, .ref m_teeth, .ref m_readTeeth, .ref m_sway, .ref m_readSway, .ref m_isTold, .ref m_markKind, .ref m_markValue, .ref m_marks, .int i_sum, .int i_parts, .ref m_pile, .ref m_height, .ref m_leftPass, .ref m_leftTurn, .ref m_leftTooth, .ref m_leftX, .int i_wear, .int i_cuts, .ref m_kept, .ref m_keptWear, .int i_deep, .ref m_now, .ref m_passed, .int i_x, .int i_v, .int i_hasPassed, .ref m_planTime, .ref m_planMany, .ref m_planned, .ref m_isQuiet, .int i_plans, .int i_hasPlan, .ref m_keptTeeth, .int i_jobs, .int i_orderBest, .ref m_jobRing, .ref m_jobSpeed, .ref m_jobFeed, .ref m_jobTurns, .ref m_orderRow, .ref m_bestRow, .int i_hasOrder, .ref m_orderTold, .int i_offers, .int i_heards, .int i_rights, .int i_telling, .ref m_offerRing, .ref m_offerSpeed, .ref m_offerFeed, .ref m_offerTurns, .ref m_heardOffer, .ref m_heardVerdict, .ref m_heardAt, .ref m_rightOf, .ref m_rightVerdict, .ref m_rightAt, .ref m_verdictOf, .ref m_sound, .ref m_readSound, .int i_sounds])), (m_rule, .inl (cI, 12, .inl gz_untold))]) (fun (_ : Unit) => [(cI, .int)]) := by
  unfold Ki
  refine g_ofW (cc := cX13_isRing) (lv := [(0, .ref m0), (1, .int a)]) (by decide) rfl (Nat.le_of_ble_eq_true rfl) rfl ?_
  intro p e s m args below meth c A Q hA hQ F hr hnm
  have hts := F.2.2.2.2.1
  have w_0 : (Cond.fieldLink RX13 199 "QuietCutModel" "rule" "[I").before args s = true := hts _ (List.mem_of_getElem? (i := 1) rfl)
  have i_X13 : ∀ w ∈ u_ws RX13 TX13 73, w ∈ wsX13_isRing := fun _ h => List.mem_cons_of_mem _ (List.mem_append_right _ h)
  refine g_iload_n F 1 dX13_isRing_0 rfl rfl ?_
  refine g_i2l F dX13_isRing_1 ?_
  refine g_lconst F 0 dX13_isRing_2 (by decide) ?_
  refine g_aload_n F 0 dX13_isRing_3 rfl rfl ?_
  refine g_get (C := RX13) (T := TX13) (N := 73) (v := .ref m_rule) F i_X13 0 rfl rfl 10 (by decide) w_0 rfl rfl dX13_isRing_4 ?_
  refine g_iconst F 1 dX13_isRing_7 (by decide) ?_
  refine g_iald F 1 0 rfl rfl (by unfold vp_in; decide) dX13_isRing_8 ?_
  refine g_fold 3 (by rfl) ?_
  refine g_i2l F dX13_isRing_9 ?_
  refine g_lconst F 1 dX13_isRing_10 (by decide) ?_
  refine g_lsub F dX13_isRing_11 ?_
  refine g_callSi (k := 0) (n := 0) (As := [.long a.toInt64, .long 0, .long (((3 : Int32).toInt64) - 1)]) (st := []) (wc := []) (wr := [(m0, .inr (12, [.ref m_stop, .ref m_tape, .int i_taped, .int i_length, .int i_from, .int i_behind, .int i_hand, .int i_value, .int i_fault, .int i_faultAt, .ref m_rule, .ref m_readRule, .ref m_teeth, .ref m_readTeeth, .ref m_sway, .ref m_readSway, .ref m_isTold, .ref m_markKind, .ref m_markValue, .ref m_marks, .int i_sum, .int i_parts, .ref m_pile, .ref m_height, .ref m_leftPass, .ref m_leftTurn, .ref m_leftTooth, .ref m_leftX, .int i_wear, .int i_cuts, .ref m_kept, .ref m_keptWear, .int i_deep, .ref m_now, .ref m_passed, .int i_x, .int i_v, .int i_hasPassed, .ref m_planTime, .ref m_planMany, .ref m_planned, .ref m_isQuiet, .int i_plans, .int i_hasPlan, .ref m_keptTeeth, .int i_jobs, .int i_orderBest, .ref m_jobRing, .ref m_jobSpeed, .ref m_jobFeed, .ref m_jobTurns, .ref m_orderRow, .ref m_bestRow, .int i_hasOrder, .ref m_orderTold, .int i_offers, .int i_heards, .int i_rights, .int i_telling, .ref m_offerRing, .ref m_offerSpeed, .ref m_offerFeed, .ref m_offerTurns, .ref m_heardOffer, .ref m_heardVerdict, .ref m_heardAt, .ref m_rightOf, .ref m_rightVerdict, .ref m_rightAt, .ref m_verdictOf, .ref m_sound, .ref m_readSound, .int i_sounds])), (m_rule, .inl (cI, 12, .inl gz_untold))]) F [] [0, 1] [] rfl rfl (by decide) rfl (by decide) (by decide) rfl (fun sz => K_X13_in l D a.toInt64 0 (((3 : Int32).toInt64) - 1)  sz) (va_cwS 3 hts gX13_isRing_X13_in rfl rfl rfl (by decide +kernel) ⟨Nat.le_of_ble_eq_true rfl, Nat.le_of_ble_eq_true rfl⟩) rfl (Nat.le_of_ble_eq_true rfl) ⟨Nat.le_of_ble_eq_true rfl, Nat.le_of_ble_eq_true rfl⟩ dX13_isRing_12 (fun r_1 _ hw_2 => ?_)
  have hw_2 : r_1 = (if 0 ≤ a.toInt64 ∧ a.toInt64 ≤ (((3 : Int32).toInt64) - 1) then 1 else 0) := hw_2
  have e_r_1 := hw_2
  show gG p l e (gR 2 0 0 55) s m args below meth c D A 2 Q 0 0 [(m0, .inr (12, [.ref m_stop, .ref m_tape, .int i_taped, .int i_length, .int i_from, .int i_behind, .int i_hand, .int i_value, .int i_fault, .int i_faultAt, .ref m_rule, .ref m_readRule, .ref m_teeth, .ref m_readTeeth, .ref m_sway, .ref m_readSway, .ref m_isTold, .ref m_markKind, .ref m_markValue, .ref m_marks, .int i_sum, .int i_parts, .ref m_pile, .ref m_height, .ref m_leftPass, .ref m_leftTurn, .ref m_leftTooth, .ref m_leftX, .int i_wear, .int i_cuts, .ref m_kept, .ref m_keptWear, .int i_deep, .ref m_now, .ref m_passed, .int i_x, .int i_v, .int i_hasPassed, .ref m_planTime, .ref m_planMany, .ref m_planned, .ref m_isQuiet, .int i_plans, .int i_hasPlan, .ref m_keptTeeth, .int i_jobs, .int i_orderBest, .ref m_jobRing, .ref m_jobSpeed, .ref m_jobFeed, .ref m_jobTurns, .ref m_orderRow, .ref m_bestRow, .int i_hasOrder, .ref m_orderTold, .int i_offers, .int i_heards, .int i_rights, .int i_telling, .ref m_offerRing, .ref m_offerSpeed, .ref m_offerFeed, .ref m_offerTurns, .ref m_heardOffer, .ref m_heardVerdict, .ref m_heardAt, .ref m_rightOf, .ref m_rightVerdict, .ref m_rightAt, .ref m_verdictOf, .ref m_sound, .ref m_readSound, .int i_sounds])), (m_rule, .inl (cI, 12, .inl gz_untold))] [(cI, .int)] [(0, .ref m0), (1, .int a)] 15 [.int r_1]
  refine g_fold (if 0 ≤ a.toInt64 ∧ a.toInt64 ≤ (((3 : Int32).toInt64) - 1) then 1 else 0) e_r_1 ?_
  refine g_fold (if 0 ≤ a ∧ a ≤ 2 then 1 else 0) (gl_in a 0 2 _ _ (by decide) (by decide)) ?_
  exact g_zret F hA hQ hr (by split <;> rfl) () (rfl) [0, 1] [0] rfl (by decide) rfl rfl dX13_isRing_15

theorem dX13_isPlace_0 : decode cX13_isPlace 0 = .ok (.aload_n 0, 1) := by decide +kernel
theorem dX13_isPlace_1 : decode cX13_isPlace 1 = .ok (.iload_n 1, 1) := by decide +kernel
theorem dX13_isPlace_2 : decode cX13_isPlace 2 = .ok (.invokevirtual 367, 3) := by decide +kernel
theorem dX13_isPlace_5 : decode cX13_isPlace 5 = .ok (.ifCond .eq 25, 3) := by decide +kernel
theorem dX13_isPlace_8 : decode cX13_isPlace 8 = .ok (.iload_n 2, 1) := by decide +kernel
theorem dX13_isPlace_9 : decode cX13_isPlace 9 = .ok (.i2l, 1) := by decide +kernel
theorem dX13_isPlace_10 : decode cX13_isPlace 10 = .ok (.lconst 0, 1) := by decide +kernel
theorem dX13_isPlace_11 : decode cX13_isPlace 11 = .ok (.aload_n 0, 1) := by decide +kernel
theorem dX13_isPlace_12 : decode cX13_isPlace 12 = .ok (.getfield 199, 3) := by decide +kernel
theorem dX13_isPlace_15 : decode cX13_isPlace 15 = .ok (.iconst 0, 1) := by decide +kernel
theorem dX13_isPlace_16 : decode cX13_isPlace 16 = .ok (.iaload, 1) := by decide +kernel
theorem dX13_isPlace_17 : decode cX13_isPlace 17 = .ok (.i2l, 1) := by decide +kernel
theorem dX13_isPlace_18 : decode cX13_isPlace 18 = .ok (.lconst 1, 1) := by decide +kernel
theorem dX13_isPlace_19 : decode cX13_isPlace 19 = .ok (.lsub, 1) := by decide +kernel
theorem dX13_isPlace_20 : decode cX13_isPlace 20 = .ok (.invokestatic 61, 3) := by decide +kernel
theorem dX13_isPlace_23 : decode cX13_isPlace 23 = .ok (.ifCond .eq 7, 3) := by decide +kernel
theorem dX13_isPlace_26 : decode cX13_isPlace 26 = .ok (.iconst 1, 1) := by decide +kernel
theorem dX13_isPlace_27 : decode cX13_isPlace 27 = .ok (.goto 4, 3) := by decide +kernel
theorem dX13_isPlace_30 : decode cX13_isPlace 30 = .ok (.iconst 0, 1) := by decide +kernel
theorem dX13_isPlace_31 : decode cX13_isPlace 31 = .ok (.ireturn, 1) := by decide +kernel
set_option maxRecDepth 20000 in
theorem ggX13_isPlace_X13_in : GoodIn wsX13_isPlace wsX13_in := goodIn_r _ [9] rfl (by decide +kernel)
set_option maxRecDepth 20000 in
theorem gX13_isPlace_X13_in : GoodIn wsX13_isPlace (va_wsS RX13 61 yX13_in wsX13_in) := goodIn_app (goodIn_of _ (by decide +kernel)) ggX13_isPlace_X13_in
set_option maxRecDepth 20000 in
theorem ggX13_isPlace_X13_isRing : GoodIn wsX13_isPlace wsX13_isRing := goodIn_r _ [6, 1, 7, 8, 5, 9, 10, 11, 12, 13, 14, 15, 16, 17, 18, 19, 20, 21, 22, 23, 24, 25, 26, 27, 28, 29, 30, 31, 32, 33, 34, 35, 36, 37, 38, 39, 40, 41, 42, 43, 44, 45, 46, 47, 48, 49, 50, 51, 52, 53, 54, 55, 56, 57, 58, 59, 60, 61, 62, 63, 64, 65, 66, 67, 68, 69, 70, 71, 72, 73, 74, 75, 76, 77, 78, 79, 80, 81, 82] rfl (by decide +kernel)
set_option maxRecDepth 20000 in
theorem gX13_isPlace_X13_isRing : GoodIn wsX13_isPlace (wsV RX13 367 RX13 yX13_isRing wsX13_isRing) := goodIn_app (goodIn_of _ (by decide +kernel)) ggX13_isPlace_X13_isRing
set_option maxHeartbeats 4000000 in
set_option maxRecDepth 100000 in
theorem K_X13_isPlace (l : Launch) (D : va_G) (m0 : Nat) (m_stop : Nat) (m_tape : Nat) (i_taped : Int32) (i_length : Int32) (i_from : Int32) (i_behind : Int32) (i_hand : Int32) (i_value : Int32) (i_fault : Int32) (i_faultAt : Int32) (m_rule : Nat) (m_readRule : Nat) (m_teeth : Nat) (m_readTeeth : Nat) (m_sway : Nat) (m_readSway : Nat) (m_isTold : Nat) (m_markKind : Nat) (m_markValue : Nat) (m_marks : Nat) (i_sum : Int32) (i_parts : Int32) (m_pile : Nat) (m_height : Nat) (m_leftPass : Nat) (m_leftTurn : Nat) (m_leftTooth : Nat) (m_leftX : Nat) (i_wear : Int32) (i_cuts : Int32) (m_kept : Nat) (m_keptWear : Nat) (i_deep : Int32) (m_now : Nat) (m_passed : Nat) (i_x : Int32) (i_v : Int32) (i_hasPassed : Int32) (m_planTime : Nat) (m_planMany : Nat) (m_planned : Nat) (m_isQuiet : Nat) (i_plans : Int32) (i_hasPlan : Int32) (m_keptTeeth : Nat) (i_jobs : Int32) (i_orderBest : Int32) (m_jobRing : Nat) (m_jobSpeed : Nat) (m_jobFeed : Nat) (m_jobTurns : Nat) (m_orderRow : Nat) (m_bestRow : Nat) (i_hasOrder : Int32) (m_orderTold : Nat) (i_offers : Int32) (i_heards : Int32) (i_rights : Int32) (i_telling : Int32) (m_offerRing : Nat) (m_offerSpeed : Nat) (m_offerFeed : Nat) (m_offerTurns : Nat) (m_heardOffer : Nat) (m_heardVerdict : Nat) (m_heardAt : Nat) (m_rightOf : Nat) (m_rightVerdict : Nat) (m_rightAt : Nat) (m_verdictOf : Nat) (m_sound : Nat) (m_readSound : Nat) (i_sounds : Int32) (cI : ClassId) (a : Int32) (b : Int32) (sz : Nat) : Ki l yX13_isPlace wsX13_isPlace 3 76 0 0 D [.ref m0, .int a, .int b] [(m0, .inr (12, [.ref m_stop, .ref m_tape, .int i_taped, .int i_length, .int i_from, .int i_behind, .int i_hand, .int i_value, .int i_fault, .int i_faultAt, .ref m_rule, .ref m_readRule, .ref m_teeth, .ref m_readTeeth, .ref m_sway, .ref m_readSway, .ref m_isTold, .ref m_markKind, .ref m_markValue, .ref m_marks, .int i_sum, .int i_parts, .ref m_pile, .ref m_height, .ref m_leftPass, .ref m_leftTurn, .ref m_leftTooth, .ref m_leftX, .int i_wear, .int i_cuts, .ref m_kept, .ref m_keptWear, .int i_deep, .ref m_now, .ref m_passed, .int i_x, .int i_v, .int i_hasPassed, .ref m_planTime, .ref m_planMany, .ref m_planned, .ref m_isQuiet, .int i_plans, .int i_hasPlan, .ref m_keptTeeth, .int i_jobs, .int i_orderBest, .ref m_jobRing, .ref m_jobSpeed, .ref m_jobFeed, .ref m_jobTurns, .ref m_orderRow, .ref m_bestRow, .int i_hasOrder, .ref m_orderTold, .int i_offers, .int i_heards, .int i_rights, .int i_telling, .ref m_offerRing, .ref m_offerSpeed, .ref m_offerFeed, .ref m_offerTurns, .ref m_heardOffer, .ref m_heardVerdict, .ref m_heardAt, .ref m_rightOf, .ref m_rightVerdict, .ref m_rightAt, .ref m_verdictOf, .ref m_sound, .ref m_readSound, .int i_sounds])), (m_rule, .inl (cI, 12, .inl gz_untold))] [(cI, .int)] sz (fun (r : Int32) (_ : Unit) => r = (if 0 ≤ a ∧ a < 3 ∧ 0 ≤ b ∧ b < 8 then 1 else 0)) (fun (_ : Unit) => [(m0, .inr (12, [.ref m_stop, .ref m_tape, .int i_taped, .int i_length, .int i_from, .int i_behind, .int i_hand, .int i_value, .int i_fault, .int i_faultAt, .ref m_rule, .ref m_readRule, .ref m_teeth, .ref m_readTeeth, .ref m_sway, .ref m_readSway, .ref m_isTold, .ref m_markKind, .ref m_markValue, .ref m_marks, .int i_sum, .int i_parts, .ref m_pile, .ref m_height, .ref m_leftPass, .ref m_leftTurn, .ref m_leftTooth, .ref m_leftX, .int i_wear, .int i_cuts, .ref m_kept, .ref m_keptWear, .int i_deep, .ref m_now, .ref m_passed, .int i_x, .int i_v, .int i_hasPassed, .ref m_planTime, .ref m_planMany, .ref m_planned, .ref m_isQuiet, .int i_plans, .int i_hasPlan, .ref m_keptTeeth, .int i_jobs, .int i_orderBest, .ref m_jobRing, .ref m_jobSpeed, .ref m_jobFeed, .ref m_jobTurns, .ref m_orderRow, .ref m_bestRow, .int i_hasOrder, .ref m_orderTold, .int i_offers, .int i_heards, .int i_rights, .int i_telling, .ref m_offerRing, .ref m_offerSpeed, .ref m_offerFeed, .ref m_offerTurns, .ref m_heardOffer, .ref m_heardVerdict, .ref m_heardAt, .ref m_rightOf, .ref m_rightVerdict, .ref m_rightAt, .ref m_verdictOf, .ref m_sound, .ref m_readSound, .int i_sounds])), (m_rule, .inl (cI, 12, .inl gz_untold))]) (fun (_ : Unit) => [(cI, .int)]) := by
  unfold Ki
  refine g_ofW (cc := cX13_isPlace) (lv := [(0, .ref m0), (1, .int a), (2, .int b)]) (by decide) rfl (Nat.le_of_ble_eq_true rfl) rfl ?_
  intro p e s m args below meth c A Q hA hQ F hr hnm
  have hts := F.2.2.2.2.1
  have w_0 : (Cond.fieldLink RX13 199 "QuietCutModel" "rule" "[I").before args s = true := hts _ (List.mem_of_getElem? (i := 1) rfl)
  have i_X13 : ∀ w ∈ u_ws RX13 TX13 73, w ∈ wsX13_isPlace := fun _ h => List.mem_cons_of_mem _ (List.mem_append_right _ h)
  refine g_aload_n F 0 dX13_isPlace_0 rfl rfl ?_
  refine g_iload_n F 1 dX13_isPlace_1 rfl rfl ?_
  refine g_callVi (k := 0) (n := 0) (b := m0) (As := [.int a]) (st := []) (wc := [(m0, .inr (12, [.ref m_stop, .ref m_tape, .int i_taped, .int i_length, .int i_from, .int i_behind, .int i_hand, .int i_value, .int i_fault, .int i_faultAt, .ref m_rule, .ref m_readRule, .ref m_teeth, .ref m_readTeeth, .ref m_sway, .ref m_readSway, .ref m_isTold, .ref m_markKind, .ref m_markValue, .ref m_marks, .int i_sum, .int i_parts, .ref m_pile, .ref m_height, .ref m_leftPass, .ref m_leftTurn, .ref m_leftTooth, .ref m_leftX, .int i_wear, .int i_cuts, .ref m_kept, .ref m_keptWear, .int i_deep, .ref m_now, .ref m_passed, .int i_x, .int i_v, .int i_hasPassed, .ref m_planTime, .ref m_planMany, .ref m_planned, .ref m_isQuiet, .int i_plans, .int i_hasPlan, .ref m_keptTeeth, .int i_jobs, .int i_orderBest, .ref m_jobRing, .ref m_jobSpeed, .ref m_jobFeed, .ref m_jobTurns, .ref m_orderRow, .ref m_bestRow, .int i_hasOrder, .ref m_orderTold, .int i_offers, .int i_heards, .int i_rights, .int i_telling, .ref m_offerRing, .ref m_offerSpeed, .ref m_offerFeed, .ref m_offerTurns, .ref m_heardOffer, .ref m_heardVerdict, .ref m_heardAt, .ref m_rightOf, .ref m_rightVerdict, .ref m_rightAt, .ref m_verdictOf, .ref m_sound, .ref m_readSound, .int i_sounds])), (m_rule, .inl (cI, 12, .inl gz_untold))]) (wr := []) F [0, 1] [] [0] rfl rfl (by decide) rfl (by decide) (by decide) rfl (fun sz => K_X13_isRing l D m0 m_stop m_tape i_taped i_length i_from i_behind i_hand i_value i_fault i_faultAt m_rule m_readRule m_teeth m_readTeeth m_sway m_readSway m_isTold m_markKind m_markValue m_marks i_sum i_parts m_pile m_height m_leftPass m_leftTurn m_leftTooth m_leftX i_wear i_cuts m_kept m_keptWear i_deep m_now m_passed i_x i_v i_hasPassed m_planTime m_planMany m_planned m_isQuiet i_plans i_hasPlan m_keptTeeth i_jobs i_orderBest m_jobRing m_jobSpeed m_jobFeed m_jobTurns m_orderRow m_bestRow i_hasOrder m_orderTold i_offers i_heards i_rights i_telling m_offerRing m_offerSpeed m_offerFeed m_offerTurns m_heardOffer m_heardVerdict m_heardAt m_rightOf m_rightVerdict m_rightAt m_verdictOf m_sound m_readSound i_sounds cI a  sz) (cwV 1 hts gX13_isPlace_X13_isRing rfl rfl rfl (by decide +kernel) ⟨Nat.le_of_ble_eq_true rfl, Nat.le_of_ble_eq_true rfl⟩) rfl 0 rfl rfl (Nat.le_of_ble_eq_true rfl) ⟨Nat.le_of_ble_eq_true rfl, Nat.le_of_ble_eq_true rfl⟩ dX13_isPlace_2 (fun r_1 _ hw_2 => ?_)
  have hw_2 : r_1 = (if 0 ≤ a ∧ a ≤ 2 then 1 else 0) := hw_2
  have e_r_1 := hw_2
  show gG p l e (gR 3 0 0 76) s m args below meth c D A 3 Q 0 0 [(m0, .inr (12, [.ref m_stop, .ref m_tape, .int i_taped, .int i_length, .int i_from, .int i_behind, .int i_hand, .int i_value, .int i_fault, .int i_faultAt, .ref m_rule, .ref m_readRule, .ref m_teeth, .ref m_readTeeth, .ref m_sway, .ref m_readSway, .ref m_isTold, .ref m_markKind, .ref m_markValue, .ref m_marks, .int i_sum, .int i_parts, .ref m_pile, .ref m_height, .ref m_leftPass, .ref m_leftTurn, .ref m_leftTooth, .ref m_leftX, .int i_wear, .int i_cuts, .ref m_kept, .ref m_keptWear, .int i_deep, .ref m_now, .ref m_passed, .int i_x, .int i_v, .int i_hasPassed, .ref m_planTime, .ref m_planMany, .ref m_planned, .ref m_isQuiet, .int i_plans, .int i_hasPlan, .ref m_keptTeeth, .int i_jobs, .int i_orderBest, .ref m_jobRing, .ref m_jobSpeed, .ref m_jobFeed, .ref m_jobTurns, .ref m_orderRow, .ref m_bestRow, .int i_hasOrder, .ref m_orderTold, .int i_offers, .int i_heards, .int i_rights, .int i_telling, .ref m_offerRing, .ref m_offerSpeed, .ref m_offerFeed, .ref m_offerTurns, .ref m_heardOffer, .ref m_heardVerdict, .ref m_heardAt, .ref m_rightOf, .ref m_rightVerdict, .ref m_rightAt, .ref m_verdictOf, .ref m_sound, .ref m_readSound, .int i_sounds])), (m_rule, .inl (cI, 12, .inl gz_untold))] [(cI, .int)] [(0, .ref m0), (1, .int a), (2, .int b)] 5 [.int r_1]
  refine g_fold (if 0 ≤ a ∧ a ≤ 2 then 1 else 0) e_r_1 ?_
  refine g_if_eq F 30 dX13_isPlace_5 (by decide) (fun c_5 => ?_) (fun c_5 => ?_)
  · have c_5 := gb_0 c_5
    refine g_iconst F 0 dX13_isPlace_30 (by decide) ?_
    exact g_zret F hA hQ hr rfl () (gb_f (by (simp only [Int32.lt_iff_toInt_lt, Int32.le_iff_toInt_le, ← Int32.toInt_inj, Int32.reduceToInt] at c_5 ⊢; omega))) [0, 1] [0] rfl (by decide) rfl rfl dX13_isPlace_31
  · have c_5 := gb_n0 c_5
    refine g_iload_n F 2 dX13_isPlace_8 rfl rfl ?_
    refine g_i2l F dX13_isPlace_9 ?_
    refine g_lconst F 0 dX13_isPlace_10 (by decide) ?_
    refine g_aload_n F 0 dX13_isPlace_11 rfl rfl ?_
    refine g_get (C := RX13) (T := TX13) (N := 73) (v := .ref m_rule) F i_X13 0 rfl rfl 10 (by decide) w_0 rfl rfl dX13_isPlace_12 ?_
    refine g_iconst F 0 dX13_isPlace_15 (by decide) ?_
    refine g_iald F 1 0 rfl rfl (by unfold vp_in; decide) dX13_isPlace_16 ?_
    refine g_fold 8 (by rfl) ?_
    refine g_i2l F dX13_isPlace_17 ?_
    refine g_lconst F 1 dX13_isPlace_18 (by decide) ?_
    refine g_lsub F dX13_isPlace_19 ?_
    refine g_callSi (k := 0) (n := 0) (As := [.long b.toInt64, .long 0, .long (((8 : Int32).toInt64) - 1)]) (st := []) (wc := []) (wr := [(m0, .inr (12, [.ref m_stop, .ref m_tape, .int i_taped, .int i_length, .int i_from, .int i_behind, .int i_hand, .int i_value, .int i_fault, .int i_faultAt, .ref m_rule, .ref m_readRule, .ref m_teeth, .ref m_readTeeth, .ref m_sway, .ref m_readSway, .ref m_isTold, .ref m_markKind, .ref m_markValue, .ref m_marks, .int i_sum, .int i_parts, .ref m_pile, .ref m_height, .ref m_leftPass, .ref m_leftTurn, .ref m_leftTooth, .ref m_leftX, .int i_wear, .int i_cuts, .ref m_kept, .ref m_keptWear, .int i_deep, .ref m_now, .ref m_passed, .int i_x, .int i_v, .int i_hasPassed, .ref m_planTime, .ref m_planMany, .ref m_planned, .ref m_isQuiet, .int i_plans, .int i_hasPlan, .ref m_keptTeeth, .int i_jobs, .int i_orderBest, .ref m_jobRing, .ref m_jobSpeed, .ref m_jobFeed, .ref m_jobTurns, .ref m_orderRow, .ref m_bestRow, .int i_hasOrder, .ref m_orderTold, .int i_offers, .int i_heards, .int i_rights, .int i_telling, .ref m_offerRing, .ref m_offerSpeed, .ref m_offerFeed, .ref m_offerTurns, .ref m_heardOffer, .ref m_heardVerdict, .ref m_heardAt, .ref m_rightOf, .ref m_rightVerdict, .ref m_rightAt, .ref m_verdictOf, .ref m_sound, .ref m_readSound, .int i_sounds])), (m_rule, .inl (cI, 12, .inl gz_untold))]) F [] [0, 1] [] rfl rfl (by decide) rfl (by decide) (by decide) rfl (fun sz => K_X13_in l D b.toInt64 0 (((8 : Int32).toInt64) - 1)  sz) (va_cwS 3 hts gX13_isPlace_X13_in rfl rfl rfl (by decide +kernel) ⟨Nat.le_of_ble_eq_true rfl, Nat.le_of_ble_eq_true rfl⟩) rfl (Nat.le_of_ble_eq_true rfl) ⟨Nat.le_of_ble_eq_true rfl, Nat.le_of_ble_eq_true rfl⟩ dX13_isPlace_20 (fun r_6 _ hw_7 => ?_)
    have hw_7 : r_6 = (if 0 ≤ b.toInt64 ∧ b.toInt64 ≤ (((8 : Int32).toInt64) - 1) then 1 else 0) := hw_7
    have e_r_6 := hw_7
    show gG p l e (gR 3 0 0 76) s m args below meth c D A 3 Q 0 0 [(m0, .inr (12, [.ref m_stop, .ref m_tape, .int i_taped, .int i_length, .int i_from, .int i_behind, .int i_hand, .int i_value, .int i_fault, .int i_faultAt, .ref m_rule, .ref m_readRule, .ref m_teeth, .ref m_readTeeth, .ref m_sway, .ref m_readSway, .ref m_isTold, .ref m_markKind, .ref m_markValue, .ref m_marks, .int i_sum, .int i_parts, .ref m_pile, .ref m_height, .ref m_leftPass, .ref m_leftTurn, .ref m_leftTooth, .ref m_leftX, .int i_wear, .int i_cuts, .ref m_kept, .ref m_keptWear, .int i_deep, .ref m_now, .ref m_passed, .int i_x, .int i_v, .int i_hasPassed, .ref m_planTime, .ref m_planMany, .ref m_planned, .ref m_isQuiet, .int i_plans, .int i_hasPlan, .ref m_keptTeeth, .int i_jobs, .int i_orderBest, .ref m_jobRing, .ref m_jobSpeed, .ref m_jobFeed, .ref m_jobTurns, .ref m_orderRow, .ref m_bestRow, .int i_hasOrder, .ref m_orderTold, .int i_offers, .int i_heards, .int i_rights, .int i_telling, .ref m_offerRing, .ref m_offerSpeed, .ref m_offerFeed, .ref m_offerTurns, .ref m_heardOffer, .ref m_heardVerdict, .ref m_heardAt, .ref m_rightOf, .ref m_rightVerdict, .ref m_rightAt, .ref m_verdictOf, .ref m_sound, .ref m_readSound, .int i_sounds])), (m_rule, .inl (cI, 12, .inl gz_untold))] [(cI, .int)] [(0, .ref m0), (1, .int a), (2, .int b)] 23 [.int r_6]
    refine g_fold (if 0 ≤ b.toInt64 ∧ b.toInt64 ≤ (((8 : Int32).toInt64) - 1) then 1 else 0) e_r_6 ?_
    refine g_fold (if 0 ≤ b ∧ b ≤ 7 then 1 else 0) (gl_in b 0 7 _ _ (by decide) (by decide)) ?_
    refine g_if_eq F 30 dX13_isPlace_23 (by decide) (fun c_23 => ?_) (fun c_23 => ?_)
    · have c_23 := gb_0 c_23
      refine g_iconst F 0 dX13_isPlace_30 (by decide) ?_
      exact g_zret F hA hQ hr rfl () (gb_f (by (simp only [Int32.lt_iff_toInt_lt, Int32.le_iff_toInt_le, ← Int32.toInt_inj, Int32.reduceToInt] at c_5 c_23 ⊢; omega))) [0, 1] [0] rfl (by decide) rfl rfl dX13_isPlace_31
    · have c_23 := gb_n0 c_23
      refine g_iconst F 1 dX13_isPlace_26 (by decide) ?_
      refine g_goto F 31 dX13_isPlace_27 (by decide) ?_
      exact g_zret F hA hQ hr rfl () (gb_t (by (simp only [Int32.lt_iff_toInt_lt, Int32.le_iff_toInt_le, ← Int32.toInt_inj, Int32.reduceToInt] at c_5 c_23 ⊢; omega))) [0, 1] [0] rfl (by decide) rfl rfl dX13_isPlace_31

theorem dX13_at_0 : decode cX13_at 0 = .ok (.bipush 16, 2) := by decide +kernel
theorem dX13_at_2 : decode cX13_at 2 = .ok (.iload_n 0, 1) := by decide +kernel
theorem dX13_at_3 : decode cX13_at 3 = .ok (.imul, 1) := by decide +kernel
theorem dX13_at_4 : decode cX13_at 4 = .ok (.iload_n 1, 1) := by decide +kernel
theorem dX13_at_5 : decode cX13_at 5 = .ok (.iadd, 1) := by decide +kernel
theorem dX13_at_6 : decode cX13_at 6 = .ok (.ireturn, 1) := by decide +kernel
set_option maxHeartbeats 4000000 in
set_option maxRecDepth 100000 in
theorem K_X13_at (l : Launch) (D : va_G) (a : Int32) (b : Int32) (sz : Nat) : Ki l yX13_at wsX13_at 1 40 0 0 D [.int a, .int b] [] [] sz (fun (r : Int32) (_ : Unit) => r = ((16 * a) + b)) (fun (_ : Unit) => []) (fun (_ : Unit) => []) := by
  unfold Ki
  refine g_ofW (cc := cX13_at) (lv := [(0, .int a), (1, .int b)]) (by decide) rfl (Nat.le_of_ble_eq_true rfl) rfl ?_
  intro p e s m args below meth c A Q hA hQ F hr hnm
  have hts := F.2.2.2.2.1
  refine g_bipush F 16 dX13_at_0 (by decide) ?_
  refine g_iload_n F 0 dX13_at_2 rfl rfl ?_
  refine g_imul F dX13_at_3 ?_
  refine g_iload_n F 1 dX13_at_4 rfl rfl ?_
  refine g_iadd F dX13_at_5 ?_
  exact g_iret F hA hQ hr () (rfl) [] [] rfl (by decide) rfl rfl dX13_at_6

theorem dX13_piece_0 : decode cX13_piece 0 = .ok (.iload_n 1, 1) := by decide +kernel
theorem dX13_piece_1 : decode cX13_piece 1 = .ok (.i2l, 1) := by decide +kernel
theorem dX13_piece_2 : decode cX13_piece 2 = .ok (.ldc2_w 370, 3) := by decide +kernel
theorem dX13_piece_5 : decode cX13_piece 5 = .ok (.ldc2_w 372, 3) := by decide +kernel
theorem dX13_piece_8 : decode cX13_piece 8 = .ok (.invokestatic 61, 3) := by decide +kernel
theorem dX13_piece_11 : decode cX13_piece 11 = .ok (.ifCond .ne 6, 3) := by decide +kernel
theorem dX13_piece_14 : decode cX13_piece 14 = .ok (.bipush (-2), 2) := by decide +kernel
theorem dX13_piece_16 : decode cX13_piece 16 = .ok (.ireturn, 1) := by decide +kernel
theorem dX13_piece_17 : decode cX13_piece 17 = .ok (.aload_n 0, 1) := by decide +kernel
theorem dX13_piece_18 : decode cX13_piece 18 = .ok (.iload_n 1, 1) := by decide +kernel
theorem dX13_piece_19 : decode cX13_piece 19 = .ok (.invokevirtual 319, 3) := by decide +kernel
theorem dX13_piece_22 : decode cX13_piece 22 = .ok (.iconst 1, 1) := by decide +kernel
theorem dX13_piece_23 : decode cX13_piece 23 = .ok (.ireturn, 1) := by decide +kernel
set_option maxRecDepth 20000 in
theorem ggX13_piece_X13_fresh : GoodIn wsX13_piece wsX13_fresh := goodIn_r _ [10, 11, 12, 13, 14, 15, 16, 17, 18, 19, 20, 21, 22, 23, 24, 25, 26, 27, 28, 29, 30, 31, 32, 33, 34, 35, 36, 37, 38, 39, 40, 41, 42, 43, 44, 45, 46, 47, 48, 49, 50, 51, 52, 53, 54, 55, 56, 57, 58, 59, 60, 61, 62, 63, 64, 65, 66, 67, 68, 69, 70, 71, 72, 73, 74, 75, 76, 77, 78, 79, 80, 81, 82, 83, 84, 85, 86, 87] rfl (by decide +kernel)
set_option maxRecDepth 20000 in
theorem gX13_piece_X13_fresh : GoodIn wsX13_piece (wsV RX13 319 RX13 yX13_fresh wsX13_fresh) := goodIn_app (goodIn_of _ (by decide +kernel)) ggX13_piece_X13_fresh
set_option maxRecDepth 20000 in
theorem ggX13_piece_X13_in : GoodIn wsX13_piece wsX13_in := goodIn_r _ [6] rfl (by decide +kernel)
set_option maxRecDepth 20000 in
theorem gX13_piece_X13_in : GoodIn wsX13_piece (va_wsS RX13 61 yX13_in wsX13_in) := goodIn_app (goodIn_of _ (by decide +kernel)) ggX13_piece_X13_in
set_option maxHeartbeats 4000000 in
set_option maxRecDepth 100000 in
theorem K_X13_piece (l : Launch) (D : va_G) (m0 : Nat) (m_stop : Nat) (m_tape : Nat) (m_rule : Nat) (m_readRule : Nat) (m_teeth : Nat) (m_readTeeth : Nat) (m_sway : Nat) (m_readSway : Nat) (m_isTold : Nat) (m_markKind : Nat) (m_markValue : Nat) (m_marks : Nat) (m_pile : Nat) (m_height : Nat) (m_leftPass : Nat) (m_leftTurn : Nat) (m_leftTooth : Nat) (m_leftX : Nat) (m_kept : Nat) (m_keptWear : Nat) (m_now : Nat) (m_passed : Nat) (m_planTime : Nat) (m_planMany : Nat) (m_planned : Nat) (m_isQuiet : Nat) (m_keptTeeth : Nat) (m_jobRing : Nat) (m_jobSpeed : Nat) (m_jobFeed : Nat) (m_jobTurns : Nat) (m_orderRow : Nat) (m_bestRow : Nat) (m_orderTold : Nat) (m_offerRing : Nat) (m_offerSpeed : Nat) (m_offerFeed : Nat) (m_offerTurns : Nat) (m_heardOffer : Nat) (m_heardVerdict : Nat) (m_heardAt : Nat) (m_rightOf : Nat) (m_rightVerdict : Nat) (m_rightAt : Nat) (m_verdictOf : Nat) (m_sound : Nat) (m_readSound : Nat) (cI : ClassId) (a : Int32) (sz : Nat) : Ki l yX13_piece wsX13_piece 2 55 0 0 D [.ref m0, .int a] [(m0, .inr (12, [.ref m_stop, .ref m_tape, .int 0, .int 0, .int 0, .int 0, .int 0, .int 0, .int 0, .int (-1), .ref m_rule, .ref m_readRule, .ref m_teeth, .ref m_readTeeth, .ref m_sway, .ref m_readSway, .ref m_isTold, .ref m_markKind, .ref m_markValue, .ref m_marks, .int 5, .int 0, .ref m_pile, .ref m_height, .ref m_leftPass, .ref m_leftTurn, .ref m_leftTooth, .ref m_leftX, .int 0, .int 0, .ref m_kept, .ref m_keptWear, .int 0, .ref m_now, .ref m_passed, .int 0, .int 0, .int 0, .ref m_planTime, .ref m_planMany, .ref m_planned, .ref m_isQuiet, .int 0, .int 0, .ref m_keptTeeth, .int 0, .int 0, .ref m_jobRing, .ref m_jobSpeed, .ref m_jobFeed, .ref m_jobTurns, .ref m_orderRow, .ref m_bestRow, .int 0, .ref m_orderTold, .int 0, .int 0, .int 0, .int 0, .ref m_offerRing, .ref m_offerSpeed, .ref m_offerFeed, .ref m_offerTurns, .ref m_heardOffer, .ref m_heardVerdict, .ref m_heardAt, .ref m_rightOf, .ref m_rightVerdict, .ref m_rightAt, .ref m_verdictOf, .ref m_sound, .ref m_readSound, .int 0])), (m_height, .inl (cI, 96, .inl (fun _ => 1000))), (m_leftPass, .inl (cI, 96, .inl (fun _ => (-1))))] [(cI, .int)] sz (fun (r : Int32) (_ : Unit) => r = (if 100 ≤ a ∧ a ≤ 5000 then 1 else (-2))) (fun (_ : Unit) => []) (fun (_ : Unit) => [(cI, .int)]) := by
  unfold Ki
  refine g_ofW (cc := cX13_piece) (lv := [(0, .ref m0), (1, .int a)]) (by decide) rfl (Nat.le_of_ble_eq_true rfl) rfl ?_
  intro p e s m args below meth c A Q hA hQ F hr hnm
  have hts := F.2.2.2.2.1
  have w_0 : (Cond.constantLong RX13 370 (100)).before args s = true := hts _ (List.mem_of_getElem? (i := 1) rfl)
  have w_1 : (Cond.constantLong RX13 372 (5000)).before args s = true := hts _ (List.mem_of_getElem? (i := 2) rfl)
  refine g_iload_n F 1 dX13_piece_0 rfl rfl ?_
  refine g_i2l F dX13_piece_1 ?_
  refine g_ldc2 F w_0 dX13_piece_2 ?_
  refine g_ldc2 F w_1 dX13_piece_5 ?_
  refine g_callSi (k := 0) (n := 0) (As := [.long a.toInt64, .long 100, .long 5000]) (st := []) (wc := []) (wr := [(m0, .inr (12, [.ref m_stop, .ref m_tape, .int 0, .int 0, .int 0, .int 0, .int 0, .int 0, .int 0, .int (-1), .ref m_rule, .ref m_readRule, .ref m_teeth, .ref m_readTeeth, .ref m_sway, .ref m_readSway, .ref m_isTold, .ref m_markKind, .ref m_markValue, .ref m_marks, .int 5, .int 0, .ref m_pile, .ref m_height, .ref m_leftPass, .ref m_leftTurn, .ref m_leftTooth, .ref m_leftX, .int 0, .int 0, .ref m_kept, .ref m_keptWear, .int 0, .ref m_now, .ref m_passed, .int 0, .int 0, .int 0, .ref m_planTime, .ref m_planMany, .ref m_planned, .ref m_isQuiet, .int 0, .int 0, .ref m_keptTeeth, .int 0, .int 0, .ref m_jobRing, .ref m_jobSpeed, .ref m_jobFeed, .ref m_jobTurns, .ref m_orderRow, .ref m_bestRow, .int 0, .ref m_orderTold, .int 0, .int 0, .int 0, .int 0, .ref m_offerRing, .ref m_offerSpeed, .ref m_offerFeed, .ref m_offerTurns, .ref m_heardOffer, .ref m_heardVerdict, .ref m_heardAt, .ref m_rightOf, .ref m_rightVerdict, .ref m_rightAt, .ref m_verdictOf, .ref m_sound, .ref m_readSound, .int 0])), (m_height, .inl (cI, 96, .inl (fun _ => 1000))), (m_leftPass, .inl (cI, 96, .inl (fun _ => (-1))))]) F [] [0, 1, 2] [] rfl rfl (by decide) rfl (by decide) (by decide) rfl (fun sz => K_X13_in l D a.toInt64 100 5000  sz) (va_cwS 3 hts gX13_piece_X13_in rfl rfl rfl (by decide +kernel) ⟨Nat.le_of_ble_eq_true rfl, Nat.le_of_ble_eq_true rfl⟩) rfl (Nat.le_of_ble_eq_true rfl) ⟨Nat.le_of_ble_eq_true rfl, Nat.le_of_ble_eq_true rfl⟩ dX13_piece_8 (fun r_1 _ hw_2 => ?_)
  have hw_2 : r_1 = (if 100 ≤ a.toInt64 ∧ a.toInt64 ≤ 5000 then 1 else 0) := hw_2
  have e_r_1 := hw_2
  show gG p l e (gR 2 0 0 55) s m args below meth c D A 2 Q 0 0 [(m0, .inr (12, [.ref m_stop, .ref m_tape, .int 0, .int 0, .int 0, .int 0, .int 0, .int 0, .int 0, .int (-1), .ref m_rule, .ref m_readRule, .ref m_teeth, .ref m_readTeeth, .ref m_sway, .ref m_readSway, .ref m_isTold, .ref m_markKind, .ref m_markValue, .ref m_marks, .int 5, .int 0, .ref m_pile, .ref m_height, .ref m_leftPass, .ref m_leftTurn, .ref m_leftTooth, .ref m_leftX, .int 0, .int 0, .ref m_kept, .ref m_keptWear, .int 0, .ref m_now, .ref m_passed, .int 0, .int 0, .int 0, .ref m_planTime, .ref m_planMany, .ref m_planned, .ref m_isQuiet, .int 0, .int 0, .ref m_keptTeeth, .int 0, .int 0, .ref m_jobRing, .ref m_jobSpeed, .ref m_jobFeed, .ref m_jobTurns, .ref m_orderRow, .ref m_bestRow, .int 0, .ref m_orderTold, .int 0, .int 0, .int 0, .int 0, .ref m_offerRing, .ref m_offerSpeed, .ref m_offerFeed, .ref m_offerTurns, .ref m_heardOffer, .ref m_heardVerdict, .ref m_heardAt, .ref m_rightOf, .ref m_rightVerdict, .ref m_rightAt, .ref m_verdictOf, .ref m_sound, .ref m_readSound, .int 0])), (m_height, .inl (cI, 96, .inl (fun _ => 1000))), (m_leftPass, .inl (cI, 96, .inl (fun _ => (-1))))] [(cI, .int)] [(0, .ref m0), (1, .int a)] 11 [.int r_1]
  refine g_fold (if 100 ≤ a.toInt64 ∧ a.toInt64 ≤ 5000 then 1 else 0) e_r_1 ?_
  refine g_fold (if 100 ≤ a ∧ a ≤ 5000 then 1 else 0) (gl_in a 100 5000 _ _ (by decide) (by decide)) ?_
  refine g_if_ne F 17 dX13_piece_11 (by decide) (fun c_11 => ?_) (fun c_11 => ?_)
  · have c_11 := gb_n0 c_11
    refine g_aload_n F 0 dX13_piece_17 rfl rfl ?_
    refine g_iload_n F 1 dX13_piece_18 rfl rfl ?_
    refine g_callVv (k := 0) (n := 0) (b := m0) (As := [.int a]) (st := []) (wc := [(m0, .inr (12, [.ref m_stop, .ref m_tape, .int 0, .int 0, .int 0, .int 0, .int 0, .int 0, .int 0, .int (-1), .ref m_rule, .ref m_readRule, .ref m_teeth, .ref m_readTeeth, .ref m_sway, .ref m_readSway, .ref m_isTold, .ref m_markKind, .ref m_markValue, .ref m_marks, .int 5, .int 0, .ref m_pile, .ref m_height, .ref m_leftPass, .ref m_leftTurn, .ref m_leftTooth, .ref m_leftX, .int 0, .int 0, .ref m_kept, .ref m_keptWear, .int 0, .ref m_now, .ref m_passed, .int 0, .int 0, .int 0, .ref m_planTime, .ref m_planMany, .ref m_planned, .ref m_isQuiet, .int 0, .int 0, .ref m_keptTeeth, .int 0, .int 0, .ref m_jobRing, .ref m_jobSpeed, .ref m_jobFeed, .ref m_jobTurns, .ref m_orderRow, .ref m_bestRow, .int 0, .ref m_orderTold, .int 0, .int 0, .int 0, .int 0, .ref m_offerRing, .ref m_offerSpeed, .ref m_offerFeed, .ref m_offerTurns, .ref m_heardOffer, .ref m_heardVerdict, .ref m_heardAt, .ref m_rightOf, .ref m_rightVerdict, .ref m_rightAt, .ref m_verdictOf, .ref m_sound, .ref m_readSound, .int 0])), (m_height, .inl (cI, 96, .inl (fun _ => 1000))), (m_leftPass, .inl (cI, 96, .inl (fun _ => (-1))))]) (wr := []) F [0, 1, 2] [] [0] rfl rfl (by decide) rfl (by decide) (by decide) rfl (fun sz => K_X13_fresh l D m0 m_stop m_tape 0 0 0 0 0 0 0 (-1) m_rule m_readRule m_teeth m_readTeeth m_sway m_readSway m_isTold m_markKind m_markValue m_marks 5 0 m_pile m_height m_leftPass m_leftTurn m_leftTooth m_leftX 0 0 m_kept m_keptWear 0 m_now m_passed 0 0 0 m_planTime m_planMany m_planned m_isQuiet 0 0 m_keptTeeth 0 0 m_jobRing m_jobSpeed m_jobFeed m_jobTurns m_orderRow m_bestRow 0 m_orderTold 0 0 0 0 m_offerRing m_offerSpeed m_offerFeed m_offerTurns m_heardOffer m_heardVerdict m_heardAt m_rightOf m_rightVerdict m_rightAt m_verdictOf m_sound m_readSound 0 cI (fun _ => 1000) (fun _ => (-1)) a  sz) (cwV 1 hts gX13_piece_X13_fresh rfl rfl rfl (by decide +kernel) ⟨Nat.le_of_ble_eq_true rfl, Nat.le_of_ble_eq_true rfl⟩) rfl 0 rfl rfl (Nat.le_of_ble_eq_true rfl) ⟨Nat.le_of_ble_eq_true rfl, Nat.le_of_ble_eq_true rfl⟩ dX13_piece_19 (fun _ hw_7 => ?_)
    show gG p l e (gR 2 0 0 55) s m args below meth c D A 2 Q 0 0 [(m0, .inr (12, [.ref m_stop, .ref m_tape, .int 0, .int 0, .int 0, .int 0, .int 0, .int 0, .int 0, .int (-1), .ref m_rule, .ref m_readRule, .ref m_teeth, .ref m_readTeeth, .ref m_sway, .ref m_readSway, .ref m_isTold, .ref m_markKind, .ref m_markValue, .ref m_marks, .int 5, .int 0, .ref m_pile, .ref m_height, .ref m_leftPass, .ref m_leftTurn, .ref m_leftTooth, .ref m_leftX, .int 0, .int 0, .ref m_kept, .ref m_keptWear, .int 0, .ref m_now, .ref m_passed, .int 0, .int 0, .int 0, .ref m_planTime, .ref m_planMany, .ref m_planned, .ref m_isQuiet, .int 0, .int 0, .ref m_keptTeeth, .int 0, .int 0, .ref m_jobRing, .ref m_jobSpeed, .ref m_jobFeed, .ref m_jobTurns, .ref m_orderRow, .ref m_bestRow, .int 0, .ref m_orderTold, .int 0, .int 0, .int 0, .int 0, .ref m_offerRing, .ref m_offerSpeed, .ref m_offerFeed, .ref m_offerTurns, .ref m_heardOffer, .ref m_heardVerdict, .ref m_heardAt, .ref m_rightOf, .ref m_rightVerdict, .ref m_rightAt, .ref m_verdictOf, .ref m_sound, .ref m_readSound, .int 0])), (m_height, .inl (cI, 96, .inl (fun _ => a))), (m_leftPass, .inl (cI, 96, .inl (fun _ => (-1))))] [(cI, .int)] [(0, .ref m0), (1, .int a)] 22 []
    refine g_iconst F 1 dX13_piece_22 (by decide) ?_
    exact g_iret F hA hQ hr () (by first | exact (gi_p (by (simp only [Int32.lt_iff_toInt_lt, Int32.le_iff_toInt_le, ← Int32.toInt_inj, Int32.reduceToInt] at c_11 ⊢; omega)) rfl)) [] [0] rfl (by decide) rfl rfl dX13_piece_23
  · have c_11 := gb_0 c_11
    refine g_bipush F (-2) dX13_piece_14 (by decide) ?_
    exact g_iret F hA hQ hr () (by first | exact (gi_e (by (simp only [Int32.lt_iff_toInt_lt, Int32.le_iff_toInt_le, ← Int32.toInt_inj, Int32.reduceToInt] at c_11 ⊢; omega)) rfl)) [] [0] rfl (by decide) rfl rfl dX13_piece_16

theorem gi_place' {a b : Int32} (h : 0 ≤ a ∧ a < 3 ∧ 0 ≤ b ∧ b < 8) : ∃ j : Nat, j < 96 ∧ 16 * a + b = nI j := by
  obtain ⟨j, hj, e⟩ := gi_place h
  exact ⟨j, hj, by rw [Int32.mul_comm]; exact e⟩

theorem dX13_height_0 : decode cX13_height 0 = .ok (.aload_n 0, 1) := by decide +kernel
theorem dX13_height_1 : decode cX13_height 1 = .ok (.iload_n 1, 1) := by decide +kernel
theorem dX13_height_2 : decode cX13_height 2 = .ok (.iload_n 2, 1) := by decide +kernel
theorem dX13_height_3 : decode cX13_height 3 = .ok (.invokevirtual 374, 3) := by decide +kernel
theorem dX13_height_6 : decode cX13_height 6 = .ok (.ifCond .eq 16, 3) := by decide +kernel
theorem dX13_height_9 : decode cX13_height 9 = .ok (.aload_n 0, 1) := by decide +kernel
theorem dX13_height_10 : decode cX13_height 10 = .ok (.getfield 214, 3) := by decide +kernel
theorem dX13_height_13 : decode cX13_height 13 = .ok (.iload_n 1, 1) := by decide +kernel
theorem dX13_height_14 : decode cX13_height 14 = .ok (.iload_n 2, 1) := by decide +kernel
theorem dX13_height_15 : decode cX13_height 15 = .ok (.invokestatic 378, 3) := by decide +kernel
theorem dX13_height_18 : decode cX13_height 18 = .ok (.iaload, 1) := by decide +kernel
theorem dX13_height_19 : decode cX13_height 19 = .ok (.goto 6, 3) := by decide +kernel
theorem dX13_height_22 : decode cX13_height 22 = .ok (.ldc_w 381, 3) := by decide +kernel
theorem dX13_height_25 : decode cX13_height 25 = .ok (.ireturn, 1) := by decide +kernel
set_option maxRecDepth 20000 in
theorem ggX13_height_X13_at : GoodIn wsX13_height wsX13_at := goodIn_r _ [18] rfl (by decide +kernel)
set_option maxRecDepth 20000 in
theorem gX13_height_X13_at : GoodIn wsX13_height (va_wsS RX13 378 yX13_at wsX13_at) := goodIn_app (goodIn_of _ (by decide +kernel)) ggX13_height_X13_at
set_option maxRecDepth 20000 in
theorem ggX13_height_X13_isPlace : GoodIn wsX13_height wsX13_isPlace := goodIn_r _ [7, 8, 9, 10, 11, 6, 12, 13, 14, 15, 19, 20, 21, 22, 23, 24, 25, 26, 27, 28, 29, 30, 31, 32, 33, 34, 35, 36, 37, 38, 39, 40, 41, 42, 43, 44, 45, 46, 47, 48, 49, 50, 51, 52, 53, 54, 55, 56, 57, 58, 59, 60, 61, 62, 63, 64, 65, 66, 67, 68, 69, 70, 71, 72, 73, 74, 75, 76, 77, 78, 79, 80, 81, 82, 83, 84, 85, 86, 87, 88, 89, 90, 91] rfl (by decide +kernel)
set_option maxRecDepth 20000 in
theorem gX13_height_X13_isPlace : GoodIn wsX13_height (wsV RX13 374 RX13 yX13_isPlace wsX13_isPlace) := goodIn_app (goodIn_of _ (by decide +kernel)) ggX13_height_X13_isPlace
set_option maxHeartbeats 4000000 in
set_option maxRecDepth 100000 in
theorem K_X13_height (l : Launch) (D : va_G) (m0 : Nat) (m_stop : Nat) (m_tape : Nat) (m_rule : Nat) (m_readRule : Nat) (m_teeth : Nat) (m_readTeeth : Nat) (m_sway : Nat) (m_readSway : Nat) (m_isTold : Nat) (m_markKind : Nat) (m_markValue : Nat) (m_marks : Nat) (m_pile : Nat) (m_height : Nat) (m_leftPass : Nat) (m_leftTurn : Nat) (m_leftTooth : Nat) (m_leftX : Nat) (m_kept : Nat) (m_keptWear : Nat) (m_now : Nat) (m_passed : Nat) (m_planTime : Nat) (m_planMany : Nat) (m_planned : Nat) (m_isQuiet : Nat) (m_keptTeeth : Nat) (m_jobRing : Nat) (m_jobSpeed : Nat) (m_jobFeed : Nat) (m_jobTurns : Nat) (m_orderRow : Nat) (m_bestRow : Nat) (m_orderTold : Nat) (m_offerRing : Nat) (m_offerSpeed : Nat) (m_offerFeed : Nat) (m_offerTurns : Nat) (m_heardOffer : Nat) (m_heardVerdict : Nat) (m_heardAt : Nat) (m_rightOf : Nat) (m_rightVerdict : Nat) (m_rightAt : Nat) (m_verdictOf : Nat) (m_sound : Nat) (m_readSound : Nat) (cI : ClassId) (a : Int32) (b : Int32) (sz : Nat) : Ki l yX13_height wsX13_height 4 98 0 0 D [.ref m0, .int a, .int b] [(m0, .inr (12, [.ref m_stop, .ref m_tape, .int 0, .int 0, .int 0, .int 0, .int 0, .int 0, .int 0, .int (-1), .ref m_rule, .ref m_readRule, .ref m_teeth, .ref m_readTeeth, .ref m_sway, .ref m_readSway, .ref m_isTold, .ref m_markKind, .ref m_markValue, .ref m_marks, .int 5, .int 0, .ref m_pile, .ref m_height, .ref m_leftPass, .ref m_leftTurn, .ref m_leftTooth, .ref m_leftX, .int 0, .int 0, .ref m_kept, .ref m_keptWear, .int 0, .ref m_now, .ref m_passed, .int 0, .int 0, .int 0, .ref m_planTime, .ref m_planMany, .ref m_planned, .ref m_isQuiet, .int 0, .int 0, .ref m_keptTeeth, .int 0, .int 0, .ref m_jobRing, .ref m_jobSpeed, .ref m_jobFeed, .ref m_jobTurns, .ref m_orderRow, .ref m_bestRow, .int 0, .ref m_orderTold, .int 0, .int 0, .int 0, .int 0, .ref m_offerRing, .ref m_offerSpeed, .ref m_offerFeed, .ref m_offerTurns, .ref m_heardOffer, .ref m_heardVerdict, .ref m_heardAt, .ref m_rightOf, .ref m_rightVerdict, .ref m_rightAt, .ref m_verdictOf, .ref m_sound, .ref m_readSound, .int 0])), (m_rule, .inl (cI, 12, .inl gz_untold)), (m_height, .inl (cI, 96, .inl (fun _ => 1000)))] [(cI, .int)] sz (fun (r : Int32) (_ : Unit) => r = (if 0 ≤ a ∧ a < 3 ∧ 0 ≤ b ∧ b < 8 then 1000 else (-100000))) (fun (_ : Unit) => [(m0, .inr (12, [.ref m_stop, .ref m_tape, .int 0, .int 0, .int 0, .int 0, .int 0, .int 0, .int 0, .int (-1), .ref m_rule, .ref m_readRule, .ref m_teeth, .ref m_readTeeth, .ref m_sway, .ref m_readSway, .ref m_isTold, .ref m_markKind, .ref m_markValue, .ref m_marks, .int 5, .int 0, .ref m_pile, .ref m_height, .ref m_leftPass, .ref m_leftTurn, .ref m_leftTooth, .ref m_leftX, .int 0, .int 0, .ref m_kept, .ref m_keptWear, .int 0, .ref m_now, .ref m_passed, .int 0, .int 0, .int 0, .ref m_planTime, .ref m_planMany, .ref m_planned, .ref m_isQuiet, .int 0, .int 0, .ref m_keptTeeth, .int 0, .int 0, .ref m_jobRing, .ref m_jobSpeed, .ref m_jobFeed, .ref m_jobTurns, .ref m_orderRow, .ref m_bestRow, .int 0, .ref m_orderTold, .int 0, .int 0, .int 0, .int 0, .ref m_offerRing, .ref m_offerSpeed, .ref m_offerFeed, .ref m_offerTurns, .ref m_heardOffer, .ref m_heardVerdict, .ref m_heardAt, .ref m_rightOf, .ref m_rightVerdict, .ref m_rightAt, .ref m_verdictOf, .ref m_sound, .ref m_readSound, .int 0])), (m_rule, .inl (cI, 12, .inl gz_untold)), (m_height, .inl (cI, 96, .inl (fun _ => 1000)))]) (fun (_ : Unit) => [(cI, .int)]) := by
  unfold Ki
  refine g_ofW (cc := cX13_height) (lv := [(0, .ref m0), (1, .int a), (2, .int b)]) (by decide) rfl (Nat.le_of_ble_eq_true rfl) rfl ?_
  intro p e s m args below meth c A Q hA hQ F hr hnm
  have hts := F.2.2.2.2.1
  have w_0 : (Cond.constant RX13 381 (-100000)).before args s = true := hts _ (List.mem_of_getElem? (i := 2) rfl)
  have w_1 : (Cond.fieldLink RX13 214 "QuietCutModel" "height" "[I").before args s = true := hts _ (List.mem_of_getElem? (i := 1) rfl)
  have i_X13 : ∀ w ∈ u_ws RX13 TX13 73, w ∈ wsX13_height := fun _ h => List.mem_cons_of_mem _ (List.mem_append_right _ h)
  refine g_aload_n F 0 dX13_height_0 rfl rfl ?_
  refine g_iload_n F 1 dX13_height_1 rfl rfl ?_
  refine g_iload_n F 2 dX13_height_2 rfl rfl ?_
  refine g_callVi (k := 0) (n := 0) (b := m0) (As := [.int a, .int b]) (st := []) (wc := [(m0, .inr (12, [.ref m_stop, .ref m_tape, .int 0, .int 0, .int 0, .int 0, .int 0, .int 0, .int 0, .int (-1), .ref m_rule, .ref m_readRule, .ref m_teeth, .ref m_readTeeth, .ref m_sway, .ref m_readSway, .ref m_isTold, .ref m_markKind, .ref m_markValue, .ref m_marks, .int 5, .int 0, .ref m_pile, .ref m_height, .ref m_leftPass, .ref m_leftTurn, .ref m_leftTooth, .ref m_leftX, .int 0, .int 0, .ref m_kept, .ref m_keptWear, .int 0, .ref m_now, .ref m_passed, .int 0, .int 0, .int 0, .ref m_planTime, .ref m_planMany, .ref m_planned, .ref m_isQuiet, .int 0, .int 0, .ref m_keptTeeth, .int 0, .int 0, .ref m_jobRing, .ref m_jobSpeed, .ref m_jobFeed, .ref m_jobTurns, .ref m_orderRow, .ref m_bestRow, .int 0, .ref m_orderTold, .int 0, .int 0, .int 0, .int 0, .ref m_offerRing, .ref m_offerSpeed, .ref m_offerFeed, .ref m_offerTurns, .ref m_heardOffer, .ref m_heardVerdict, .ref m_heardAt, .ref m_rightOf, .ref m_rightVerdict, .ref m_rightAt, .ref m_verdictOf, .ref m_sound, .ref m_readSound, .int 0])), (m_rule, .inl (cI, 12, .inl gz_untold))]) (wr := [(m_height, .inl (cI, 96, .inl (fun _ => 1000)))]) F [0, 1] [2] [0] rfl rfl (by decide) rfl (by decide) (by decide) rfl (fun sz => K_X13_isPlace l D m0 m_stop m_tape 0 0 0 0 0 0 0 (-1) m_rule m_readRule m_teeth m_readTeeth m_sway m_readSway m_isTold m_markKind m_markValue m_marks 5 0 m_pile m_height m_leftPass m_leftTurn m_leftTooth m_leftX 0 0 m_kept m_keptWear 0 m_now m_passed 0 0 0 m_planTime m_planMany m_planned m_isQuiet 0 0 m_keptTeeth 0 0 m_jobRing m_jobSpeed m_jobFeed m_jobTurns m_orderRow m_bestRow 0 m_orderTold 0 0 0 0 m_offerRing m_offerSpeed m_offerFeed m_offerTurns m_heardOffer m_heardVerdict m_heardAt m_rightOf m_rightVerdict m_rightAt m_verdictOf m_sound m_readSound 0 cI a b  sz) (cwV 2 hts gX13_height_X13_isPlace rfl rfl rfl (by decide +kernel) ⟨Nat.le_of_ble_eq_true rfl, Nat.le_of_ble_eq_true rfl⟩) rfl 0 rfl rfl (Nat.le_of_ble_eq_true rfl) ⟨Nat.le_of_ble_eq_true rfl, Nat.le_of_ble_eq_true rfl⟩ dX13_height_3 (fun r_1 _ hw_2 => ?_)
  have hw_2 : r_1 = (if 0 ≤ a ∧ a < 3 ∧ 0 ≤ b ∧ b < 8 then 1 else 0) := hw_2
  have e_r_1 := hw_2
  show gG p l e (gR 4 0 0 98) s m args below meth c D A 3 Q 0 0 [(m_height, .inl (cI, 96, .inl (fun _ => 1000))), (m0, .inr (12, [.ref m_stop, .ref m_tape, .int 0, .int 0, .int 0, .int 0, .int 0, .int 0, .int 0, .int (-1), .ref m_rule, .ref m_readRule, .ref m_teeth, .ref m_readTeeth, .ref m_sway, .ref m_readSway, .ref m_isTold, .ref m_markKind, .ref m_markValue, .ref m_marks, .int 5, .int 0, .ref m_pile, .ref m_height, .ref m_leftPass, .ref m_leftTurn, .ref m_leftTooth, .ref m_leftX, .int 0, .int 0, .ref m_kept, .ref m_keptWear, .int 0, .ref m_now, .ref m_passed, .int 0, .int 0, .int 0, .ref m_planTime, .ref m_planMany, .ref m_planned, .ref m_isQuiet, .int 0, .int 0, .ref m_keptTeeth, .int 0, .int 0, .ref m_jobRing, .ref m_jobSpeed, .ref m_jobFeed, .ref m_jobTurns, .ref m_orderRow, .ref m_bestRow, .int 0, .ref m_orderTold, .int 0, .int 0, .int 0, .int 0, .ref m_offerRing, .ref m_offerSpeed, .ref m_offerFeed, .ref m_offerTurns, .ref m_heardOffer, .ref m_heardVerdict, .ref m_heardAt, .ref m_rightOf, .ref m_rightVerdict, .ref m_rightAt, .ref m_verdictOf, .ref m_sound, .ref m_readSound, .int 0])), (m_rule, .inl (cI, 12, .inl gz_untold))] [(cI, .int)] [(0, .ref m0), (1, .int a), (2, .int b)] 6 [.int r_1]
  refine g_fold (if 0 ≤ a ∧ a < 3 ∧ 0 ≤ b ∧ b < 8 then 1 else 0) e_r_1 ?_
  refine g_if_eq F 22 dX13_height_6 (by decide) (fun c_6 => ?_) (fun c_6 => ?_)
  · have c_6 := gb_0 c_6
    refine g_ldcw F w_0 dX13_height_22 ?_
    exact g_iret F hA hQ hr () (by first | exact (gi_e (by (simp only [Int32.lt_iff_toInt_lt, Int32.le_iff_toInt_le, ← Int32.toInt_inj, Int32.reduceToInt] at c_6 ⊢; omega)) rfl)) [1, 2, 0] [0] rfl (by decide) rfl rfl dX13_height_25
  · have c_6 := gb_n0 c_6
    refine g_aload_n F 0 dX13_height_9 rfl rfl ?_
    refine g_get (C := RX13) (T := TX13) (N := 73) (v := .ref m_height) F i_X13 1 rfl rfl 23 (by decide) w_1 rfl rfl dX13_height_10 ?_
    refine g_iload_n F 1 dX13_height_13 rfl rfl ?_
    refine g_iload_n F 2 dX13_height_14 rfl rfl ?_
    refine g_callSi (k := 0) (n := 0) (As := [.int a, .int b]) (st := [.ref m_height]) (wc := []) (wr := [(m_height, .inl (cI, 96, .inl (fun _ => 1000))), (m0, .inr (12, [.ref m_stop, .ref m_tape, .int 0, .int 0, .int 0, .int 0, .int 0, .int 0, .int 0, .int (-1), .ref m_rule, .ref m_readRule, .ref m_teeth, .ref m_readTeeth, .ref m_sway, .ref m_readSway, .ref m_isTold, .ref m_markKind, .ref m_markValue, .ref m_marks, .int 5, .int 0, .ref m_pile, .ref m_height, .ref m_leftPass, .ref m_leftTurn, .ref m_leftTooth, .ref m_leftX, .int 0, .int 0, .ref m_kept, .ref m_keptWear, .int 0, .ref m_now, .ref m_passed, .int 0, .int 0, .int 0, .ref m_planTime, .ref m_planMany, .ref m_planned, .ref m_isQuiet, .int 0, .int 0, .ref m_keptTeeth, .int 0, .int 0, .ref m_jobRing, .ref m_jobSpeed, .ref m_jobFeed, .ref m_jobTurns, .ref m_orderRow, .ref m_bestRow, .int 0, .ref m_orderTold, .int 0, .int 0, .int 0, .int 0, .ref m_offerRing, .ref m_offerSpeed, .ref m_offerFeed, .ref m_offerTurns, .ref m_heardOffer, .ref m_heardVerdict, .ref m_heardAt, .ref m_rightOf, .ref m_rightVerdict, .ref m_rightAt, .ref m_verdictOf, .ref m_sound, .ref m_readSound, .int 0])), (m_rule, .inl (cI, 12, .inl gz_untold))]) F [] [0, 1, 2] [] rfl rfl (by decide) rfl (by decide) (by decide) rfl (fun sz => K_X13_at l D a b  sz) (va_cwS 2 hts gX13_height_X13_at rfl rfl rfl (by decide +kernel) ⟨Nat.le_of_ble_eq_true rfl, Nat.le_of_ble_eq_true rfl⟩) rfl (Nat.le_of_ble_eq_true rfl) ⟨Nat.le_of_ble_eq_true rfl, Nat.le_of_ble_eq_true rfl⟩ dX13_height_15 (fun r_6 _ hw_7 => ?_)
    have hw_7 : r_6 = ((16 * a) + b) := hw_7
    have e_r_6 := hw_7
    show gG p l e (gR 4 0 0 98) s m args below meth c D A 3 Q 0 0 [(m_height, .inl (cI, 96, .inl (fun _ => 1000))), (m0, .inr (12, [.ref m_stop, .ref m_tape, .int 0, .int 0, .int 0, .int 0, .int 0, .int 0, .int 0, .int (-1), .ref m_rule, .ref m_readRule, .ref m_teeth, .ref m_readTeeth, .ref m_sway, .ref m_readSway, .ref m_isTold, .ref m_markKind, .ref m_markValue, .ref m_marks, .int 5, .int 0, .ref m_pile, .ref m_height, .ref m_leftPass, .ref m_leftTurn, .ref m_leftTooth, .ref m_leftX, .int 0, .int 0, .ref m_kept, .ref m_keptWear, .int 0, .ref m_now, .ref m_passed, .int 0, .int 0, .int 0, .ref m_planTime, .ref m_planMany, .ref m_planned, .ref m_isQuiet, .int 0, .int 0, .ref m_keptTeeth, .int 0, .int 0, .ref m_jobRing, .ref m_jobSpeed, .ref m_jobFeed, .ref m_jobTurns, .ref m_orderRow, .ref m_bestRow, .int 0, .ref m_orderTold, .int 0, .int 0, .int 0, .int 0, .ref m_offerRing, .ref m_offerSpeed, .ref m_offerFeed, .ref m_offerTurns, .ref m_heardOffer, .ref m_heardVerdict, .ref m_heardAt, .ref m_rightOf, .ref m_rightVerdict, .ref m_rightAt, .ref m_verdictOf, .ref m_sound, .ref m_readSound, .int 0])), (m_rule, .inl (cI, 12, .inl gz_untold))] [(cI, .int)] [(0, .ref m0), (1, .int a), (2, .int b)] 18 [.int r_6, .ref m_height]
    refine g_fold ((16 * a) + b) e_r_6 ?_
    obtain ⟨j_, hj_, ej_⟩ := gi_place' c_6
    refine g_iald F 0 0 rfl rfl (by rw [ej_]; exact vp_in_nI hj_ (by decide)) dX13_height_18 ?_
    refine g_fold 1000 (by rfl) ?_
    refine g_goto F 25 dX13_height_19 (by decide) ?_
    exact g_iret F hA hQ hr () (by first | exact (gi_p (by (simp only [Int32.lt_iff_toInt_lt, Int32.le_iff_toInt_le, ← Int32.toInt_inj, Int32.reduceToInt] at c_6 ⊢; omega)) rfl)) [1, 2, 0] [0] rfl (by decide) rfl rfl dX13_height_25

theorem dX13_set_0 : decode cX13_set 0 = .ok (.aload_n 0, 1) := by decide +kernel
theorem dX13_set_1 : decode cX13_set 1 = .ok (.iload_n 1, 1) := by decide +kernel
theorem dX13_set_2 : decode cX13_set 2 = .ok (.iload_n 2, 1) := by decide +kernel
theorem dX13_set_3 : decode cX13_set 3 = .ok (.invokevirtual 374, 3) := by decide +kernel
theorem dX13_set_6 : decode cX13_set 6 = .ok (.ifCond .eq 17, 3) := by decide +kernel
theorem dX13_set_9 : decode cX13_set 9 = .ok (.iload_n 3, 1) := by decide +kernel
theorem dX13_set_10 : decode cX13_set 10 = .ok (.i2l, 1) := by decide +kernel
theorem dX13_set_11 : decode cX13_set 11 = .ok (.ldc2_w 370, 3) := by decide +kernel
theorem dX13_set_14 : decode cX13_set 14 = .ok (.ldc2_w 372, 3) := by decide +kernel
theorem dX13_set_17 : decode cX13_set 17 = .ok (.invokestatic 61, 3) := by decide +kernel
theorem dX13_set_20 : decode cX13_set 20 = .ok (.ifCond .ne 7, 3) := by decide +kernel
theorem dX13_set_23 : decode cX13_set 23 = .ok (.ldc_w 381, 3) := by decide +kernel
theorem dX13_set_26 : decode cX13_set 26 = .ok (.ireturn, 1) := by decide +kernel
theorem dX13_set_27 : decode cX13_set 27 = .ok (.aload_n 0, 1) := by decide +kernel
theorem dX13_set_28 : decode cX13_set 28 = .ok (.getfield 214, 3) := by decide +kernel
theorem dX13_set_31 : decode cX13_set 31 = .ok (.iload_n 1, 1) := by decide +kernel
theorem dX13_set_32 : decode cX13_set 32 = .ok (.iload_n 2, 1) := by decide +kernel
theorem dX13_set_33 : decode cX13_set 33 = .ok (.invokestatic 378, 3) := by decide +kernel
theorem dX13_set_36 : decode cX13_set 36 = .ok (.iaload, 1) := by decide +kernel
theorem dX13_set_37 : decode cX13_set 37 = .ok (.istore 4, 2) := by decide +kernel
theorem dX13_set_39 : decode cX13_set 39 = .ok (.aload_n 0, 1) := by decide +kernel
theorem dX13_set_40 : decode cX13_set 40 = .ok (.getfield 214, 3) := by decide +kernel
theorem dX13_set_43 : decode cX13_set 43 = .ok (.iload_n 1, 1) := by decide +kernel
theorem dX13_set_44 : decode cX13_set 44 = .ok (.iload_n 2, 1) := by decide +kernel
theorem dX13_set_45 : decode cX13_set 45 = .ok (.invokestatic 378, 3) := by decide +kernel
theorem dX13_set_48 : decode cX13_set 48 = .ok (.iload_n 3, 1) := by decide +kernel
theorem dX13_set_49 : decode cX13_set 49 = .ok (.iastore, 1) := by decide +kernel
theorem dX13_set_50 : decode cX13_set 50 = .ok (.aload_n 0, 1) := by decide +kernel
theorem dX13_set_51 : decode cX13_set 51 = .ok (.getfield 217, 3) := by decide +kernel
theorem dX13_set_54 : decode cX13_set 54 = .ok (.iload_n 1, 1) := by decide +kernel
theorem dX13_set_55 : decode cX13_set 55 = .ok (.iload_n 2, 1) := by decide +kernel
theorem dX13_set_56 : decode cX13_set 56 = .ok (.invokestatic 378, 3) := by decide +kernel
theorem dX13_set_59 : decode cX13_set 59 = .ok (.iconst (-1), 1) := by decide +kernel
theorem dX13_set_60 : decode cX13_set 60 = .ok (.iastore, 1) := by decide +kernel
theorem dX13_set_61 : decode cX13_set 61 = .ok (.iload 4, 2) := by decide +kernel
theorem dX13_set_63 : decode cX13_set 63 = .ok (.ireturn, 1) := by decide +kernel
set_option maxRecDepth 20000 in
theorem ggX13_set_X13_at : GoodIn wsX13_set wsX13_at := goodIn_r _ [21] rfl (by decide +kernel)
set_option maxRecDepth 20000 in
theorem gX13_set_X13_at : GoodIn wsX13_set (va_wsS RX13 378 yX13_at wsX13_at) := goodIn_app (goodIn_of _ (by decide +kernel)) ggX13_set_X13_at
set_option maxRecDepth 20000 in
theorem ggX13_set_X13_in : GoodIn wsX13_set wsX13_in := goodIn_r _ [18] rfl (by decide +kernel)
set_option maxRecDepth 20000 in
theorem gX13_set_X13_in : GoodIn wsX13_set (va_wsS RX13 61 yX13_in wsX13_in) := goodIn_app (goodIn_of _ (by decide +kernel)) ggX13_set_X13_in
set_option maxRecDepth 20000 in
theorem ggX13_set_X13_isPlace : GoodIn wsX13_set wsX13_isPlace := goodIn_r _ [10, 11, 12, 13, 14, 9, 15, 16, 17, 18, 22, 23, 24, 25, 26, 27, 28, 29, 30, 31, 32, 33, 34, 35, 36, 37, 38, 39, 40, 41, 42, 43, 44, 45, 46, 47, 48, 49, 50, 51, 52, 53, 54, 55, 56, 57, 58, 59, 60, 61, 62, 63, 64, 65, 66, 67, 68, 69, 70, 71, 72, 73, 74, 75, 76, 77, 78, 79, 80, 81, 82, 83, 84, 85, 86, 87, 88, 89, 90, 91, 92, 93, 94] rfl (by decide +kernel)
set_option maxRecDepth 20000 in
theorem gX13_set_X13_isPlace : GoodIn wsX13_set (wsV RX13 374 RX13 yX13_isPlace wsX13_isPlace) := goodIn_app (goodIn_of _ (by decide +kernel)) ggX13_set_X13_isPlace
set_option maxHeartbeats 4000000 in
set_option maxRecDepth 100000 in
theorem K_X13_set (l : Launch) (D : va_G) (m0 : Nat) (m_stop : Nat) (m_tape : Nat) (m_rule : Nat) (m_readRule : Nat) (m_teeth : Nat) (m_readTeeth : Nat) (m_sway : Nat) (m_readSway : Nat) (m_isTold : Nat) (m_markKind : Nat) (m_markValue : Nat) (m_marks : Nat) (m_pile : Nat) (m_height : Nat) (m_leftPass : Nat) (m_leftTurn : Nat) (m_leftTooth : Nat) (m_leftX : Nat) (m_kept : Nat) (m_keptWear : Nat) (m_now : Nat) (m_passed : Nat) (m_planTime : Nat) (m_planMany : Nat) (m_planned : Nat) (m_isQuiet : Nat) (m_keptTeeth : Nat) (m_jobRing : Nat) (m_jobSpeed : Nat) (m_jobFeed : Nat) (m_jobTurns : Nat) (m_orderRow : Nat) (m_bestRow : Nat) (m_orderTold : Nat) (m_offerRing : Nat) (m_offerSpeed : Nat) (m_offerFeed : Nat) (m_offerTurns : Nat) (m_heardOffer : Nat) (m_heardVerdict : Nat) (m_heardAt : Nat) (m_rightOf : Nat) (m_rightVerdict : Nat) (m_rightAt : Nat) (m_verdictOf : Nat) (m_sound : Nat) (m_readSound : Nat) (cI : ClassId) (a : Int32) (b : Int32) (h : Int32) (sz : Nat) : Ki l yX13_set wsX13_set 4 98 0 0 D [.ref m0, .int a, .int b, .int h] [(m0, .inr (12, [.ref m_stop, .ref m_tape, .int 0, .int 0, .int 0, .int 0, .int 0, .int 0, .int 0, .int (-1), .ref m_rule, .ref m_readRule, .ref m_teeth, .ref m_readTeeth, .ref m_sway, .ref m_readSway, .ref m_isTold, .ref m_markKind, .ref m_markValue, .ref m_marks, .int 5, .int 0, .ref m_pile, .ref m_height, .ref m_leftPass, .ref m_leftTurn, .ref m_leftTooth, .ref m_leftX, .int 0, .int 0, .ref m_kept, .ref m_keptWear, .int 0, .ref m_now, .ref m_passed, .int 0, .int 0, .int 0, .ref m_planTime, .ref m_planMany, .ref m_planned, .ref m_isQuiet, .int 0, .int 0, .ref m_keptTeeth, .int 0, .int 0, .ref m_jobRing, .ref m_jobSpeed, .ref m_jobFeed, .ref m_jobTurns, .ref m_orderRow, .ref m_bestRow, .int 0, .ref m_orderTold, .int 0, .int 0, .int 0, .int 0, .ref m_offerRing, .ref m_offerSpeed, .ref m_offerFeed, .ref m_offerTurns, .ref m_heardOffer, .ref m_heardVerdict, .ref m_heardAt, .ref m_rightOf, .ref m_rightVerdict, .ref m_rightAt, .ref m_verdictOf, .ref m_sound, .ref m_readSound, .int 0])), (m_rule, .inl (cI, 12, .inl gz_untold)), (m_height, .inl (cI, 96, .inl (fun _ => 1000))), (m_leftPass, .inl (cI, 96, .inl (fun _ => (-1))))] [(cI, .int)] sz (fun (r : Int32) (_ : Unit) => r = (if (0 ≤ a ∧ a < 3 ∧ 0 ≤ b ∧ b < 8) ∧ (100 ≤ h ∧ h ≤ 5000) then 1000 else (-100000))) (fun (_ : Unit) => []) (fun (_ : Unit) => [(cI, .int)]) := by
  unfold Ki
  refine g_ofW (cc := cX13_set) (lv := [(0, .ref m0), (1, .int a), (2, .int b), (3, .int h)]) (by decide) rfl (Nat.le_of_ble_eq_true rfl) rfl ?_
  intro p e s m args below meth c A Q hA hQ F hr hnm
  have hts := F.2.2.2.2.1
  have w_0 : (Cond.constant RX13 381 (-100000)).before args s = true := hts _ (List.mem_of_getElem? (i := 3) rfl)
  have w_1 : (Cond.constantLong RX13 370 (100)).before args s = true := hts _ (List.mem_of_getElem? (i := 1) rfl)
  have w_2 : (Cond.constantLong RX13 372 (5000)).before args s = true := hts _ (List.mem_of_getElem? (i := 2) rfl)
  have w_3 : (Cond.fieldLink RX13 214 "QuietCutModel" "height" "[I").before args s = true := hts _ (List.mem_of_getElem? (i := 4) rfl)
  have i_X13 : ∀ w ∈ u_ws RX13 TX13 73, w ∈ wsX13_set := fun _ h => List.mem_cons_of_mem _ (List.mem_append_right _ h)
  have w_4 : (Cond.fieldLink RX13 217 "QuietCutModel" "leftPass" "[I").before args s = true := hts _ (List.mem_of_getElem? (i := 5) rfl)
  refine g_aload_n F 0 dX13_set_0 rfl rfl ?_
  refine g_iload_n F 1 dX13_set_1 rfl rfl ?_
  refine g_iload_n F 2 dX13_set_2 rfl rfl ?_
  refine g_callVi (k := 0) (n := 0) (b := m0) (As := [.int a, .int b]) (st := []) (wc := [(m0, .inr (12, [.ref m_stop, .ref m_tape, .int 0, .int 0, .int 0, .int 0, .int 0, .int 0, .int 0, .int (-1), .ref m_rule, .ref m_readRule, .ref m_teeth, .ref m_readTeeth, .ref m_sway, .ref m_readSway, .ref m_isTold, .ref m_markKind, .ref m_markValue, .ref m_marks, .int 5, .int 0, .ref m_pile, .ref m_height, .ref m_leftPass, .ref m_leftTurn, .ref m_leftTooth, .ref m_leftX, .int 0, .int 0, .ref m_kept, .ref m_keptWear, .int 0, .ref m_now, .ref m_passed, .int 0, .int 0, .int 0, .ref m_planTime, .ref m_planMany, .ref m_planned, .ref m_isQuiet, .int 0, .int 0, .ref m_keptTeeth, .int 0, .int 0, .ref m_jobRing, .ref m_jobSpeed, .ref m_jobFeed, .ref m_jobTurns, .ref m_orderRow, .ref m_bestRow, .int 0, .ref m_orderTold, .int 0, .int 0, .int 0, .int 0, .ref m_offerRing, .ref m_offerSpeed, .ref m_offerFeed, .ref m_offerTurns, .ref m_heardOffer, .ref m_heardVerdict, .ref m_heardAt, .ref m_rightOf, .ref m_rightVerdict, .ref m_rightAt, .ref m_verdictOf, .ref m_sound, .ref m_readSound, .int 0])), (m_rule, .inl (cI, 12, .inl gz_untold))]) (wr := [(m_height, .inl (cI, 96, .inl (fun _ => 1000))), (m_leftPass, .inl (cI, 96, .inl (fun _ => (-1))))]) F [0, 1] [2, 3] [0] rfl rfl (by decide) rfl (by decide) (by decide) rfl (fun sz => K_X13_isPlace l D m0 m_stop m_tape 0 0 0 0 0 0 0 (-1) m_rule m_readRule m_teeth m_readTeeth m_sway m_readSway m_isTold m_markKind m_markValue m_marks 5 0 m_pile m_height m_leftPass m_leftTurn m_leftTooth m_leftX 0 0 m_kept m_keptWear 0 m_now m_passed 0 0 0 m_planTime m_planMany m_planned m_isQuiet 0 0 m_keptTeeth 0 0 m_jobRing m_jobSpeed m_jobFeed m_jobTurns m_orderRow m_bestRow 0 m_orderTold 0 0 0 0 m_offerRing m_offerSpeed m_offerFeed m_offerTurns m_heardOffer m_heardVerdict m_heardAt m_rightOf m_rightVerdict m_rightAt m_verdictOf m_sound m_readSound 0 cI a b  sz) (cwV 2 hts gX13_set_X13_isPlace rfl rfl rfl (by decide +kernel) ⟨Nat.le_of_ble_eq_true rfl, Nat.le_of_ble_eq_true rfl⟩) rfl 0 rfl rfl (Nat.le_of_ble_eq_true rfl) ⟨Nat.le_of_ble_eq_true rfl, Nat.le_of_ble_eq_true rfl⟩ dX13_set_3 (fun r_1 _ hw_2 => ?_)
  have hw_2 : r_1 = (if 0 ≤ a ∧ a < 3 ∧ 0 ≤ b ∧ b < 8 then 1 else 0) := hw_2
  have e_r_1 := hw_2
  show gG p l e (gR 4 0 0 98) s m args below meth c D A 5 Q 0 0 [(m_height, .inl (cI, 96, .inl (fun _ => 1000))), (m_leftPass, .inl (cI, 96, .inl (fun _ => (-1)))), (m0, .inr (12, [.ref m_stop, .ref m_tape, .int 0, .int 0, .int 0, .int 0, .int 0, .int 0, .int 0, .int (-1), .ref m_rule, .ref m_readRule, .ref m_teeth, .ref m_readTeeth, .ref m_sway, .ref m_readSway, .ref m_isTold, .ref m_markKind, .ref m_markValue, .ref m_marks, .int 5, .int 0, .ref m_pile, .ref m_height, .ref m_leftPass, .ref m_leftTurn, .ref m_leftTooth, .ref m_leftX, .int 0, .int 0, .ref m_kept, .ref m_keptWear, .int 0, .ref m_now, .ref m_passed, .int 0, .int 0, .int 0, .ref m_planTime, .ref m_planMany, .ref m_planned, .ref m_isQuiet, .int 0, .int 0, .ref m_keptTeeth, .int 0, .int 0, .ref m_jobRing, .ref m_jobSpeed, .ref m_jobFeed, .ref m_jobTurns, .ref m_orderRow, .ref m_bestRow, .int 0, .ref m_orderTold, .int 0, .int 0, .int 0, .int 0, .ref m_offerRing, .ref m_offerSpeed, .ref m_offerFeed, .ref m_offerTurns, .ref m_heardOffer, .ref m_heardVerdict, .ref m_heardAt, .ref m_rightOf, .ref m_rightVerdict, .ref m_rightAt, .ref m_verdictOf, .ref m_sound, .ref m_readSound, .int 0])), (m_rule, .inl (cI, 12, .inl gz_untold))] [(cI, .int)] [(0, .ref m0), (1, .int a), (2, .int b), (3, .int h)] 6 [.int r_1]
  refine g_fold (if 0 ≤ a ∧ a < 3 ∧ 0 ≤ b ∧ b < 8 then 1 else 0) e_r_1 ?_
  refine g_if_eq F 23 dX13_set_6 (by decide) (fun c_6 => ?_) (fun c_6 => ?_)
  · have c_6 := gb_0 c_6
    refine g_ldcw F w_0 dX13_set_23 ?_
    exact g_iret F hA hQ hr () (by first | exact (gi_e (by (simp only [Int32.lt_iff_toInt_lt, Int32.le_iff_toInt_le, ← Int32.toInt_inj, Int32.reduceToInt] at c_6 ⊢; omega)) rfl)) [] [0] rfl (by decide) rfl rfl dX13_set_26
  · have c_6 := gb_n0 c_6
    refine g_iload_n F 3 dX13_set_9 rfl rfl ?_
    refine g_i2l F dX13_set_10 ?_
    refine g_ldc2 F w_1 dX13_set_11 ?_
    refine g_ldc2 F w_2 dX13_set_14 ?_
    refine g_callSi (k := 0) (n := 0) (As := [.long h.toInt64, .long 100, .long 5000]) (st := []) (wc := []) (wr := [(m_height, .inl (cI, 96, .inl (fun _ => 1000))), (m_leftPass, .inl (cI, 96, .inl (fun _ => (-1)))), (m0, .inr (12, [.ref m_stop, .ref m_tape, .int 0, .int 0, .int 0, .int 0, .int 0, .int 0, .int 0, .int (-1), .ref m_rule, .ref m_readRule, .ref m_teeth, .ref m_readTeeth, .ref m_sway, .ref m_readSway, .ref m_isTold, .ref m_markKind, .ref m_markValue, .ref m_marks, .int 5, .int 0, .ref m_pile, .ref m_height, .ref m_leftPass, .ref m_leftTurn, .ref m_leftTooth, .ref m_leftX, .int 0, .int 0, .ref m_kept, .ref m_keptWear, .int 0, .ref m_now, .ref m_passed, .int 0, .int 0, .int 0, .ref m_planTime, .ref m_planMany, .ref m_planned, .ref m_isQuiet, .int 0, .int 0, .ref m_keptTeeth, .int 0, .int 0, .ref m_jobRing, .ref m_jobSpeed, .ref m_jobFeed, .ref m_jobTurns, .ref m_orderRow, .ref m_bestRow, .int 0, .ref m_orderTold, .int 0, .int 0, .int 0, .int 0, .ref m_offerRing, .ref m_offerSpeed, .ref m_offerFeed, .ref m_offerTurns, .ref m_heardOffer, .ref m_heardVerdict, .ref m_heardAt, .ref m_rightOf, .ref m_rightVerdict, .ref m_rightAt, .ref m_verdictOf, .ref m_sound, .ref m_readSound, .int 0])), (m_rule, .inl (cI, 12, .inl gz_untold))]) F [] [0, 1, 2, 3] [] rfl rfl (by decide) rfl (by decide) (by decide) rfl (fun sz => K_X13_in l D h.toInt64 100 5000  sz) (va_cwS 3 hts gX13_set_X13_in rfl rfl rfl (by decide +kernel) ⟨Nat.le_of_ble_eq_true rfl, Nat.le_of_ble_eq_true rfl⟩) rfl (Nat.le_of_ble_eq_true rfl) ⟨Nat.le_of_ble_eq_true rfl, Nat.le_of_ble_eq_true rfl⟩ dX13_set_17 (fun r_6 _ hw_7 => ?_)
    have hw_7 : r_6 = (if 100 ≤ h.toInt64 ∧ h.toInt64 ≤ 5000 then 1 else 0) := hw_7
    have e_r_6 := hw_7
    show gG p l e (gR 4 0 0 98) s m args below meth c D A 5 Q 0 0 [(m_height, .inl (cI, 96, .inl (fun _ => 1000))), (m_leftPass, .inl (cI, 96, .inl (fun _ => (-1)))), (m0, .inr (12, [.ref m_stop, .ref m_tape, .int 0, .int 0, .int 0, .int 0, .int 0, .int 0, .int 0, .int (-1), .ref m_rule, .ref m_readRule, .ref m_teeth, .ref m_readTeeth, .ref m_sway, .ref m_readSway, .ref m_isTold, .ref m_markKind, .ref m_markValue, .ref m_marks, .int 5, .int 0, .ref m_pile, .ref m_height, .ref m_leftPass, .ref m_leftTurn, .ref m_leftTooth, .ref m_leftX, .int 0, .int 0, .ref m_kept, .ref m_keptWear, .int 0, .ref m_now, .ref m_passed, .int 0, .int 0, .int 0, .ref m_planTime, .ref m_planMany, .ref m_planned, .ref m_isQuiet, .int 0, .int 0, .ref m_keptTeeth, .int 0, .int 0, .ref m_jobRing, .ref m_jobSpeed, .ref m_jobFeed, .ref m_jobTurns, .ref m_orderRow, .ref m_bestRow, .int 0, .ref m_orderTold, .int 0, .int 0, .int 0, .int 0, .ref m_offerRing, .ref m_offerSpeed, .ref m_offerFeed, .ref m_offerTurns, .ref m_heardOffer, .ref m_heardVerdict, .ref m_heardAt, .ref m_rightOf, .ref m_rightVerdict, .ref m_rightAt, .ref m_verdictOf, .ref m_sound, .ref m_readSound, .int 0])), (m_rule, .inl (cI, 12, .inl gz_untold))] [(cI, .int)] [(0, .ref m0), (1, .int a), (2, .int b), (3, .int h)] 20 [.int r_6]
    refine g_fold (if 100 ≤ h.toInt64 ∧ h.toInt64 ≤ 5000 then 1 else 0) e_r_6 ?_
    refine g_fold (if 100 ≤ h ∧ h ≤ 5000 then 1 else 0) (gl_in h 100 5000 _ _ (by decide) (by decide)) ?_
    refine g_if_ne F 27 dX13_set_20 (by decide) (fun c_20 => ?_) (fun c_20 => ?_)
    · have c_20 := gb_n0 c_20
      refine g_aload_n F 0 dX13_set_27 rfl rfl ?_
      refine g_get (C := RX13) (T := TX13) (N := 73) (v := .ref m_height) F i_X13 2 rfl rfl 23 (by decide) w_3 rfl rfl dX13_set_28 ?_
      refine g_iload_n F 1 dX13_set_31 rfl rfl ?_
      refine g_iload_n F 2 dX13_set_32 rfl rfl ?_
      refine g_callSi (k := 0) (n := 0) (As := [.int a, .int b]) (st := [.ref m_height]) (wc := []) (wr := [(m_height, .inl (cI, 96, .inl (fun _ => 1000))), (m_leftPass, .inl (cI, 96, .inl (fun _ => (-1)))), (m0, .inr (12, [.ref m_stop, .ref m_tape, .int 0, .int 0, .int 0, .int 0, .int 0, .int 0, .int 0, .int (-1), .ref m_rule, .ref m_readRule, .ref m_teeth, .ref m_readTeeth, .ref m_sway, .ref m_readSway, .ref m_isTold, .ref m_markKind, .ref m_markValue, .ref m_marks, .int 5, .int 0, .ref m_pile, .ref m_height, .ref m_leftPass, .ref m_leftTurn, .ref m_leftTooth, .ref m_leftX, .int 0, .int 0, .ref m_kept, .ref m_keptWear, .int 0, .ref m_now, .ref m_passed, .int 0, .int 0, .int 0, .ref m_planTime, .ref m_planMany, .ref m_planned, .ref m_isQuiet, .int 0, .int 0, .ref m_keptTeeth, .int 0, .int 0, .ref m_jobRing, .ref m_jobSpeed, .ref m_jobFeed, .ref m_jobTurns, .ref m_orderRow, .ref m_bestRow, .int 0, .ref m_orderTold, .int 0, .int 0, .int 0, .int 0, .ref m_offerRing, .ref m_offerSpeed, .ref m_offerFeed, .ref m_offerTurns, .ref m_heardOffer, .ref m_heardVerdict, .ref m_heardAt, .ref m_rightOf, .ref m_rightVerdict, .ref m_rightAt, .ref m_verdictOf, .ref m_sound, .ref m_readSound, .int 0])), (m_rule, .inl (cI, 12, .inl gz_untold))]) F [] [0, 1, 2, 3] [] rfl rfl (by decide) rfl (by decide) (by decide) rfl (fun sz => K_X13_at l D a b  sz) (va_cwS 2 hts gX13_set_X13_at rfl rfl rfl (by decide +kernel) ⟨Nat.le_of_ble_eq_true rfl, Nat.le_of_ble_eq_true rfl⟩) rfl (Nat.le_of_ble_eq_true rfl) ⟨Nat.le_of_ble_eq_true rfl, Nat.le_of_ble_eq_true rfl⟩ dX13_set_33 (fun r_11 _ hw_12 => ?_)
      have hw_12 : r_11 = ((16 * a) + b) := hw_12
      have e_r_11 := hw_12
      show gG p l e (gR 4 0 0 98) s m args below meth c D A 5 Q 0 0 [(m_height, .inl (cI, 96, .inl (fun _ => 1000))), (m_leftPass, .inl (cI, 96, .inl (fun _ => (-1)))), (m0, .inr (12, [.ref m_stop, .ref m_tape, .int 0, .int 0, .int 0, .int 0, .int 0, .int 0, .int 0, .int (-1), .ref m_rule, .ref m_readRule, .ref m_teeth, .ref m_readTeeth, .ref m_sway, .ref m_readSway, .ref m_isTold, .ref m_markKind, .ref m_markValue, .ref m_marks, .int 5, .int 0, .ref m_pile, .ref m_height, .ref m_leftPass, .ref m_leftTurn, .ref m_leftTooth, .ref m_leftX, .int 0, .int 0, .ref m_kept, .ref m_keptWear, .int 0, .ref m_now, .ref m_passed, .int 0, .int 0, .int 0, .ref m_planTime, .ref m_planMany, .ref m_planned, .ref m_isQuiet, .int 0, .int 0, .ref m_keptTeeth, .int 0, .int 0, .ref m_jobRing, .ref m_jobSpeed, .ref m_jobFeed, .ref m_jobTurns, .ref m_orderRow, .ref m_bestRow, .int 0, .ref m_orderTold, .int 0, .int 0, .int 0, .int 0, .ref m_offerRing, .ref m_offerSpeed, .ref m_offerFeed, .ref m_offerTurns, .ref m_heardOffer, .ref m_heardVerdict, .ref m_heardAt, .ref m_rightOf, .ref m_rightVerdict, .ref m_rightAt, .ref m_verdictOf, .ref m_sound, .ref m_readSound, .int 0])), (m_rule, .inl (cI, 12, .inl gz_untold))] [(cI, .int)] [(0, .ref m0), (1, .int a), (2, .int b), (3, .int h)] 36 [.int r_11, .ref m_height]
      refine g_fold ((16 * a) + b) e_r_11 ?_
      obtain ⟨j_, hj_, ej_⟩ := gi_place' c_6
      refine g_iald F 0 0 rfl rfl (by rw [ej_]; exact vp_in_nI hj_ (by decide)) dX13_set_36 ?_
      refine g_fold 1000 (by rfl) ?_
      refine g_istore F [(4, .int 1000), (0, .ref m0), (1, .int a), (2, .int b), (3, .int h)] dX13_set_37 (by decide) rfl ?_
      refine g_aload_n F 1 dX13_set_39 rfl rfl ?_
      refine g_get (C := RX13) (T := TX13) (N := 73) (v := .ref m_height) F i_X13 2 rfl rfl 23 (by decide) w_3 rfl rfl dX13_set_40 ?_
      refine g_iload_n F 2 dX13_set_43 rfl rfl ?_
      refine g_iload_n F 3 dX13_set_44 rfl rfl ?_
      refine g_callSi (k := 0) (n := 0) (As := [.int a, .int b]) (st := [.ref m_height]) (wc := []) (wr := [(m_height, .inl (cI, 96, .inl (fun _ => 1000))), (m_leftPass, .inl (cI, 96, .inl (fun _ => (-1)))), (m0, .inr (12, [.ref m_stop, .ref m_tape, .int 0, .int 0, .int 0, .int 0, .int 0, .int 0, .int 0, .int (-1), .ref m_rule, .ref m_readRule, .ref m_teeth, .ref m_readTeeth, .ref m_sway, .ref m_readSway, .ref m_isTold, .ref m_markKind, .ref m_markValue, .ref m_marks, .int 5, .int 0, .ref m_pile, .ref m_height, .ref m_leftPass, .ref m_leftTurn, .ref m_leftTooth, .ref m_leftX, .int 0, .int 0, .ref m_kept, .ref m_keptWear, .int 0, .ref m_now, .ref m_passed, .int 0, .int 0, .int 0, .ref m_planTime, .ref m_planMany, .ref m_planned, .ref m_isQuiet, .int 0, .int 0, .ref m_keptTeeth, .int 0, .int 0, .ref m_jobRing, .ref m_jobSpeed, .ref m_jobFeed, .ref m_jobTurns, .ref m_orderRow, .ref m_bestRow, .int 0, .ref m_orderTold, .int 0, .int 0, .int 0, .int 0, .ref m_offerRing, .ref m_offerSpeed, .ref m_offerFeed, .ref m_offerTurns, .ref m_heardOffer, .ref m_heardVerdict, .ref m_heardAt, .ref m_rightOf, .ref m_rightVerdict, .ref m_rightAt, .ref m_verdictOf, .ref m_sound, .ref m_readSound, .int 0])), (m_rule, .inl (cI, 12, .inl gz_untold))]) F [] [0, 1, 2, 3] [] rfl rfl (by decide) rfl (by decide) (by decide) rfl (fun sz => K_X13_at l D a b  sz) (va_cwS 2 hts gX13_set_X13_at rfl rfl rfl (by decide +kernel) ⟨Nat.le_of_ble_eq_true rfl, Nat.le_of_ble_eq_true rfl⟩) rfl (Nat.le_of_ble_eq_true rfl) ⟨Nat.le_of_ble_eq_true rfl, Nat.le_of_ble_eq_true rfl⟩ dX13_set_45 (fun r_16 _ hw_17 => ?_)
      have hw_17 : r_16 = ((16 * a) + b) := hw_17
      have e_r_16 := hw_17
      show gG p l e (gR 4 0 0 98) s m args below meth c D A 5 Q 0 0 [(m_height, .inl (cI, 96, .inl (fun _ => 1000))), (m_leftPass, .inl (cI, 96, .inl (fun _ => (-1)))), (m0, .inr (12, [.ref m_stop, .ref m_tape, .int 0, .int 0, .int 0, .int 0, .int 0, .int 0, .int 0, .int (-1), .ref m_rule, .ref m_readRule, .ref m_teeth, .ref m_readTeeth, .ref m_sway, .ref m_readSway, .ref m_isTold, .ref m_markKind, .ref m_markValue, .ref m_marks, .int 5, .int 0, .ref m_pile, .ref m_height, .ref m_leftPass, .ref m_leftTurn, .ref m_leftTooth, .ref m_leftX, .int 0, .int 0, .ref m_kept, .ref m_keptWear, .int 0, .ref m_now, .ref m_passed, .int 0, .int 0, .int 0, .ref m_planTime, .ref m_planMany, .ref m_planned, .ref m_isQuiet, .int 0, .int 0, .ref m_keptTeeth, .int 0, .int 0, .ref m_jobRing, .ref m_jobSpeed, .ref m_jobFeed, .ref m_jobTurns, .ref m_orderRow, .ref m_bestRow, .int 0, .ref m_orderTold, .int 0, .int 0, .int 0, .int 0, .ref m_offerRing, .ref m_offerSpeed, .ref m_offerFeed, .ref m_offerTurns, .ref m_heardOffer, .ref m_heardVerdict, .ref m_heardAt, .ref m_rightOf, .ref m_rightVerdict, .ref m_rightAt, .ref m_verdictOf, .ref m_sound, .ref m_readSound, .int 0])), (m_rule, .inl (cI, 12, .inl gz_untold))] [(cI, .int)] [(4, .int 1000), (0, .ref m0), (1, .int a), (2, .int b), (3, .int h)] 48 [.int r_16, .ref m_height]
      refine g_fold ((16 * a) + b) e_r_16 ?_
      refine g_iload_n F 4 dX13_set_48 rfl rfl ?_
      refine g_iast F 0 0 rfl rfl (by rw [ej_]; exact vp_in_nI hj_ (by decide)) [(m_height, .inl (cI, 96, .inl (upd (fun _ => 1000) ((16 * a) + b).toNatClampNeg h))), (m_leftPass, .inl (cI, 96, .inl (fun _ => (-1)))), (m0, .inr (12, [.ref m_stop, .ref m_tape, .int 0, .int 0, .int 0, .int 0, .int 0, .int 0, .int 0, .int (-1), .ref m_rule, .ref m_readRule, .ref m_teeth, .ref m_readTeeth, .ref m_sway, .ref m_readSway, .ref m_isTold, .ref m_markKind, .ref m_markValue, .ref m_marks, .int 5, .int 0, .ref m_pile, .ref m_height, .ref m_leftPass, .ref m_leftTurn, .ref m_leftTooth, .ref m_leftX, .int 0, .int 0, .ref m_kept, .ref m_keptWear, .int 0, .ref m_now, .ref m_passed, .int 0, .int 0, .int 0, .ref m_planTime, .ref m_planMany, .ref m_planned, .ref m_isQuiet, .int 0, .int 0, .ref m_keptTeeth, .int 0, .int 0, .ref m_jobRing, .ref m_jobSpeed, .ref m_jobFeed, .ref m_jobTurns, .ref m_orderRow, .ref m_bestRow, .int 0, .ref m_orderTold, .int 0, .int 0, .int 0, .int 0, .ref m_offerRing, .ref m_offerSpeed, .ref m_offerFeed, .ref m_offerTurns, .ref m_heardOffer, .ref m_heardVerdict, .ref m_heardAt, .ref m_rightOf, .ref m_rightVerdict, .ref m_rightAt, .ref m_verdictOf, .ref m_sound, .ref m_readSound, .int 0])), (m_rule, .inl (cI, 12, .inl gz_untold))] (rfl) dX13_set_49 ?_
      refine g_aload_n F 1 dX13_set_50 rfl rfl ?_
      refine g_get (C := RX13) (T := TX13) (N := 73) (v := .ref m_leftPass) F i_X13 2 rfl rfl 24 (by decide) w_4 rfl rfl dX13_set_51 ?_
      refine g_iload_n F 2 dX13_set_54 rfl rfl ?_
      refine g_iload_n F 3 dX13_set_55 rfl rfl ?_
      refine g_callSi (k := 0) (n := 0) (As := [.int a, .int b]) (st := [.ref m_leftPass]) (wc := []) (wr := [(m_height, .inl (cI, 96, .inl (upd (fun _ => 1000) ((16 * a) + b).toNatClampNeg h))), (m_leftPass, .inl (cI, 96, .inl (fun _ => (-1)))), (m0, .inr (12, [.ref m_stop, .ref m_tape, .int 0, .int 0, .int 0, .int 0, .int 0, .int 0, .int 0, .int (-1), .ref m_rule, .ref m_readRule, .ref m_teeth, .ref m_readTeeth, .ref m_sway, .ref m_readSway, .ref m_isTold, .ref m_markKind, .ref m_markValue, .ref m_marks, .int 5, .int 0, .ref m_pile, .ref m_height, .ref m_leftPass, .ref m_leftTurn, .ref m_leftTooth, .ref m_leftX, .int 0, .int 0, .ref m_kept, .ref m_keptWear, .int 0, .ref m_now, .ref m_passed, .int 0, .int 0, .int 0, .ref m_planTime, .ref m_planMany, .ref m_planned, .ref m_isQuiet, .int 0, .int 0, .ref m_keptTeeth, .int 0, .int 0, .ref m_jobRing, .ref m_jobSpeed, .ref m_jobFeed, .ref m_jobTurns, .ref m_orderRow, .ref m_bestRow, .int 0, .ref m_orderTold, .int 0, .int 0, .int 0, .int 0, .ref m_offerRing, .ref m_offerSpeed, .ref m_offerFeed, .ref m_offerTurns, .ref m_heardOffer, .ref m_heardVerdict, .ref m_heardAt, .ref m_rightOf, .ref m_rightVerdict, .ref m_rightAt, .ref m_verdictOf, .ref m_sound, .ref m_readSound, .int 0])), (m_rule, .inl (cI, 12, .inl gz_untold))]) F [] [0, 1, 2, 3] [] rfl rfl (by decide) rfl (by decide) (by decide) rfl (fun sz => K_X13_at l D a b  sz) (va_cwS 2 hts gX13_set_X13_at rfl rfl rfl (by decide +kernel) ⟨Nat.le_of_ble_eq_true rfl, Nat.le_of_ble_eq_true rfl⟩) rfl (Nat.le_of_ble_eq_true rfl) ⟨Nat.le_of_ble_eq_true rfl, Nat.le_of_ble_eq_true rfl⟩ dX13_set_56 (fun r_21 _ hw_22 => ?_)
      have hw_22 : r_21 = ((16 * a) + b) := hw_22
      have e_r_21 := hw_22
      show gG p l e (gR 4 0 0 98) s m args below meth c D A 5 Q 0 0 [(m_height, .inl (cI, 96, .inl (upd (fun _ => 1000) ((16 * a) + b).toNatClampNeg h))), (m_leftPass, .inl (cI, 96, .inl (fun _ => (-1)))), (m0, .inr (12, [.ref m_stop, .ref m_tape, .int 0, .int 0, .int 0, .int 0, .int 0, .int 0, .int 0, .int (-1), .ref m_rule, .ref m_readRule, .ref m_teeth, .ref m_readTeeth, .ref m_sway, .ref m_readSway, .ref m_isTold, .ref m_markKind, .ref m_markValue, .ref m_marks, .int 5, .int 0, .ref m_pile, .ref m_height, .ref m_leftPass, .ref m_leftTurn, .ref m_leftTooth, .ref m_leftX, .int 0, .int 0, .ref m_kept, .ref m_keptWear, .int 0, .ref m_now, .ref m_passed, .int 0, .int 0, .int 0, .ref m_planTime, .ref m_planMany, .ref m_planned, .ref m_isQuiet, .int 0, .int 0, .ref m_keptTeeth, .int 0, .int 0, .ref m_jobRing, .ref m_jobSpeed, .ref m_jobFeed, .ref m_jobTurns, .ref m_orderRow, .ref m_bestRow, .int 0, .ref m_orderTold, .int 0, .int 0, .int 0, .int 0, .ref m_offerRing, .ref m_offerSpeed, .ref m_offerFeed, .ref m_offerTurns, .ref m_heardOffer, .ref m_heardVerdict, .ref m_heardAt, .ref m_rightOf, .ref m_rightVerdict, .ref m_rightAt, .ref m_verdictOf, .ref m_sound, .ref m_readSound, .int 0])), (m_rule, .inl (cI, 12, .inl gz_untold))] [(cI, .int)] [(4, .int 1000), (0, .ref m0), (1, .int a), (2, .int b), (3, .int h)] 59 [.int r_21, .ref m_leftPass]
      refine g_fold ((16 * a) + b) e_r_21 ?_
      refine g_iconst F (-1) dX13_set_59 (by decide) ?_
      refine g_iast F 1 0 rfl rfl (by rw [ej_]; exact vp_in_nI hj_ (by decide)) [(m_height, .inl (cI, 96, .inl (upd (fun _ => 1000) ((16 * a) + b).toNatClampNeg h))), (m_leftPass, .inl (cI, 96, .inl (upd (fun _ => (-1)) ((16 * a) + b).toNatClampNeg (-1)))), (m0, .inr (12, [.ref m_stop, .ref m_tape, .int 0, .int 0, .int 0, .int 0, .int 0, .int 0, .int 0, .int (-1), .ref m_rule, .ref m_readRule, .ref m_teeth, .ref m_readTeeth, .ref m_sway, .ref m_readSway, .ref m_isTold, .ref m_markKind, .ref m_markValue, .ref m_marks, .int 5, .int 0, .ref m_pile, .ref m_height, .ref m_leftPass, .ref m_leftTurn, .ref m_leftTooth, .ref m_leftX, .int 0, .int 0, .ref m_kept, .ref m_keptWear, .int 0, .ref m_now, .ref m_passed, .int 0, .int 0, .int 0, .ref m_planTime, .ref m_planMany, .ref m_planned, .ref m_isQuiet, .int 0, .int 0, .ref m_keptTeeth, .int 0, .int 0, .ref m_jobRing, .ref m_jobSpeed, .ref m_jobFeed, .ref m_jobTurns, .ref m_orderRow, .ref m_bestRow, .int 0, .ref m_orderTold, .int 0, .int 0, .int 0, .int 0, .ref m_offerRing, .ref m_offerSpeed, .ref m_offerFeed, .ref m_offerTurns, .ref m_heardOffer, .ref m_heardVerdict, .ref m_heardAt, .ref m_rightOf, .ref m_rightVerdict, .ref m_rightAt, .ref m_verdictOf, .ref m_sound, .ref m_readSound, .int 0])), (m_rule, .inl (cI, 12, .inl gz_untold))] (rfl) dX13_set_60 ?_
      refine g_iload F 0 dX13_set_61 rfl ?_
      exact g_iret F hA hQ hr () (by first | exact (gi_p (by (simp only [Int32.lt_iff_toInt_lt, Int32.le_iff_toInt_le, ← Int32.toInt_inj, Int32.reduceToInt] at c_6 c_20 ⊢; omega)) rfl)) [] [0] rfl (by decide) rfl rfl dX13_set_63
    · have c_20 := gb_0 c_20
      refine g_ldcw F w_0 dX13_set_23 ?_
      exact g_iret F hA hQ hr () (by first | exact (gi_e (by (simp only [Int32.lt_iff_toInt_lt, Int32.le_iff_toInt_le, ← Int32.toInt_inj, Int32.reduceToInt] at c_6 c_20 ⊢; omega)) rfl)) [] [0] rfl (by decide) rfl rfl dX13_set_26

theorem dX13_change_0 : decode cX13_change 0 = .ok (.aload_n 0, 1) := by decide +kernel
theorem dX13_change_1 : decode cX13_change 1 = .ok (.getfield 362, 3) := by decide +kernel
theorem dX13_change_4 : decode cX13_change 4 = .ok (.istore_n 1, 1) := by decide +kernel
theorem dX13_change_5 : decode cX13_change 5 = .ok (.aload_n 0, 1) := by decide +kernel
theorem dX13_change_6 : decode cX13_change 6 = .ok (.iconst 0, 1) := by decide +kernel
theorem dX13_change_7 : decode cX13_change 7 = .ok (.putfield 362, 3) := by decide +kernel
theorem dX13_change_10 : decode cX13_change 10 = .ok (.iload_n 1, 1) := by decide +kernel
theorem dX13_change_11 : decode cX13_change 11 = .ok (.ireturn, 1) := by decide +kernel
set_option maxHeartbeats 4000000 in
set_option maxRecDepth 100000 in
theorem K_X13_change (l : Launch) (D : va_G) (m0 : Nat) (m_stop : Nat) (m_tape : Nat) (m_rule : Nat) (m_readRule : Nat) (m_teeth : Nat) (m_readTeeth : Nat) (m_sway : Nat) (m_readSway : Nat) (m_isTold : Nat) (m_markKind : Nat) (m_markValue : Nat) (m_marks : Nat) (m_pile : Nat) (m_height : Nat) (m_leftPass : Nat) (m_leftTurn : Nat) (m_leftTooth : Nat) (m_leftX : Nat) (m_kept : Nat) (m_keptWear : Nat) (m_now : Nat) (m_passed : Nat) (m_planTime : Nat) (m_planMany : Nat) (m_planned : Nat) (m_isQuiet : Nat) (m_keptTeeth : Nat) (m_jobRing : Nat) (m_jobSpeed : Nat) (m_jobFeed : Nat) (m_jobTurns : Nat) (m_orderRow : Nat) (m_bestRow : Nat) (m_orderTold : Nat) (m_offerRing : Nat) (m_offerSpeed : Nat) (m_offerFeed : Nat) (m_offerTurns : Nat) (m_heardOffer : Nat) (m_heardVerdict : Nat) (m_heardAt : Nat) (m_rightOf : Nat) (m_rightVerdict : Nat) (m_rightAt : Nat) (m_verdictOf : Nat) (m_sound : Nat) (m_readSound : Nat) (sz : Nat) : Ki l yX13_change wsX13_change 1 40 0 0 D [.ref m0] [(m0, .inr (12, [.ref m_stop, .ref m_tape, .int 0, .int 0, .int 0, .int 0, .int 0, .int 0, .int 0, .int (-1), .ref m_rule, .ref m_readRule, .ref m_teeth, .ref m_readTeeth, .ref m_sway, .ref m_readSway, .ref m_isTold, .ref m_markKind, .ref m_markValue, .ref m_marks, .int 5, .int 0, .ref m_pile, .ref m_height, .ref m_leftPass, .ref m_leftTurn, .ref m_leftTooth, .ref m_leftX, .int 0, .int 0, .ref m_kept, .ref m_keptWear, .int 0, .ref m_now, .ref m_passed, .int 0, .int 0, .int 0, .ref m_planTime, .ref m_planMany, .ref m_planned, .ref m_isQuiet, .int 0, .int 0, .ref m_keptTeeth, .int 0, .int 0, .ref m_jobRing, .ref m_jobSpeed, .ref m_jobFeed, .ref m_jobTurns, .ref m_orderRow, .ref m_bestRow, .int 0, .ref m_orderTold, .int 0, .int 0, .int 0, .int 0, .ref m_offerRing, .ref m_offerSpeed, .ref m_offerFeed, .ref m_offerTurns, .ref m_heardOffer, .ref m_heardVerdict, .ref m_heardAt, .ref m_rightOf, .ref m_rightVerdict, .ref m_rightAt, .ref m_verdictOf, .ref m_sound, .ref m_readSound, .int 0]))] [] sz (fun (r : Int32) (_ : Unit) => r = 0) (fun (_ : Unit) => [(m0, .inr (12, [.ref m_stop, .ref m_tape, .int 0, .int 0, .int 0, .int 0, .int 0, .int 0, .int 0, .int (-1), .ref m_rule, .ref m_readRule, .ref m_teeth, .ref m_readTeeth, .ref m_sway, .ref m_readSway, .ref m_isTold, .ref m_markKind, .ref m_markValue, .ref m_marks, .int 5, .int 0, .ref m_pile, .ref m_height, .ref m_leftPass, .ref m_leftTurn, .ref m_leftTooth, .ref m_leftX, .int 0, .int 0, .ref m_kept, .ref m_keptWear, .int 0, .ref m_now, .ref m_passed, .int 0, .int 0, .int 0, .ref m_planTime, .ref m_planMany, .ref m_planned, .ref m_isQuiet, .int 0, .int 0, .ref m_keptTeeth, .int 0, .int 0, .ref m_jobRing, .ref m_jobSpeed, .ref m_jobFeed, .ref m_jobTurns, .ref m_orderRow, .ref m_bestRow, .int 0, .ref m_orderTold, .int 0, .int 0, .int 0, .int 0, .ref m_offerRing, .ref m_offerSpeed, .ref m_offerFeed, .ref m_offerTurns, .ref m_heardOffer, .ref m_heardVerdict, .ref m_heardAt, .ref m_rightOf, .ref m_rightVerdict, .ref m_rightAt, .ref m_verdictOf, .ref m_sound, .ref m_readSound, .int 0]))]) (fun (_ : Unit) => []) := by
  unfold Ki
  refine g_ofW (cc := cX13_change) (lv := [(0, .ref m0)]) (by decide) rfl (Nat.le_of_ble_eq_true rfl) rfl ?_
  intro p e s m args below meth c A Q hA hQ F hr hnm
  have hts := F.2.2.2.2.1
  have w_0 : (Cond.fieldLink RX13 362 "QuietCutModel" "wear" "I").before args s = true := hts _ (List.mem_of_getElem? (i := 1) rfl)
  have i_X13 : ∀ w ∈ u_ws RX13 TX13 73, w ∈ wsX13_change := fun _ h => List.mem_cons_of_mem _ (List.mem_append_right _ h)
  refine g_aload_n F 0 dX13_change_0 rfl rfl ?_
  refine g_get (C := RX13) (T := TX13) (N := 73) (v := .int 0) F i_X13 0 rfl rfl 28 (by decide) w_0 rfl rfl dX13_change_1 ?_
  refine g_istore_n F [(1, .int 0), (0, .ref m0)] dX13_change_4 rfl (by decide) rfl ?_
  refine g_aload_n F 1 dX13_change_5 rfl rfl ?_
  refine g_iconst F 0 dX13_change_6 (by decide) ?_
  refine g_put (C := RX13) (T := TX13) (N := 73) (ty := .int) (v := .int 0) F i_X13 0 rfl rfl 28 (by decide) w_0 rfl tyX13 tyX13_ok nmX13 rfl (by decide +kernel) rfl rfl (Nat.le_of_ble_eq_true rfl) [(m0, .inr (12, [.ref m_stop, .ref m_tape, .int 0, .int 0, .int 0, .int 0, .int 0, .int 0, .int 0, .int (-1), .ref m_rule, .ref m_readRule, .ref m_teeth, .ref m_readTeeth, .ref m_sway, .ref m_readSway, .ref m_isTold, .ref m_markKind, .ref m_markValue, .ref m_marks, .int 5, .int 0, .ref m_pile, .ref m_height, .ref m_leftPass, .ref m_leftTurn, .ref m_leftTooth, .ref m_leftX, .int 0, .int 0, .ref m_kept, .ref m_keptWear, .int 0, .ref m_now, .ref m_passed, .int 0, .int 0, .int 0, .ref m_planTime, .ref m_planMany, .ref m_planned, .ref m_isQuiet, .int 0, .int 0, .ref m_keptTeeth, .int 0, .int 0, .ref m_jobRing, .ref m_jobSpeed, .ref m_jobFeed, .ref m_jobTurns, .ref m_orderRow, .ref m_bestRow, .int 0, .ref m_orderTold, .int 0, .int 0, .int 0, .int 0, .ref m_offerRing, .ref m_offerSpeed, .ref m_offerFeed, .ref m_offerTurns, .ref m_heardOffer, .ref m_heardVerdict, .ref m_heardAt, .ref m_rightOf, .ref m_rightVerdict, .ref m_rightAt, .ref m_verdictOf, .ref m_sound, .ref m_readSound, .int 0]))] rfl dX13_change_7 ?_
  refine g_iload_n F 0 dX13_change_10 rfl rfl ?_
  exact g_iret F hA hQ hr () (rfl) [0] [] rfl (by decide) rfl rfl dX13_change_11

theorem dX13_passed_0 : decode cX13_passed 0 = .ok (.aload_n 0, 1) := by decide +kernel
theorem dX13_passed_1 : decode cX13_passed 1 = .ok (.getfield 428, 3) := by decide +kernel
theorem dX13_passed_4 : decode cX13_passed 4 = .ok (.ifCond .eq 24, 3) := by decide +kernel
theorem dX13_passed_7 : decode cX13_passed 7 = .ok (.iload_n 1, 1) := by decide +kernel
theorem dX13_passed_8 : decode cX13_passed 8 = .ok (.i2l, 1) := by decide +kernel
theorem dX13_passed_9 : decode cX13_passed 9 = .ok (.lconst 0, 1) := by decide +kernel
theorem dX13_passed_10 : decode cX13_passed 10 = .ok (.ldc2_w 448, 3) := by decide +kernel
theorem dX13_passed_13 : decode cX13_passed 13 = .ok (.invokestatic 61, 3) := by decide +kernel
theorem dX13_passed_16 : decode cX13_passed 16 = .ok (.ifCond .eq 12, 3) := by decide +kernel
theorem dX13_passed_19 : decode cX13_passed 19 = .ok (.aload_n 0, 1) := by decide +kernel
theorem dX13_passed_20 : decode cX13_passed 20 = .ok (.getfield 238, 3) := by decide +kernel
theorem dX13_passed_23 : decode cX13_passed 23 = .ok (.iload_n 1, 1) := by decide +kernel
theorem dX13_passed_24 : decode cX13_passed 24 = .ok (.iaload, 1) := by decide +kernel
theorem dX13_passed_25 : decode cX13_passed 25 = .ok (.goto 6, 3) := by decide +kernel
theorem dX13_passed_28 : decode cX13_passed 28 = .ok (.ldc_w 450, 3) := by decide +kernel
theorem dX13_passed_31 : decode cX13_passed 31 = .ok (.ireturn, 1) := by decide +kernel
set_option maxHeartbeats 4000000 in
set_option maxRecDepth 100000 in
theorem K_X13_passed (l : Launch) (D : va_G) (m0 : Nat) (m_stop : Nat) (m_tape : Nat) (m_rule : Nat) (m_readRule : Nat) (m_teeth : Nat) (m_readTeeth : Nat) (m_sway : Nat) (m_readSway : Nat) (m_isTold : Nat) (m_markKind : Nat) (m_markValue : Nat) (m_marks : Nat) (m_pile : Nat) (m_height : Nat) (m_leftPass : Nat) (m_leftTurn : Nat) (m_leftTooth : Nat) (m_leftX : Nat) (m_kept : Nat) (m_keptWear : Nat) (m_now : Nat) (m_passed : Nat) (m_planTime : Nat) (m_planMany : Nat) (m_planned : Nat) (m_isQuiet : Nat) (m_keptTeeth : Nat) (m_jobRing : Nat) (m_jobSpeed : Nat) (m_jobFeed : Nat) (m_jobTurns : Nat) (m_orderRow : Nat) (m_bestRow : Nat) (m_orderTold : Nat) (m_offerRing : Nat) (m_offerSpeed : Nat) (m_offerFeed : Nat) (m_offerTurns : Nat) (m_heardOffer : Nat) (m_heardVerdict : Nat) (m_heardAt : Nat) (m_rightOf : Nat) (m_rightVerdict : Nat) (m_rightAt : Nat) (m_verdictOf : Nat) (m_sound : Nat) (m_readSound : Nat) (a : Int32) (sz : Nat) : Ki l yX13_passed wsX13_passed 1 40 0 0 D [.ref m0, .int a] [(m0, .inr (12, [.ref m_stop, .ref m_tape, .int 0, .int 0, .int 0, .int 0, .int 0, .int 0, .int 0, .int (-1), .ref m_rule, .ref m_readRule, .ref m_teeth, .ref m_readTeeth, .ref m_sway, .ref m_readSway, .ref m_isTold, .ref m_markKind, .ref m_markValue, .ref m_marks, .int 5, .int 0, .ref m_pile, .ref m_height, .ref m_leftPass, .ref m_leftTurn, .ref m_leftTooth, .ref m_leftX, .int 0, .int 0, .ref m_kept, .ref m_keptWear, .int 0, .ref m_now, .ref m_passed, .int 0, .int 0, .int 0, .ref m_planTime, .ref m_planMany, .ref m_planned, .ref m_isQuiet, .int 0, .int 0, .ref m_keptTeeth, .int 0, .int 0, .ref m_jobRing, .ref m_jobSpeed, .ref m_jobFeed, .ref m_jobTurns, .ref m_orderRow, .ref m_bestRow, .int 0, .ref m_orderTold, .int 0, .int 0, .int 0, .int 0, .ref m_offerRing, .ref m_offerSpeed, .ref m_offerFeed, .ref m_offerTurns, .ref m_heardOffer, .ref m_heardVerdict, .ref m_heardAt, .ref m_rightOf, .ref m_rightVerdict, .ref m_rightAt, .ref m_verdictOf, .ref m_sound, .ref m_readSound, .int 0]))] [] sz (fun (r : Int32) (_ : Unit) => r = (-1000000)) (fun (_ : Unit) => [(m0, .inr (12, [.ref m_stop, .ref m_tape, .int 0, .int 0, .int 0, .int 0, .int 0, .int 0, .int 0, .int (-1), .ref m_rule, .ref m_readRule, .ref m_teeth, .ref m_readTeeth, .ref m_sway, .ref m_readSway, .ref m_isTold, .ref m_markKind, .ref m_markValue, .ref m_marks, .int 5, .int 0, .ref m_pile, .ref m_height, .ref m_leftPass, .ref m_leftTurn, .ref m_leftTooth, .ref m_leftX, .int 0, .int 0, .ref m_kept, .ref m_keptWear, .int 0, .ref m_now, .ref m_passed, .int 0, .int 0, .int 0, .ref m_planTime, .ref m_planMany, .ref m_planned, .ref m_isQuiet, .int 0, .int 0, .ref m_keptTeeth, .int 0, .int 0, .ref m_jobRing, .ref m_jobSpeed, .ref m_jobFeed, .ref m_jobTurns, .ref m_orderRow, .ref m_bestRow, .int 0, .ref m_orderTold, .int 0, .int 0, .int 0, .int 0, .ref m_offerRing, .ref m_offerSpeed, .ref m_offerFeed, .ref m_offerTurns, .ref m_heardOffer, .ref m_heardVerdict, .ref m_heardAt, .ref m_rightOf, .ref m_rightVerdict, .ref m_rightAt, .ref m_verdictOf, .ref m_sound, .ref m_readSound, .int 0]))]) (fun (_ : Unit) => []) := by
  unfold Ki
  refine g_ofW (cc := cX13_passed) (lv := [(0, .ref m0), (1, .int a)]) (by decide) rfl (Nat.le_of_ble_eq_true rfl) rfl ?_
  intro p e s m args below meth c A Q hA hQ F hr hnm
  have hts := F.2.2.2.2.1
  have w_0 : (Cond.fieldLink RX13 428 "QuietCutModel" "hasPassed" "Z").before args s = true := hts _ (List.mem_of_getElem? (i := 1) rfl)
  have i_X13 : ∀ w ∈ u_ws RX13 TX13 73, w ∈ wsX13_passed := fun _ h => List.mem_cons_of_mem _ (List.mem_append_right _ h)
  have w_1 : (Cond.constant RX13 450 (-1000000)).before args s = true := hts _ (List.mem_of_getElem? (i := 4) rfl)
  refine g_aload_n F 0 dX13_passed_0 rfl rfl ?_
  refine g_get (C := RX13) (T := TX13) (N := 73) (v := .int 0) F i_X13 0 rfl rfl 37 (by decide) w_0 rfl rfl dX13_passed_1 ?_
  refine g_if_eq F 28 dX13_passed_4 (by decide) (fun c_4 => ?_) (fun h9 => absurd (by decide) h9) 
  refine g_ldcw F w_1 dX13_passed_28 ?_
  exact g_iret F hA hQ hr () (rfl) [0] [] rfl (by decide) rfl rfl dX13_passed_31

theorem dX13_left_0 : decode cX13_left 0 = .ok (.aload_n 0, 1) := by decide +kernel
theorem dX13_left_1 : decode cX13_left 1 = .ok (.iload_n 1, 1) := by decide +kernel
theorem dX13_left_2 : decode cX13_left 2 = .ok (.iload_n 2, 1) := by decide +kernel
theorem dX13_left_3 : decode cX13_left 3 = .ok (.invokevirtual 374, 3) := by decide +kernel
theorem dX13_left_6 : decode cX13_left 6 = .ok (.ifCond .eq 17, 3) := by decide +kernel
theorem dX13_left_9 : decode cX13_left 9 = .ok (.aload_n 0, 1) := by decide +kernel
theorem dX13_left_10 : decode cX13_left 10 = .ok (.getfield 217, 3) := by decide +kernel
theorem dX13_left_13 : decode cX13_left 13 = .ok (.iload_n 1, 1) := by decide +kernel
theorem dX13_left_14 : decode cX13_left 14 = .ok (.iload_n 2, 1) := by decide +kernel
theorem dX13_left_15 : decode cX13_left 15 = .ok (.invokestatic 378, 3) := by decide +kernel
theorem dX13_left_18 : decode cX13_left 18 = .ok (.iaload, 1) := by decide +kernel
theorem dX13_left_19 : decode cX13_left 19 = .ok (.iconst (-1), 1) := by decide +kernel
theorem dX13_left_20 : decode cX13_left 20 = .ok (.if_icmp .ne 5, 3) := by decide +kernel
theorem dX13_left_23 : decode cX13_left 23 = .ok (.iconst (-1), 1) := by decide +kernel
theorem dX13_left_24 : decode cX13_left 24 = .ok (.ireturn, 1) := by decide +kernel
theorem dX13_left_25 : decode cX13_left 25 = .ok (.iload_n 3, 1) := by decide +kernel
theorem dX13_left_26 : decode cX13_left 26 = .ok (.tableswitch 78 0 3 #[30, 41, 52, 63], 30) := by decide +kernel
theorem dX13_left_56 : decode cX13_left 56 = .ok (.aload_n 0, 1) := by decide +kernel
theorem dX13_left_57 : decode cX13_left 57 = .ok (.getfield 217, 3) := by decide +kernel
theorem dX13_left_60 : decode cX13_left 60 = .ok (.iload_n 1, 1) := by decide +kernel
theorem dX13_left_61 : decode cX13_left 61 = .ok (.iload_n 2, 1) := by decide +kernel
theorem dX13_left_62 : decode cX13_left 62 = .ok (.invokestatic 378, 3) := by decide +kernel
theorem dX13_left_65 : decode cX13_left 65 = .ok (.iaload, 1) := by decide +kernel
theorem dX13_left_66 : decode cX13_left 66 = .ok (.ireturn, 1) := by decide +kernel
theorem dX13_left_67 : decode cX13_left 67 = .ok (.aload_n 0, 1) := by decide +kernel
theorem dX13_left_68 : decode cX13_left 68 = .ok (.getfield 220, 3) := by decide +kernel
theorem dX13_left_71 : decode cX13_left 71 = .ok (.iload_n 1, 1) := by decide +kernel
theorem dX13_left_72 : decode cX13_left 72 = .ok (.iload_n 2, 1) := by decide +kernel
theorem dX13_left_73 : decode cX13_left 73 = .ok (.invokestatic 378, 3) := by decide +kernel
theorem dX13_left_76 : decode cX13_left 76 = .ok (.iaload, 1) := by decide +kernel
theorem dX13_left_77 : decode cX13_left 77 = .ok (.ireturn, 1) := by decide +kernel
theorem dX13_left_78 : decode cX13_left 78 = .ok (.aload_n 0, 1) := by decide +kernel
theorem dX13_left_79 : decode cX13_left 79 = .ok (.getfield 223, 3) := by decide +kernel
theorem dX13_left_82 : decode cX13_left 82 = .ok (.iload_n 1, 1) := by decide +kernel
theorem dX13_left_83 : decode cX13_left 83 = .ok (.iload_n 2, 1) := by decide +kernel
theorem dX13_left_84 : decode cX13_left 84 = .ok (.invokestatic 378, 3) := by decide +kernel
theorem dX13_left_87 : decode cX13_left 87 = .ok (.iaload, 1) := by decide +kernel
theorem dX13_left_88 : decode cX13_left 88 = .ok (.ireturn, 1) := by decide +kernel
theorem dX13_left_89 : decode cX13_left 89 = .ok (.aload_n 0, 1) := by decide +kernel
theorem dX13_left_90 : decode cX13_left 90 = .ok (.getfield 226, 3) := by decide +kernel
theorem dX13_left_93 : decode cX13_left 93 = .ok (.iload_n 1, 1) := by decide +kernel
theorem dX13_left_94 : decode cX13_left 94 = .ok (.iload_n 2, 1) := by decide +kernel
theorem dX13_left_95 : decode cX13_left 95 = .ok (.invokestatic 378, 3) := by decide +kernel
theorem dX13_left_98 : decode cX13_left 98 = .ok (.iaload, 1) := by decide +kernel
theorem dX13_left_99 : decode cX13_left 99 = .ok (.sipush 20000, 3) := by decide +kernel
theorem dX13_left_102 : decode cX13_left 102 = .ok (.iadd, 1) := by decide +kernel
theorem dX13_left_103 : decode cX13_left 103 = .ok (.ireturn, 1) := by decide +kernel
theorem dX13_left_104 : decode cX13_left 104 = .ok (.iconst (-1), 1) := by decide +kernel
theorem dX13_left_105 : decode cX13_left 105 = .ok (.ireturn, 1) := by decide +kernel
set_option maxRecDepth 20000 in
theorem ggX13_left_X13_at : GoodIn wsX13_left wsX13_at := goodIn_r _ [20] rfl (by decide +kernel)
set_option maxRecDepth 20000 in
theorem gX13_left_X13_at : GoodIn wsX13_left (va_wsS RX13 378 yX13_at wsX13_at) := goodIn_app (goodIn_of _ (by decide +kernel)) ggX13_left_X13_at
set_option maxRecDepth 20000 in
theorem ggX13_left_X13_isPlace : GoodIn wsX13_left wsX13_isPlace := goodIn_r _ [9, 10, 11, 12, 13, 8, 14, 15, 16, 17, 21, 22, 23, 24, 25, 26, 27, 28, 29, 30, 31, 32, 33, 34, 35, 36, 37, 38, 39, 40, 41, 42, 43, 44, 45, 46, 47, 48, 49, 50, 51, 52, 53, 54, 55, 56, 57, 58, 59, 60, 61, 62, 63, 64, 65, 66, 67, 68, 69, 70, 71, 72, 73, 74, 75, 76, 77, 78, 79, 80, 81, 82, 83, 84, 85, 86, 87, 88, 89, 90, 91, 92, 93] rfl (by decide +kernel)
set_option maxRecDepth 20000 in
theorem gX13_left_X13_isPlace : GoodIn wsX13_left (wsV RX13 374 RX13 yX13_isPlace wsX13_isPlace) := goodIn_app (goodIn_of _ (by decide +kernel)) ggX13_left_X13_isPlace
set_option maxHeartbeats 4000000 in
set_option maxRecDepth 100000 in
theorem K_X13_left (l : Launch) (D : va_G) (m0 : Nat) (m_stop : Nat) (m_tape : Nat) (m_rule : Nat) (m_readRule : Nat) (m_teeth : Nat) (m_readTeeth : Nat) (m_sway : Nat) (m_readSway : Nat) (m_isTold : Nat) (m_markKind : Nat) (m_markValue : Nat) (m_marks : Nat) (m_pile : Nat) (m_height : Nat) (m_leftPass : Nat) (m_leftTurn : Nat) (m_leftTooth : Nat) (m_leftX : Nat) (m_kept : Nat) (m_keptWear : Nat) (m_now : Nat) (m_passed : Nat) (m_planTime : Nat) (m_planMany : Nat) (m_planned : Nat) (m_isQuiet : Nat) (m_keptTeeth : Nat) (m_jobRing : Nat) (m_jobSpeed : Nat) (m_jobFeed : Nat) (m_jobTurns : Nat) (m_orderRow : Nat) (m_bestRow : Nat) (m_orderTold : Nat) (m_offerRing : Nat) (m_offerSpeed : Nat) (m_offerFeed : Nat) (m_offerTurns : Nat) (m_heardOffer : Nat) (m_heardVerdict : Nat) (m_heardAt : Nat) (m_rightOf : Nat) (m_rightVerdict : Nat) (m_rightAt : Nat) (m_verdictOf : Nat) (m_sound : Nat) (m_readSound : Nat) (cI : ClassId) (a : Int32) (b : Int32) (w : Int32) (sz : Nat) : Ki l yX13_left wsX13_left 4 98 0 0 D [.ref m0, .int a, .int b, .int w] [(m0, .inr (12, [.ref m_stop, .ref m_tape, .int 0, .int 0, .int 0, .int 0, .int 0, .int 0, .int 0, .int (-1), .ref m_rule, .ref m_readRule, .ref m_teeth, .ref m_readTeeth, .ref m_sway, .ref m_readSway, .ref m_isTold, .ref m_markKind, .ref m_markValue, .ref m_marks, .int 5, .int 0, .ref m_pile, .ref m_height, .ref m_leftPass, .ref m_leftTurn, .ref m_leftTooth, .ref m_leftX, .int 0, .int 0, .ref m_kept, .ref m_keptWear, .int 0, .ref m_now, .ref m_passed, .int 0, .int 0, .int 0, .ref m_planTime, .ref m_planMany, .ref m_planned, .ref m_isQuiet, .int 0, .int 0, .ref m_keptTeeth, .int 0, .int 0, .ref m_jobRing, .ref m_jobSpeed, .ref m_jobFeed, .ref m_jobTurns, .ref m_orderRow, .ref m_bestRow, .int 0, .ref m_orderTold, .int 0, .int 0, .int 0, .int 0, .ref m_offerRing, .ref m_offerSpeed, .ref m_offerFeed, .ref m_offerTurns, .ref m_heardOffer, .ref m_heardVerdict, .ref m_heardAt, .ref m_rightOf, .ref m_rightVerdict, .ref m_rightAt, .ref m_verdictOf, .ref m_sound, .ref m_readSound, .int 0])), (m_rule, .inl (cI, 12, .inl gz_untold)), (m_leftPass, .inl (cI, 96, .inl (fun _ => (-1))))] [(cI, .int)] sz (fun (r : Int32) (_ : Unit) => r = (-1)) (fun (_ : Unit) => [(m0, .inr (12, [.ref m_stop, .ref m_tape, .int 0, .int 0, .int 0, .int 0, .int 0, .int 0, .int 0, .int (-1), .ref m_rule, .ref m_readRule, .ref m_teeth, .ref m_readTeeth, .ref m_sway, .ref m_readSway, .ref m_isTold, .ref m_markKind, .ref m_markValue, .ref m_marks, .int 5, .int 0, .ref m_pile, .ref m_height, .ref m_leftPass, .ref m_leftTurn, .ref m_leftTooth, .ref m_leftX, .int 0, .int 0, .ref m_kept, .ref m_keptWear, .int 0, .ref m_now, .ref m_passed, .int 0, .int 0, .int 0, .ref m_planTime, .ref m_planMany, .ref m_planned, .ref m_isQuiet, .int 0, .int 0, .ref m_keptTeeth, .int 0, .int 0, .ref m_jobRing, .ref m_jobSpeed, .ref m_jobFeed, .ref m_jobTurns, .ref m_orderRow, .ref m_bestRow, .int 0, .ref m_orderTold, .int 0, .int 0, .int 0, .int 0, .ref m_offerRing, .ref m_offerSpeed, .ref m_offerFeed, .ref m_offerTurns, .ref m_heardOffer, .ref m_heardVerdict, .ref m_heardAt, .ref m_rightOf, .ref m_rightVerdict, .ref m_rightAt, .ref m_verdictOf, .ref m_sound, .ref m_readSound, .int 0])), (m_rule, .inl (cI, 12, .inl gz_untold)), (m_leftPass, .inl (cI, 96, .inl (fun _ => (-1))))]) (fun (_ : Unit) => [(cI, .int)]) := by
  unfold Ki
  refine g_ofW (cc := cX13_left) (lv := [(0, .ref m0), (1, .int a), (2, .int b), (3, .int w)]) (by decide) rfl (Nat.le_of_ble_eq_true rfl) rfl ?_
  intro p e s m args below meth c A Q hA hQ F hr hnm
  have hts := F.2.2.2.2.1
  have w_0 : (Cond.fieldLink RX13 217 "QuietCutModel" "leftPass" "[I").before args s = true := hts _ (List.mem_of_getElem? (i := 1) rfl)
  have i_X13 : ∀ w ∈ u_ws RX13 TX13 73, w ∈ wsX13_left := fun _ h => List.mem_cons_of_mem _ (List.mem_append_right _ h)
  refine g_aload_n F 0 dX13_left_0 rfl rfl ?_
  refine g_iload_n F 1 dX13_left_1 rfl rfl ?_
  refine g_iload_n F 2 dX13_left_2 rfl rfl ?_
  refine g_callVi (k := 0) (n := 0) (b := m0) (As := [.int a, .int b]) (st := []) (wc := [(m0, .inr (12, [.ref m_stop, .ref m_tape, .int 0, .int 0, .int 0, .int 0, .int 0, .int 0, .int 0, .int (-1), .ref m_rule, .ref m_readRule, .ref m_teeth, .ref m_readTeeth, .ref m_sway, .ref m_readSway, .ref m_isTold, .ref m_markKind, .ref m_markValue, .ref m_marks, .int 5, .int 0, .ref m_pile, .ref m_height, .ref m_leftPass, .ref m_leftTurn, .ref m_leftTooth, .ref m_leftX, .int 0, .int 0, .ref m_kept, .ref m_keptWear, .int 0, .ref m_now, .ref m_passed, .int 0, .int 0, .int 0, .ref m_planTime, .ref m_planMany, .ref m_planned, .ref m_isQuiet, .int 0, .int 0, .ref m_keptTeeth, .int 0, .int 0, .ref m_jobRing, .ref m_jobSpeed, .ref m_jobFeed, .ref m_jobTurns, .ref m_orderRow, .ref m_bestRow, .int 0, .ref m_orderTold, .int 0, .int 0, .int 0, .int 0, .ref m_offerRing, .ref m_offerSpeed, .ref m_offerFeed, .ref m_offerTurns, .ref m_heardOffer, .ref m_heardVerdict, .ref m_heardAt, .ref m_rightOf, .ref m_rightVerdict, .ref m_rightAt, .ref m_verdictOf, .ref m_sound, .ref m_readSound, .int 0])), (m_rule, .inl (cI, 12, .inl gz_untold))]) (wr := [(m_leftPass, .inl (cI, 96, .inl (fun _ => (-1))))]) F [0, 1] [2] [0] rfl rfl (by decide) rfl (by decide) (by decide) rfl (fun sz => K_X13_isPlace l D m0 m_stop m_tape 0 0 0 0 0 0 0 (-1) m_rule m_readRule m_teeth m_readTeeth m_sway m_readSway m_isTold m_markKind m_markValue m_marks 5 0 m_pile m_height m_leftPass m_leftTurn m_leftTooth m_leftX 0 0 m_kept m_keptWear 0 m_now m_passed 0 0 0 m_planTime m_planMany m_planned m_isQuiet 0 0 m_keptTeeth 0 0 m_jobRing m_jobSpeed m_jobFeed m_jobTurns m_orderRow m_bestRow 0 m_orderTold 0 0 0 0 m_offerRing m_offerSpeed m_offerFeed m_offerTurns m_heardOffer m_heardVerdict m_heardAt m_rightOf m_rightVerdict m_rightAt m_verdictOf m_sound m_readSound 0 cI a b  sz) (cwV 2 hts gX13_left_X13_isPlace rfl rfl rfl (by decide +kernel) ⟨Nat.le_of_ble_eq_true rfl, Nat.le_of_ble_eq_true rfl⟩) rfl 0 rfl rfl (Nat.le_of_ble_eq_true rfl) ⟨Nat.le_of_ble_eq_true rfl, Nat.le_of_ble_eq_true rfl⟩ dX13_left_3 (fun r_1 _ hw_2 => ?_)
  have hw_2 : r_1 = (if 0 ≤ a ∧ a < 3 ∧ 0 ≤ b ∧ b < 8 then 1 else 0) := hw_2
  have e_r_1 := hw_2
  show gG p l e (gR 4 0 0 98) s m args below meth c D A 4 Q 0 0 [(m_leftPass, .inl (cI, 96, .inl (fun _ => (-1)))), (m0, .inr (12, [.ref m_stop, .ref m_tape, .int 0, .int 0, .int 0, .int 0, .int 0, .int 0, .int 0, .int (-1), .ref m_rule, .ref m_readRule, .ref m_teeth, .ref m_readTeeth, .ref m_sway, .ref m_readSway, .ref m_isTold, .ref m_markKind, .ref m_markValue, .ref m_marks, .int 5, .int 0, .ref m_pile, .ref m_height, .ref m_leftPass, .ref m_leftTurn, .ref m_leftTooth, .ref m_leftX, .int 0, .int 0, .ref m_kept, .ref m_keptWear, .int 0, .ref m_now, .ref m_passed, .int 0, .int 0, .int 0, .ref m_planTime, .ref m_planMany, .ref m_planned, .ref m_isQuiet, .int 0, .int 0, .ref m_keptTeeth, .int 0, .int 0, .ref m_jobRing, .ref m_jobSpeed, .ref m_jobFeed, .ref m_jobTurns, .ref m_orderRow, .ref m_bestRow, .int 0, .ref m_orderTold, .int 0, .int 0, .int 0, .int 0, .ref m_offerRing, .ref m_offerSpeed, .ref m_offerFeed, .ref m_offerTurns, .ref m_heardOffer, .ref m_heardVerdict, .ref m_heardAt, .ref m_rightOf, .ref m_rightVerdict, .ref m_rightAt, .ref m_verdictOf, .ref m_sound, .ref m_readSound, .int 0])), (m_rule, .inl (cI, 12, .inl gz_untold))] [(cI, .int)] [(0, .ref m0), (1, .int a), (2, .int b), (3, .int w)] 6 [.int r_1]
  refine g_fold (if 0 ≤ a ∧ a < 3 ∧ 0 ≤ b ∧ b < 8 then 1 else 0) e_r_1 ?_
  refine g_if_eq F 23 dX13_left_6 (by decide) (fun c_6 => ?_) (fun c_6 => ?_)
  · have c_6 := gb_0 c_6
    refine g_iconst F (-1) dX13_left_23 (by decide) ?_
    exact g_iret F hA hQ hr () (rfl) [1, 2, 0] [0] rfl (by decide) rfl rfl dX13_left_24
  · have c_6 := gb_n0 c_6
    refine g_aload_n F 0 dX13_left_9 rfl rfl ?_
    refine g_get (C := RX13) (T := TX13) (N := 73) (v := .ref m_leftPass) F i_X13 1 rfl rfl 24 (by decide) w_0 rfl rfl dX13_left_10 ?_
    refine g_iload_n F 1 dX13_left_13 rfl rfl ?_
    refine g_iload_n F 2 dX13_left_14 rfl rfl ?_
    refine g_callSi (k := 0) (n := 0) (As := [.int a, .int b]) (st := [.ref m_leftPass]) (wc := []) (wr := [(m_leftPass, .inl (cI, 96, .inl (fun _ => (-1)))), (m0, .inr (12, [.ref m_stop, .ref m_tape, .int 0, .int 0, .int 0, .int 0, .int 0, .int 0, .int 0, .int (-1), .ref m_rule, .ref m_readRule, .ref m_teeth, .ref m_readTeeth, .ref m_sway, .ref m_readSway, .ref m_isTold, .ref m_markKind, .ref m_markValue, .ref m_marks, .int 5, .int 0, .ref m_pile, .ref m_height, .ref m_leftPass, .ref m_leftTurn, .ref m_leftTooth, .ref m_leftX, .int 0, .int 0, .ref m_kept, .ref m_keptWear, .int 0, .ref m_now, .ref m_passed, .int 0, .int 0, .int 0, .ref m_planTime, .ref m_planMany, .ref m_planned, .ref m_isQuiet, .int 0, .int 0, .ref m_keptTeeth, .int 0, .int 0, .ref m_jobRing, .ref m_jobSpeed, .ref m_jobFeed, .ref m_jobTurns, .ref m_orderRow, .ref m_bestRow, .int 0, .ref m_orderTold, .int 0, .int 0, .int 0, .int 0, .ref m_offerRing, .ref m_offerSpeed, .ref m_offerFeed, .ref m_offerTurns, .ref m_heardOffer, .ref m_heardVerdict, .ref m_heardAt, .ref m_rightOf, .ref m_rightVerdict, .ref m_rightAt, .ref m_verdictOf, .ref m_sound, .ref m_readSound, .int 0])), (m_rule, .inl (cI, 12, .inl gz_untold))]) F [] [0, 1, 2] [] rfl rfl (by decide) rfl (by decide) (by decide) rfl (fun sz => K_X13_at l D a b  sz) (va_cwS 2 hts gX13_left_X13_at rfl rfl rfl (by decide +kernel) ⟨Nat.le_of_ble_eq_true rfl, Nat.le_of_ble_eq_true rfl⟩) rfl (Nat.le_of_ble_eq_true rfl) ⟨Nat.le_of_ble_eq_true rfl, Nat.le_of_ble_eq_true rfl⟩ dX13_left_15 (fun r_6 _ hw_7 => ?_)
    have hw_7 : r_6 = ((16 * a) + b) := hw_7
    have e_r_6 := hw_7
    show gG p l e (gR 4 0 0 98) s m args below meth c D A 4 Q 0 0 [(m_leftPass, .inl (cI, 96, .inl (fun _ => (-1)))), (m0, .inr (12, [.ref m_stop, .ref m_tape, .int 0, .int 0, .int 0, .int 0, .int 0, .int 0, .int 0, .int (-1), .ref m_rule, .ref m_readRule, .ref m_teeth, .ref m_readTeeth, .ref m_sway, .ref m_readSway, .ref m_isTold, .ref m_markKind, .ref m_markValue, .ref m_marks, .int 5, .int 0, .ref m_pile, .ref m_height, .ref m_leftPass, .ref m_leftTurn, .ref m_leftTooth, .ref m_leftX, .int 0, .int 0, .ref m_kept, .ref m_keptWear, .int 0, .ref m_now, .ref m_passed, .int 0, .int 0, .int 0, .ref m_planTime, .ref m_planMany, .ref m_planned, .ref m_isQuiet, .int 0, .int 0, .ref m_keptTeeth, .int 0, .int 0, .ref m_jobRing, .ref m_jobSpeed, .ref m_jobFeed, .ref m_jobTurns, .ref m_orderRow, .ref m_bestRow, .int 0, .ref m_orderTold, .int 0, .int 0, .int 0, .int 0, .ref m_offerRing, .ref m_offerSpeed, .ref m_offerFeed, .ref m_offerTurns, .ref m_heardOffer, .ref m_heardVerdict, .ref m_heardAt, .ref m_rightOf, .ref m_rightVerdict, .ref m_rightAt, .ref m_verdictOf, .ref m_sound, .ref m_readSound, .int 0])), (m_rule, .inl (cI, 12, .inl gz_untold))] [(cI, .int)] [(0, .ref m0), (1, .int a), (2, .int b), (3, .int w)] 18 [.int r_6, .ref m_leftPass]
    refine g_fold ((16 * a) + b) e_r_6 ?_
    obtain ⟨j_, hj_, ej_⟩ := gi_place' c_6
    refine g_iald F 0 0 rfl rfl (by rw [ej_]; exact vp_in_nI hj_ (by decide)) dX13_left_18 ?_
    refine g_fold (-1) (by rfl) ?_
    refine g_iconst F (-1) dX13_left_19 (by decide) ?_
    refine g_icmp_ne F 25 dX13_left_20 (by decide) (fun h9 => absurd (by decide) h9) (fun c_20 => ?_)
    refine g_iconst F (-1) dX13_left_23 (by decide) ?_
    exact g_iret F hA hQ hr () (rfl) [1, 2, 0] [0] rfl (by decide) rfl rfl dX13_left_24

theorem dX13_planned_0 : decode cX13_planned 0 = .ok (.aload_n 0, 1) := by decide +kernel
theorem dX13_planned_1 : decode cX13_planned 1 = .ok (.getfield 478, 3) := by decide +kernel
theorem dX13_planned_4 : decode cX13_planned 4 = .ok (.ifCond .ne 7, 3) := by decide +kernel
theorem dX13_planned_7 : decode cX13_planned 7 = .ok (.iconst (-1), 1) := by decide +kernel
theorem dX13_planned_8 : decode cX13_planned 8 = .ok (.goto 47, 3) := by decide +kernel
theorem dX13_planned_11 : decode cX13_planned 11 = .ok (.iload_n 1, 1) := by decide +kernel
theorem dX13_planned_12 : decode cX13_planned 12 = .ok (.ifCond .ne 10, 3) := by decide +kernel
theorem dX13_planned_15 : decode cX13_planned 15 = .ok (.aload_n 0, 1) := by decide +kernel
theorem dX13_planned_16 : decode cX13_planned 16 = .ok (.getfield 469, 3) := by decide +kernel
theorem dX13_planned_19 : decode cX13_planned 19 = .ok (.goto 36, 3) := by decide +kernel
theorem dX13_planned_22 : decode cX13_planned 22 = .ok (.iload_n 1, 1) := by decide +kernel
theorem dX13_planned_23 : decode cX13_planned 23 = .ok (.i2l, 1) := by decide +kernel
theorem dX13_planned_24 : decode cX13_planned 24 = .ok (.ldc2_w 484, 3) := by decide +kernel
theorem dX13_planned_27 : decode cX13_planned 27 = .ok (.ldc2_w 422, 3) := by decide +kernel
theorem dX13_planned_30 : decode cX13_planned 30 = .ok (.aload_n 0, 1) := by decide +kernel
theorem dX13_planned_31 : decode cX13_planned 31 = .ok (.getfield 469, 3) := by decide +kernel
theorem dX13_planned_34 : decode cX13_planned 34 = .ok (.i2l, 1) := by decide +kernel
theorem dX13_planned_35 : decode cX13_planned 35 = .ok (.ladd, 1) := by decide +kernel
theorem dX13_planned_36 : decode cX13_planned 36 = .ok (.invokestatic 61, 3) := by decide +kernel
theorem dX13_planned_39 : decode cX13_planned 39 = .ok (.ifCond .eq 15, 3) := by decide +kernel
theorem dX13_planned_42 : decode cX13_planned 42 = .ok (.aload_n 0, 1) := by decide +kernel
theorem dX13_planned_43 : decode cX13_planned 43 = .ok (.getfield 247, 3) := by decide +kernel
theorem dX13_planned_46 : decode cX13_planned 46 = .ok (.iload_n 1, 1) := by decide +kernel
theorem dX13_planned_47 : decode cX13_planned 47 = .ok (.bipush 10, 2) := by decide +kernel
theorem dX13_planned_49 : decode cX13_planned 49 = .ok (.isub, 1) := by decide +kernel
theorem dX13_planned_50 : decode cX13_planned 50 = .ok (.iaload, 1) := by decide +kernel
theorem dX13_planned_51 : decode cX13_planned 51 = .ok (.goto 4, 3) := by decide +kernel
theorem dX13_planned_54 : decode cX13_planned 54 = .ok (.iconst (-1), 1) := by decide +kernel
theorem dX13_planned_55 : decode cX13_planned 55 = .ok (.ireturn, 1) := by decide +kernel
set_option maxHeartbeats 4000000 in
set_option maxRecDepth 100000 in
theorem K_X13_planned (l : Launch) (D : va_G) (m0 : Nat) (m_stop : Nat) (m_tape : Nat) (m_rule : Nat) (m_readRule : Nat) (m_teeth : Nat) (m_readTeeth : Nat) (m_sway : Nat) (m_readSway : Nat) (m_isTold : Nat) (m_markKind : Nat) (m_markValue : Nat) (m_marks : Nat) (m_pile : Nat) (m_height : Nat) (m_leftPass : Nat) (m_leftTurn : Nat) (m_leftTooth : Nat) (m_leftX : Nat) (m_kept : Nat) (m_keptWear : Nat) (m_now : Nat) (m_passed : Nat) (m_planTime : Nat) (m_planMany : Nat) (m_planned : Nat) (m_isQuiet : Nat) (m_keptTeeth : Nat) (m_jobRing : Nat) (m_jobSpeed : Nat) (m_jobFeed : Nat) (m_jobTurns : Nat) (m_orderRow : Nat) (m_bestRow : Nat) (m_orderTold : Nat) (m_offerRing : Nat) (m_offerSpeed : Nat) (m_offerFeed : Nat) (m_offerTurns : Nat) (m_heardOffer : Nat) (m_heardVerdict : Nat) (m_heardAt : Nat) (m_rightOf : Nat) (m_rightVerdict : Nat) (m_rightAt : Nat) (m_verdictOf : Nat) (m_sound : Nat) (m_readSound : Nat) (a : Int32) (sz : Nat) : Ki l yX13_planned wsX13_planned 1 40 0 0 D [.ref m0, .int a] [(m0, .inr (12, [.ref m_stop, .ref m_tape, .int 0, .int 0, .int 0, .int 0, .int 0, .int 0, .int 0, .int (-1), .ref m_rule, .ref m_readRule, .ref m_teeth, .ref m_readTeeth, .ref m_sway, .ref m_readSway, .ref m_isTold, .ref m_markKind, .ref m_markValue, .ref m_marks, .int 5, .int 0, .ref m_pile, .ref m_height, .ref m_leftPass, .ref m_leftTurn, .ref m_leftTooth, .ref m_leftX, .int 0, .int 0, .ref m_kept, .ref m_keptWear, .int 0, .ref m_now, .ref m_passed, .int 0, .int 0, .int 0, .ref m_planTime, .ref m_planMany, .ref m_planned, .ref m_isQuiet, .int 0, .int 0, .ref m_keptTeeth, .int 0, .int 0, .ref m_jobRing, .ref m_jobSpeed, .ref m_jobFeed, .ref m_jobTurns, .ref m_orderRow, .ref m_bestRow, .int 0, .ref m_orderTold, .int 0, .int 0, .int 0, .int 0, .ref m_offerRing, .ref m_offerSpeed, .ref m_offerFeed, .ref m_offerTurns, .ref m_heardOffer, .ref m_heardVerdict, .ref m_heardAt, .ref m_rightOf, .ref m_rightVerdict, .ref m_rightAt, .ref m_verdictOf, .ref m_sound, .ref m_readSound, .int 0]))] [] sz (fun (r : Int32) (_ : Unit) => r = (-1)) (fun (_ : Unit) => [(m0, .inr (12, [.ref m_stop, .ref m_tape, .int 0, .int 0, .int 0, .int 0, .int 0, .int 0, .int 0, .int (-1), .ref m_rule, .ref m_readRule, .ref m_teeth, .ref m_readTeeth, .ref m_sway, .ref m_readSway, .ref m_isTold, .ref m_markKind, .ref m_markValue, .ref m_marks, .int 5, .int 0, .ref m_pile, .ref m_height, .ref m_leftPass, .ref m_leftTurn, .ref m_leftTooth, .ref m_leftX, .int 0, .int 0, .ref m_kept, .ref m_keptWear, .int 0, .ref m_now, .ref m_passed, .int 0, .int 0, .int 0, .ref m_planTime, .ref m_planMany, .ref m_planned, .ref m_isQuiet, .int 0, .int 0, .ref m_keptTeeth, .int 0, .int 0, .ref m_jobRing, .ref m_jobSpeed, .ref m_jobFeed, .ref m_jobTurns, .ref m_orderRow, .ref m_bestRow, .int 0, .ref m_orderTold, .int 0, .int 0, .int 0, .int 0, .ref m_offerRing, .ref m_offerSpeed, .ref m_offerFeed, .ref m_offerTurns, .ref m_heardOffer, .ref m_heardVerdict, .ref m_heardAt, .ref m_rightOf, .ref m_rightVerdict, .ref m_rightAt, .ref m_verdictOf, .ref m_sound, .ref m_readSound, .int 0]))]) (fun (_ : Unit) => []) := by
  unfold Ki
  refine g_ofW (cc := cX13_planned) (lv := [(0, .ref m0), (1, .int a)]) (by decide) rfl (Nat.le_of_ble_eq_true rfl) rfl ?_
  intro p e s m args below meth c A Q hA hQ F hr hnm
  have hts := F.2.2.2.2.1
  have w_0 : (Cond.fieldLink RX13 478 "QuietCutModel" "hasPlan" "Z").before args s = true := hts _ (List.mem_of_getElem? (i := 1) rfl)
  have i_X13 : ∀ w ∈ u_ws RX13 TX13 73, w ∈ wsX13_planned := fun _ h => List.mem_cons_of_mem _ (List.mem_append_right _ h)
  refine g_aload_n F 0 dX13_planned_0 rfl rfl ?_
  refine g_get (C := RX13) (T := TX13) (N := 73) (v := .int 0) F i_X13 0 rfl rfl 43 (by decide) w_0 rfl rfl dX13_planned_1 ?_
  refine g_if_ne F 11 dX13_planned_4 (by decide) (fun h9 => absurd (by decide) h9) (fun c_4 => ?_)
  refine g_iconst F (-1) dX13_planned_7 (by decide) ?_
  refine g_goto F 55 dX13_planned_8 (by decide) ?_
  exact g_iret F hA hQ hr () (rfl) [0] [] rfl (by decide) rfl rfl dX13_planned_55

theorem dX13_ordered_0 : decode cX13_ordered 0 = .ok (.aload_n 0, 1) := by decide +kernel
theorem dX13_ordered_1 : decode cX13_ordered 1 = .ok (.getfield 334, 3) := by decide +kernel
theorem dX13_ordered_4 : decode cX13_ordered 4 = .ok (.ifCond .eq 28, 3) := by decide +kernel
theorem dX13_ordered_7 : decode cX13_ordered 7 = .ok (.iload_n 1, 1) := by decide +kernel
theorem dX13_ordered_8 : decode cX13_ordered 8 = .ok (.i2l, 1) := by decide +kernel
theorem dX13_ordered_9 : decode cX13_ordered 9 = .ok (.lconst 0, 1) := by decide +kernel
theorem dX13_ordered_10 : decode cX13_ordered 10 = .ok (.aload_n 0, 1) := by decide +kernel
theorem dX13_ordered_11 : decode cX13_ordered 11 = .ok (.getfield 331, 3) := by decide +kernel
theorem dX13_ordered_14 : decode cX13_ordered 14 = .ok (.i2l, 1) := by decide +kernel
theorem dX13_ordered_15 : decode cX13_ordered 15 = .ok (.lconst 1, 1) := by decide +kernel
theorem dX13_ordered_16 : decode cX13_ordered 16 = .ok (.lsub, 1) := by decide +kernel
theorem dX13_ordered_17 : decode cX13_ordered 17 = .ok (.invokestatic 61, 3) := by decide +kernel
theorem dX13_ordered_20 : decode cX13_ordered 20 = .ok (.ifCond .eq 12, 3) := by decide +kernel
theorem dX13_ordered_23 : decode cX13_ordered 23 = .ok (.aload_n 0, 1) := by decide +kernel
theorem dX13_ordered_24 : decode cX13_ordered 24 = .ok (.getfield 274, 3) := by decide +kernel
theorem dX13_ordered_27 : decode cX13_ordered 27 = .ok (.iload_n 1, 1) := by decide +kernel
theorem dX13_ordered_28 : decode cX13_ordered 28 = .ok (.iaload, 1) := by decide +kernel
theorem dX13_ordered_29 : decode cX13_ordered 29 = .ok (.goto 4, 3) := by decide +kernel
theorem dX13_ordered_32 : decode cX13_ordered 32 = .ok (.iconst (-1), 1) := by decide +kernel
theorem dX13_ordered_33 : decode cX13_ordered 33 = .ok (.ireturn, 1) := by decide +kernel
set_option maxHeartbeats 4000000 in
set_option maxRecDepth 100000 in
theorem K_X13_ordered (l : Launch) (D : va_G) (m0 : Nat) (m_stop : Nat) (m_tape : Nat) (m_rule : Nat) (m_readRule : Nat) (m_teeth : Nat) (m_readTeeth : Nat) (m_sway : Nat) (m_readSway : Nat) (m_isTold : Nat) (m_markKind : Nat) (m_markValue : Nat) (m_marks : Nat) (m_pile : Nat) (m_height : Nat) (m_leftPass : Nat) (m_leftTurn : Nat) (m_leftTooth : Nat) (m_leftX : Nat) (m_kept : Nat) (m_keptWear : Nat) (m_now : Nat) (m_passed : Nat) (m_planTime : Nat) (m_planMany : Nat) (m_planned : Nat) (m_isQuiet : Nat) (m_keptTeeth : Nat) (m_jobRing : Nat) (m_jobSpeed : Nat) (m_jobFeed : Nat) (m_jobTurns : Nat) (m_orderRow : Nat) (m_bestRow : Nat) (m_orderTold : Nat) (m_offerRing : Nat) (m_offerSpeed : Nat) (m_offerFeed : Nat) (m_offerTurns : Nat) (m_heardOffer : Nat) (m_heardVerdict : Nat) (m_heardAt : Nat) (m_rightOf : Nat) (m_rightVerdict : Nat) (m_rightAt : Nat) (m_verdictOf : Nat) (m_sound : Nat) (m_readSound : Nat) (a : Int32) (sz : Nat) : Ki l yX13_ordered wsX13_ordered 1 40 0 0 D [.ref m0, .int a] [(m0, .inr (12, [.ref m_stop, .ref m_tape, .int 0, .int 0, .int 0, .int 0, .int 0, .int 0, .int 0, .int (-1), .ref m_rule, .ref m_readRule, .ref m_teeth, .ref m_readTeeth, .ref m_sway, .ref m_readSway, .ref m_isTold, .ref m_markKind, .ref m_markValue, .ref m_marks, .int 5, .int 0, .ref m_pile, .ref m_height, .ref m_leftPass, .ref m_leftTurn, .ref m_leftTooth, .ref m_leftX, .int 0, .int 0, .ref m_kept, .ref m_keptWear, .int 0, .ref m_now, .ref m_passed, .int 0, .int 0, .int 0, .ref m_planTime, .ref m_planMany, .ref m_planned, .ref m_isQuiet, .int 0, .int 0, .ref m_keptTeeth, .int 0, .int 0, .ref m_jobRing, .ref m_jobSpeed, .ref m_jobFeed, .ref m_jobTurns, .ref m_orderRow, .ref m_bestRow, .int 0, .ref m_orderTold, .int 0, .int 0, .int 0, .int 0, .ref m_offerRing, .ref m_offerSpeed, .ref m_offerFeed, .ref m_offerTurns, .ref m_heardOffer, .ref m_heardVerdict, .ref m_heardAt, .ref m_rightOf, .ref m_rightVerdict, .ref m_rightAt, .ref m_verdictOf, .ref m_sound, .ref m_readSound, .int 0]))] [] sz (fun (r : Int32) (_ : Unit) => r = (-1)) (fun (_ : Unit) => [(m0, .inr (12, [.ref m_stop, .ref m_tape, .int 0, .int 0, .int 0, .int 0, .int 0, .int 0, .int 0, .int (-1), .ref m_rule, .ref m_readRule, .ref m_teeth, .ref m_readTeeth, .ref m_sway, .ref m_readSway, .ref m_isTold, .ref m_markKind, .ref m_markValue, .ref m_marks, .int 5, .int 0, .ref m_pile, .ref m_height, .ref m_leftPass, .ref m_leftTurn, .ref m_leftTooth, .ref m_leftX, .int 0, .int 0, .ref m_kept, .ref m_keptWear, .int 0, .ref m_now, .ref m_passed, .int 0, .int 0, .int 0, .ref m_planTime, .ref m_planMany, .ref m_planned, .ref m_isQuiet, .int 0, .int 0, .ref m_keptTeeth, .int 0, .int 0, .ref m_jobRing, .ref m_jobSpeed, .ref m_jobFeed, .ref m_jobTurns, .ref m_orderRow, .ref m_bestRow, .int 0, .ref m_orderTold, .int 0, .int 0, .int 0, .int 0, .ref m_offerRing, .ref m_offerSpeed, .ref m_offerFeed, .ref m_offerTurns, .ref m_heardOffer, .ref m_heardVerdict, .ref m_heardAt, .ref m_rightOf, .ref m_rightVerdict, .ref m_rightAt, .ref m_verdictOf, .ref m_sound, .ref m_readSound, .int 0]))]) (fun (_ : Unit) => []) := by
  unfold Ki
  refine g_ofW (cc := cX13_ordered) (lv := [(0, .ref m0), (1, .int a)]) (by decide) rfl (Nat.le_of_ble_eq_true rfl) rfl ?_
  intro p e s m args below meth c A Q hA hQ F hr hnm
  have hts := F.2.2.2.2.1
  have w_0 : (Cond.fieldLink RX13 334 "QuietCutModel" "hasOrder" "Z").before args s = true := hts _ (List.mem_of_getElem? (i := 1) rfl)
  have i_X13 : ∀ w ∈ u_ws RX13 TX13 73, w ∈ wsX13_ordered := fun _ h => List.mem_cons_of_mem _ (List.mem_append_right _ h)
  refine g_aload_n F 0 dX13_ordered_0 rfl rfl ?_
  refine g_get (C := RX13) (T := TX13) (N := 73) (v := .int 0) F i_X13 0 rfl rfl 53 (by decide) w_0 rfl rfl dX13_ordered_1 ?_
  refine g_if_eq F 32 dX13_ordered_4 (by decide) (fun c_4 => ?_) (fun h9 => absurd (by decide) h9) 
  refine g_iconst F (-1) dX13_ordered_32 (by decide) ?_
  exact g_iret F hA hQ hr () (rfl) [0] [] rfl (by decide) rfl rfl dX13_ordered_33

theorem dX13_count_0 : decode cX13_count 0 = .ok (.iload_n 1, 1) := by decide +kernel
theorem dX13_count_1 : decode cX13_count 1 = .ok (.tableswitch 87 0 7 #[47, 52, 57, 62, 67, 72, 77, 82], 47) := by decide +kernel
theorem dX13_count_48 : decode cX13_count 48 = .ok (.aload_n 0, 1) := by decide +kernel
theorem dX13_count_49 : decode cX13_count 49 = .ok (.getfield 362, 3) := by decide +kernel
theorem dX13_count_52 : decode cX13_count 52 = .ok (.ireturn, 1) := by decide +kernel
theorem dX13_count_53 : decode cX13_count 53 = .ok (.aload_n 0, 1) := by decide +kernel
theorem dX13_count_54 : decode cX13_count 54 = .ok (.getfield 364, 3) := by decide +kernel
theorem dX13_count_57 : decode cX13_count 57 = .ok (.ireturn, 1) := by decide +kernel
theorem dX13_count_58 : decode cX13_count 58 = .ok (.aload_n 0, 1) := by decide +kernel
theorem dX13_count_59 : decode cX13_count 59 = .ok (.getfield 331, 3) := by decide +kernel
theorem dX13_count_62 : decode cX13_count 62 = .ok (.ireturn, 1) := by decide +kernel
theorem dX13_count_63 : decode cX13_count 63 = .ok (.aload_n 0, 1) := by decide +kernel
theorem dX13_count_64 : decode cX13_count 64 = .ok (.getfield 338, 3) := by decide +kernel
theorem dX13_count_67 : decode cX13_count 67 = .ok (.ireturn, 1) := by decide +kernel
theorem dX13_count_68 : decode cX13_count 68 = .ok (.aload_n 0, 1) := by decide +kernel
theorem dX13_count_69 : decode cX13_count 69 = .ok (.getfield 341, 3) := by decide +kernel
theorem dX13_count_72 : decode cX13_count 72 = .ok (.ireturn, 1) := by decide +kernel
theorem dX13_count_73 : decode cX13_count 73 = .ok (.aload_n 0, 1) := by decide +kernel
theorem dX13_count_74 : decode cX13_count 74 = .ok (.getfield 344, 3) := by decide +kernel
theorem dX13_count_77 : decode cX13_count 77 = .ok (.ireturn, 1) := by decide +kernel
theorem dX13_count_78 : decode cX13_count 78 = .ok (.aload_n 0, 1) := by decide +kernel
theorem dX13_count_79 : decode cX13_count 79 = .ok (.getfield 517, 3) := by decide +kernel
theorem dX13_count_82 : decode cX13_count 82 = .ok (.ireturn, 1) := by decide +kernel
theorem dX13_count_83 : decode cX13_count 83 = .ok (.aload_n 0, 1) := by decide +kernel
theorem dX13_count_84 : decode cX13_count 84 = .ok (.getfield 73, 3) := by decide +kernel
theorem dX13_count_87 : decode cX13_count 87 = .ok (.ireturn, 1) := by decide +kernel
theorem dX13_count_88 : decode cX13_count 88 = .ok (.iconst (-1), 1) := by decide +kernel
theorem dX13_count_89 : decode cX13_count 89 = .ok (.ireturn, 1) := by decide +kernel
set_option maxHeartbeats 4000000 in
set_option maxRecDepth 100000 in
theorem K_X13_count (l : Launch) (D : va_G) (m0 : Nat) (m_stop : Nat) (m_tape : Nat) (m_rule : Nat) (m_readRule : Nat) (m_teeth : Nat) (m_readTeeth : Nat) (m_sway : Nat) (m_readSway : Nat) (m_isTold : Nat) (m_markKind : Nat) (m_markValue : Nat) (m_marks : Nat) (m_pile : Nat) (m_height : Nat) (m_leftPass : Nat) (m_leftTurn : Nat) (m_leftTooth : Nat) (m_leftX : Nat) (m_kept : Nat) (m_keptWear : Nat) (m_now : Nat) (m_passed : Nat) (m_planTime : Nat) (m_planMany : Nat) (m_planned : Nat) (m_isQuiet : Nat) (m_keptTeeth : Nat) (m_jobRing : Nat) (m_jobSpeed : Nat) (m_jobFeed : Nat) (m_jobTurns : Nat) (m_orderRow : Nat) (m_bestRow : Nat) (m_orderTold : Nat) (m_offerRing : Nat) (m_offerSpeed : Nat) (m_offerFeed : Nat) (m_offerTurns : Nat) (m_heardOffer : Nat) (m_heardVerdict : Nat) (m_heardAt : Nat) (m_rightOf : Nat) (m_rightVerdict : Nat) (m_rightAt : Nat) (m_verdictOf : Nat) (m_sound : Nat) (m_readSound : Nat) (a : Int32) (sz : Nat) : Ki l yX13_count wsX13_count 1 40 0 0 D [.ref m0, .int a] [(m0, .inr (12, [.ref m_stop, .ref m_tape, .int 0, .int 0, .int 0, .int 0, .int 0, .int 0, .int 0, .int (-1), .ref m_rule, .ref m_readRule, .ref m_teeth, .ref m_readTeeth, .ref m_sway, .ref m_readSway, .ref m_isTold, .ref m_markKind, .ref m_markValue, .ref m_marks, .int 5, .int 0, .ref m_pile, .ref m_height, .ref m_leftPass, .ref m_leftTurn, .ref m_leftTooth, .ref m_leftX, .int 0, .int 0, .ref m_kept, .ref m_keptWear, .int 0, .ref m_now, .ref m_passed, .int 0, .int 0, .int 0, .ref m_planTime, .ref m_planMany, .ref m_planned, .ref m_isQuiet, .int 0, .int 0, .ref m_keptTeeth, .int 0, .int 0, .ref m_jobRing, .ref m_jobSpeed, .ref m_jobFeed, .ref m_jobTurns, .ref m_orderRow, .ref m_bestRow, .int 0, .ref m_orderTold, .int 0, .int 0, .int 0, .int 0, .ref m_offerRing, .ref m_offerSpeed, .ref m_offerFeed, .ref m_offerTurns, .ref m_heardOffer, .ref m_heardVerdict, .ref m_heardAt, .ref m_rightOf, .ref m_rightVerdict, .ref m_rightAt, .ref m_verdictOf, .ref m_sound, .ref m_readSound, .int 0]))] [] sz (fun (r : Int32) (_ : Unit) => r = (if 0 ≤ a ∧ a ≤ 7 then 0 else (-1))) (fun (_ : Unit) => [(m0, .inr (12, [.ref m_stop, .ref m_tape, .int 0, .int 0, .int 0, .int 0, .int 0, .int 0, .int 0, .int (-1), .ref m_rule, .ref m_readRule, .ref m_teeth, .ref m_readTeeth, .ref m_sway, .ref m_readSway, .ref m_isTold, .ref m_markKind, .ref m_markValue, .ref m_marks, .int 5, .int 0, .ref m_pile, .ref m_height, .ref m_leftPass, .ref m_leftTurn, .ref m_leftTooth, .ref m_leftX, .int 0, .int 0, .ref m_kept, .ref m_keptWear, .int 0, .ref m_now, .ref m_passed, .int 0, .int 0, .int 0, .ref m_planTime, .ref m_planMany, .ref m_planned, .ref m_isQuiet, .int 0, .int 0, .ref m_keptTeeth, .int 0, .int 0, .ref m_jobRing, .ref m_jobSpeed, .ref m_jobFeed, .ref m_jobTurns, .ref m_orderRow, .ref m_bestRow, .int 0, .ref m_orderTold, .int 0, .int 0, .int 0, .int 0, .ref m_offerRing, .ref m_offerSpeed, .ref m_offerFeed, .ref m_offerTurns, .ref m_heardOffer, .ref m_heardVerdict, .ref m_heardAt, .ref m_rightOf, .ref m_rightVerdict, .ref m_rightAt, .ref m_verdictOf, .ref m_sound, .ref m_readSound, .int 0]))]) (fun (_ : Unit) => []) := by
  unfold Ki
  refine g_ofW (cc := cX13_count) (lv := [(0, .ref m0), (1, .int a)]) (by decide) rfl (Nat.le_of_ble_eq_true rfl) rfl ?_
  intro p e s m args below meth c A Q hA hQ F hr hnm
  have hts := F.2.2.2.2.1
  have w_0 : (Cond.fieldLink RX13 362 "QuietCutModel" "wear" "I").before args s = true := hts _ (List.mem_of_getElem? (i := 1) rfl)
  have i_X13 : ∀ w ∈ u_ws RX13 TX13 73, w ∈ wsX13_count := fun _ h => List.mem_cons_of_mem _ (List.mem_append_right _ h)
  have w_1 : (Cond.fieldLink RX13 364 "QuietCutModel" "cuts" "I").before args s = true := hts _ (List.mem_of_getElem? (i := 2) rfl)
  have w_2 : (Cond.fieldLink RX13 331 "QuietCutModel" "jobs" "I").before args s = true := hts _ (List.mem_of_getElem? (i := 3) rfl)
  have w_3 : (Cond.fieldLink RX13 338 "QuietCutModel" "offers" "I").before args s = true := hts _ (List.mem_of_getElem? (i := 4) rfl)
  have w_4 : (Cond.fieldLink RX13 341 "QuietCutModel" "heards" "I").before args s = true := hts _ (List.mem_of_getElem? (i := 5) rfl)
  have w_5 : (Cond.fieldLink RX13 344 "QuietCutModel" "rights" "I").before args s = true := hts _ (List.mem_of_getElem? (i := 6) rfl)
  have w_6 : (Cond.fieldLink RX13 517 "QuietCutModel" "sounds" "I").before args s = true := hts _ (List.mem_of_getElem? (i := 7) rfl)
  have w_7 : (Cond.fieldLink RX13 73 "QuietCutModel" "taped" "I").before args s = true := hts _ (List.mem_of_getElem? (i := 8) rfl)
  refine g_iload_n F 1 dX13_count_0 rfl rfl ?_
  rcases pk_ix a (n := 8) (by decide) with t_1 | t_1 | ⟨j_1, hj_1, t_1⟩
  · refine g_tableOut F 88 dX13_count_1 (by left; simpa only [Int32.lt_iff_toInt_lt, Int32.le_iff_toInt_le, ← Int32.toInt_inj, Int32.reduceToInt] using t_1) (by decide) ?_
    refine g_iconst F (-1) dX13_count_88 (by decide) ?_
    exact g_iret F hA hQ hr () (by first | exact (gi_e (by (simp only [Int32.lt_iff_toInt_lt, Int32.le_iff_toInt_le, ← Int32.toInt_inj, Int32.reduceToInt] at t_1 ⊢; omega)) rfl)) [0] [] rfl (by decide) rfl rfl dX13_count_89
  · have t_1 : 8 ≤ a := t_1
    refine g_tableOut F 88 dX13_count_1 (by right; simp only [Int32.lt_iff_toInt_lt, Int32.le_iff_toInt_le, ← Int32.toInt_inj, Int32.reduceToInt] at t_1; omega) (by decide) ?_
    refine g_iconst F (-1) dX13_count_88 (by decide) ?_
    exact g_iret F hA hQ hr () (by first | exact (gi_e (by (simp only [Int32.lt_iff_toInt_lt, Int32.le_iff_toInt_le, ← Int32.toInt_inj, Int32.reduceToInt] at t_1 ⊢; omega)) rfl)) [0] [] rfl (by decide) rfl rfl dX13_count_89
  · rcases (show j_1 = 0 ∨ j_1 = 1 ∨ j_1 = 2 ∨ j_1 = 3 ∨ j_1 = 4 ∨ j_1 = 5 ∨ j_1 = 6 ∨ j_1 = 7 by omega) with rfl | rfl | rfl | rfl | rfl | rfl | rfl | rfl
    · have t_1 : a = 0 := t_1
      refine g_tableIn F 48 dX13_count_1 (by rw [t_1]; decide) (by rw [t_1]; decide) (by rw [t_1]; rfl) (by decide) ?_
      refine g_aload_n F 0 dX13_count_48 rfl rfl ?_
      refine g_get (C := RX13) (T := TX13) (N := 73) (v := .int 0) F i_X13 0 rfl rfl 28 (by decide) w_0 rfl rfl dX13_count_49 ?_
      exact g_iret F hA hQ hr () (by first | exact (gi_p (by (simp only [Int32.lt_iff_toInt_lt, Int32.le_iff_toInt_le, ← Int32.toInt_inj, Int32.reduceToInt] at t_1 ⊢; omega)) rfl)) [0] [] rfl (by decide) rfl rfl dX13_count_52
    · have t_1 : a = 1 := t_1
      refine g_tableIn F 53 dX13_count_1 (by rw [t_1]; decide) (by rw [t_1]; decide) (by rw [t_1]; rfl) (by decide) ?_
      refine g_aload_n F 0 dX13_count_53 rfl rfl ?_
      refine g_get (C := RX13) (T := TX13) (N := 73) (v := .int 0) F i_X13 0 rfl rfl 29 (by decide) w_1 rfl rfl dX13_count_54 ?_
      exact g_iret F hA hQ hr () (by first | exact (gi_p (by (simp only [Int32.lt_iff_toInt_lt, Int32.le_iff_toInt_le, ← Int32.toInt_inj, Int32.reduceToInt] at t_1 ⊢; omega)) rfl)) [0] [] rfl (by decide) rfl rfl dX13_count_57
    · have t_1 : a = 2 := t_1
      refine g_tableIn F 58 dX13_count_1 (by rw [t_1]; decide) (by rw [t_1]; decide) (by rw [t_1]; rfl) (by decide) ?_
      refine g_aload_n F 0 dX13_count_58 rfl rfl ?_
      refine g_get (C := RX13) (T := TX13) (N := 73) (v := .int 0) F i_X13 0 rfl rfl 45 (by decide) w_2 rfl rfl dX13_count_59 ?_
      exact g_iret F hA hQ hr () (by first | exact (gi_p (by (simp only [Int32.lt_iff_toInt_lt, Int32.le_iff_toInt_le, ← Int32.toInt_inj, Int32.reduceToInt] at t_1 ⊢; omega)) rfl)) [0] [] rfl (by decide) rfl rfl dX13_count_62
    · have t_1 : a = 3 := t_1
      refine g_tableIn F 63 dX13_count_1 (by rw [t_1]; decide) (by rw [t_1]; decide) (by rw [t_1]; rfl) (by decide) ?_
      refine g_aload_n F 0 dX13_count_63 rfl rfl ?_
      refine g_get (C := RX13) (T := TX13) (N := 73) (v := .int 0) F i_X13 0 rfl rfl 55 (by decide) w_3 rfl rfl dX13_count_64 ?_
      exact g_iret F hA hQ hr () (by first | exact (gi_p (by (simp only [Int32.lt_iff_toInt_lt, Int32.le_iff_toInt_le, ← Int32.toInt_inj, Int32.reduceToInt] at t_1 ⊢; omega)) rfl)) [0] [] rfl (by decide) rfl rfl dX13_count_67
    · have t_1 : a = 4 := t_1
      refine g_tableIn F 68 dX13_count_1 (by rw [t_1]; decide) (by rw [t_1]; decide) (by rw [t_1]; rfl) (by decide) ?_
      refine g_aload_n F 0 dX13_count_68 rfl rfl ?_
      refine g_get (C := RX13) (T := TX13) (N := 73) (v := .int 0) F i_X13 0 rfl rfl 56 (by decide) w_4 rfl rfl dX13_count_69 ?_
      exact g_iret F hA hQ hr () (by first | exact (gi_p (by (simp only [Int32.lt_iff_toInt_lt, Int32.le_iff_toInt_le, ← Int32.toInt_inj, Int32.reduceToInt] at t_1 ⊢; omega)) rfl)) [0] [] rfl (by decide) rfl rfl dX13_count_72
    · have t_1 : a = 5 := t_1
      refine g_tableIn F 73 dX13_count_1 (by rw [t_1]; decide) (by rw [t_1]; decide) (by rw [t_1]; rfl) (by decide) ?_
      refine g_aload_n F 0 dX13_count_73 rfl rfl ?_
      refine g_get (C := RX13) (T := TX13) (N := 73) (v := .int 0) F i_X13 0 rfl rfl 57 (by decide) w_5 rfl rfl dX13_count_74 ?_
      exact g_iret F hA hQ hr () (by first | exact (gi_p (by (simp only [Int32.lt_iff_toInt_lt, Int32.le_iff_toInt_le, ← Int32.toInt_inj, Int32.reduceToInt] at t_1 ⊢; omega)) rfl)) [0] [] rfl (by decide) rfl rfl dX13_count_77
    · have t_1 : a = 6 := t_1
      refine g_tableIn F 78 dX13_count_1 (by rw [t_1]; decide) (by rw [t_1]; decide) (by rw [t_1]; rfl) (by decide) ?_
      refine g_aload_n F 0 dX13_count_78 rfl rfl ?_
      refine g_get (C := RX13) (T := TX13) (N := 73) (v := .int 0) F i_X13 0 rfl rfl 72 (by decide) w_6 rfl rfl dX13_count_79 ?_
      exact g_iret F hA hQ hr () (by first | exact (gi_p (by (simp only [Int32.lt_iff_toInt_lt, Int32.le_iff_toInt_le, ← Int32.toInt_inj, Int32.reduceToInt] at t_1 ⊢; omega)) rfl)) [0] [] rfl (by decide) rfl rfl dX13_count_82
    · have t_1 : a = 7 := t_1
      refine g_tableIn F 83 dX13_count_1 (by rw [t_1]; decide) (by rw [t_1]; decide) (by rw [t_1]; rfl) (by decide) ?_
      refine g_aload_n F 0 dX13_count_83 rfl rfl ?_
      refine g_get (C := RX13) (T := TX13) (N := 73) (v := .int 0) F i_X13 0 rfl rfl 2 (by decide) w_7 rfl rfl dX13_count_84 ?_
      exact g_iret F hA hQ hr () (by first | exact (gi_p (by (simp only [Int32.lt_iff_toInt_lt, Int32.le_iff_toInt_le, ← Int32.toInt_inj, Int32.reduceToInt] at t_1 ⊢; omega)) rfl)) [0] [] rfl (by decide) rfl rfl dX13_count_87
