theorem dX13_isPass_0 : decode cX13_isPass 0 = .ok (.aload_n 0, 1) := by decide +kernel
theorem dX13_isPass_1 : decode cX13_isPass 1 = .ok (.iload_n 1, 1) := by decide +kernel
theorem dX13_isPass_2 : decode cX13_isPass 2 = .ok (.invokevirtual 367, 3) := by decide +kernel
theorem dX13_isPass_5 : decode cX13_isPass 5 = .ok (.ifCond .eq 44, 3) := by decide +kernel
theorem dX13_isPass_8 : decode cX13_isPass 8 = .ok (.iload_n 2, 1) := by decide +kernel
theorem dX13_isPass_9 : decode cX13_isPass 9 = .ok (.i2l, 1) := by decide +kernel
theorem dX13_isPass_10 : decode cX13_isPass 10 = .ok (.lconst 1, 1) := by decide +kernel
theorem dX13_isPass_11 : decode cX13_isPass 11 = .ok (.ldc2_w 422, 3) := by decide +kernel
theorem dX13_isPass_14 : decode cX13_isPass 14 = .ok (.invokestatic 61, 3) := by decide +kernel
theorem dX13_isPass_17 : decode cX13_isPass 17 = .ok (.ifCond .eq 32, 3) := by decide +kernel
theorem dX13_isPass_20 : decode cX13_isPass 20 = .ok (.iload_n 3, 1) := by decide +kernel
theorem dX13_isPass_21 : decode cX13_isPass 21 = .ok (.i2l, 1) := by decide +kernel
theorem dX13_isPass_22 : decode cX13_isPass 22 = .ok (.lconst 1, 1) := by decide +kernel
theorem dX13_isPass_23 : decode cX13_isPass 23 = .ok (.ldc2_w 352, 3) := by decide +kernel
theorem dX13_isPass_26 : decode cX13_isPass 26 = .ok (.invokestatic 61, 3) := by decide +kernel
theorem dX13_isPass_29 : decode cX13_isPass 29 = .ok (.ifCond .eq 20, 3) := by decide +kernel
theorem dX13_isPass_32 : decode cX13_isPass 32 = .ok (.iload 4, 2) := by decide +kernel
theorem dX13_isPass_34 : decode cX13_isPass 34 = .ok (.i2l, 1) := by decide +kernel
theorem dX13_isPass_35 : decode cX13_isPass 35 = .ok (.lconst 1, 1) := by decide +kernel
theorem dX13_isPass_36 : decode cX13_isPass 36 = .ok (.ldc2_w 424, 3) := by decide +kernel
theorem dX13_isPass_39 : decode cX13_isPass 39 = .ok (.invokestatic 61, 3) := by decide +kernel
theorem dX13_isPass_42 : decode cX13_isPass 42 = .ok (.ifCond .eq 7, 3) := by decide +kernel
theorem dX13_isPass_45 : decode cX13_isPass 45 = .ok (.iconst 1, 1) := by decide +kernel
theorem dX13_isPass_46 : decode cX13_isPass 46 = .ok (.goto 4, 3) := by decide +kernel
theorem dX13_isPass_49 : decode cX13_isPass 49 = .ok (.iconst 0, 1) := by decide +kernel
theorem dX13_isPass_50 : decode cX13_isPass 50 = .ok (.ireturn, 1) := by decide +kernel
set_option maxRecDepth 20000 in
theorem ggX13_isPass_X13_in : GoodIn wsX13_isPass wsX13_in := goodIn_r _ [12] rfl (by decide +kernel)
set_option maxRecDepth 20000 in
theorem gX13_isPass_X13_in : GoodIn wsX13_isPass (va_wsS RX13 61 yX13_in wsX13_in) := goodIn_app (goodIn_of _ (by decide +kernel)) ggX13_isPass_X13_in
set_option maxRecDepth 20000 in
theorem ggX13_isPass_X13_isRing : GoodIn wsX13_isPass wsX13_isRing := goodIn_r _ [8, 9, 10, 11, 7, 12, 13, 14, 15, 16, 17, 18, 19, 20, 21, 22, 23, 24, 25, 26, 27, 28, 29, 30, 31, 32, 33, 34, 35, 36, 37, 38, 39, 40, 41, 42, 43, 44, 45, 46, 47, 48, 49, 50, 51, 52, 53, 54, 55, 56, 57, 58, 59, 60, 61, 62, 63, 64, 65, 66, 67, 68, 69, 70, 71, 72, 73, 74, 75, 76, 77, 78, 79, 80, 81, 82, 83, 84, 85] rfl (by decide +kernel)
set_option maxRecDepth 20000 in
theorem gX13_isPass_X13_isRing : GoodIn wsX13_isPass (wsV RX13 367 RX13 yX13_isRing wsX13_isRing) := goodIn_app (goodIn_of _ (by decide +kernel)) ggX13_isPass_X13_isRing
set_option maxHeartbeats 4000000 in
set_option maxRecDepth 100000 in
theorem K_X13_isPass (l : Launch) (D : va_G) (m0 : Nat) (m_stop : Nat) (m_tape : Nat) (i_taped : Int32) (i_length : Int32) (i_from : Int32) (i_behind : Int32) (i_hand : Int32) (i_value : Int32) (i_fault : Int32) (i_faultAt : Int32) (m_rule : Nat) (m_readRule : Nat) (m_teeth : Nat) (m_readTeeth : Nat) (m_sway : Nat) (m_readSway : Nat) (m_isTold : Nat) (m_markKind : Nat) (m_markValue : Nat) (m_marks : Nat) (i_sum : Int32) (i_parts : Int32) (m_pile : Nat) (m_height : Nat) (m_leftPass : Nat) (m_leftTurn : Nat) (m_leftTooth : Nat) (m_leftX : Nat) (i_wear : Int32) (i_cuts : Int32) (m_kept : Nat) (m_keptWear : Nat) (i_deep : Int32) (m_now : Nat) (m_passed : Nat) (i_x : Int32) (i_v : Int32) (i_hasPassed : Int32) (m_planTime : Nat) (m_planMany : Nat) (m_planned : Nat) (m_isQuiet : Nat) (i_plans : Int32) (i_hasPlan : Int32) (m_keptTeeth : Nat) (i_jobs : Int32) (i_orderBest : Int32) (m_jobRing : Nat) (m_jobSpeed : Nat) (m_jobFeed : Nat) (m_jobTurns : Nat) (m_orderRow : Nat) (m_bestRow : Nat) (i_hasOrder : Int32) (m_orderTold : Nat) (i_offers : Int32) (i_heards : Int32) (i_rights : Int32) (i_telling : Int32) (m_offerRing : Nat) (m_offerSpeed : Nat) (m_offerFeed : Nat) (m_offerTurns : Nat) (m_heardOffer : Nat) (m_heardVerdict : Nat) (m_heardAt : Nat) (m_rightOf : Nat) (m_rightVerdict : Nat) (m_rightAt : Nat) (m_verdictOf : Nat) (m_sound : Nat) (m_readSound : Nat) (i_sounds : Int32) (cI : ClassId) (a : Int32) (b : Int32) (d : Int32) (h : Int32) (sz : Nat) : Ki l yX13_isPass wsX13_isPass 3 76 0 0 D [.ref m0, .int a, .int b, .int d, .int h] [(m0, .inr (12, [.ref m_stop, .ref m_tape, .int i_taped, .int i_length, .int i_from, .int i_behind, .int i_hand, .int i_value, .int i_fault, .int i_faultAt, .ref m_rule, .ref m_readRule, .ref m_teeth, .ref m_readTeeth, .ref m_sway, .ref m_readSway, .ref m_isTold, .ref m_markKind, .ref m_markValue, .ref m_marks, .int i_sum, .int i_parts, .ref m_pile, .ref m_height, .ref m_leftPass, .ref m_leftTurn, .ref m_leftTooth, .ref m_leftX, .int i_wear, .int i_cuts, .ref m_kept, .ref m_keptWear, .int i_deep, .ref m_now, .ref m_passed, .int i_x, .int i_v, .int i_hasPassed, .ref m_planTime, .ref m_planMany, .ref m_planned, .ref m_isQuiet, .int i_plans, .int i_hasPlan, .ref m_keptTeeth, .int i_jobs, .int i_orderBest, .ref m_jobRing, .ref m_jobSpeed, .ref m_jobFeed, .ref m_jobTurns, .ref m_orderRow, .ref m_bestRow, .int i_hasOrder, .ref m_orderTold, .int i_offers, .int i_heards, .int i_rights, .int i_telling, .ref m_offerRing, .ref m_offerSpeed, .ref m_offerFeed, .ref m_offerTurns, .ref m_heardOffer, .ref m_heardVerdict, .ref m_heardAt, .ref m_rightOf, .ref m_rightVerdict, .ref m_rightAt, .ref m_verdictOf, .ref m_sound, .ref m_readSound, .int i_sounds])), (m_rule, .inl (cI, 12, .inl gz_untold))] [(cI, .int)] sz (fun (r : Int32) (_ : Unit) => r = (if 0 ≤ a ∧ a < 3 ∧ 1 ≤ b ∧ b ≤ 9 ∧ 1 ≤ d ∧ d ≤ 20 ∧ 1 ≤ h ∧ h ≤ 12 then 1 else 0)) (fun (_ : Unit) => [(m0, .inr (12, [.ref m_stop, .ref m_tape, .int i_taped, .int i_length, .int i_from, .int i_behind, .int i_hand, .int i_value, .int i_fault, .int i_faultAt, .ref m_rule, .ref m_readRule, .ref m_teeth, .ref m_readTeeth, .ref m_sway, .ref m_readSway, .ref m_isTold, .ref m_markKind, .ref m_markValue, .ref m_marks, .int i_sum, .int i_parts, .ref m_pile, .ref m_height, .ref m_leftPass, .ref m_leftTurn, .ref m_leftTooth, .ref m_leftX, .int i_wear, .int i_cuts, .ref m_kept, .ref m_keptWear, .int i_deep, .ref m_now, .ref m_passed, .int i_x, .int i_v, .int i_hasPassed, .ref m_planTime, .ref m_planMany, .ref m_planned, .ref m_isQuiet, .int i_plans, .int i_hasPlan, .ref m_keptTeeth, .int i_jobs, .int i_orderBest, .ref m_jobRing, .ref m_jobSpeed, .ref m_jobFeed, .ref m_jobTurns, .ref m_orderRow, .ref m_bestRow, .int i_hasOrder, .ref m_orderTold, .int i_offers, .int i_heards, .int i_rights, .int i_telling, .ref m_offerRing, .ref m_offerSpeed, .ref m_offerFeed, .ref m_offerTurns, .ref m_heardOffer, .ref m_heardVerdict, .ref m_heardAt, .ref m_rightOf, .ref m_rightVerdict, .ref m_rightAt, .ref m_verdictOf, .ref m_sound, .ref m_readSound, .int i_sounds])), (m_rule, .inl (cI, 12, .inl gz_untold))]) (fun (_ : Unit) => [(cI, .int)]) := by
  unfold Ki
  refine g_ofW (cc := cX13_isPass) (lv := [(0, .ref m0), (1, .int a), (2, .int b), (3, .int d), (4, .int h)]) (by decide) rfl (Nat.le_of_ble_eq_true rfl) rfl ?_
  intro p e s m args below meth c A Q hA hQ F hr hnm
  have hts := F.2.2.2.2.1
  have w_0 : (Cond.constantLong RX13 422 (9)).before args s = true := hts _ (List.mem_of_getElem? (i := 1) rfl)
  have w_1 : (Cond.constantLong RX13 352 (20)).before args s = true := hts _ (List.mem_of_getElem? (i := 2) rfl)
  have w_2 : (Cond.constantLong RX13 424 (12)).before args s = true := hts _ (List.mem_of_getElem? (i := 3) rfl)
  refine g_aload_n F 0 dX13_isPass_0 rfl rfl ?_
  refine g_iload_n F 1 dX13_isPass_1 rfl rfl ?_
  refine g_callVi (k := 0) (n := 0) (b := m0) (As := [.int a]) (st := []) (wc := [(m0, .inr (12, [.ref m_stop, .ref m_tape, .int i_taped, .int i_length, .int i_from, .int i_behind, .int i_hand, .int i_value, .int i_fault, .int i_faultAt, .ref m_rule, .ref m_readRule, .ref m_teeth, .ref m_readTeeth, .ref m_sway, .ref m_readSway, .ref m_isTold, .ref m_markKind, .ref m_markValue, .ref m_marks, .int i_sum, .int i_parts, .ref m_pile, .ref m_height, .ref m_leftPass, .ref m_leftTurn, .ref m_leftTooth, .ref m_leftX, .int i_wear, .int i_cuts, .ref m_kept, .ref m_keptWear, .int i_deep, .ref m_now, .ref m_passed, .int i_x, .int i_v, .int i_hasPassed, .ref m_planTime, .ref m_planMany, .ref m_planned, .ref m_isQuiet, .int i_plans, .int i_hasPlan, .ref m_keptTeeth, .int i_jobs, .int i_orderBest, .ref m_jobRing, .ref m_jobSpeed, .ref m_jobFeed, .ref m_jobTurns, .ref m_orderRow, .ref m_bestRow, .int i_hasOrder, .ref m_orderTold, .int i_offers, .int i_heards, .int i_rights, .int i_telling, .ref m_offerRing, .ref m_offerSpeed, .ref m_offerFeed, .ref m_offerTurns, .ref m_heardOffer, .ref m_heardVerdict, .ref m_heardAt, .ref m_rightOf, .ref m_rightVerdict, .ref m_rightAt, .ref m_verdictOf, .ref m_sound, .ref m_readSound, .int i_sounds])), (m_rule, .inl (cI, 12, .inl gz_untold))]) (wr := []) F [0, 1] [] [0] rfl rfl (by decide) rfl (by decide) (by decide) rfl (fun sz => K_X13_isRing l D m0 m_stop m_tape i_taped i_length i_from i_behind i_hand i_value i_fault i_faultAt m_rule m_readRule m_teeth m_readTeeth m_sway m_readSway m_isTold m_markKind m_markValue m_marks i_sum i_parts m_pile m_height m_leftPass m_leftTurn m_leftTooth m_leftX i_wear i_cuts m_kept m_keptWear i_deep m_now m_passed i_x i_v i_hasPassed m_planTime m_planMany m_planned m_isQuiet i_plans i_hasPlan m_keptTeeth i_jobs i_orderBest m_jobRing m_jobSpeed m_jobFeed m_jobTurns m_orderRow m_bestRow i_hasOrder m_orderTold i_offers i_heards i_rights i_telling m_offerRing m_offerSpeed m_offerFeed m_offerTurns m_heardOffer m_heardVerdict m_heardAt m_rightOf m_rightVerdict m_rightAt m_verdictOf m_sound m_readSound i_sounds cI a  sz) (cwV 1 hts gX13_isPass_X13_isRing rfl rfl rfl (by decide +kernel) ⟨Nat.le_of_ble_eq_true rfl, Nat.le_of_ble_eq_true rfl⟩) rfl 0 rfl rfl (Nat.le_of_ble_eq_true rfl) ⟨Nat.le_of_ble_eq_true rfl, Nat.le_of_ble_eq_true rfl⟩ dX13_isPass_2 (fun r_1 _ hw_2 => ?_)
  have hw_2 : r_1 = (if 0 ≤ a ∧ a ≤ 2 then 1 else 0) := hw_2
  have e_r_1 := hw_2
  show gG p l e (gR 3 0 0 76) s m args below meth c D A 5 Q 0 0 [(m0, .inr (12, [.ref m_stop, .ref m_tape, .int i_taped, .int i_length, .int i_from, .int i_behind, .int i_hand, .int i_value, .int i_fault, .int i_faultAt, .ref m_rule, .ref m_readRule, .ref m_teeth, .ref m_readTeeth, .ref m_sway, .ref m_readSway, .ref m_isTold, .ref m_markKind, .ref m_markValue, .ref m_marks, .int i_sum, .int i_parts, .ref m_pile, .ref m_height, .ref m_leftPass, .ref m_leftTurn, .ref m_leftTooth, .ref m_leftX, .int i_wear, .int i_cuts, .ref m_kept, .ref m_keptWear, .int i_deep, .ref m_now, .ref m_passed, .int i_x, .int i_v, .int i_hasPassed, .ref m_planTime, .ref m_planMany, .ref m_planned, .ref m_isQuiet, .int i_plans, .int i_hasPlan, .ref m_keptTeeth, .int i_jobs, .int i_orderBest, .ref m_jobRing, .ref m_jobSpeed, .ref m_jobFeed, .ref m_jobTurns, .ref m_orderRow, .ref m_bestRow, .int i_hasOrder, .ref m_orderTold, .int i_offers, .int i_heards, .int i_rights, .int i_telling, .ref m_offerRing, .ref m_offerSpeed, .ref m_offerFeed, .ref m_offerTurns, .ref m_heardOffer, .ref m_heardVerdict, .ref m_heardAt, .ref m_rightOf, .ref m_rightVerdict, .ref m_rightAt, .ref m_verdictOf, .ref m_sound, .ref m_readSound, .int i_sounds])), (m_rule, .inl (cI, 12, .inl gz_untold))] [(cI, .int)] [(0, .ref m0), (1, .int a), (2, .int b), (3, .int d), (4, .int h)] 5 [.int r_1]
  refine g_fold (if 0 ≤ a ∧ a ≤ 2 then 1 else 0) e_r_1 ?_
  refine g_if_eq F 49 dX13_isPass_5 (by decide) (fun c_5 => ?_) (fun c_5 => ?_)
  · have c_5 := gb_0 c_5
    refine g_iconst F 0 dX13_isPass_49 (by decide) ?_
    exact g_zret F hA hQ hr rfl () (gb_f (by (simp only [Int32.lt_iff_toInt_lt, Int32.le_iff_toInt_le, ← Int32.toInt_inj, Int32.reduceToInt] at c_5 ⊢; omega))) [0, 1] [0] rfl (by decide) rfl rfl dX13_isPass_50
  · have c_5 := gb_n0 c_5
    refine g_iload_n F 2 dX13_isPass_8 rfl rfl ?_
    refine g_i2l F dX13_isPass_9 ?_
    refine g_lconst F 1 dX13_isPass_10 (by decide) ?_
    refine g_ldc2 F w_0 dX13_isPass_11 ?_
    refine g_callSi (k := 0) (n := 0) (As := [.long b.toInt64, .long 1, .long 9]) (st := []) (wc := []) (wr := [(m0, .inr (12, [.ref m_stop, .ref m_tape, .int i_taped, .int i_length, .int i_from, .int i_behind, .int i_hand, .int i_value, .int i_fault, .int i_faultAt, .ref m_rule, .ref m_readRule, .ref m_teeth, .ref m_readTeeth, .ref m_sway, .ref m_readSway, .ref m_isTold, .ref m_markKind, .ref m_markValue, .ref m_marks, .int i_sum, .int i_parts, .ref m_pile, .ref m_height, .ref m_leftPass, .ref m_leftTurn, .ref m_leftTooth, .ref m_leftX, .int i_wear, .int i_cuts, .ref m_kept, .ref m_keptWear, .int i_deep, .ref m_now, .ref m_passed, .int i_x, .int i_v, .int i_hasPassed, .ref m_planTime, .ref m_planMany, .ref m_planned, .ref m_isQuiet, .int i_plans, .int i_hasPlan, .ref m_keptTeeth, .int i_jobs, .int i_orderBest, .ref m_jobRing, .ref m_jobSpeed, .ref m_jobFeed, .ref m_jobTurns, .ref m_orderRow, .ref m_bestRow, .int i_hasOrder, .ref m_orderTold, .int i_offers, .int i_heards, .int i_rights, .int i_telling, .ref m_offerRing, .ref m_offerSpeed, .ref m_offerFeed, .ref m_offerTurns, .ref m_heardOffer, .ref m_heardVerdict, .ref m_heardAt, .ref m_rightOf, .ref m_rightVerdict, .ref m_rightAt, .ref m_verdictOf, .ref m_sound, .ref m_readSound, .int i_sounds])), (m_rule, .inl (cI, 12, .inl gz_untold))]) F [] [0, 1] [] rfl rfl (by decide) rfl (by decide) (by decide) rfl (fun sz => K_X13_in l D b.toInt64 1 9  sz) (va_cwS 3 hts gX13_isPass_X13_in rfl rfl rfl (by decide +kernel) ⟨Nat.le_of_ble_eq_true rfl, Nat.le_of_ble_eq_true rfl⟩) rfl (Nat.le_of_ble_eq_true rfl) ⟨Nat.le_of_ble_eq_true rfl, Nat.le_of_ble_eq_true rfl⟩ dX13_isPass_14 (fun r_6 _ hw_7 => ?_)
    have hw_7 : r_6 = (if 1 ≤ b.toInt64 ∧ b.toInt64 ≤ 9 then 1 else 0) := hw_7
    have e_r_6 := hw_7
    show gG p l e (gR 3 0 0 76) s m args below meth c D A 5 Q 0 0 [(m0, .inr (12, [.ref m_stop, .ref m_tape, .int i_taped, .int i_length, .int i_from, .int i_behind, .int i_hand, .int i_value, .int i_fault, .int i_faultAt, .ref m_rule, .ref m_readRule, .ref m_teeth, .ref m_readTeeth, .ref m_sway, .ref m_readSway, .ref m_isTold, .ref m_markKind, .ref m_markValue, .ref m_marks, .int i_sum, .int i_parts, .ref m_pile, .ref m_height, .ref m_leftPass, .ref m_leftTurn, .ref m_leftTooth, .ref m_leftX, .int i_wear, .int i_cuts, .ref m_kept, .ref m_keptWear, .int i_deep, .ref m_now, .ref m_passed, .int i_x, .int i_v, .int i_hasPassed, .ref m_planTime, .ref m_planMany, .ref m_planned, .ref m_isQuiet, .int i_plans, .int i_hasPlan, .ref m_keptTeeth, .int i_jobs, .int i_orderBest, .ref m_jobRing, .ref m_jobSpeed, .ref m_jobFeed, .ref m_jobTurns, .ref m_orderRow, .ref m_bestRow, .int i_hasOrder, .ref m_orderTold, .int i_offers, .int i_heards, .int i_rights, .int i_telling, .ref m_offerRing, .ref m_offerSpeed, .ref m_offerFeed, .ref m_offerTurns, .ref m_heardOffer, .ref m_heardVerdict, .ref m_heardAt, .ref m_rightOf, .ref m_rightVerdict, .ref m_rightAt, .ref m_verdictOf, .ref m_sound, .ref m_readSound, .int i_sounds])), (m_rule, .inl (cI, 12, .inl gz_untold))] [(cI, .int)] [(0, .ref m0), (1, .int a), (2, .int b), (3, .int d), (4, .int h)] 17 [.int r_6]
    refine g_fold (if 1 ≤ b.toInt64 ∧ b.toInt64 ≤ 9 then 1 else 0) e_r_6 ?_
    refine g_fold (if 1 ≤ b ∧ b ≤ 9 then 1 else 0) (gl_in b 1 9 _ _ (by decide) (by decide)) ?_
    refine g_if_eq F 49 dX13_isPass_17 (by decide) (fun c_17 => ?_) (fun c_17 => ?_)
    · have c_17 := gb_0 c_17
      refine g_iconst F 0 dX13_isPass_49 (by decide) ?_
      exact g_zret F hA hQ hr rfl () (gb_f (by (simp only [Int32.lt_iff_toInt_lt, Int32.le_iff_toInt_le, ← Int32.toInt_inj, Int32.reduceToInt] at c_5 c_17 ⊢; omega))) [0, 1] [0] rfl (by decide) rfl rfl dX13_isPass_50
    · have c_17 := gb_n0 c_17
      refine g_iload_n F 3 dX13_isPass_20 rfl rfl ?_
      refine g_i2l F dX13_isPass_21 ?_
      refine g_lconst F 1 dX13_isPass_22 (by decide) ?_
      refine g_ldc2 F w_1 dX13_isPass_23 ?_
      refine g_callSi (k := 0) (n := 0) (As := [.long d.toInt64, .long 1, .long 20]) (st := []) (wc := []) (wr := [(m0, .inr (12, [.ref m_stop, .ref m_tape, .int i_taped, .int i_length, .int i_from, .int i_behind, .int i_hand, .int i_value, .int i_fault, .int i_faultAt, .ref m_rule, .ref m_readRule, .ref m_teeth, .ref m_readTeeth, .ref m_sway, .ref m_readSway, .ref m_isTold, .ref m_markKind, .ref m_markValue, .ref m_marks, .int i_sum, .int i_parts, .ref m_pile, .ref m_height, .ref m_leftPass, .ref m_leftTurn, .ref m_leftTooth, .ref m_leftX, .int i_wear, .int i_cuts, .ref m_kept, .ref m_keptWear, .int i_deep, .ref m_now, .ref m_passed, .int i_x, .int i_v, .int i_hasPassed, .ref m_planTime, .ref m_planMany, .ref m_planned, .ref m_isQuiet, .int i_plans, .int i_hasPlan, .ref m_keptTeeth, .int i_jobs, .int i_orderBest, .ref m_jobRing, .ref m_jobSpeed, .ref m_jobFeed, .ref m_jobTurns, .ref m_orderRow, .ref m_bestRow, .int i_hasOrder, .ref m_orderTold, .int i_offers, .int i_heards, .int i_rights, .int i_telling, .ref m_offerRing, .ref m_offerSpeed, .ref m_offerFeed, .ref m_offerTurns, .ref m_heardOffer, .ref m_heardVerdict, .ref m_heardAt, .ref m_rightOf, .ref m_rightVerdict, .ref m_rightAt, .ref m_verdictOf, .ref m_sound, .ref m_readSound, .int i_sounds])), (m_rule, .inl (cI, 12, .inl gz_untold))]) F [] [0, 1] [] rfl rfl (by decide) rfl (by decide) (by decide) rfl (fun sz => K_X13_in l D d.toInt64 1 20  sz) (va_cwS 3 hts gX13_isPass_X13_in rfl rfl rfl (by decide +kernel) ⟨Nat.le_of_ble_eq_true rfl, Nat.le_of_ble_eq_true rfl⟩) rfl (Nat.le_of_ble_eq_true rfl) ⟨Nat.le_of_ble_eq_true rfl, Nat.le_of_ble_eq_true rfl⟩ dX13_isPass_26 (fun r_11 _ hw_12 => ?_)
      have hw_12 : r_11 = (if 1 ≤ d.toInt64 ∧ d.toInt64 ≤ 20 then 1 else 0) := hw_12
      have e_r_11 := hw_12
      show gG p l e (gR 3 0 0 76) s m args below meth c D A 5 Q 0 0 [(m0, .inr (12, [.ref m_stop, .ref m_tape, .int i_taped, .int i_length, .int i_from, .int i_behind, .int i_hand, .int i_value, .int i_fault, .int i_faultAt, .ref m_rule, .ref m_readRule, .ref m_teeth, .ref m_readTeeth, .ref m_sway, .ref m_readSway, .ref m_isTold, .ref m_markKind, .ref m_markValue, .ref m_marks, .int i_sum, .int i_parts, .ref m_pile, .ref m_height, .ref m_leftPass, .ref m_leftTurn, .ref m_leftTooth, .ref m_leftX, .int i_wear, .int i_cuts, .ref m_kept, .ref m_keptWear, .int i_deep, .ref m_now, .ref m_passed, .int i_x, .int i_v, .int i_hasPassed, .ref m_planTime, .ref m_planMany, .ref m_planned, .ref m_isQuiet, .int i_plans, .int i_hasPlan, .ref m_keptTeeth, .int i_jobs, .int i_orderBest, .ref m_jobRing, .ref m_jobSpeed, .ref m_jobFeed, .ref m_jobTurns, .ref m_orderRow, .ref m_bestRow, .int i_hasOrder, .ref m_orderTold, .int i_offers, .int i_heards, .int i_rights, .int i_telling, .ref m_offerRing, .ref m_offerSpeed, .ref m_offerFeed, .ref m_offerTurns, .ref m_heardOffer, .ref m_heardVerdict, .ref m_heardAt, .ref m_rightOf, .ref m_rightVerdict, .ref m_rightAt, .ref m_verdictOf, .ref m_sound, .ref m_readSound, .int i_sounds])), (m_rule, .inl (cI, 12, .inl gz_untold))] [(cI, .int)] [(0, .ref m0), (1, .int a), (2, .int b), (3, .int d), (4, .int h)] 29 [.int r_11]
      refine g_fold (if 1 ≤ d.toInt64 ∧ d.toInt64 ≤ 20 then 1 else 0) e_r_11 ?_
      refine g_fold (if 1 ≤ d ∧ d ≤ 20 then 1 else 0) (gl_in d 1 20 _ _ (by decide) (by decide)) ?_
      refine g_if_eq F 49 dX13_isPass_29 (by decide) (fun c_29 => ?_) (fun c_29 => ?_)
      · have c_29 := gb_0 c_29
        refine g_iconst F 0 dX13_isPass_49 (by decide) ?_
        exact g_zret F hA hQ hr rfl () (gb_f (by (simp only [Int32.lt_iff_toInt_lt, Int32.le_iff_toInt_le, ← Int32.toInt_inj, Int32.reduceToInt] at c_5 c_17 c_29 ⊢; omega))) [0, 1] [0] rfl (by decide) rfl rfl dX13_isPass_50
      · have c_29 := gb_n0 c_29
        refine g_iload F 4 dX13_isPass_32 rfl ?_
        refine g_i2l F dX13_isPass_34 ?_
        refine g_lconst F 1 dX13_isPass_35 (by decide) ?_
        refine g_ldc2 F w_2 dX13_isPass_36 ?_
        refine g_callSi (k := 0) (n := 0) (As := [.long h.toInt64, .long 1, .long 12]) (st := []) (wc := []) (wr := [(m0, .inr (12, [.ref m_stop, .ref m_tape, .int i_taped, .int i_length, .int i_from, .int i_behind, .int i_hand, .int i_value, .int i_fault, .int i_faultAt, .ref m_rule, .ref m_readRule, .ref m_teeth, .ref m_readTeeth, .ref m_sway, .ref m_readSway, .ref m_isTold, .ref m_markKind, .ref m_markValue, .ref m_marks, .int i_sum, .int i_parts, .ref m_pile, .ref m_height, .ref m_leftPass, .ref m_leftTurn, .ref m_leftTooth, .ref m_leftX, .int i_wear, .int i_cuts, .ref m_kept, .ref m_keptWear, .int i_deep, .ref m_now, .ref m_passed, .int i_x, .int i_v, .int i_hasPassed, .ref m_planTime, .ref m_planMany, .ref m_planned, .ref m_isQuiet, .int i_plans, .int i_hasPlan, .ref m_keptTeeth, .int i_jobs, .int i_orderBest, .ref m_jobRing, .ref m_jobSpeed, .ref m_jobFeed, .ref m_jobTurns, .ref m_orderRow, .ref m_bestRow, .int i_hasOrder, .ref m_orderTold, .int i_offers, .int i_heards, .int i_rights, .int i_telling, .ref m_offerRing, .ref m_offerSpeed, .ref m_offerFeed, .ref m_offerTurns, .ref m_heardOffer, .ref m_heardVerdict, .ref m_heardAt, .ref m_rightOf, .ref m_rightVerdict, .ref m_rightAt, .ref m_verdictOf, .ref m_sound, .ref m_readSound, .int i_sounds])), (m_rule, .inl (cI, 12, .inl gz_untold))]) F [] [0, 1] [] rfl rfl (by decide) rfl (by decide) (by decide) rfl (fun sz => K_X13_in l D h.toInt64 1 12  sz) (va_cwS 3 hts gX13_isPass_X13_in rfl rfl rfl (by decide +kernel) ⟨Nat.le_of_ble_eq_true rfl, Nat.le_of_ble_eq_true rfl⟩) rfl (Nat.le_of_ble_eq_true rfl) ⟨Nat.le_of_ble_eq_true rfl, Nat.le_of_ble_eq_true rfl⟩ dX13_isPass_39 (fun r_16 _ hw_17 => ?_)
        have hw_17 : r_16 = (if 1 ≤ h.toInt64 ∧ h.toInt64 ≤ 12 then 1 else 0) := hw_17
        have e_r_16 := hw_17
        show gG p l e (gR 3 0 0 76) s m args below meth c D A 5 Q 0 0 [(m0, .inr (12, [.ref m_stop, .ref m_tape, .int i_taped, .int i_length, .int i_from, .int i_behind, .int i_hand, .int i_value, .int i_fault, .int i_faultAt, .ref m_rule, .ref m_readRule, .ref m_teeth, .ref m_readTeeth, .ref m_sway, .ref m_readSway, .ref m_isTold, .ref m_markKind, .ref m_markValue, .ref m_marks, .int i_sum, .int i_parts, .ref m_pile, .ref m_height, .ref m_leftPass, .ref m_leftTurn, .ref m_leftTooth, .ref m_leftX, .int i_wear, .int i_cuts, .ref m_kept, .ref m_keptWear, .int i_deep, .ref m_now, .ref m_passed, .int i_x, .int i_v, .int i_hasPassed, .ref m_planTime, .ref m_planMany, .ref m_planned, .ref m_isQuiet, .int i_plans, .int i_hasPlan, .ref m_keptTeeth, .int i_jobs, .int i_orderBest, .ref m_jobRing, .ref m_jobSpeed, .ref m_jobFeed, .ref m_jobTurns, .ref m_orderRow, .ref m_bestRow, .int i_hasOrder, .ref m_orderTold, .int i_offers, .int i_heards, .int i_rights, .int i_telling, .ref m_offerRing, .ref m_offerSpeed, .ref m_offerFeed, .ref m_offerTurns, .ref m_heardOffer, .ref m_heardVerdict, .ref m_heardAt, .ref m_rightOf, .ref m_rightVerdict, .ref m_rightAt, .ref m_verdictOf, .ref m_sound, .ref m_readSound, .int i_sounds])), (m_rule, .inl (cI, 12, .inl gz_untold))] [(cI, .int)] [(0, .ref m0), (1, .int a), (2, .int b), (3, .int d), (4, .int h)] 42 [.int r_16]
        refine g_fold (if 1 ≤ h.toInt64 ∧ h.toInt64 ≤ 12 then 1 else 0) e_r_16 ?_
        refine g_fold (if 1 ≤ h ∧ h ≤ 12 then 1 else 0) (gl_in h 1 12 _ _ (by decide) (by decide)) ?_
        refine g_if_eq F 49 dX13_isPass_42 (by decide) (fun c_42 => ?_) (fun c_42 => ?_)
        · have c_42 := gb_0 c_42
          refine g_iconst F 0 dX13_isPass_49 (by decide) ?_
          exact g_zret F hA hQ hr rfl () (gb_f (by (simp only [Int32.lt_iff_toInt_lt, Int32.le_iff_toInt_le, ← Int32.toInt_inj, Int32.reduceToInt] at c_5 c_17 c_29 c_42 ⊢; omega))) [0, 1] [0] rfl (by decide) rfl rfl dX13_isPass_50
        · have c_42 := gb_n0 c_42
          refine g_iconst F 1 dX13_isPass_45 (by decide) ?_
          refine g_goto F 50 dX13_isPass_46 (by decide) ?_
          exact g_zret F hA hQ hr rfl () (gb_t (by (simp only [Int32.lt_iff_toInt_lt, Int32.le_iff_toInt_le, ← Int32.toInt_inj, Int32.reduceToInt] at c_5 c_17 c_29 c_42 ⊢; omega))) [0, 1] [0] rfl (by decide) rfl rfl dX13_isPass_50

theorem dX13_isMachine_0 : decode cX13_isMachine 0 = .ok (.iload_n 0, 1) := by decide +kernel
theorem dX13_isMachine_1 : decode cX13_isMachine 1 = .ok (.i2l, 1) := by decide +kernel
theorem dX13_isMachine_2 : decode cX13_isMachine 2 = .ok (.lconst 0, 1) := by decide +kernel
theorem dX13_isMachine_3 : decode cX13_isMachine 3 = .ok (.ldc2_w 426, 3) := by decide +kernel
theorem dX13_isMachine_6 : decode cX13_isMachine 6 = .ok (.invokestatic 61, 3) := by decide +kernel
theorem dX13_isMachine_9 : decode cX13_isMachine 9 = .ok (.ifCond .eq 19, 3) := by decide +kernel
theorem dX13_isMachine_12 : decode cX13_isMachine 12 = .ok (.iload_n 1, 1) := by decide +kernel
theorem dX13_isMachine_13 : decode cX13_isMachine 13 = .ok (.i2l, 1) := by decide +kernel
theorem dX13_isMachine_14 : decode cX13_isMachine 14 = .ok (.lconst 0, 1) := by decide +kernel
theorem dX13_isMachine_15 : decode cX13_isMachine 15 = .ok (.ldc2_w 426, 3) := by decide +kernel
theorem dX13_isMachine_18 : decode cX13_isMachine 18 = .ok (.invokestatic 61, 3) := by decide +kernel
theorem dX13_isMachine_21 : decode cX13_isMachine 21 = .ok (.ifCond .eq 7, 3) := by decide +kernel
theorem dX13_isMachine_24 : decode cX13_isMachine 24 = .ok (.iconst 1, 1) := by decide +kernel
theorem dX13_isMachine_25 : decode cX13_isMachine 25 = .ok (.goto 4, 3) := by decide +kernel
theorem dX13_isMachine_28 : decode cX13_isMachine 28 = .ok (.iconst 0, 1) := by decide +kernel
theorem dX13_isMachine_29 : decode cX13_isMachine 29 = .ok (.ireturn, 1) := by decide +kernel
set_option maxRecDepth 20000 in
theorem ggX13_isMachine_X13_in : GoodIn wsX13_isMachine wsX13_in := goodIn_r _ [5] rfl (by decide +kernel)
set_option maxRecDepth 20000 in
theorem gX13_isMachine_X13_in : GoodIn wsX13_isMachine (va_wsS RX13 61 yX13_in wsX13_in) := goodIn_app (goodIn_of _ (by decide +kernel)) ggX13_isMachine_X13_in
set_option maxHeartbeats 4000000 in
set_option maxRecDepth 100000 in
theorem K_X13_isMachine (l : Launch) (D : va_G) (a : Int32) (b : Int32) (sz : Nat) : Ki l yX13_isMachine wsX13_isMachine 2 55 0 0 D [.int a, .int b] [] [] sz (fun (r : Int32) (_ : Unit) => r = (if 0 ≤ a ∧ a ≤ 300 ∧ 0 ≤ b ∧ b ≤ 300 then 1 else 0)) (fun (_ : Unit) => []) (fun (_ : Unit) => []) := by
  unfold Ki
  refine g_ofW (cc := cX13_isMachine) (lv := [(0, .int a), (1, .int b)]) (by decide) rfl (Nat.le_of_ble_eq_true rfl) rfl ?_
  intro p e s m args below meth c A Q hA hQ F hr hnm
  have hts := F.2.2.2.2.1
  have w_0 : (Cond.constantLong RX13 426 (300)).before args s = true := hts _ (List.mem_of_getElem? (i := 1) rfl)
  refine g_iload_n F 0 dX13_isMachine_0 rfl rfl ?_
  refine g_i2l F dX13_isMachine_1 ?_
  refine g_lconst F 0 dX13_isMachine_2 (by decide) ?_
  refine g_ldc2 F w_0 dX13_isMachine_3 ?_
  refine g_callSi (k := 0) (n := 0) (As := [.long a.toInt64, .long 0, .long 300]) (st := []) (wc := []) (wr := []) F [] [] [] rfl rfl (by decide) rfl (by decide) (by decide) rfl (fun sz => K_X13_in l D a.toInt64 0 300  sz) (va_cwS 3 hts gX13_isMachine_X13_in rfl rfl rfl (by decide +kernel) ⟨Nat.le_of_ble_eq_true rfl, Nat.le_of_ble_eq_true rfl⟩) rfl (Nat.le_of_ble_eq_true rfl) ⟨Nat.le_of_ble_eq_true rfl, Nat.le_of_ble_eq_true rfl⟩ dX13_isMachine_6 (fun r_1 _ hw_2 => ?_)
  have hw_2 : r_1 = (if 0 ≤ a.toInt64 ∧ a.toInt64 ≤ 300 then 1 else 0) := hw_2
  have e_r_1 := hw_2
  show gG p l e (gR 2 0 0 55) s m args below meth c D A 2 Q 0 0 [] [] [(0, .int a), (1, .int b)] 9 [.int r_1]
  refine g_fold (if 0 ≤ a.toInt64 ∧ a.toInt64 ≤ 300 then 1 else 0) e_r_1 ?_
  refine g_fold (if 0 ≤ a ∧ a ≤ 300 then 1 else 0) (gl_in a 0 300 _ _ (by decide) (by decide)) ?_
  refine g_if_eq F 28 dX13_isMachine_9 (by decide) (fun c_9 => ?_) (fun c_9 => ?_)
  · have c_9 := gb_0 c_9
    refine g_iconst F 0 dX13_isMachine_28 (by decide) ?_
    exact g_zret F hA hQ hr rfl () (gb_f (by (simp only [Int32.lt_iff_toInt_lt, Int32.le_iff_toInt_le, ← Int32.toInt_inj, Int32.reduceToInt] at c_9 ⊢; omega))) [] [] rfl (by decide) rfl rfl dX13_isMachine_29
  · have c_9 := gb_n0 c_9
    refine g_iload_n F 1 dX13_isMachine_12 rfl rfl ?_
    refine g_i2l F dX13_isMachine_13 ?_
    refine g_lconst F 0 dX13_isMachine_14 (by decide) ?_
    refine g_ldc2 F w_0 dX13_isMachine_15 ?_
    refine g_callSi (k := 0) (n := 0) (As := [.long b.toInt64, .long 0, .long 300]) (st := []) (wc := []) (wr := []) F [] [] [] rfl rfl (by decide) rfl (by decide) (by decide) rfl (fun sz => K_X13_in l D b.toInt64 0 300  sz) (va_cwS 3 hts gX13_isMachine_X13_in rfl rfl rfl (by decide +kernel) ⟨Nat.le_of_ble_eq_true rfl, Nat.le_of_ble_eq_true rfl⟩) rfl (Nat.le_of_ble_eq_true rfl) ⟨Nat.le_of_ble_eq_true rfl, Nat.le_of_ble_eq_true rfl⟩ dX13_isMachine_18 (fun r_6 _ hw_7 => ?_)
    have hw_7 : r_6 = (if 0 ≤ b.toInt64 ∧ b.toInt64 ≤ 300 then 1 else 0) := hw_7
    have e_r_6 := hw_7
    show gG p l e (gR 2 0 0 55) s m args below meth c D A 2 Q 0 0 [] [] [(0, .int a), (1, .int b)] 21 [.int r_6]
    refine g_fold (if 0 ≤ b.toInt64 ∧ b.toInt64 ≤ 300 then 1 else 0) e_r_6 ?_
    refine g_fold (if 0 ≤ b ∧ b ≤ 300 then 1 else 0) (gl_in b 0 300 _ _ (by decide) (by decide)) ?_
    refine g_if_eq F 28 dX13_isMachine_21 (by decide) (fun c_21 => ?_) (fun c_21 => ?_)
    · have c_21 := gb_0 c_21
      refine g_iconst F 0 dX13_isMachine_28 (by decide) ?_
      exact g_zret F hA hQ hr rfl () (gb_f (by (simp only [Int32.lt_iff_toInt_lt, Int32.le_iff_toInt_le, ← Int32.toInt_inj, Int32.reduceToInt] at c_9 c_21 ⊢; omega))) [] [] rfl (by decide) rfl rfl dX13_isMachine_29
    · have c_21 := gb_n0 c_21
      refine g_iconst F 1 dX13_isMachine_24 (by decide) ?_
      refine g_goto F 29 dX13_isMachine_25 (by decide) ?_
      exact g_zret F hA hQ hr rfl () (gb_t (by (simp only [Int32.lt_iff_toInt_lt, Int32.le_iff_toInt_le, ← Int32.toInt_inj, Int32.reduceToInt] at c_9 c_21 ⊢; omega))) [] [] rfl (by decide) rfl rfl dX13_isMachine_29

theorem dX13_job_0 : decode cX13_job 0 = .ok (.aload_n 0, 1) := by decide +kernel
theorem dX13_job_1 : decode cX13_job 1 = .ok (.iload_n 1, 1) := by decide +kernel
theorem dX13_job_2 : decode cX13_job 2 = .ok (.iload_n 2, 1) := by decide +kernel
theorem dX13_job_3 : decode cX13_job 3 = .ok (.iload_n 3, 1) := by decide +kernel
theorem dX13_job_4 : decode cX13_job 4 = .ok (.iload 4, 2) := by decide +kernel
theorem dX13_job_6 : decode cX13_job 6 = .ok (.invokevirtual 431, 3) := by decide +kernel
theorem dX13_job_9 : decode cX13_job 9 = .ok (.ifCond .ne 6, 3) := by decide +kernel
theorem dX13_job_12 : decode cX13_job 12 = .ok (.bipush (-2), 2) := by decide +kernel
theorem dX13_job_14 : decode cX13_job 14 = .ok (.ireturn, 1) := by decide +kernel
theorem dX13_job_15 : decode cX13_job 15 = .ok (.aload_n 0, 1) := by decide +kernel
theorem dX13_job_16 : decode cX13_job 16 = .ok (.getfield 331, 3) := by decide +kernel
theorem dX13_job_19 : decode cX13_job 19 = .ok (.iconst 5, 1) := by decide +kernel
theorem dX13_job_20 : decode cX13_job 20 = .ok (.if_icmp .ne 6, 3) := by decide +kernel
theorem dX13_job_23 : decode cX13_job 23 = .ok (.bipush (-3), 2) := by decide +kernel
theorem dX13_job_25 : decode cX13_job 25 = .ok (.ireturn, 1) := by decide +kernel
theorem dX13_job_26 : decode cX13_job 26 = .ok (.aload_n 0, 1) := by decide +kernel
theorem dX13_job_27 : decode cX13_job 27 = .ok (.getfield 256, 3) := by decide +kernel
theorem dX13_job_30 : decode cX13_job 30 = .ok (.aload_n 0, 1) := by decide +kernel
theorem dX13_job_31 : decode cX13_job 31 = .ok (.getfield 331, 3) := by decide +kernel
theorem dX13_job_34 : decode cX13_job 34 = .ok (.iload_n 1, 1) := by decide +kernel
theorem dX13_job_35 : decode cX13_job 35 = .ok (.iastore, 1) := by decide +kernel
theorem dX13_job_36 : decode cX13_job 36 = .ok (.aload_n 0, 1) := by decide +kernel
theorem dX13_job_37 : decode cX13_job 37 = .ok (.getfield 259, 3) := by decide +kernel
theorem dX13_job_40 : decode cX13_job 40 = .ok (.aload_n 0, 1) := by decide +kernel
theorem dX13_job_41 : decode cX13_job 41 = .ok (.getfield 331, 3) := by decide +kernel
theorem dX13_job_44 : decode cX13_job 44 = .ok (.iload_n 2, 1) := by decide +kernel
theorem dX13_job_45 : decode cX13_job 45 = .ok (.iastore, 1) := by decide +kernel
theorem dX13_job_46 : decode cX13_job 46 = .ok (.aload_n 0, 1) := by decide +kernel
theorem dX13_job_47 : decode cX13_job 47 = .ok (.getfield 262, 3) := by decide +kernel
theorem dX13_job_50 : decode cX13_job 50 = .ok (.aload_n 0, 1) := by decide +kernel
theorem dX13_job_51 : decode cX13_job 51 = .ok (.getfield 331, 3) := by decide +kernel
theorem dX13_job_54 : decode cX13_job 54 = .ok (.iload_n 3, 1) := by decide +kernel
theorem dX13_job_55 : decode cX13_job 55 = .ok (.iastore, 1) := by decide +kernel
theorem dX13_job_56 : decode cX13_job 56 = .ok (.aload_n 0, 1) := by decide +kernel
theorem dX13_job_57 : decode cX13_job 57 = .ok (.getfield 265, 3) := by decide +kernel
theorem dX13_job_60 : decode cX13_job 60 = .ok (.aload_n 0, 1) := by decide +kernel
theorem dX13_job_61 : decode cX13_job 61 = .ok (.getfield 331, 3) := by decide +kernel
theorem dX13_job_64 : decode cX13_job 64 = .ok (.iload 4, 2) := by decide +kernel
theorem dX13_job_66 : decode cX13_job 66 = .ok (.iastore, 1) := by decide +kernel
theorem dX13_job_67 : decode cX13_job 67 = .ok (.aload_n 0, 1) := by decide +kernel
theorem dX13_job_68 : decode cX13_job 68 = .ok (.dup, 1) := by decide +kernel
theorem dX13_job_69 : decode cX13_job 69 = .ok (.getfield 331, 3) := by decide +kernel
theorem dX13_job_72 : decode cX13_job 72 = .ok (.iconst 1, 1) := by decide +kernel
theorem dX13_job_73 : decode cX13_job 73 = .ok (.iadd, 1) := by decide +kernel
theorem dX13_job_74 : decode cX13_job 74 = .ok (.putfield 331, 3) := by decide +kernel
theorem dX13_job_77 : decode cX13_job 77 = .ok (.aload_n 0, 1) := by decide +kernel
theorem dX13_job_78 : decode cX13_job 78 = .ok (.iconst 0, 1) := by decide +kernel
theorem dX13_job_79 : decode cX13_job 79 = .ok (.putfield 334, 3) := by decide +kernel
theorem dX13_job_82 : decode cX13_job 82 = .ok (.aload_n 0, 1) := by decide +kernel
theorem dX13_job_83 : decode cX13_job 83 = .ok (.getfield 331, 3) := by decide +kernel
theorem dX13_job_86 : decode cX13_job 86 = .ok (.iconst 1, 1) := by decide +kernel
theorem dX13_job_87 : decode cX13_job 87 = .ok (.isub, 1) := by decide +kernel
theorem dX13_job_88 : decode cX13_job 88 = .ok (.ireturn, 1) := by decide +kernel
set_option maxRecDepth 20000 in
theorem ggX13_job_X13_isPass : GoodIn wsX13_job wsX13_isPass := goodIn_r _ [11, 12, 13, 14, 15, 16, 17, 10, 18, 19, 20, 21, 22, 23, 24, 25, 26, 27, 28, 29, 30, 31, 32, 33, 34, 35, 36, 37, 38, 39, 40, 41, 42, 43, 44, 45, 46, 47, 48, 49, 50, 51, 52, 53, 54, 55, 56, 57, 58, 59, 60, 61, 62, 63, 64, 65, 66, 67, 68, 69, 70, 71, 72, 73, 74, 75, 76, 77, 78, 79, 80, 81, 82, 83, 84, 85, 86, 87, 88, 89, 90, 91, 92, 93, 94, 95] rfl (by decide +kernel)
set_option maxRecDepth 20000 in
theorem gX13_job_X13_isPass : GoodIn wsX13_job (wsV RX13 431 RX13 yX13_isPass wsX13_isPass) := goodIn_app (goodIn_of _ (by decide +kernel)) ggX13_job_X13_isPass
set_option maxHeartbeats 4000000 in
set_option maxRecDepth 100000 in
theorem K_X13_job (l : Launch) (D : va_G) (m0 : Nat) (m_stop : Nat) (m_tape : Nat) (m_rule : Nat) (m_readRule : Nat) (m_teeth : Nat) (m_readTeeth : Nat) (m_sway : Nat) (m_readSway : Nat) (m_isTold : Nat) (m_markKind : Nat) (m_markValue : Nat) (m_marks : Nat) (m_pile : Nat) (m_height : Nat) (m_leftPass : Nat) (m_leftTurn : Nat) (m_leftTooth : Nat) (m_leftX : Nat) (m_kept : Nat) (m_keptWear : Nat) (m_now : Nat) (m_passed : Nat) (m_planTime : Nat) (m_planMany : Nat) (m_planned : Nat) (m_isQuiet : Nat) (m_keptTeeth : Nat) (m_jobRing : Nat) (m_jobSpeed : Nat) (m_jobFeed : Nat) (m_jobTurns : Nat) (m_orderRow : Nat) (m_bestRow : Nat) (m_orderTold : Nat) (m_offerRing : Nat) (m_offerSpeed : Nat) (m_offerFeed : Nat) (m_offerTurns : Nat) (m_heardOffer : Nat) (m_heardVerdict : Nat) (m_heardAt : Nat) (m_rightOf : Nat) (m_rightVerdict : Nat) (m_rightAt : Nat) (m_verdictOf : Nat) (m_sound : Nat) (m_readSound : Nat) (cI : ClassId) (a : Int32) (b : Int32) (d : Int32) (h : Int32) (sz : Nat) : Ki l yX13_job wsX13_job 4 100 0 0 D [.ref m0, .int a, .int b, .int d, .int h] [(m0, .inr (12, [.ref m_stop, .ref m_tape, .int 0, .int 0, .int 0, .int 0, .int 0, .int 0, .int 0, .int (-1), .ref m_rule, .ref m_readRule, .ref m_teeth, .ref m_readTeeth, .ref m_sway, .ref m_readSway, .ref m_isTold, .ref m_markKind, .ref m_markValue, .ref m_marks, .int 5, .int 0, .ref m_pile, .ref m_height, .ref m_leftPass, .ref m_leftTurn, .ref m_leftTooth, .ref m_leftX, .int 0, .int 0, .ref m_kept, .ref m_keptWear, .int 0, .ref m_now, .ref m_passed, .int 0, .int 0, .int 0, .ref m_planTime, .ref m_planMany, .ref m_planned, .ref m_isQuiet, .int 0, .int 0, .ref m_keptTeeth, .int 0, .int 0, .ref m_jobRing, .ref m_jobSpeed, .ref m_jobFeed, .ref m_jobTurns, .ref m_orderRow, .ref m_bestRow, .int 0, .ref m_orderTold, .int 0, .int 0, .int 0, .int 0, .ref m_offerRing, .ref m_offerSpeed, .ref m_offerFeed, .ref m_offerTurns, .ref m_heardOffer, .ref m_heardVerdict, .ref m_heardAt, .ref m_rightOf, .ref m_rightVerdict, .ref m_rightAt, .ref m_verdictOf, .ref m_sound, .ref m_readSound, .int 0])), (m_rule, .inl (cI, 12, .inl gz_untold)), (m_jobRing, .inl (cI, 5, .inl (fun _ => 0))), (m_jobSpeed, .inl (cI, 5, .inl (fun _ => 0))), (m_jobFeed, .inl (cI, 5, .inl (fun _ => 0))), (m_jobTurns, .inl (cI, 5, .inl (fun _ => 0)))] [(cI, .int)] sz (fun (r : Int32) (_ : Unit) => r = (if 0 ≤ a ∧ a < 3 ∧ 1 ≤ b ∧ b ≤ 9 ∧ 1 ≤ d ∧ d ≤ 20 ∧ 1 ≤ h ∧ h ≤ 12 then 0 else (-2))) (fun (_ : Unit) => []) (fun (_ : Unit) => [(cI, .int)]) := by
  unfold Ki
  refine g_ofW (cc := cX13_job) (lv := [(0, .ref m0), (1, .int a), (2, .int b), (3, .int d), (4, .int h)]) (by decide) rfl (Nat.le_of_ble_eq_true rfl) rfl ?_
  intro p e s m args below meth c A Q hA hQ F hr hnm
  have hts := F.2.2.2.2.1
  have w_0 : (Cond.fieldLink RX13 331 "QuietCutModel" "jobs" "I").before args s = true := hts _ (List.mem_of_getElem? (i := 1) rfl)
  have i_X13 : ∀ w ∈ u_ws RX13 TX13 73, w ∈ wsX13_job := fun _ h => List.mem_cons_of_mem _ (List.mem_append_right _ h)
  have w_1 : (Cond.fieldLink RX13 256 "QuietCutModel" "jobRing" "[I").before args s = true := hts _ (List.mem_of_getElem? (i := 2) rfl)
  have w_2 : (Cond.fieldLink RX13 259 "QuietCutModel" "jobSpeed" "[I").before args s = true := hts _ (List.mem_of_getElem? (i := 3) rfl)
  have w_3 : (Cond.fieldLink RX13 262 "QuietCutModel" "jobFeed" "[I").before args s = true := hts _ (List.mem_of_getElem? (i := 4) rfl)
  have w_4 : (Cond.fieldLink RX13 265 "QuietCutModel" "jobTurns" "[I").before args s = true := hts _ (List.mem_of_getElem? (i := 5) rfl)
  have w_5 : (Cond.fieldLink RX13 334 "QuietCutModel" "hasOrder" "Z").before args s = true := hts _ (List.mem_of_getElem? (i := 6) rfl)
  refine g_aload_n F 0 dX13_job_0 rfl rfl ?_
  refine g_iload_n F 1 dX13_job_1 rfl rfl ?_
  refine g_iload_n F 2 dX13_job_2 rfl rfl ?_
  refine g_iload_n F 3 dX13_job_3 rfl rfl ?_
  refine g_iload F 4 dX13_job_4 rfl ?_
  refine g_callVi (k := 0) (n := 0) (b := m0) (As := [.int a, .int b, .int d, .int h]) (st := []) (wc := [(m0, .inr (12, [.ref m_stop, .ref m_tape, .int 0, .int 0, .int 0, .int 0, .int 0, .int 0, .int 0, .int (-1), .ref m_rule, .ref m_readRule, .ref m_teeth, .ref m_readTeeth, .ref m_sway, .ref m_readSway, .ref m_isTold, .ref m_markKind, .ref m_markValue, .ref m_marks, .int 5, .int 0, .ref m_pile, .ref m_height, .ref m_leftPass, .ref m_leftTurn, .ref m_leftTooth, .ref m_leftX, .int 0, .int 0, .ref m_kept, .ref m_keptWear, .int 0, .ref m_now, .ref m_passed, .int 0, .int 0, .int 0, .ref m_planTime, .ref m_planMany, .ref m_planned, .ref m_isQuiet, .int 0, .int 0, .ref m_keptTeeth, .int 0, .int 0, .ref m_jobRing, .ref m_jobSpeed, .ref m_jobFeed, .ref m_jobTurns, .ref m_orderRow, .ref m_bestRow, .int 0, .ref m_orderTold, .int 0, .int 0, .int 0, .int 0, .ref m_offerRing, .ref m_offerSpeed, .ref m_offerFeed, .ref m_offerTurns, .ref m_heardOffer, .ref m_heardVerdict, .ref m_heardAt, .ref m_rightOf, .ref m_rightVerdict, .ref m_rightAt, .ref m_verdictOf, .ref m_sound, .ref m_readSound, .int 0])), (m_rule, .inl (cI, 12, .inl gz_untold))]) (wr := [(m_jobRing, .inl (cI, 5, .inl (fun _ => 0))), (m_jobSpeed, .inl (cI, 5, .inl (fun _ => 0))), (m_jobFeed, .inl (cI, 5, .inl (fun _ => 0))), (m_jobTurns, .inl (cI, 5, .inl (fun _ => 0)))]) F [0, 1] [2, 3, 4, 5] [0] rfl rfl (by decide) rfl (by decide) (by decide) rfl (fun sz => K_X13_isPass l D m0 m_stop m_tape 0 0 0 0 0 0 0 (-1) m_rule m_readRule m_teeth m_readTeeth m_sway m_readSway m_isTold m_markKind m_markValue m_marks 5 0 m_pile m_height m_leftPass m_leftTurn m_leftTooth m_leftX 0 0 m_kept m_keptWear 0 m_now m_passed 0 0 0 m_planTime m_planMany m_planned m_isQuiet 0 0 m_keptTeeth 0 0 m_jobRing m_jobSpeed m_jobFeed m_jobTurns m_orderRow m_bestRow 0 m_orderTold 0 0 0 0 m_offerRing m_offerSpeed m_offerFeed m_offerTurns m_heardOffer m_heardVerdict m_heardAt m_rightOf m_rightVerdict m_rightAt m_verdictOf m_sound m_readSound 0 cI a b d h  sz) (cwV 4 hts gX13_job_X13_isPass rfl rfl rfl (by decide +kernel) ⟨Nat.le_of_ble_eq_true rfl, Nat.le_of_ble_eq_true rfl⟩) rfl 0 rfl rfl (Nat.le_of_ble_eq_true rfl) ⟨Nat.le_of_ble_eq_true rfl, Nat.le_of_ble_eq_true rfl⟩ dX13_job_6 (fun r_1 _ hw_2 => ?_)
  have hw_2 : r_1 = (if 0 ≤ a ∧ a < 3 ∧ 1 ≤ b ∧ b ≤ 9 ∧ 1 ≤ d ∧ d ≤ 20 ∧ 1 ≤ h ∧ h ≤ 12 then 1 else 0) := hw_2
  have e_r_1 := hw_2
  show gG p l e (gR 4 0 0 100) s m args below meth c D A 5 Q 0 0 [(m_jobRing, .inl (cI, 5, .inl (fun _ => 0))), (m_jobSpeed, .inl (cI, 5, .inl (fun _ => 0))), (m_jobFeed, .inl (cI, 5, .inl (fun _ => 0))), (m_jobTurns, .inl (cI, 5, .inl (fun _ => 0))), (m0, .inr (12, [.ref m_stop, .ref m_tape, .int 0, .int 0, .int 0, .int 0, .int 0, .int 0, .int 0, .int (-1), .ref m_rule, .ref m_readRule, .ref m_teeth, .ref m_readTeeth, .ref m_sway, .ref m_readSway, .ref m_isTold, .ref m_markKind, .ref m_markValue, .ref m_marks, .int 5, .int 0, .ref m_pile, .ref m_height, .ref m_leftPass, .ref m_leftTurn, .ref m_leftTooth, .ref m_leftX, .int 0, .int 0, .ref m_kept, .ref m_keptWear, .int 0, .ref m_now, .ref m_passed, .int 0, .int 0, .int 0, .ref m_planTime, .ref m_planMany, .ref m_planned, .ref m_isQuiet, .int 0, .int 0, .ref m_keptTeeth, .int 0, .int 0, .ref m_jobRing, .ref m_jobSpeed, .ref m_jobFeed, .ref m_jobTurns, .ref m_orderRow, .ref m_bestRow, .int 0, .ref m_orderTold, .int 0, .int 0, .int 0, .int 0, .ref m_offerRing, .ref m_offerSpeed, .ref m_offerFeed, .ref m_offerTurns, .ref m_heardOffer, .ref m_heardVerdict, .ref m_heardAt, .ref m_rightOf, .ref m_rightVerdict, .ref m_rightAt, .ref m_verdictOf, .ref m_sound, .ref m_readSound, .int 0])), (m_rule, .inl (cI, 12, .inl gz_untold))] [(cI, .int)] [(0, .ref m0), (1, .int a), (2, .int b), (3, .int d), (4, .int h)] 9 [.int r_1]
  refine g_fold (if 0 ≤ a ∧ a < 3 ∧ 1 ≤ b ∧ b ≤ 9 ∧ 1 ≤ d ∧ d ≤ 20 ∧ 1 ≤ h ∧ h ≤ 12 then 1 else 0) e_r_1 ?_
  refine g_if_ne F 15 dX13_job_9 (by decide) (fun c_9 => ?_) (fun c_9 => ?_)
  · have c_9 := gb_n0 c_9
    refine g_aload_n F 0 dX13_job_15 rfl rfl ?_
    refine g_get (C := RX13) (T := TX13) (N := 73) (v := .int 0) F i_X13 4 rfl rfl 45 (by decide) w_0 rfl rfl dX13_job_16 ?_
    refine g_iconst F 5 dX13_job_19 (by decide) ?_
    refine g_icmp_ne F 26 dX13_job_20 (by decide) (fun c_20 => ?_) (fun h9 => absurd h9 (by decide)) 
    refine g_aload_n F 0 dX13_job_26 rfl rfl ?_
    refine g_get (C := RX13) (T := TX13) (N := 73) (v := .ref m_jobRing) F i_X13 4 rfl rfl 47 (by decide) w_1 rfl rfl dX13_job_27 ?_
    refine g_aload_n F 0 dX13_job_30 rfl rfl ?_
    refine g_get (C := RX13) (T := TX13) (N := 73) (v := .int 0) F i_X13 4 rfl rfl 45 (by decide) w_0 rfl rfl dX13_job_31 ?_
    refine g_iload_n F 1 dX13_job_34 rfl rfl ?_
    refine g_iast F 0 0 rfl rfl (by unfold vp_in; decide) [(m_jobRing, .inl (cI, 5, .inl (upd (fun _ => 0) 0 a))), (m_jobSpeed, .inl (cI, 5, .inl (fun _ => 0))), (m_jobFeed, .inl (cI, 5, .inl (fun _ => 0))), (m_jobTurns, .inl (cI, 5, .inl (fun _ => 0))), (m0, .inr (12, [.ref m_stop, .ref m_tape, .int 0, .int 0, .int 0, .int 0, .int 0, .int 0, .int 0, .int (-1), .ref m_rule, .ref m_readRule, .ref m_teeth, .ref m_readTeeth, .ref m_sway, .ref m_readSway, .ref m_isTold, .ref m_markKind, .ref m_markValue, .ref m_marks, .int 5, .int 0, .ref m_pile, .ref m_height, .ref m_leftPass, .ref m_leftTurn, .ref m_leftTooth, .ref m_leftX, .int 0, .int 0, .ref m_kept, .ref m_keptWear, .int 0, .ref m_now, .ref m_passed, .int 0, .int 0, .int 0, .ref m_planTime, .ref m_planMany, .ref m_planned, .ref m_isQuiet, .int 0, .int 0, .ref m_keptTeeth, .int 0, .int 0, .ref m_jobRing, .ref m_jobSpeed, .ref m_jobFeed, .ref m_jobTurns, .ref m_orderRow, .ref m_bestRow, .int 0, .ref m_orderTold, .int 0, .int 0, .int 0, .int 0, .ref m_offerRing, .ref m_offerSpeed, .ref m_offerFeed, .ref m_offerTurns, .ref m_heardOffer, .ref m_heardVerdict, .ref m_heardAt, .ref m_rightOf, .ref m_rightVerdict, .ref m_rightAt, .ref m_verdictOf, .ref m_sound, .ref m_readSound, .int 0])), (m_rule, .inl (cI, 12, .inl gz_untold))] (rfl) dX13_job_35 ?_
    refine g_aload_n F 0 dX13_job_36 rfl rfl ?_
    refine g_get (C := RX13) (T := TX13) (N := 73) (v := .ref m_jobSpeed) F i_X13 4 rfl rfl 48 (by decide) w_2 rfl rfl dX13_job_37 ?_
    refine g_aload_n F 0 dX13_job_40 rfl rfl ?_
    refine g_get (C := RX13) (T := TX13) (N := 73) (v := .int 0) F i_X13 4 rfl rfl 45 (by decide) w_0 rfl rfl dX13_job_41 ?_
    refine g_iload_n F 2 dX13_job_44 rfl rfl ?_
    refine g_iast F 1 0 rfl rfl (by unfold vp_in; decide) [(m_jobRing, .inl (cI, 5, .inl (upd (fun _ => 0) 0 a))), (m_jobSpeed, .inl (cI, 5, .inl (upd (fun _ => 0) 0 b))), (m_jobFeed, .inl (cI, 5, .inl (fun _ => 0))), (m_jobTurns, .inl (cI, 5, .inl (fun _ => 0))), (m0, .inr (12, [.ref m_stop, .ref m_tape, .int 0, .int 0, .int 0, .int 0, .int 0, .int 0, .int 0, .int (-1), .ref m_rule, .ref m_readRule, .ref m_teeth, .ref m_readTeeth, .ref m_sway, .ref m_readSway, .ref m_isTold, .ref m_markKind, .ref m_markValue, .ref m_marks, .int 5, .int 0, .ref m_pile, .ref m_height, .ref m_leftPass, .ref m_leftTurn, .ref m_leftTooth, .ref m_leftX, .int 0, .int 0, .ref m_kept, .ref m_keptWear, .int 0, .ref m_now, .ref m_passed, .int 0, .int 0, .int 0, .ref m_planTime, .ref m_planMany, .ref m_planned, .ref m_isQuiet, .int 0, .int 0, .ref m_keptTeeth, .int 0, .int 0, .ref m_jobRing, .ref m_jobSpeed, .ref m_jobFeed, .ref m_jobTurns, .ref m_orderRow, .ref m_bestRow, .int 0, .ref m_orderTold, .int 0, .int 0, .int 0, .int 0, .ref m_offerRing, .ref m_offerSpeed, .ref m_offerFeed, .ref m_offerTurns, .ref m_heardOffer, .ref m_heardVerdict, .ref m_heardAt, .ref m_rightOf, .ref m_rightVerdict, .ref m_rightAt, .ref m_verdictOf, .ref m_sound, .ref m_readSound, .int 0])), (m_rule, .inl (cI, 12, .inl gz_untold))] (rfl) dX13_job_45 ?_
    refine g_aload_n F 0 dX13_job_46 rfl rfl ?_
    refine g_get (C := RX13) (T := TX13) (N := 73) (v := .ref m_jobFeed) F i_X13 4 rfl rfl 49 (by decide) w_3 rfl rfl dX13_job_47 ?_
    refine g_aload_n F 0 dX13_job_50 rfl rfl ?_
    refine g_get (C := RX13) (T := TX13) (N := 73) (v := .int 0) F i_X13 4 rfl rfl 45 (by decide) w_0 rfl rfl dX13_job_51 ?_
    refine g_iload_n F 3 dX13_job_54 rfl rfl ?_
    refine g_iast F 2 0 rfl rfl (by unfold vp_in; decide) [(m_jobRing, .inl (cI, 5, .inl (upd (fun _ => 0) 0 a))), (m_jobSpeed, .inl (cI, 5, .inl (upd (fun _ => 0) 0 b))), (m_jobFeed, .inl (cI, 5, .inl (upd (fun _ => 0) 0 d))), (m_jobTurns, .inl (cI, 5, .inl (fun _ => 0))), (m0, .inr (12, [.ref m_stop, .ref m_tape, .int 0, .int 0, .int 0, .int 0, .int 0, .int 0, .int 0, .int (-1), .ref m_rule, .ref m_readRule, .ref m_teeth, .ref m_readTeeth, .ref m_sway, .ref m_readSway, .ref m_isTold, .ref m_markKind, .ref m_markValue, .ref m_marks, .int 5, .int 0, .ref m_pile, .ref m_height, .ref m_leftPass, .ref m_leftTurn, .ref m_leftTooth, .ref m_leftX, .int 0, .int 0, .ref m_kept, .ref m_keptWear, .int 0, .ref m_now, .ref m_passed, .int 0, .int 0, .int 0, .ref m_planTime, .ref m_planMany, .ref m_planned, .ref m_isQuiet, .int 0, .int 0, .ref m_keptTeeth, .int 0, .int 0, .ref m_jobRing, .ref m_jobSpeed, .ref m_jobFeed, .ref m_jobTurns, .ref m_orderRow, .ref m_bestRow, .int 0, .ref m_orderTold, .int 0, .int 0, .int 0, .int 0, .ref m_offerRing, .ref m_offerSpeed, .ref m_offerFeed, .ref m_offerTurns, .ref m_heardOffer, .ref m_heardVerdict, .ref m_heardAt, .ref m_rightOf, .ref m_rightVerdict, .ref m_rightAt, .ref m_verdictOf, .ref m_sound, .ref m_readSound, .int 0])), (m_rule, .inl (cI, 12, .inl gz_untold))] (rfl) dX13_job_55 ?_
    refine g_aload_n F 0 dX13_job_56 rfl rfl ?_
    refine g_get (C := RX13) (T := TX13) (N := 73) (v := .ref m_jobTurns) F i_X13 4 rfl rfl 50 (by decide) w_4 rfl rfl dX13_job_57 ?_
    refine g_aload_n F 0 dX13_job_60 rfl rfl ?_
    refine g_get (C := RX13) (T := TX13) (N := 73) (v := .int 0) F i_X13 4 rfl rfl 45 (by decide) w_0 rfl rfl dX13_job_61 ?_
    refine g_iload F 4 dX13_job_64 rfl ?_
    refine g_iast F 3 0 rfl rfl (by unfold vp_in; decide) [(m_jobRing, .inl (cI, 5, .inl (upd (fun _ => 0) 0 a))), (m_jobSpeed, .inl (cI, 5, .inl (upd (fun _ => 0) 0 b))), (m_jobFeed, .inl (cI, 5, .inl (upd (fun _ => 0) 0 d))), (m_jobTurns, .inl (cI, 5, .inl (upd (fun _ => 0) 0 h))), (m0, .inr (12, [.ref m_stop, .ref m_tape, .int 0, .int 0, .int 0, .int 0, .int 0, .int 0, .int 0, .int (-1), .ref m_rule, .ref m_readRule, .ref m_teeth, .ref m_readTeeth, .ref m_sway, .ref m_readSway, .ref m_isTold, .ref m_markKind, .ref m_markValue, .ref m_marks, .int 5, .int 0, .ref m_pile, .ref m_height, .ref m_leftPass, .ref m_leftTurn, .ref m_leftTooth, .ref m_leftX, .int 0, .int 0, .ref m_kept, .ref m_keptWear, .int 0, .ref m_now, .ref m_passed, .int 0, .int 0, .int 0, .ref m_planTime, .ref m_planMany, .ref m_planned, .ref m_isQuiet, .int 0, .int 0, .ref m_keptTeeth, .int 0, .int 0, .ref m_jobRing, .ref m_jobSpeed, .ref m_jobFeed, .ref m_jobTurns, .ref m_orderRow, .ref m_bestRow, .int 0, .ref m_orderTold, .int 0, .int 0, .int 0, .int 0, .ref m_offerRing, .ref m_offerSpeed, .ref m_offerFeed, .ref m_offerTurns, .ref m_heardOffer, .ref m_heardVerdict, .ref m_heardAt, .ref m_rightOf, .ref m_rightVerdict, .ref m_rightAt, .ref m_verdictOf, .ref m_sound, .ref m_readSound, .int 0])), (m_rule, .inl (cI, 12, .inl gz_untold))] (rfl) dX13_job_66 ?_
    refine g_aload_n F 0 dX13_job_67 rfl rfl ?_
    refine g_dup F dX13_job_68 rfl ?_
    refine g_get (C := RX13) (T := TX13) (N := 73) (v := .int 0) F i_X13 4 rfl rfl 45 (by decide) w_0 rfl rfl dX13_job_69 ?_
    refine g_iconst F 1 dX13_job_72 (by decide) ?_
    refine g_iadd F dX13_job_73 ?_
    refine g_fold 1 (by decide) ?_
    refine g_put (C := RX13) (T := TX13) (N := 73) (ty := .int) (v := .int 1) F i_X13 4 rfl rfl 45 (by decide) w_0 rfl tyX13 tyX13_ok nmX13 rfl (by decide +kernel) rfl rfl (Nat.le_of_ble_eq_true rfl) [(m_jobRing, .inl (cI, 5, .inl (upd (fun _ => 0) 0 a))), (m_jobSpeed, .inl (cI, 5, .inl (upd (fun _ => 0) 0 b))), (m_jobFeed, .inl (cI, 5, .inl (upd (fun _ => 0) 0 d))), (m_jobTurns, .inl (cI, 5, .inl (upd (fun _ => 0) 0 h))), (m0, .inr (12, [.ref m_stop, .ref m_tape, .int 0, .int 0, .int 0, .int 0, .int 0, .int 0, .int 0, .int (-1), .ref m_rule, .ref m_readRule, .ref m_teeth, .ref m_readTeeth, .ref m_sway, .ref m_readSway, .ref m_isTold, .ref m_markKind, .ref m_markValue, .ref m_marks, .int 5, .int 0, .ref m_pile, .ref m_height, .ref m_leftPass, .ref m_leftTurn, .ref m_leftTooth, .ref m_leftX, .int 0, .int 0, .ref m_kept, .ref m_keptWear, .int 0, .ref m_now, .ref m_passed, .int 0, .int 0, .int 0, .ref m_planTime, .ref m_planMany, .ref m_planned, .ref m_isQuiet, .int 0, .int 0, .ref m_keptTeeth, .int 1, .int 0, .ref m_jobRing, .ref m_jobSpeed, .ref m_jobFeed, .ref m_jobTurns, .ref m_orderRow, .ref m_bestRow, .int 0, .ref m_orderTold, .int 0, .int 0, .int 0, .int 0, .ref m_offerRing, .ref m_offerSpeed, .ref m_offerFeed, .ref m_offerTurns, .ref m_heardOffer, .ref m_heardVerdict, .ref m_heardAt, .ref m_rightOf, .ref m_rightVerdict, .ref m_rightAt, .ref m_verdictOf, .ref m_sound, .ref m_readSound, .int 0])), (m_rule, .inl (cI, 12, .inl gz_untold))] rfl dX13_job_74 ?_
    refine g_aload_n F 0 dX13_job_77 rfl rfl ?_
    refine g_iconst F 0 dX13_job_78 (by decide) ?_
    refine g_put (C := RX13) (T := TX13) (N := 73) (ty := .boolean) (v := .int 0) F i_X13 4 rfl rfl 53 (by decide) w_5 rfl tyX13 tyX13_ok nmX13 rfl (by decide +kernel) rfl rfl (Nat.le_of_ble_eq_true rfl) [(m_jobRing, .inl (cI, 5, .inl (upd (fun _ => 0) 0 a))), (m_jobSpeed, .inl (cI, 5, .inl (upd (fun _ => 0) 0 b))), (m_jobFeed, .inl (cI, 5, .inl (upd (fun _ => 0) 0 d))), (m_jobTurns, .inl (cI, 5, .inl (upd (fun _ => 0) 0 h))), (m0, .inr (12, [.ref m_stop, .ref m_tape, .int 0, .int 0, .int 0, .int 0, .int 0, .int 0, .int 0, .int (-1), .ref m_rule, .ref m_readRule, .ref m_teeth, .ref m_readTeeth, .ref m_sway, .ref m_readSway, .ref m_isTold, .ref m_markKind, .ref m_markValue, .ref m_marks, .int 5, .int 0, .ref m_pile, .ref m_height, .ref m_leftPass, .ref m_leftTurn, .ref m_leftTooth, .ref m_leftX, .int 0, .int 0, .ref m_kept, .ref m_keptWear, .int 0, .ref m_now, .ref m_passed, .int 0, .int 0, .int 0, .ref m_planTime, .ref m_planMany, .ref m_planned, .ref m_isQuiet, .int 0, .int 0, .ref m_keptTeeth, .int 1, .int 0, .ref m_jobRing, .ref m_jobSpeed, .ref m_jobFeed, .ref m_jobTurns, .ref m_orderRow, .ref m_bestRow, .int 0, .ref m_orderTold, .int 0, .int 0, .int 0, .int 0, .ref m_offerRing, .ref m_offerSpeed, .ref m_offerFeed, .ref m_offerTurns, .ref m_heardOffer, .ref m_heardVerdict, .ref m_heardAt, .ref m_rightOf, .ref m_rightVerdict, .ref m_rightAt, .ref m_verdictOf, .ref m_sound, .ref m_readSound, .int 0])), (m_rule, .inl (cI, 12, .inl gz_untold))] rfl dX13_job_79 ?_
    refine g_aload_n F 0 dX13_job_82 rfl rfl ?_
    refine g_get (C := RX13) (T := TX13) (N := 73) (v := .int 1) F i_X13 4 rfl rfl 45 (by decide) w_0 rfl rfl dX13_job_83 ?_
    refine g_iconst F 1 dX13_job_86 (by decide) ?_
    refine g_isub F dX13_job_87 ?_
    refine g_fold 0 (by decide) ?_
    exact g_iret F hA hQ hr () (by first | exact (gi_p (by (simp only [Int32.lt_iff_toInt_lt, Int32.le_iff_toInt_le, ← Int32.toInt_inj, Int32.reduceToInt] at c_9 ⊢; omega)) rfl)) [] [0] rfl (by decide) rfl rfl dX13_job_88
  · have c_9 := gb_0 c_9
    refine g_bipush F (-2) dX13_job_12 (by decide) ?_
    exact g_iret F hA hQ hr () (by first | exact (gi_e (by (simp only [Int32.lt_iff_toInt_lt, Int32.le_iff_toInt_le, ← Int32.toInt_inj, Int32.reduceToInt] at c_9 ⊢; omega)) rfl)) [] [0] rfl (by decide) rfl rfl dX13_job_14

theorem dX13_order_0 : decode cX13_order 0 = .ok (.iload_n 1, 1) := by decide +kernel
theorem dX13_order_1 : decode cX13_order 1 = .ok (.iload_n 2, 1) := by decide +kernel
theorem dX13_order_2 : decode cX13_order 2 = .ok (.invokestatic 435, 3) := by decide +kernel
theorem dX13_order_5 : decode cX13_order 5 = .ok (.ifCond .ne 6, 3) := by decide +kernel
theorem dX13_order_8 : decode cX13_order 8 = .ok (.bipush (-2), 2) := by decide +kernel
theorem dX13_order_10 : decode cX13_order 10 = .ok (.ireturn, 1) := by decide +kernel
theorem dX13_order_11 : decode cX13_order 11 = .ok (.aload_n 0, 1) := by decide +kernel
theorem dX13_order_12 : decode cX13_order 12 = .ok (.getfield 331, 3) := by decide +kernel
theorem dX13_order_15 : decode cX13_order 15 = .ok (.ifCond .ne 6, 3) := by decide +kernel
theorem dX13_order_18 : decode cX13_order 18 = .ok (.bipush (-4), 2) := by decide +kernel
theorem dX13_order_20 : decode cX13_order 20 = .ok (.ireturn, 1) := by decide +kernel
theorem dX13_order_21 : decode cX13_order 21 = .ok (.aload_n 0, 1) := by decide +kernel
theorem dX13_order_22 : decode cX13_order 22 = .ok (.ldc_w 391, 3) := by decide +kernel
theorem dX13_order_25 : decode cX13_order 25 = .ok (.putfield 493, 3) := by decide +kernel
theorem dX13_order_28 : decode cX13_order 28 = .ok (.aload_n 0, 1) := by decide +kernel
theorem dX13_order_29 : decode cX13_order 29 = .ok (.iconst 0, 1) := by decide +kernel
theorem dX13_order_30 : decode cX13_order 30 = .ok (.iconst 0, 1) := by decide +kernel
theorem dX13_order_31 : decode cX13_order 31 = .ok (.iconst 0, 1) := by decide +kernel
theorem dX13_order_32 : decode cX13_order 32 = .ok (.iload_n 1, 1) := by decide +kernel
theorem dX13_order_33 : decode cX13_order 33 = .ok (.iload_n 2, 1) := by decide +kernel
theorem dX13_order_34 : decode cX13_order 34 = .ok (.invokevirtual 496, 3) := by decide +kernel
theorem dX13_order_37 : decode cX13_order 37 = .ok (.aload_n 0, 1) := by decide +kernel
theorem dX13_order_38 : decode cX13_order 38 = .ok (.getfield 493, 3) := by decide +kernel
theorem dX13_order_41 : decode cX13_order 41 = .ok (.ldc_w 391, 3) := by decide +kernel
theorem dX13_order_44 : decode cX13_order 44 = .ok (.if_icmp .lt 5, 3) := by decide +kernel
theorem dX13_order_47 : decode cX13_order 47 = .ok (.iconst (-1), 1) := by decide +kernel
theorem dX13_order_48 : decode cX13_order 48 = .ok (.ireturn, 1) := by decide +kernel
theorem dX13_order_49 : decode cX13_order 49 = .ok (.iconst 0, 1) := by decide +kernel
theorem dX13_order_50 : decode cX13_order 50 = .ok (.istore_n 3, 1) := by decide +kernel
theorem dX13_order_51 : decode cX13_order 51 = .ok (.iload_n 3, 1) := by decide +kernel
theorem dX13_order_52 : decode cX13_order 52 = .ok (.aload_n 0, 1) := by decide +kernel
theorem dX13_order_53 : decode cX13_order 53 = .ok (.getfield 331, 3) := by decide +kernel
theorem dX13_order_56 : decode cX13_order 56 = .ok (.if_icmp .ge 21, 3) := by decide +kernel
theorem dX13_order_59 : decode cX13_order 59 = .ok (.aload_n 0, 1) := by decide +kernel
theorem dX13_order_60 : decode cX13_order 60 = .ok (.getfield 274, 3) := by decide +kernel
theorem dX13_order_63 : decode cX13_order 63 = .ok (.iload_n 3, 1) := by decide +kernel
theorem dX13_order_64 : decode cX13_order 64 = .ok (.aload_n 0, 1) := by decide +kernel
theorem dX13_order_65 : decode cX13_order 65 = .ok (.getfield 271, 3) := by decide +kernel
theorem dX13_order_68 : decode cX13_order 68 = .ok (.iload_n 3, 1) := by decide +kernel
theorem dX13_order_69 : decode cX13_order 69 = .ok (.iaload, 1) := by decide +kernel
theorem dX13_order_70 : decode cX13_order 70 = .ok (.iastore, 1) := by decide +kernel
theorem dX13_order_71 : decode cX13_order 71 = .ok (.iinc 3 1, 3) := by decide +kernel
theorem dX13_order_74 : decode cX13_order 74 = .ok (.goto (-23), 3) := by decide +kernel
theorem dX13_order_77 : decode cX13_order 77 = .ok (.aload_n 0, 1) := by decide +kernel
theorem dX13_order_78 : decode cX13_order 78 = .ok (.iconst 1, 1) := by decide +kernel
theorem dX13_order_79 : decode cX13_order 79 = .ok (.putfield 334, 3) := by decide +kernel
theorem dX13_order_82 : decode cX13_order 82 = .ok (.aload_n 0, 1) := by decide +kernel
theorem dX13_order_83 : decode cX13_order 83 = .ok (.getfield 493, 3) := by decide +kernel
theorem dX13_order_86 : decode cX13_order 86 = .ok (.ireturn, 1) := by decide +kernel
set_option maxRecDepth 20000 in
theorem ggX13_order_X13_isMachine : GoodIn wsX13_order wsX13_isMachine := goodIn_r _ [10, 11, 12, 13, 9, 14] rfl (by decide +kernel)
set_option maxRecDepth 20000 in
theorem gX13_order_X13_isMachine : GoodIn wsX13_order (va_wsS RX13 435 yX13_isMachine wsX13_isMachine) := goodIn_app (goodIn_of _ (by decide +kernel)) ggX13_order_X13_isMachine
set_option maxHeartbeats 4000000 in
set_option maxRecDepth 100000 in
theorem K_X13_order (l : Launch) (D : va_G) (m0 : Nat) (m_stop : Nat) (m_tape : Nat) (m_rule : Nat) (m_readRule : Nat) (m_teeth : Nat) (m_readTeeth : Nat) (m_sway : Nat) (m_readSway : Nat) (m_isTold : Nat) (m_markKind : Nat) (m_markValue : Nat) (m_marks : Nat) (m_pile : Nat) (m_height : Nat) (m_leftPass : Nat) (m_leftTurn : Nat) (m_leftTooth : Nat) (m_leftX : Nat) (m_kept : Nat) (m_keptWear : Nat) (m_now : Nat) (m_passed : Nat) (m_planTime : Nat) (m_planMany : Nat) (m_planned : Nat) (m_isQuiet : Nat) (m_keptTeeth : Nat) (m_jobRing : Nat) (m_jobSpeed : Nat) (m_jobFeed : Nat) (m_jobTurns : Nat) (m_orderRow : Nat) (m_bestRow : Nat) (m_orderTold : Nat) (m_offerRing : Nat) (m_offerSpeed : Nat) (m_offerFeed : Nat) (m_offerTurns : Nat) (m_heardOffer : Nat) (m_heardVerdict : Nat) (m_heardAt : Nat) (m_rightOf : Nat) (m_rightVerdict : Nat) (m_rightAt : Nat) (m_verdictOf : Nat) (m_sound : Nat) (m_readSound : Nat) (a : Int32) (b : Int32) (sz : Nat) : Ki l yX13_order wsX13_order 3 76 0 0 D [.ref m0, .int a, .int b] [(m0, .inr (12, [.ref m_stop, .ref m_tape, .int 0, .int 0, .int 0, .int 0, .int 0, .int 0, .int 0, .int (-1), .ref m_rule, .ref m_readRule, .ref m_teeth, .ref m_readTeeth, .ref m_sway, .ref m_readSway, .ref m_isTold, .ref m_markKind, .ref m_markValue, .ref m_marks, .int 5, .int 0, .ref m_pile, .ref m_height, .ref m_leftPass, .ref m_leftTurn, .ref m_leftTooth, .ref m_leftX, .int 0, .int 0, .ref m_kept, .ref m_keptWear, .int 0, .ref m_now, .ref m_passed, .int 0, .int 0, .int 0, .ref m_planTime, .ref m_planMany, .ref m_planned, .ref m_isQuiet, .int 0, .int 0, .ref m_keptTeeth, .int 0, .int 0, .ref m_jobRing, .ref m_jobSpeed, .ref m_jobFeed, .ref m_jobTurns, .ref m_orderRow, .ref m_bestRow, .int 0, .ref m_orderTold, .int 0, .int 0, .int 0, .int 0, .ref m_offerRing, .ref m_offerSpeed, .ref m_offerFeed, .ref m_offerTurns, .ref m_heardOffer, .ref m_heardVerdict, .ref m_heardAt, .ref m_rightOf, .ref m_rightVerdict, .ref m_rightAt, .ref m_verdictOf, .ref m_sound, .ref m_readSound, .int 0]))] [] sz (fun (r : Int32) (_ : Unit) => r = (if 0 ≤ a ∧ a ≤ 300 ∧ 0 ≤ b ∧ b ≤ 300 then (-4) else (-2))) (fun (_ : Unit) => []) (fun (_ : Unit) => []) := by
  unfold Ki
  refine g_ofW (cc := cX13_order) (lv := [(0, .ref m0), (1, .int a), (2, .int b)]) (by decide) rfl (Nat.le_of_ble_eq_true rfl) rfl ?_
  intro p e s m args below meth c A Q hA hQ F hr hnm
  have hts := F.2.2.2.2.1
  have w_0 : (Cond.fieldLink RX13 331 "QuietCutModel" "jobs" "I").before args s = true := hts _ (List.mem_of_getElem? (i := 1) rfl)
  have i_X13 : ∀ w ∈ u_ws RX13 TX13 73, w ∈ wsX13_order := fun _ h => List.mem_cons_of_mem _ (List.mem_append_right _ h)
  refine g_iload_n F 1 dX13_order_0 rfl rfl ?_
  refine g_iload_n F 2 dX13_order_1 rfl rfl ?_
  refine g_callSi (k := 0) (n := 0) (As := [.int a, .int b]) (st := []) (wc := []) (wr := [(m0, .inr (12, [.ref m_stop, .ref m_tape, .int 0, .int 0, .int 0, .int 0, .int 0, .int 0, .int 0, .int (-1), .ref m_rule, .ref m_readRule, .ref m_teeth, .ref m_readTeeth, .ref m_sway, .ref m_readSway, .ref m_isTold, .ref m_markKind, .ref m_markValue, .ref m_marks, .int 5, .int 0, .ref m_pile, .ref m_height, .ref m_leftPass, .ref m_leftTurn, .ref m_leftTooth, .ref m_leftX, .int 0, .int 0, .ref m_kept, .ref m_keptWear, .int 0, .ref m_now, .ref m_passed, .int 0, .int 0, .int 0, .ref m_planTime, .ref m_planMany, .ref m_planned, .ref m_isQuiet, .int 0, .int 0, .ref m_keptTeeth, .int 0, .int 0, .ref m_jobRing, .ref m_jobSpeed, .ref m_jobFeed, .ref m_jobTurns, .ref m_orderRow, .ref m_bestRow, .int 0, .ref m_orderTold, .int 0, .int 0, .int 0, .int 0, .ref m_offerRing, .ref m_offerSpeed, .ref m_offerFeed, .ref m_offerTurns, .ref m_heardOffer, .ref m_heardVerdict, .ref m_heardAt, .ref m_rightOf, .ref m_rightVerdict, .ref m_rightAt, .ref m_verdictOf, .ref m_sound, .ref m_readSound, .int 0]))]) F [] [0] [] rfl rfl (by decide) rfl (by decide) (by decide) rfl (fun sz => K_X13_isMachine l D a b  sz) (va_cwS 2 hts gX13_order_X13_isMachine rfl rfl rfl (by decide +kernel) ⟨Nat.le_of_ble_eq_true rfl, Nat.le_of_ble_eq_true rfl⟩) rfl (Nat.le_of_ble_eq_true rfl) ⟨Nat.le_of_ble_eq_true rfl, Nat.le_of_ble_eq_true rfl⟩ dX13_order_2 (fun r_1 _ hw_2 => ?_)
  have hw_2 : r_1 = (if 0 ≤ a ∧ a ≤ 300 ∧ 0 ≤ b ∧ b ≤ 300 then 1 else 0) := hw_2
  have e_r_1 := hw_2
  show gG p l e (gR 3 0 0 76) s m args below meth c D A 4 Q 0 0 [(m0, .inr (12, [.ref m_stop, .ref m_tape, .int 0, .int 0, .int 0, .int 0, .int 0, .int 0, .int 0, .int (-1), .ref m_rule, .ref m_readRule, .ref m_teeth, .ref m_readTeeth, .ref m_sway, .ref m_readSway, .ref m_isTold, .ref m_markKind, .ref m_markValue, .ref m_marks, .int 5, .int 0, .ref m_pile, .ref m_height, .ref m_leftPass, .ref m_leftTurn, .ref m_leftTooth, .ref m_leftX, .int 0, .int 0, .ref m_kept, .ref m_keptWear, .int 0, .ref m_now, .ref m_passed, .int 0, .int 0, .int 0, .ref m_planTime, .ref m_planMany, .ref m_planned, .ref m_isQuiet, .int 0, .int 0, .ref m_keptTeeth, .int 0, .int 0, .ref m_jobRing, .ref m_jobSpeed, .ref m_jobFeed, .ref m_jobTurns, .ref m_orderRow, .ref m_bestRow, .int 0, .ref m_orderTold, .int 0, .int 0, .int 0, .int 0, .ref m_offerRing, .ref m_offerSpeed, .ref m_offerFeed, .ref m_offerTurns, .ref m_heardOffer, .ref m_heardVerdict, .ref m_heardAt, .ref m_rightOf, .ref m_rightVerdict, .ref m_rightAt, .ref m_verdictOf, .ref m_sound, .ref m_readSound, .int 0]))] [] [(0, .ref m0), (1, .int a), (2, .int b)] 5 [.int r_1]
  refine g_fold (if 0 ≤ a ∧ a ≤ 300 ∧ 0 ≤ b ∧ b ≤ 300 then 1 else 0) e_r_1 ?_
  refine g_if_ne F 11 dX13_order_5 (by decide) (fun c_5 => ?_) (fun c_5 => ?_)
  · have c_5 := gb_n0 c_5
    refine g_aload_n F 0 dX13_order_11 rfl rfl ?_
    refine g_get (C := RX13) (T := TX13) (N := 73) (v := .int 0) F i_X13 0 rfl rfl 45 (by decide) w_0 rfl rfl dX13_order_12 ?_
    refine g_if_ne F 21 dX13_order_15 (by decide) (fun h9 => absurd (by decide) h9) (fun c_15 => ?_)
    refine g_bipush F (-4) dX13_order_18 (by decide) ?_
    exact g_iret F hA hQ hr () (by first | exact (gi_p (by (simp only [Int32.lt_iff_toInt_lt, Int32.le_iff_toInt_le, ← Int32.toInt_inj, Int32.reduceToInt] at c_5 ⊢; omega)) rfl)) [] [] rfl (by decide) rfl rfl dX13_order_20
  · have c_5 := gb_0 c_5
    refine g_bipush F (-2) dX13_order_8 (by decide) ?_
    exact g_iret F hA hQ hr () (by first | exact (gi_e (by (simp only [Int32.lt_iff_toInt_lt, Int32.le_iff_toInt_le, ← Int32.toInt_inj, Int32.reduceToInt] at c_5 ⊢; omega)) rfl)) [] [] rfl (by decide) rfl rfl dX13_order_10

theorem dX13_heard_0 : decode cX13_heard 0 = .ok (.iload_n 1, 1) := by decide +kernel
theorem dX13_heard_1 : decode cX13_heard 1 = .ok (.i2l, 1) := by decide +kernel
theorem dX13_heard_2 : decode cX13_heard 2 = .ok (.aload_n 0, 1) := by decide +kernel
theorem dX13_heard_3 : decode cX13_heard 3 = .ok (.getfield 347, 3) := by decide +kernel
theorem dX13_heard_6 : decode cX13_heard 6 = .ok (.i2l, 1) := by decide +kernel
theorem dX13_heard_7 : decode cX13_heard 7 = .ok (.ldc2_w 500, 3) := by decide +kernel
theorem dX13_heard_10 : decode cX13_heard 10 = .ok (.invokestatic 61, 3) := by decide +kernel
theorem dX13_heard_13 : decode cX13_heard 13 = .ok (.ifCond .eq 31, 3) := by decide +kernel
theorem dX13_heard_16 : decode cX13_heard 16 = .ok (.iload_n 2, 1) := by decide +kernel
theorem dX13_heard_17 : decode cX13_heard 17 = .ok (.i2l, 1) := by decide +kernel
theorem dX13_heard_18 : decode cX13_heard 18 = .ok (.lconst 0, 1) := by decide +kernel
theorem dX13_heard_19 : decode cX13_heard 19 = .ok (.aload_n 0, 1) := by decide +kernel
theorem dX13_heard_20 : decode cX13_heard 20 = .ok (.getfield 338, 3) := by decide +kernel
theorem dX13_heard_23 : decode cX13_heard 23 = .ok (.i2l, 1) := by decide +kernel
theorem dX13_heard_24 : decode cX13_heard 24 = .ok (.lconst 1, 1) := by decide +kernel
theorem dX13_heard_25 : decode cX13_heard 25 = .ok (.lsub, 1) := by decide +kernel
theorem dX13_heard_26 : decode cX13_heard 26 = .ok (.invokestatic 61, 3) := by decide +kernel
theorem dX13_heard_29 : decode cX13_heard 29 = .ok (.ifCond .eq 15, 3) := by decide +kernel
theorem dX13_heard_32 : decode cX13_heard 32 = .ok (.iload_n 3, 1) := by decide +kernel
theorem dX13_heard_33 : decode cX13_heard 33 = .ok (.i2l, 1) := by decide +kernel
theorem dX13_heard_34 : decode cX13_heard 34 = .ok (.lconst 0, 1) := by decide +kernel
theorem dX13_heard_35 : decode cX13_heard 35 = .ok (.ldc2_w 360, 3) := by decide +kernel
theorem dX13_heard_38 : decode cX13_heard 38 = .ok (.invokestatic 61, 3) := by decide +kernel
theorem dX13_heard_41 : decode cX13_heard 41 = .ok (.ifCond .ne 6, 3) := by decide +kernel
theorem dX13_heard_44 : decode cX13_heard 44 = .ok (.bipush (-2), 2) := by decide +kernel
theorem dX13_heard_46 : decode cX13_heard 46 = .ok (.ireturn, 1) := by decide +kernel
theorem dX13_heard_47 : decode cX13_heard 47 = .ok (.aload_n 0, 1) := by decide +kernel
theorem dX13_heard_48 : decode cX13_heard 48 = .ok (.getfield 341, 3) := by decide +kernel
theorem dX13_heard_51 : decode cX13_heard 51 = .ok (.bipush 30, 2) := by decide +kernel
theorem dX13_heard_53 : decode cX13_heard 53 = .ok (.if_icmp .ne 6, 3) := by decide +kernel
theorem dX13_heard_56 : decode cX13_heard 56 = .ok (.bipush (-3), 2) := by decide +kernel
theorem dX13_heard_58 : decode cX13_heard 58 = .ok (.ireturn, 1) := by decide +kernel
theorem dX13_heard_59 : decode cX13_heard 59 = .ok (.aload_n 0, 1) := by decide +kernel
theorem dX13_heard_60 : decode cX13_heard 60 = .ok (.iload_n 1, 1) := by decide +kernel
theorem dX13_heard_61 : decode cX13_heard 61 = .ok (.putfield 347, 3) := by decide +kernel
theorem dX13_heard_64 : decode cX13_heard 64 = .ok (.aload_n 0, 1) := by decide +kernel
theorem dX13_heard_65 : decode cX13_heard 65 = .ok (.getfield 289, 3) := by decide +kernel
theorem dX13_heard_68 : decode cX13_heard 68 = .ok (.aload_n 0, 1) := by decide +kernel
theorem dX13_heard_69 : decode cX13_heard 69 = .ok (.getfield 341, 3) := by decide +kernel
theorem dX13_heard_72 : decode cX13_heard 72 = .ok (.iload_n 2, 1) := by decide +kernel
theorem dX13_heard_73 : decode cX13_heard 73 = .ok (.iastore, 1) := by decide +kernel
theorem dX13_heard_74 : decode cX13_heard 74 = .ok (.aload_n 0, 1) := by decide +kernel
theorem dX13_heard_75 : decode cX13_heard 75 = .ok (.getfield 292, 3) := by decide +kernel
theorem dX13_heard_78 : decode cX13_heard 78 = .ok (.aload_n 0, 1) := by decide +kernel
theorem dX13_heard_79 : decode cX13_heard 79 = .ok (.getfield 341, 3) := by decide +kernel
theorem dX13_heard_82 : decode cX13_heard 82 = .ok (.iload_n 3, 1) := by decide +kernel
theorem dX13_heard_83 : decode cX13_heard 83 = .ok (.iastore, 1) := by decide +kernel
theorem dX13_heard_84 : decode cX13_heard 84 = .ok (.aload_n 0, 1) := by decide +kernel
theorem dX13_heard_85 : decode cX13_heard 85 = .ok (.getfield 295, 3) := by decide +kernel
theorem dX13_heard_88 : decode cX13_heard 88 = .ok (.aload_n 0, 1) := by decide +kernel
theorem dX13_heard_89 : decode cX13_heard 89 = .ok (.getfield 341, 3) := by decide +kernel
theorem dX13_heard_92 : decode cX13_heard 92 = .ok (.iload_n 1, 1) := by decide +kernel
theorem dX13_heard_93 : decode cX13_heard 93 = .ok (.iastore, 1) := by decide +kernel
theorem dX13_heard_94 : decode cX13_heard 94 = .ok (.aload_n 0, 1) := by decide +kernel
theorem dX13_heard_95 : decode cX13_heard 95 = .ok (.dup, 1) := by decide +kernel
theorem dX13_heard_96 : decode cX13_heard 96 = .ok (.getfield 341, 3) := by decide +kernel
theorem dX13_heard_99 : decode cX13_heard 99 = .ok (.iconst 1, 1) := by decide +kernel
theorem dX13_heard_100 : decode cX13_heard 100 = .ok (.iadd, 1) := by decide +kernel
theorem dX13_heard_101 : decode cX13_heard 101 = .ok (.putfield 341, 3) := by decide +kernel
theorem dX13_heard_104 : decode cX13_heard 104 = .ok (.aload_n 0, 1) := by decide +kernel
theorem dX13_heard_105 : decode cX13_heard 105 = .ok (.getfield 341, 3) := by decide +kernel
theorem dX13_heard_108 : decode cX13_heard 108 = .ok (.iconst 1, 1) := by decide +kernel
theorem dX13_heard_109 : decode cX13_heard 109 = .ok (.isub, 1) := by decide +kernel
theorem dX13_heard_110 : decode cX13_heard 110 = .ok (.ireturn, 1) := by decide +kernel
set_option maxRecDepth 20000 in
theorem ggX13_heard_X13_in : GoodIn wsX13_heard wsX13_in := goodIn_r _ [12] rfl (by decide +kernel)
set_option maxRecDepth 20000 in
theorem gX13_heard_X13_in : GoodIn wsX13_heard (va_wsS RX13 61 yX13_in wsX13_in) := goodIn_app (goodIn_of _ (by decide +kernel)) ggX13_heard_X13_in
set_option maxHeartbeats 4000000 in
set_option maxRecDepth 100000 in
theorem K_X13_heard (l : Launch) (D : va_G) (m0 : Nat) (m_stop : Nat) (m_tape : Nat) (m_rule : Nat) (m_readRule : Nat) (m_teeth : Nat) (m_readTeeth : Nat) (m_sway : Nat) (m_readSway : Nat) (m_isTold : Nat) (m_markKind : Nat) (m_markValue : Nat) (m_marks : Nat) (m_pile : Nat) (m_height : Nat) (m_leftPass : Nat) (m_leftTurn : Nat) (m_leftTooth : Nat) (m_leftX : Nat) (m_kept : Nat) (m_keptWear : Nat) (m_now : Nat) (m_passed : Nat) (m_planTime : Nat) (m_planMany : Nat) (m_planned : Nat) (m_isQuiet : Nat) (m_keptTeeth : Nat) (m_jobRing : Nat) (m_jobSpeed : Nat) (m_jobFeed : Nat) (m_jobTurns : Nat) (m_orderRow : Nat) (m_bestRow : Nat) (m_orderTold : Nat) (m_offerRing : Nat) (m_offerSpeed : Nat) (m_offerFeed : Nat) (m_offerTurns : Nat) (m_heardOffer : Nat) (m_heardVerdict : Nat) (m_heardAt : Nat) (m_rightOf : Nat) (m_rightVerdict : Nat) (m_rightAt : Nat) (m_verdictOf : Nat) (m_sound : Nat) (m_readSound : Nat) (a : Int32) (b : Int32) (d : Int32) (sz : Nat) : Ki l yX13_heard wsX13_heard 2 55 0 0 D [.ref m0, .int a, .int b, .int d] [(m0, .inr (12, [.ref m_stop, .ref m_tape, .int 0, .int 0, .int 0, .int 0, .int 0, .int 0, .int 0, .int (-1), .ref m_rule, .ref m_readRule, .ref m_teeth, .ref m_readTeeth, .ref m_sway, .ref m_readSway, .ref m_isTold, .ref m_markKind, .ref m_markValue, .ref m_marks, .int 5, .int 0, .ref m_pile, .ref m_height, .ref m_leftPass, .ref m_leftTurn, .ref m_leftTooth, .ref m_leftX, .int 0, .int 0, .ref m_kept, .ref m_keptWear, .int 0, .ref m_now, .ref m_passed, .int 0, .int 0, .int 0, .ref m_planTime, .ref m_planMany, .ref m_planned, .ref m_isQuiet, .int 0, .int 0, .ref m_keptTeeth, .int 0, .int 0, .ref m_jobRing, .ref m_jobSpeed, .ref m_jobFeed, .ref m_jobTurns, .ref m_orderRow, .ref m_bestRow, .int 0, .ref m_orderTold, .int 0, .int 0, .int 0, .int 0, .ref m_offerRing, .ref m_offerSpeed, .ref m_offerFeed, .ref m_offerTurns, .ref m_heardOffer, .ref m_heardVerdict, .ref m_heardAt, .ref m_rightOf, .ref m_rightVerdict, .ref m_rightAt, .ref m_verdictOf, .ref m_sound, .ref m_readSound, .int 0]))] [] sz (fun (r : Int32) (_ : Unit) => r = (-2)) (fun (_ : Unit) => [(m0, .inr (12, [.ref m_stop, .ref m_tape, .int 0, .int 0, .int 0, .int 0, .int 0, .int 0, .int 0, .int (-1), .ref m_rule, .ref m_readRule, .ref m_teeth, .ref m_readTeeth, .ref m_sway, .ref m_readSway, .ref m_isTold, .ref m_markKind, .ref m_markValue, .ref m_marks, .int 5, .int 0, .ref m_pile, .ref m_height, .ref m_leftPass, .ref m_leftTurn, .ref m_leftTooth, .ref m_leftX, .int 0, .int 0, .ref m_kept, .ref m_keptWear, .int 0, .ref m_now, .ref m_passed, .int 0, .int 0, .int 0, .ref m_planTime, .ref m_planMany, .ref m_planned, .ref m_isQuiet, .int 0, .int 0, .ref m_keptTeeth, .int 0, .int 0, .ref m_jobRing, .ref m_jobSpeed, .ref m_jobFeed, .ref m_jobTurns, .ref m_orderRow, .ref m_bestRow, .int 0, .ref m_orderTold, .int 0, .int 0, .int 0, .int 0, .ref m_offerRing, .ref m_offerSpeed, .ref m_offerFeed, .ref m_offerTurns, .ref m_heardOffer, .ref m_heardVerdict, .ref m_heardAt, .ref m_rightOf, .ref m_rightVerdict, .ref m_rightAt, .ref m_verdictOf, .ref m_sound, .ref m_readSound, .int 0]))]) (fun (_ : Unit) => []) := by
  unfold Ki
  refine g_ofW (cc := cX13_heard) (lv := [(0, .ref m0), (1, .int a), (2, .int b), (3, .int d)]) (by decide) rfl (Nat.le_of_ble_eq_true rfl) rfl ?_
  intro p e s m args below meth c A Q hA hQ F hr hnm
  have hts := F.2.2.2.2.1
  have w_0 : (Cond.fieldLink RX13 347 "QuietCutModel" "telling" "I").before args s = true := hts _ (List.mem_of_getElem? (i := 1) rfl)
  have i_X13 : ∀ w ∈ u_ws RX13 TX13 73, w ∈ wsX13_heard := fun _ h => List.mem_cons_of_mem _ (List.mem_append_right _ h)
  have w_1 : (Cond.constantLong RX13 500 (999)).before args s = true := hts _ (List.mem_of_getElem? (i := 2) rfl)
  have w_2 : (Cond.fieldLink RX13 338 "QuietCutModel" "offers" "I").before args s = true := hts _ (List.mem_of_getElem? (i := 3) rfl)
  refine g_iload_n F 1 dX13_heard_0 rfl rfl ?_
  refine g_i2l F dX13_heard_1 ?_
  refine g_aload_n F 0 dX13_heard_2 rfl rfl ?_
  refine g_get (C := RX13) (T := TX13) (N := 73) (v := .int 0) F i_X13 0 rfl rfl 58 (by decide) w_0 rfl rfl dX13_heard_3 ?_
  refine g_i2l F dX13_heard_6 ?_
  refine g_ldc2 F w_1 dX13_heard_7 ?_
  refine g_callSi (k := 0) (n := 0) (As := [.long a.toInt64, .long ((0 : Int32).toInt64), .long 999]) (st := []) (wc := []) (wr := [(m0, .inr (12, [.ref m_stop, .ref m_tape, .int 0, .int 0, .int 0, .int 0, .int 0, .int 0, .int 0, .int (-1), .ref m_rule, .ref m_readRule, .ref m_teeth, .ref m_readTeeth, .ref m_sway, .ref m_readSway, .ref m_isTold, .ref m_markKind, .ref m_markValue, .ref m_marks, .int 5, .int 0, .ref m_pile, .ref m_height, .ref m_leftPass, .ref m_leftTurn, .ref m_leftTooth, .ref m_leftX, .int 0, .int 0, .ref m_kept, .ref m_keptWear, .int 0, .ref m_now, .ref m_passed, .int 0, .int 0, .int 0, .ref m_planTime, .ref m_planMany, .ref m_planned, .ref m_isQuiet, .int 0, .int 0, .ref m_keptTeeth, .int 0, .int 0, .ref m_jobRing, .ref m_jobSpeed, .ref m_jobFeed, .ref m_jobTurns, .ref m_orderRow, .ref m_bestRow, .int 0, .ref m_orderTold, .int 0, .int 0, .int 0, .int 0, .ref m_offerRing, .ref m_offerSpeed, .ref m_offerFeed, .ref m_offerTurns, .ref m_heardOffer, .ref m_heardVerdict, .ref m_heardAt, .ref m_rightOf, .ref m_rightVerdict, .ref m_rightAt, .ref m_verdictOf, .ref m_sound, .ref m_readSound, .int 0]))]) F [] [0] [] rfl rfl (by decide) rfl (by decide) (by decide) rfl (fun sz => K_X13_in l D a.toInt64 ((0 : Int32).toInt64) 999  sz) (va_cwS 3 hts gX13_heard_X13_in rfl rfl rfl (by decide +kernel) ⟨Nat.le_of_ble_eq_true rfl, Nat.le_of_ble_eq_true rfl⟩) rfl (Nat.le_of_ble_eq_true rfl) ⟨Nat.le_of_ble_eq_true rfl, Nat.le_of_ble_eq_true rfl⟩ dX13_heard_10 (fun r_1 _ hw_2 => ?_)
  have hw_2 : r_1 = (if ((0 : Int32).toInt64) ≤ a.toInt64 ∧ a.toInt64 ≤ 999 then 1 else 0) := hw_2
  have e_r_1 := hw_2
  show gG p l e (gR 2 0 0 55) s m args below meth c D A 4 Q 0 0 [(m0, .inr (12, [.ref m_stop, .ref m_tape, .int 0, .int 0, .int 0, .int 0, .int 0, .int 0, .int 0, .int (-1), .ref m_rule, .ref m_readRule, .ref m_teeth, .ref m_readTeeth, .ref m_sway, .ref m_readSway, .ref m_isTold, .ref m_markKind, .ref m_markValue, .ref m_marks, .int 5, .int 0, .ref m_pile, .ref m_height, .ref m_leftPass, .ref m_leftTurn, .ref m_leftTooth, .ref m_leftX, .int 0, .int 0, .ref m_kept, .ref m_keptWear, .int 0, .ref m_now, .ref m_passed, .int 0, .int 0, .int 0, .ref m_planTime, .ref m_planMany, .ref m_planned, .ref m_isQuiet, .int 0, .int 0, .ref m_keptTeeth, .int 0, .int 0, .ref m_jobRing, .ref m_jobSpeed, .ref m_jobFeed, .ref m_jobTurns, .ref m_orderRow, .ref m_bestRow, .int 0, .ref m_orderTold, .int 0, .int 0, .int 0, .int 0, .ref m_offerRing, .ref m_offerSpeed, .ref m_offerFeed, .ref m_offerTurns, .ref m_heardOffer, .ref m_heardVerdict, .ref m_heardAt, .ref m_rightOf, .ref m_rightVerdict, .ref m_rightAt, .ref m_verdictOf, .ref m_sound, .ref m_readSound, .int 0]))] [] [(0, .ref m0), (1, .int a), (2, .int b), (3, .int d)] 13 [.int r_1]
  refine g_fold (if ((0 : Int32).toInt64) ≤ a.toInt64 ∧ a.toInt64 ≤ 999 then 1 else 0) e_r_1 ?_
  refine g_fold (if 0 ≤ a ∧ a ≤ 999 then 1 else 0) (gl_in a 0 999 _ _ (by decide) (by decide)) ?_
  refine g_if_eq F 44 dX13_heard_13 (by decide) (fun c_13 => ?_) (fun c_13 => ?_)
  · have c_13 := gb_0 c_13
    refine g_bipush F (-2) dX13_heard_44 (by decide) ?_
    exact g_iret F hA hQ hr () (rfl) [0] [] rfl (by decide) rfl rfl dX13_heard_46
  · have c_13 := gb_n0 c_13
    refine g_iload_n F 2 dX13_heard_16 rfl rfl ?_
    refine g_i2l F dX13_heard_17 ?_
    refine g_lconst F 0 dX13_heard_18 (by decide) ?_
    refine g_aload_n F 0 dX13_heard_19 rfl rfl ?_
    refine g_get (C := RX13) (T := TX13) (N := 73) (v := .int 0) F i_X13 0 rfl rfl 55 (by decide) w_2 rfl rfl dX13_heard_20 ?_
    refine g_i2l F dX13_heard_23 ?_
    refine g_lconst F 1 dX13_heard_24 (by decide) ?_
    refine g_lsub F dX13_heard_25 ?_
    refine g_callSi (k := 0) (n := 0) (As := [.long b.toInt64, .long 0, .long (((0 : Int32).toInt64) - 1)]) (st := []) (wc := []) (wr := [(m0, .inr (12, [.ref m_stop, .ref m_tape, .int 0, .int 0, .int 0, .int 0, .int 0, .int 0, .int 0, .int (-1), .ref m_rule, .ref m_readRule, .ref m_teeth, .ref m_readTeeth, .ref m_sway, .ref m_readSway, .ref m_isTold, .ref m_markKind, .ref m_markValue, .ref m_marks, .int 5, .int 0, .ref m_pile, .ref m_height, .ref m_leftPass, .ref m_leftTurn, .ref m_leftTooth, .ref m_leftX, .int 0, .int 0, .ref m_kept, .ref m_keptWear, .int 0, .ref m_now, .ref m_passed, .int 0, .int 0, .int 0, .ref m_planTime, .ref m_planMany, .ref m_planned, .ref m_isQuiet, .int 0, .int 0, .ref m_keptTeeth, .int 0, .int 0, .ref m_jobRing, .ref m_jobSpeed, .ref m_jobFeed, .ref m_jobTurns, .ref m_orderRow, .ref m_bestRow, .int 0, .ref m_orderTold, .int 0, .int 0, .int 0, .int 0, .ref m_offerRing, .ref m_offerSpeed, .ref m_offerFeed, .ref m_offerTurns, .ref m_heardOffer, .ref m_heardVerdict, .ref m_heardAt, .ref m_rightOf, .ref m_rightVerdict, .ref m_rightAt, .ref m_verdictOf, .ref m_sound, .ref m_readSound, .int 0]))]) F [] [0] [] rfl rfl (by decide) rfl (by decide) (by decide) rfl (fun sz => K_X13_in l D b.toInt64 0 (((0 : Int32).toInt64) - 1)  sz) (va_cwS 3 hts gX13_heard_X13_in rfl rfl rfl (by decide +kernel) ⟨Nat.le_of_ble_eq_true rfl, Nat.le_of_ble_eq_true rfl⟩) rfl (Nat.le_of_ble_eq_true rfl) ⟨Nat.le_of_ble_eq_true rfl, Nat.le_of_ble_eq_true rfl⟩ dX13_heard_26 (fun r_6 _ hw_7 => ?_)
    have hw_7 : r_6 = (if 0 ≤ b.toInt64 ∧ b.toInt64 ≤ (((0 : Int32).toInt64) - 1) then 1 else 0) := hw_7
    have e_r_6 := hw_7
    show gG p l e (gR 2 0 0 55) s m args below meth c D A 4 Q 0 0 [(m0, .inr (12, [.ref m_stop, .ref m_tape, .int 0, .int 0, .int 0, .int 0, .int 0, .int 0, .int 0, .int (-1), .ref m_rule, .ref m_readRule, .ref m_teeth, .ref m_readTeeth, .ref m_sway, .ref m_readSway, .ref m_isTold, .ref m_markKind, .ref m_markValue, .ref m_marks, .int 5, .int 0, .ref m_pile, .ref m_height, .ref m_leftPass, .ref m_leftTurn, .ref m_leftTooth, .ref m_leftX, .int 0, .int 0, .ref m_kept, .ref m_keptWear, .int 0, .ref m_now, .ref m_passed, .int 0, .int 0, .int 0, .ref m_planTime, .ref m_planMany, .ref m_planned, .ref m_isQuiet, .int 0, .int 0, .ref m_keptTeeth, .int 0, .int 0, .ref m_jobRing, .ref m_jobSpeed, .ref m_jobFeed, .ref m_jobTurns, .ref m_orderRow, .ref m_bestRow, .int 0, .ref m_orderTold, .int 0, .int 0, .int 0, .int 0, .ref m_offerRing, .ref m_offerSpeed, .ref m_offerFeed, .ref m_offerTurns, .ref m_heardOffer, .ref m_heardVerdict, .ref m_heardAt, .ref m_rightOf, .ref m_rightVerdict, .ref m_rightAt, .ref m_verdictOf, .ref m_sound, .ref m_readSound, .int 0]))] [] [(0, .ref m0), (1, .int a), (2, .int b), (3, .int d)] 29 [.int r_6]
    refine g_fold (if 0 ≤ b.toInt64 ∧ b.toInt64 ≤ (((0 : Int32).toInt64) - 1) then 1 else 0) e_r_6 ?_
    refine g_fold (if 0 ≤ b ∧ b ≤ (-1) then 1 else 0) (gl_in b 0 (-1) _ _ (by decide) (by decide)) ?_
    refine g_if_eq F 44 dX13_heard_29 (by decide) (fun c_29 => ?_) (fun c_29 => ?_)
    · have c_29 := gb_0 c_29
      refine g_bipush F (-2) dX13_heard_44 (by decide) ?_
      exact g_iret F hA hQ hr () (rfl) [0] [] rfl (by decide) rfl rfl dX13_heard_46
    · have c_29 := gb_n0 c_29
      exfalso; simp only [Int32.lt_iff_toInt_lt, Int32.le_iff_toInt_le, ← Int32.toInt_inj, Int32.reduceToInt] at c_29; omega

theorem dX13_right_0 : decode cX13_right 0 = .ok (.iload_n 1, 1) := by decide +kernel
theorem dX13_right_1 : decode cX13_right 1 = .ok (.i2l, 1) := by decide +kernel
theorem dX13_right_2 : decode cX13_right 2 = .ok (.aload_n 0, 1) := by decide +kernel
theorem dX13_right_3 : decode cX13_right 3 = .ok (.getfield 347, 3) := by decide +kernel
theorem dX13_right_6 : decode cX13_right 6 = .ok (.i2l, 1) := by decide +kernel
theorem dX13_right_7 : decode cX13_right 7 = .ok (.ldc2_w 500, 3) := by decide +kernel
theorem dX13_right_10 : decode cX13_right 10 = .ok (.invokestatic 61, 3) := by decide +kernel
theorem dX13_right_13 : decode cX13_right 13 = .ok (.ifCond .eq 31, 3) := by decide +kernel
theorem dX13_right_16 : decode cX13_right 16 = .ok (.iload_n 2, 1) := by decide +kernel
theorem dX13_right_17 : decode cX13_right 17 = .ok (.i2l, 1) := by decide +kernel
theorem dX13_right_18 : decode cX13_right 18 = .ok (.lconst 0, 1) := by decide +kernel
theorem dX13_right_19 : decode cX13_right 19 = .ok (.aload_n 0, 1) := by decide +kernel
theorem dX13_right_20 : decode cX13_right 20 = .ok (.getfield 341, 3) := by decide +kernel
theorem dX13_right_23 : decode cX13_right 23 = .ok (.i2l, 1) := by decide +kernel
theorem dX13_right_24 : decode cX13_right 24 = .ok (.lconst 1, 1) := by decide +kernel
theorem dX13_right_25 : decode cX13_right 25 = .ok (.lsub, 1) := by decide +kernel
theorem dX13_right_26 : decode cX13_right 26 = .ok (.invokestatic 61, 3) := by decide +kernel
theorem dX13_right_29 : decode cX13_right 29 = .ok (.ifCond .eq 15, 3) := by decide +kernel
theorem dX13_right_32 : decode cX13_right 32 = .ok (.iload_n 3, 1) := by decide +kernel
theorem dX13_right_33 : decode cX13_right 33 = .ok (.i2l, 1) := by decide +kernel
theorem dX13_right_34 : decode cX13_right 34 = .ok (.lconst 0, 1) := by decide +kernel
theorem dX13_right_35 : decode cX13_right 35 = .ok (.ldc2_w 360, 3) := by decide +kernel
theorem dX13_right_38 : decode cX13_right 38 = .ok (.invokestatic 61, 3) := by decide +kernel
theorem dX13_right_41 : decode cX13_right 41 = .ok (.ifCond .ne 6, 3) := by decide +kernel
theorem dX13_right_44 : decode cX13_right 44 = .ok (.bipush (-2), 2) := by decide +kernel
theorem dX13_right_46 : decode cX13_right 46 = .ok (.ireturn, 1) := by decide +kernel
theorem dX13_right_47 : decode cX13_right 47 = .ok (.aload_n 0, 1) := by decide +kernel
theorem dX13_right_48 : decode cX13_right 48 = .ok (.getfield 344, 3) := by decide +kernel
theorem dX13_right_51 : decode cX13_right 51 = .ok (.bipush 20, 2) := by decide +kernel
theorem dX13_right_53 : decode cX13_right 53 = .ok (.if_icmp .ne 6, 3) := by decide +kernel
theorem dX13_right_56 : decode cX13_right 56 = .ok (.bipush (-3), 2) := by decide +kernel
theorem dX13_right_58 : decode cX13_right 58 = .ok (.ireturn, 1) := by decide +kernel
theorem dX13_right_59 : decode cX13_right 59 = .ok (.aload_n 0, 1) := by decide +kernel
theorem dX13_right_60 : decode cX13_right 60 = .ok (.iload_n 1, 1) := by decide +kernel
theorem dX13_right_61 : decode cX13_right 61 = .ok (.putfield 347, 3) := by decide +kernel
theorem dX13_right_64 : decode cX13_right 64 = .ok (.aload_n 0, 1) := by decide +kernel
theorem dX13_right_65 : decode cX13_right 65 = .ok (.getfield 298, 3) := by decide +kernel
theorem dX13_right_68 : decode cX13_right 68 = .ok (.aload_n 0, 1) := by decide +kernel
theorem dX13_right_69 : decode cX13_right 69 = .ok (.getfield 344, 3) := by decide +kernel
theorem dX13_right_72 : decode cX13_right 72 = .ok (.iload_n 2, 1) := by decide +kernel
theorem dX13_right_73 : decode cX13_right 73 = .ok (.iastore, 1) := by decide +kernel
theorem dX13_right_74 : decode cX13_right 74 = .ok (.aload_n 0, 1) := by decide +kernel
theorem dX13_right_75 : decode cX13_right 75 = .ok (.getfield 301, 3) := by decide +kernel
theorem dX13_right_78 : decode cX13_right 78 = .ok (.aload_n 0, 1) := by decide +kernel
theorem dX13_right_79 : decode cX13_right 79 = .ok (.getfield 344, 3) := by decide +kernel
theorem dX13_right_82 : decode cX13_right 82 = .ok (.iload_n 3, 1) := by decide +kernel
theorem dX13_right_83 : decode cX13_right 83 = .ok (.iastore, 1) := by decide +kernel
theorem dX13_right_84 : decode cX13_right 84 = .ok (.aload_n 0, 1) := by decide +kernel
theorem dX13_right_85 : decode cX13_right 85 = .ok (.getfield 304, 3) := by decide +kernel
theorem dX13_right_88 : decode cX13_right 88 = .ok (.aload_n 0, 1) := by decide +kernel
theorem dX13_right_89 : decode cX13_right 89 = .ok (.getfield 344, 3) := by decide +kernel
theorem dX13_right_92 : decode cX13_right 92 = .ok (.iload_n 1, 1) := by decide +kernel
theorem dX13_right_93 : decode cX13_right 93 = .ok (.iastore, 1) := by decide +kernel
theorem dX13_right_94 : decode cX13_right 94 = .ok (.aload_n 0, 1) := by decide +kernel
theorem dX13_right_95 : decode cX13_right 95 = .ok (.dup, 1) := by decide +kernel
theorem dX13_right_96 : decode cX13_right 96 = .ok (.getfield 344, 3) := by decide +kernel
theorem dX13_right_99 : decode cX13_right 99 = .ok (.iconst 1, 1) := by decide +kernel
theorem dX13_right_100 : decode cX13_right 100 = .ok (.iadd, 1) := by decide +kernel
theorem dX13_right_101 : decode cX13_right 101 = .ok (.putfield 344, 3) := by decide +kernel
theorem dX13_right_104 : decode cX13_right 104 = .ok (.iconst 0, 1) := by decide +kernel
theorem dX13_right_105 : decode cX13_right 105 = .ok (.istore 4, 2) := by decide +kernel
theorem dX13_right_107 : decode cX13_right 107 = .ok (.iconst 0, 1) := by decide +kernel
theorem dX13_right_108 : decode cX13_right 108 = .ok (.istore 5, 2) := by decide +kernel
theorem dX13_right_110 : decode cX13_right 110 = .ok (.iload 5, 2) := by decide +kernel
theorem dX13_right_112 : decode cX13_right 112 = .ok (.aload_n 0, 1) := by decide +kernel
theorem dX13_right_113 : decode cX13_right 113 = .ok (.getfield 344, 3) := by decide +kernel
theorem dX13_right_116 : decode cX13_right 116 = .ok (.if_icmp .ge 30, 3) := by decide +kernel
theorem dX13_right_119 : decode cX13_right 119 = .ok (.iload 4, 2) := by decide +kernel
theorem dX13_right_121 : decode cX13_right 121 = .ok (.aload_n 0, 1) := by decide +kernel
theorem dX13_right_122 : decode cX13_right 122 = .ok (.getfield 298, 3) := by decide +kernel
theorem dX13_right_125 : decode cX13_right 125 = .ok (.iload 5, 2) := by decide +kernel
theorem dX13_right_127 : decode cX13_right 127 = .ok (.iaload, 1) := by decide +kernel
theorem dX13_right_128 : decode cX13_right 128 = .ok (.iload_n 2, 1) := by decide +kernel
theorem dX13_right_129 : decode cX13_right 129 = .ok (.if_icmp .ne 7, 3) := by decide +kernel
theorem dX13_right_132 : decode cX13_right 132 = .ok (.iconst 1, 1) := by decide +kernel
theorem dX13_right_133 : decode cX13_right 133 = .ok (.goto 4, 3) := by decide +kernel
theorem dX13_right_136 : decode cX13_right 136 = .ok (.iconst 0, 1) := by decide +kernel
theorem dX13_right_137 : decode cX13_right 137 = .ok (.iadd, 1) := by decide +kernel
theorem dX13_right_138 : decode cX13_right 138 = .ok (.istore 4, 2) := by decide +kernel
theorem dX13_right_140 : decode cX13_right 140 = .ok (.iinc 5 1, 3) := by decide +kernel
theorem dX13_right_143 : decode cX13_right 143 = .ok (.goto (-33), 3) := by decide +kernel
theorem dX13_right_146 : decode cX13_right 146 = .ok (.iload 4, 2) := by decide +kernel
theorem dX13_right_148 : decode cX13_right 148 = .ok (.ireturn, 1) := by decide +kernel
set_option maxRecDepth 20000 in
theorem ggX13_right_X13_in : GoodIn wsX13_right wsX13_in := goodIn_r _ [12] rfl (by decide +kernel)
set_option maxRecDepth 20000 in
theorem gX13_right_X13_in : GoodIn wsX13_right (va_wsS RX13 61 yX13_in wsX13_in) := goodIn_app (goodIn_of _ (by decide +kernel)) ggX13_right_X13_in
set_option maxHeartbeats 4000000 in
set_option maxRecDepth 100000 in
theorem K_X13_right (l : Launch) (D : va_G) (m0 : Nat) (m_stop : Nat) (m_tape : Nat) (m_rule : Nat) (m_readRule : Nat) (m_teeth : Nat) (m_readTeeth : Nat) (m_sway : Nat) (m_readSway : Nat) (m_isTold : Nat) (m_markKind : Nat) (m_markValue : Nat) (m_marks : Nat) (m_pile : Nat) (m_height : Nat) (m_leftPass : Nat) (m_leftTurn : Nat) (m_leftTooth : Nat) (m_leftX : Nat) (m_kept : Nat) (m_keptWear : Nat) (m_now : Nat) (m_passed : Nat) (m_planTime : Nat) (m_planMany : Nat) (m_planned : Nat) (m_isQuiet : Nat) (m_keptTeeth : Nat) (m_jobRing : Nat) (m_jobSpeed : Nat) (m_jobFeed : Nat) (m_jobTurns : Nat) (m_orderRow : Nat) (m_bestRow : Nat) (m_orderTold : Nat) (m_offerRing : Nat) (m_offerSpeed : Nat) (m_offerFeed : Nat) (m_offerTurns : Nat) (m_heardOffer : Nat) (m_heardVerdict : Nat) (m_heardAt : Nat) (m_rightOf : Nat) (m_rightVerdict : Nat) (m_rightAt : Nat) (m_verdictOf : Nat) (m_sound : Nat) (m_readSound : Nat) (a : Int32) (b : Int32) (d : Int32) (sz : Nat) : Ki l yX13_right wsX13_right 2 55 0 0 D [.ref m0, .int a, .int b, .int d] [(m0, .inr (12, [.ref m_stop, .ref m_tape, .int 0, .int 0, .int 0, .int 0, .int 0, .int 0, .int 0, .int (-1), .ref m_rule, .ref m_readRule, .ref m_teeth, .ref m_readTeeth, .ref m_sway, .ref m_readSway, .ref m_isTold, .ref m_markKind, .ref m_markValue, .ref m_marks, .int 5, .int 0, .ref m_pile, .ref m_height, .ref m_leftPass, .ref m_leftTurn, .ref m_leftTooth, .ref m_leftX, .int 0, .int 0, .ref m_kept, .ref m_keptWear, .int 0, .ref m_now, .ref m_passed, .int 0, .int 0, .int 0, .ref m_planTime, .ref m_planMany, .ref m_planned, .ref m_isQuiet, .int 0, .int 0, .ref m_keptTeeth, .int 0, .int 0, .ref m_jobRing, .ref m_jobSpeed, .ref m_jobFeed, .ref m_jobTurns, .ref m_orderRow, .ref m_bestRow, .int 0, .ref m_orderTold, .int 0, .int 0, .int 0, .int 0, .ref m_offerRing, .ref m_offerSpeed, .ref m_offerFeed, .ref m_offerTurns, .ref m_heardOffer, .ref m_heardVerdict, .ref m_heardAt, .ref m_rightOf, .ref m_rightVerdict, .ref m_rightAt, .ref m_verdictOf, .ref m_sound, .ref m_readSound, .int 0]))] [] sz (fun (r : Int32) (_ : Unit) => r = (-2)) (fun (_ : Unit) => [(m0, .inr (12, [.ref m_stop, .ref m_tape, .int 0, .int 0, .int 0, .int 0, .int 0, .int 0, .int 0, .int (-1), .ref m_rule, .ref m_readRule, .ref m_teeth, .ref m_readTeeth, .ref m_sway, .ref m_readSway, .ref m_isTold, .ref m_markKind, .ref m_markValue, .ref m_marks, .int 5, .int 0, .ref m_pile, .ref m_height, .ref m_leftPass, .ref m_leftTurn, .ref m_leftTooth, .ref m_leftX, .int 0, .int 0, .ref m_kept, .ref m_keptWear, .int 0, .ref m_now, .ref m_passed, .int 0, .int 0, .int 0, .ref m_planTime, .ref m_planMany, .ref m_planned, .ref m_isQuiet, .int 0, .int 0, .ref m_keptTeeth, .int 0, .int 0, .ref m_jobRing, .ref m_jobSpeed, .ref m_jobFeed, .ref m_jobTurns, .ref m_orderRow, .ref m_bestRow, .int 0, .ref m_orderTold, .int 0, .int 0, .int 0, .int 0, .ref m_offerRing, .ref m_offerSpeed, .ref m_offerFeed, .ref m_offerTurns, .ref m_heardOffer, .ref m_heardVerdict, .ref m_heardAt, .ref m_rightOf, .ref m_rightVerdict, .ref m_rightAt, .ref m_verdictOf, .ref m_sound, .ref m_readSound, .int 0]))]) (fun (_ : Unit) => []) := by
  unfold Ki
  refine g_ofW (cc := cX13_right) (lv := [(0, .ref m0), (1, .int a), (2, .int b), (3, .int d)]) (by decide) rfl (Nat.le_of_ble_eq_true rfl) rfl ?_
  intro p e s m args below meth c A Q hA hQ F hr hnm
  have hts := F.2.2.2.2.1
  have w_0 : (Cond.fieldLink RX13 347 "QuietCutModel" "telling" "I").before args s = true := hts _ (List.mem_of_getElem? (i := 1) rfl)
  have i_X13 : ∀ w ∈ u_ws RX13 TX13 73, w ∈ wsX13_right := fun _ h => List.mem_cons_of_mem _ (List.mem_append_right _ h)
  have w_1 : (Cond.constantLong RX13 500 (999)).before args s = true := hts _ (List.mem_of_getElem? (i := 2) rfl)
  have w_2 : (Cond.fieldLink RX13 341 "QuietCutModel" "heards" "I").before args s = true := hts _ (List.mem_of_getElem? (i := 3) rfl)
  refine g_iload_n F 1 dX13_right_0 rfl rfl ?_
  refine g_i2l F dX13_right_1 ?_
  refine g_aload_n F 0 dX13_right_2 rfl rfl ?_
  refine g_get (C := RX13) (T := TX13) (N := 73) (v := .int 0) F i_X13 0 rfl rfl 58 (by decide) w_0 rfl rfl dX13_right_3 ?_
  refine g_i2l F dX13_right_6 ?_
  refine g_ldc2 F w_1 dX13_right_7 ?_
  refine g_callSi (k := 0) (n := 0) (As := [.long a.toInt64, .long ((0 : Int32).toInt64), .long 999]) (st := []) (wc := []) (wr := [(m0, .inr (12, [.ref m_stop, .ref m_tape, .int 0, .int 0, .int 0, .int 0, .int 0, .int 0, .int 0, .int (-1), .ref m_rule, .ref m_readRule, .ref m_teeth, .ref m_readTeeth, .ref m_sway, .ref m_readSway, .ref m_isTold, .ref m_markKind, .ref m_markValue, .ref m_marks, .int 5, .int 0, .ref m_pile, .ref m_height, .ref m_leftPass, .ref m_leftTurn, .ref m_leftTooth, .ref m_leftX, .int 0, .int 0, .ref m_kept, .ref m_keptWear, .int 0, .ref m_now, .ref m_passed, .int 0, .int 0, .int 0, .ref m_planTime, .ref m_planMany, .ref m_planned, .ref m_isQuiet, .int 0, .int 0, .ref m_keptTeeth, .int 0, .int 0, .ref m_jobRing, .ref m_jobSpeed, .ref m_jobFeed, .ref m_jobTurns, .ref m_orderRow, .ref m_bestRow, .int 0, .ref m_orderTold, .int 0, .int 0, .int 0, .int 0, .ref m_offerRing, .ref m_offerSpeed, .ref m_offerFeed, .ref m_offerTurns, .ref m_heardOffer, .ref m_heardVerdict, .ref m_heardAt, .ref m_rightOf, .ref m_rightVerdict, .ref m_rightAt, .ref m_verdictOf, .ref m_sound, .ref m_readSound, .int 0]))]) F [] [0] [] rfl rfl (by decide) rfl (by decide) (by decide) rfl (fun sz => K_X13_in l D a.toInt64 ((0 : Int32).toInt64) 999  sz) (va_cwS 3 hts gX13_right_X13_in rfl rfl rfl (by decide +kernel) ⟨Nat.le_of_ble_eq_true rfl, Nat.le_of_ble_eq_true rfl⟩) rfl (Nat.le_of_ble_eq_true rfl) ⟨Nat.le_of_ble_eq_true rfl, Nat.le_of_ble_eq_true rfl⟩ dX13_right_10 (fun r_1 _ hw_2 => ?_)
  have hw_2 : r_1 = (if ((0 : Int32).toInt64) ≤ a.toInt64 ∧ a.toInt64 ≤ 999 then 1 else 0) := hw_2
  have e_r_1 := hw_2
  show gG p l e (gR 2 0 0 55) s m args below meth c D A 6 Q 0 0 [(m0, .inr (12, [.ref m_stop, .ref m_tape, .int 0, .int 0, .int 0, .int 0, .int 0, .int 0, .int 0, .int (-1), .ref m_rule, .ref m_readRule, .ref m_teeth, .ref m_readTeeth, .ref m_sway, .ref m_readSway, .ref m_isTold, .ref m_markKind, .ref m_markValue, .ref m_marks, .int 5, .int 0, .ref m_pile, .ref m_height, .ref m_leftPass, .ref m_leftTurn, .ref m_leftTooth, .ref m_leftX, .int 0, .int 0, .ref m_kept, .ref m_keptWear, .int 0, .ref m_now, .ref m_passed, .int 0, .int 0, .int 0, .ref m_planTime, .ref m_planMany, .ref m_planned, .ref m_isQuiet, .int 0, .int 0, .ref m_keptTeeth, .int 0, .int 0, .ref m_jobRing, .ref m_jobSpeed, .ref m_jobFeed, .ref m_jobTurns, .ref m_orderRow, .ref m_bestRow, .int 0, .ref m_orderTold, .int 0, .int 0, .int 0, .int 0, .ref m_offerRing, .ref m_offerSpeed, .ref m_offerFeed, .ref m_offerTurns, .ref m_heardOffer, .ref m_heardVerdict, .ref m_heardAt, .ref m_rightOf, .ref m_rightVerdict, .ref m_rightAt, .ref m_verdictOf, .ref m_sound, .ref m_readSound, .int 0]))] [] [(0, .ref m0), (1, .int a), (2, .int b), (3, .int d)] 13 [.int r_1]
  refine g_fold (if ((0 : Int32).toInt64) ≤ a.toInt64 ∧ a.toInt64 ≤ 999 then 1 else 0) e_r_1 ?_
  refine g_fold (if 0 ≤ a ∧ a ≤ 999 then 1 else 0) (gl_in a 0 999 _ _ (by decide) (by decide)) ?_
  refine g_if_eq F 44 dX13_right_13 (by decide) (fun c_13 => ?_) (fun c_13 => ?_)
  · have c_13 := gb_0 c_13
    refine g_bipush F (-2) dX13_right_44 (by decide) ?_
    exact g_iret F hA hQ hr () (rfl) [0] [] rfl (by decide) rfl rfl dX13_right_46
  · have c_13 := gb_n0 c_13
    refine g_iload_n F 2 dX13_right_16 rfl rfl ?_
    refine g_i2l F dX13_right_17 ?_
    refine g_lconst F 0 dX13_right_18 (by decide) ?_
    refine g_aload_n F 0 dX13_right_19 rfl rfl ?_
    refine g_get (C := RX13) (T := TX13) (N := 73) (v := .int 0) F i_X13 0 rfl rfl 56 (by decide) w_2 rfl rfl dX13_right_20 ?_
    refine g_i2l F dX13_right_23 ?_
    refine g_lconst F 1 dX13_right_24 (by decide) ?_
    refine g_lsub F dX13_right_25 ?_
    refine g_callSi (k := 0) (n := 0) (As := [.long b.toInt64, .long 0, .long (((0 : Int32).toInt64) - 1)]) (st := []) (wc := []) (wr := [(m0, .inr (12, [.ref m_stop, .ref m_tape, .int 0, .int 0, .int 0, .int 0, .int 0, .int 0, .int 0, .int (-1), .ref m_rule, .ref m_readRule, .ref m_teeth, .ref m_readTeeth, .ref m_sway, .ref m_readSway, .ref m_isTold, .ref m_markKind, .ref m_markValue, .ref m_marks, .int 5, .int 0, .ref m_pile, .ref m_height, .ref m_leftPass, .ref m_leftTurn, .ref m_leftTooth, .ref m_leftX, .int 0, .int 0, .ref m_kept, .ref m_keptWear, .int 0, .ref m_now, .ref m_passed, .int 0, .int 0, .int 0, .ref m_planTime, .ref m_planMany, .ref m_planned, .ref m_isQuiet, .int 0, .int 0, .ref m_keptTeeth, .int 0, .int 0, .ref m_jobRing, .ref m_jobSpeed, .ref m_jobFeed, .ref m_jobTurns, .ref m_orderRow, .ref m_bestRow, .int 0, .ref m_orderTold, .int 0, .int 0, .int 0, .int 0, .ref m_offerRing, .ref m_offerSpeed, .ref m_offerFeed, .ref m_offerTurns, .ref m_heardOffer, .ref m_heardVerdict, .ref m_heardAt, .ref m_rightOf, .ref m_rightVerdict, .ref m_rightAt, .ref m_verdictOf, .ref m_sound, .ref m_readSound, .int 0]))]) F [] [0] [] rfl rfl (by decide) rfl (by decide) (by decide) rfl (fun sz => K_X13_in l D b.toInt64 0 (((0 : Int32).toInt64) - 1)  sz) (va_cwS 3 hts gX13_right_X13_in rfl rfl rfl (by decide +kernel) ⟨Nat.le_of_ble_eq_true rfl, Nat.le_of_ble_eq_true rfl⟩) rfl (Nat.le_of_ble_eq_true rfl) ⟨Nat.le_of_ble_eq_true rfl, Nat.le_of_ble_eq_true rfl⟩ dX13_right_26 (fun r_6 _ hw_7 => ?_)
    have hw_7 : r_6 = (if 0 ≤ b.toInt64 ∧ b.toInt64 ≤ (((0 : Int32).toInt64) - 1) then 1 else 0) := hw_7
    have e_r_6 := hw_7
    show gG p l e (gR 2 0 0 55) s m args below meth c D A 6 Q 0 0 [(m0, .inr (12, [.ref m_stop, .ref m_tape, .int 0, .int 0, .int 0, .int 0, .int 0, .int 0, .int 0, .int (-1), .ref m_rule, .ref m_readRule, .ref m_teeth, .ref m_readTeeth, .ref m_sway, .ref m_readSway, .ref m_isTold, .ref m_markKind, .ref m_markValue, .ref m_marks, .int 5, .int 0, .ref m_pile, .ref m_height, .ref m_leftPass, .ref m_leftTurn, .ref m_leftTooth, .ref m_leftX, .int 0, .int 0, .ref m_kept, .ref m_keptWear, .int 0, .ref m_now, .ref m_passed, .int 0, .int 0, .int 0, .ref m_planTime, .ref m_planMany, .ref m_planned, .ref m_isQuiet, .int 0, .int 0, .ref m_keptTeeth, .int 0, .int 0, .ref m_jobRing, .ref m_jobSpeed, .ref m_jobFeed, .ref m_jobTurns, .ref m_orderRow, .ref m_bestRow, .int 0, .ref m_orderTold, .int 0, .int 0, .int 0, .int 0, .ref m_offerRing, .ref m_offerSpeed, .ref m_offerFeed, .ref m_offerTurns, .ref m_heardOffer, .ref m_heardVerdict, .ref m_heardAt, .ref m_rightOf, .ref m_rightVerdict, .ref m_rightAt, .ref m_verdictOf, .ref m_sound, .ref m_readSound, .int 0]))] [] [(0, .ref m0), (1, .int a), (2, .int b), (3, .int d)] 29 [.int r_6]
    refine g_fold (if 0 ≤ b.toInt64 ∧ b.toInt64 ≤ (((0 : Int32).toInt64) - 1) then 1 else 0) e_r_6 ?_
    refine g_fold (if 0 ≤ b ∧ b ≤ (-1) then 1 else 0) (gl_in b 0 (-1) _ _ (by decide) (by decide)) ?_
    refine g_if_eq F 44 dX13_right_29 (by decide) (fun c_29 => ?_) (fun c_29 => ?_)
    · have c_29 := gb_0 c_29
      refine g_bipush F (-2) dX13_right_44 (by decide) ?_
      exact g_iret F hA hQ hr () (rfl) [0] [] rfl (by decide) rfl rfl dX13_right_46
    · have c_29 := gb_n0 c_29
      exfalso; simp only [Int32.lt_iff_toInt_lt, Int32.le_iff_toInt_le, ← Int32.toInt_inj, Int32.reduceToInt] at c_29; omega

theorem dX13_putBy_0 : decode cX13_putBy 0 = .ok (.iconst 0, 1) := by decide +kernel
theorem dX13_putBy_1 : decode cX13_putBy 1 = .ok (.istore_n 1, 1) := by decide +kernel
theorem dX13_putBy_2 : decode cX13_putBy 2 = .ok (.iload_n 1, 1) := by decide +kernel
theorem dX13_putBy_3 : decode cX13_putBy 3 = .ok (.bipush 96, 2) := by decide +kernel
theorem dX13_putBy_5 : decode cX13_putBy 5 = .ok (.if_icmp .ge 29, 3) := by decide +kernel
theorem dX13_putBy_8 : decode cX13_putBy 8 = .ok (.aload_n 0, 1) := by decide +kernel
theorem dX13_putBy_9 : decode cX13_putBy 9 = .ok (.getfield 229, 3) := by decide +kernel
theorem dX13_putBy_12 : decode cX13_putBy 12 = .ok (.bipush 96, 2) := by decide +kernel
theorem dX13_putBy_14 : decode cX13_putBy 14 = .ok (.aload_n 0, 1) := by decide +kernel
theorem dX13_putBy_15 : decode cX13_putBy 15 = .ok (.getfield 382, 3) := by decide +kernel
theorem dX13_putBy_18 : decode cX13_putBy 18 = .ok (.imul, 1) := by decide +kernel
theorem dX13_putBy_19 : decode cX13_putBy 19 = .ok (.iload_n 1, 1) := by decide +kernel
theorem dX13_putBy_20 : decode cX13_putBy 20 = .ok (.iadd, 1) := by decide +kernel
theorem dX13_putBy_21 : decode cX13_putBy 21 = .ok (.aload_n 0, 1) := by decide +kernel
theorem dX13_putBy_22 : decode cX13_putBy 22 = .ok (.getfield 214, 3) := by decide +kernel
theorem dX13_putBy_25 : decode cX13_putBy 25 = .ok (.iload_n 1, 1) := by decide +kernel
theorem dX13_putBy_26 : decode cX13_putBy 26 = .ok (.iaload, 1) := by decide +kernel
theorem dX13_putBy_27 : decode cX13_putBy 27 = .ok (.iastore, 1) := by decide +kernel
theorem dX13_putBy_28 : decode cX13_putBy 28 = .ok (.iinc 1 1, 3) := by decide +kernel
theorem dX13_putBy_31 : decode cX13_putBy 31 = .ok (.goto (-29), 3) := by decide +kernel
theorem dX13_putBy_34 : decode cX13_putBy 34 = .ok (.aload_n 0, 1) := by decide +kernel
theorem dX13_putBy_35 : decode cX13_putBy 35 = .ok (.getfield 232, 3) := by decide +kernel
theorem dX13_putBy_38 : decode cX13_putBy 38 = .ok (.aload_n 0, 1) := by decide +kernel
theorem dX13_putBy_39 : decode cX13_putBy 39 = .ok (.getfield 382, 3) := by decide +kernel
theorem dX13_putBy_42 : decode cX13_putBy 42 = .ok (.aload_n 0, 1) := by decide +kernel
theorem dX13_putBy_43 : decode cX13_putBy 43 = .ok (.getfield 362, 3) := by decide +kernel
theorem dX13_putBy_46 : decode cX13_putBy 46 = .ok (.iastore, 1) := by decide +kernel
theorem dX13_putBy_47 : decode cX13_putBy 47 = .ok (.aload_n 0, 1) := by decide +kernel
theorem dX13_putBy_48 : decode cX13_putBy 48 = .ok (.dup, 1) := by decide +kernel
theorem dX13_putBy_49 : decode cX13_putBy 49 = .ok (.getfield 382, 3) := by decide +kernel
theorem dX13_putBy_52 : decode cX13_putBy 52 = .ok (.iconst 1, 1) := by decide +kernel
theorem dX13_putBy_53 : decode cX13_putBy 53 = .ok (.iadd, 1) := by decide +kernel
theorem dX13_putBy_54 : decode cX13_putBy 54 = .ok (.putfield 382, 3) := by decide +kernel
theorem dX13_putBy_57 : decode cX13_putBy 57 = .ok (.return_, 1) := by decide +kernel
set_option maxHeartbeats 4000000 in
set_option maxRecDepth 100000 in
theorem K_X13_putBy (l : Launch) (D : va_G) (m0 : Nat) (m_stop : Nat) (m_tape : Nat) (i_taped : Int32) (i_length : Int32) (i_from : Int32) (i_behind : Int32) (i_hand : Int32) (i_value : Int32) (i_fault : Int32) (i_faultAt : Int32) (m_rule : Nat) (m_readRule : Nat) (m_teeth : Nat) (m_readTeeth : Nat) (m_sway : Nat) (m_readSway : Nat) (m_isTold : Nat) (m_markKind : Nat) (m_markValue : Nat) (m_marks : Nat) (i_sum : Int32) (i_parts : Int32) (m_pile : Nat) (m_height : Nat) (m_leftPass : Nat) (m_leftTurn : Nat) (m_leftTooth : Nat) (m_leftX : Nat) (i_wear : Int32) (i_cuts : Int32) (m_kept : Nat) (m_keptWear : Nat) (m_now : Nat) (m_passed : Nat) (i_x : Int32) (i_v : Int32) (i_hasPassed : Int32) (m_planTime : Nat) (m_planMany : Nat) (m_planned : Nat) (m_isQuiet : Nat) (i_plans : Int32) (i_hasPlan : Int32) (m_keptTeeth : Nat) (i_jobs : Int32) (i_orderBest : Int32) (m_jobRing : Nat) (m_jobSpeed : Nat) (m_jobFeed : Nat) (m_jobTurns : Nat) (m_orderRow : Nat) (m_bestRow : Nat) (i_hasOrder : Int32) (m_orderTold : Nat) (i_offers : Int32) (i_heards : Int32) (i_rights : Int32) (i_telling : Int32) (m_offerRing : Nat) (m_offerSpeed : Nat) (m_offerFeed : Nat) (m_offerTurns : Nat) (m_heardOffer : Nat) (m_heardVerdict : Nat) (m_heardAt : Nat) (m_rightOf : Nat) (m_rightVerdict : Nat) (m_rightAt : Nat) (m_verdictOf : Nat) (m_sound : Nat) (m_readSound : Nat) (i_sounds : Int32) (cI : ClassId) (fk : Nat → Int32) (fh : Nat → Int32) (fw : Nat → Int32) (sz : Nat) : Kv l yX13_putBy wsX13_putBy 1 40 0 0 D [.ref m0] [(m0, .inr (12, [.ref m_stop, .ref m_tape, .int i_taped, .int i_length, .int i_from, .int i_behind, .int i_hand, .int i_value, .int i_fault, .int i_faultAt, .ref m_rule, .ref m_readRule, .ref m_teeth, .ref m_readTeeth, .ref m_sway, .ref m_readSway, .ref m_isTold, .ref m_markKind, .ref m_markValue, .ref m_marks, .int i_sum, .int i_parts, .ref m_pile, .ref m_height, .ref m_leftPass, .ref m_leftTurn, .ref m_leftTooth, .ref m_leftX, .int i_wear, .int i_cuts, .ref m_kept, .ref m_keptWear, .int 0, .ref m_now, .ref m_passed, .int i_x, .int i_v, .int i_hasPassed, .ref m_planTime, .ref m_planMany, .ref m_planned, .ref m_isQuiet, .int i_plans, .int i_hasPlan, .ref m_keptTeeth, .int i_jobs, .int i_orderBest, .ref m_jobRing, .ref m_jobSpeed, .ref m_jobFeed, .ref m_jobTurns, .ref m_orderRow, .ref m_bestRow, .int i_hasOrder, .ref m_orderTold, .int i_offers, .int i_heards, .int i_rights, .int i_telling, .ref m_offerRing, .ref m_offerSpeed, .ref m_offerFeed, .ref m_offerTurns, .ref m_heardOffer, .ref m_heardVerdict, .ref m_heardAt, .ref m_rightOf, .ref m_rightVerdict, .ref m_rightAt, .ref m_verdictOf, .ref m_sound, .ref m_readSound, .int i_sounds])), (m_kept, .inl (cI, 672, .inl fk)), (m_height, .inl (cI, 96, .inl fh)), (m_keptWear, .inl (cI, 7, .inl fw))] [(cI, .int)] sz (fun (u : (Nat → Int32)) => ∀ j, j < 96 → u j = fh j) (fun (u : (Nat → Int32)) => [(m0, .inr (12, [.ref m_stop, .ref m_tape, .int i_taped, .int i_length, .int i_from, .int i_behind, .int i_hand, .int i_value, .int i_fault, .int i_faultAt, .ref m_rule, .ref m_readRule, .ref m_teeth, .ref m_readTeeth, .ref m_sway, .ref m_readSway, .ref m_isTold, .ref m_markKind, .ref m_markValue, .ref m_marks, .int i_sum, .int i_parts, .ref m_pile, .ref m_height, .ref m_leftPass, .ref m_leftTurn, .ref m_leftTooth, .ref m_leftX, .int i_wear, .int i_cuts, .ref m_kept, .ref m_keptWear, .int 1, .ref m_now, .ref m_passed, .int i_x, .int i_v, .int i_hasPassed, .ref m_planTime, .ref m_planMany, .ref m_planned, .ref m_isQuiet, .int i_plans, .int i_hasPlan, .ref m_keptTeeth, .int i_jobs, .int i_orderBest, .ref m_jobRing, .ref m_jobSpeed, .ref m_jobFeed, .ref m_jobTurns, .ref m_orderRow, .ref m_bestRow, .int i_hasOrder, .ref m_orderTold, .int i_offers, .int i_heards, .int i_rights, .int i_telling, .ref m_offerRing, .ref m_offerSpeed, .ref m_offerFeed, .ref m_offerTurns, .ref m_heardOffer, .ref m_heardVerdict, .ref m_heardAt, .ref m_rightOf, .ref m_rightVerdict, .ref m_rightAt, .ref m_verdictOf, .ref m_sound, .ref m_readSound, .int i_sounds])), (m_kept, .inl (cI, 672, .inl u)), (m_height, .inl (cI, 96, .inl fh)), (m_keptWear, .inl (cI, 7, .inl (upd fw 0 i_wear)))]) (fun (_ : (Nat → Int32)) => [(cI, .int)]) := by
  unfold Kv
  refine g_ofW (cc := cX13_putBy) (lv := [(0, .ref m0)]) (by decide) rfl (Nat.le_of_ble_eq_true rfl) rfl ?_
  intro p e s m args below meth c A Q hA hQ F hr hnm
  have hts := F.2.2.2.2.1
  have w_0 : (Cond.fieldLink RX13 232 "QuietCutModel" "keptWear" "[I").before args s = true := hts _ (List.mem_of_getElem? (i := 4) rfl)
  have i_X13 : ∀ w ∈ u_ws RX13 TX13 73, w ∈ wsX13_putBy := fun _ h => List.mem_cons_of_mem _ (List.mem_append_right _ h)
  have w_1 : (Cond.fieldLink RX13 382 "QuietCutModel" "deep" "I").before args s = true := hts _ (List.mem_of_getElem? (i := 2) rfl)
  have w_2 : (Cond.fieldLink RX13 362 "QuietCutModel" "wear" "I").before args s = true := hts _ (List.mem_of_getElem? (i := 5) rfl)
  have w_3 : (Cond.fieldLink RX13 229 "QuietCutModel" "kept" "[I").before args s = true := hts _ (List.mem_of_getElem? (i := 1) rfl)
  have w_4 : (Cond.fieldLink RX13 214 "QuietCutModel" "height" "[I").before args s = true := hts _ (List.mem_of_getElem? (i := 3) rfl)
  refine g_iconst F 0 dX13_putBy_0 (by decide) ?_
  refine g_istore_n F [(1, .int 0), (0, .ref m0)] dX13_putBy_1 rfl (by decide) rfl ?_
  refine g_locals [(0, .ref m0), (1, .int 0)] [1, 0] rfl ?_
  have loop_2 : ∀ (fuel : Nat) (k : Nat) (g : Nat → Int32), 96 - k < fuel → (k ≤ 96) → (∀ j, j < k → g j = fh j) → gG p l e (gR 1 0 0 40) s m args below meth c D A 2 Q 0 0 [(m0, .inr (12, [.ref m_stop, .ref m_tape, .int i_taped, .int i_length, .int i_from, .int i_behind, .int i_hand, .int i_value, .int i_fault, .int i_faultAt, .ref m_rule, .ref m_readRule, .ref m_teeth, .ref m_readTeeth, .ref m_sway, .ref m_readSway, .ref m_isTold, .ref m_markKind, .ref m_markValue, .ref m_marks, .int i_sum, .int i_parts, .ref m_pile, .ref m_height, .ref m_leftPass, .ref m_leftTurn, .ref m_leftTooth, .ref m_leftX, .int i_wear, .int i_cuts, .ref m_kept, .ref m_keptWear, .int 0, .ref m_now, .ref m_passed, .int i_x, .int i_v, .int i_hasPassed, .ref m_planTime, .ref m_planMany, .ref m_planned, .ref m_isQuiet, .int i_plans, .int i_hasPlan, .ref m_keptTeeth, .int i_jobs, .int i_orderBest, .ref m_jobRing, .ref m_jobSpeed, .ref m_jobFeed, .ref m_jobTurns, .ref m_orderRow, .ref m_bestRow, .int i_hasOrder, .ref m_orderTold, .int i_offers, .int i_heards, .int i_rights, .int i_telling, .ref m_offerRing, .ref m_offerSpeed, .ref m_offerFeed, .ref m_offerTurns, .ref m_heardOffer, .ref m_heardVerdict, .ref m_heardAt, .ref m_rightOf, .ref m_rightVerdict, .ref m_rightAt, .ref m_verdictOf, .ref m_sound, .ref m_readSound, .int i_sounds])), (m_kept, .inl (cI, 672, .inl g)), (m_height, .inl (cI, 96, .inl fh)), (m_keptWear, .inl (cI, 7, .inl fw))] [(cI, .int)] [(0, .ref m0), (1, .int (nI k))] 2 [] := by
    intro fuel_2
    induction fuel_2 with
    | zero => intro k g hm; exact absurd hm (Nat.not_lt_zero _)
    | succ fuel_2 ih_2 =>
      intro k g hm2 hk0 hg
      refine g_iload_n F 1 dX13_putBy_2 rfl rfl ?_
      refine g_bipush F 96 dX13_putBy_3 (by decide) ?_
      refine g_icmp_ge F 34 dX13_putBy_5 (by decide) (fun c_5 => ?_) (fun c_5 => ?_)
      · have hk : k = 96 := Nat.le_antisymm hk0 (Nat.le_of_not_lt (fun h => nI_ge (b := 96) h (by decide) c_5))
        refine g_aload_n F 0 dX13_putBy_34 rfl rfl ?_
        refine g_get (C := RX13) (T := TX13) (N := 73) (v := .ref m_keptWear) F i_X13 0 rfl rfl 31 (by decide) w_0 rfl rfl dX13_putBy_35 ?_
        refine g_aload_n F 0 dX13_putBy_38 rfl rfl ?_
        refine g_get (C := RX13) (T := TX13) (N := 73) (v := .int 0) F i_X13 0 rfl rfl 32 (by decide) w_1 rfl rfl dX13_putBy_39 ?_
        refine g_aload_n F 0 dX13_putBy_42 rfl rfl ?_
        refine g_get (C := RX13) (T := TX13) (N := 73) (v := .int i_wear) F i_X13 0 rfl rfl 28 (by decide) w_2 rfl rfl dX13_putBy_43 ?_
        refine g_iast F 3 0 rfl rfl (by unfold vp_in; decide) [(m0, .inr (12, [.ref m_stop, .ref m_tape, .int i_taped, .int i_length, .int i_from, .int i_behind, .int i_hand, .int i_value, .int i_fault, .int i_faultAt, .ref m_rule, .ref m_readRule, .ref m_teeth, .ref m_readTeeth, .ref m_sway, .ref m_readSway, .ref m_isTold, .ref m_markKind, .ref m_markValue, .ref m_marks, .int i_sum, .int i_parts, .ref m_pile, .ref m_height, .ref m_leftPass, .ref m_leftTurn, .ref m_leftTooth, .ref m_leftX, .int i_wear, .int i_cuts, .ref m_kept, .ref m_keptWear, .int 0, .ref m_now, .ref m_passed, .int i_x, .int i_v, .int i_hasPassed, .ref m_planTime, .ref m_planMany, .ref m_planned, .ref m_isQuiet, .int i_plans, .int i_hasPlan, .ref m_keptTeeth, .int i_jobs, .int i_orderBest, .ref m_jobRing, .ref m_jobSpeed, .ref m_jobFeed, .ref m_jobTurns, .ref m_orderRow, .ref m_bestRow, .int i_hasOrder, .ref m_orderTold, .int i_offers, .int i_heards, .int i_rights, .int i_telling, .ref m_offerRing, .ref m_offerSpeed, .ref m_offerFeed, .ref m_offerTurns, .ref m_heardOffer, .ref m_heardVerdict, .ref m_heardAt, .ref m_rightOf, .ref m_rightVerdict, .ref m_rightAt, .ref m_verdictOf, .ref m_sound, .ref m_readSound, .int i_sounds])), (m_kept, .inl (cI, 672, .inl g)), (m_height, .inl (cI, 96, .inl fh)), (m_keptWear, .inl (cI, 7, .inl (upd fw 0 i_wear)))] (rfl) dX13_putBy_46 ?_
        refine g_aload_n F 0 dX13_putBy_47 rfl rfl ?_
        refine g_dup F dX13_putBy_48 rfl ?_
        refine g_get (C := RX13) (T := TX13) (N := 73) (v := .int 0) F i_X13 0 rfl rfl 32 (by decide) w_1 rfl rfl dX13_putBy_49 ?_
        refine g_iconst F 1 dX13_putBy_52 (by decide) ?_
        refine g_iadd F dX13_putBy_53 ?_
        refine g_fold 1 (by decide) ?_
        refine g_put (C := RX13) (T := TX13) (N := 73) (ty := .int) (v := .int 1) F i_X13 0 rfl rfl 32 (by decide) w_1 rfl tyX13 tyX13_ok nmX13 rfl (by decide +kernel) rfl rfl (Nat.le_of_ble_eq_true rfl) [(m0, .inr (12, [.ref m_stop, .ref m_tape, .int i_taped, .int i_length, .int i_from, .int i_behind, .int i_hand, .int i_value, .int i_fault, .int i_faultAt, .ref m_rule, .ref m_readRule, .ref m_teeth, .ref m_readTeeth, .ref m_sway, .ref m_readSway, .ref m_isTold, .ref m_markKind, .ref m_markValue, .ref m_marks, .int i_sum, .int i_parts, .ref m_pile, .ref m_height, .ref m_leftPass, .ref m_leftTurn, .ref m_leftTooth, .ref m_leftX, .int i_wear, .int i_cuts, .ref m_kept, .ref m_keptWear, .int 1, .ref m_now, .ref m_passed, .int i_x, .int i_v, .int i_hasPassed, .ref m_planTime, .ref m_planMany, .ref m_planned, .ref m_isQuiet, .int i_plans, .int i_hasPlan, .ref m_keptTeeth, .int i_jobs, .int i_orderBest, .ref m_jobRing, .ref m_jobSpeed, .ref m_jobFeed, .ref m_jobTurns, .ref m_orderRow, .ref m_bestRow, .int i_hasOrder, .ref m_orderTold, .int i_offers, .int i_heards, .int i_rights, .int i_telling, .ref m_offerRing, .ref m_offerSpeed, .ref m_offerFeed, .ref m_offerTurns, .ref m_heardOffer, .ref m_heardVerdict, .ref m_heardAt, .ref m_rightOf, .ref m_rightVerdict, .ref m_rightAt, .ref m_verdictOf, .ref m_sound, .ref m_readSound, .int i_sounds])), (m_kept, .inl (cI, 672, .inl g)), (m_height, .inl (cI, 96, .inl fh)), (m_keptWear, .inl (cI, 7, .inl (upd fw 0 i_wear)))] rfl dX13_putBy_54 ?_
        exact g_vret F hA hQ hr g (fun j hj => hg j (by omega)) [0, 1, 2, 3] [0] rfl (by decide) rfl rfl dX13_putBy_57
      · have hk : k < 96 := Nat.lt_of_not_le (fun h => c_5 (nI_le (a := 96) h (by omega)))
        refine g_aload_n F 0 dX13_putBy_8 rfl rfl ?_
        refine g_get (C := RX13) (T := TX13) (N := 73) (v := .ref m_kept) F i_X13 0 rfl rfl 30 (by decide) w_3 rfl rfl dX13_putBy_9 ?_
        refine g_bipush F 96 dX13_putBy_12 (by decide) ?_
        refine g_aload_n F 0 dX13_putBy_14 rfl rfl ?_
        refine g_get (C := RX13) (T := TX13) (N := 73) (v := .int 0) F i_X13 0 rfl rfl 32 (by decide) w_1 rfl rfl dX13_putBy_15 ?_
        refine g_imul F dX13_putBy_18 ?_
        refine g_fold 0 (by decide) ?_
        refine g_iload_n F 1 dX13_putBy_19 rfl rfl ?_
        refine g_iadd F dX13_putBy_20 ?_
        refine g_fold (nI k) (by rw [show (0 : Int32) + nI k = nI k from by simp]) ?_
        refine g_aload_n F 0 dX13_putBy_21 rfl rfl ?_
        refine g_get (C := RX13) (T := TX13) (N := 73) (v := .ref m_height) F i_X13 0 rfl rfl 23 (by decide) w_4 rfl rfl dX13_putBy_22 ?_
        refine g_iload_n F 1 dX13_putBy_25 rfl rfl ?_
        refine g_iald F 2 0 rfl rfl (vp_in_nI hk (by decide)) dX13_putBy_26 ?_
        refine g_fold (fh k) (by rw [nI_clamp (by omega)]) ?_
        refine g_iast F 1 0 rfl rfl (vp_in_nI (Nat.lt_trans hk (by decide)) (by decide)) [(m0, .inr (12, [.ref m_stop, .ref m_tape, .int i_taped, .int i_length, .int i_from, .int i_behind, .int i_hand, .int i_value, .int i_fault, .int i_faultAt, .ref m_rule, .ref m_readRule, .ref m_teeth, .ref m_readTeeth, .ref m_sway, .ref m_readSway, .ref m_isTold, .ref m_markKind, .ref m_markValue, .ref m_marks, .int i_sum, .int i_parts, .ref m_pile, .ref m_height, .ref m_leftPass, .ref m_leftTurn, .ref m_leftTooth, .ref m_leftX, .int i_wear, .int i_cuts, .ref m_kept, .ref m_keptWear, .int 0, .ref m_now, .ref m_passed, .int i_x, .int i_v, .int i_hasPassed, .ref m_planTime, .ref m_planMany, .ref m_planned, .ref m_isQuiet, .int i_plans, .int i_hasPlan, .ref m_keptTeeth, .int i_jobs, .int i_orderBest, .ref m_jobRing, .ref m_jobSpeed, .ref m_jobFeed, .ref m_jobTurns, .ref m_orderRow, .ref m_bestRow, .int i_hasOrder, .ref m_orderTold, .int i_offers, .int i_heards, .int i_rights, .int i_telling, .ref m_offerRing, .ref m_offerSpeed, .ref m_offerFeed, .ref m_offerTurns, .ref m_heardOffer, .ref m_heardVerdict, .ref m_heardAt, .ref m_rightOf, .ref m_rightVerdict, .ref m_rightAt, .ref m_verdictOf, .ref m_sound, .ref m_readSound, .int i_sounds])), (m_kept, .inl (cI, 672, .inl (upd g k (fh k)))), (m_height, .inl (cI, 96, .inl fh)), (m_keptWear, .inl (cI, 7, .inl fw))] (by rw [nI_clamp (by omega)]; rfl) dX13_putBy_27 ?_
        refine g_iinc F (j := 1) (nI (k + 1)) [(1, .int (nI (k + 1))), (0, .ref m0)] dX13_putBy_28 rfl (nI_1 k) (by decide) rfl ?_
        refine g_goto F 2 dX13_putBy_31 (by decide) ?_
        refine g_locals [(0, .ref m0), (1, .int (nI (k + 1)))] [1, 0] rfl ?_
        exact ih_2 (k + 1) (upd g k (fh k)) (by omega) (hk) (fun j hj => by
          by_cases e9 : j = k
          · subst e9; rw [pk_us]
          · rw [pk_un e9]; exact hg j (by omega))
  exact loop_2 (_ + 1) 0 fk (Nat.lt_succ_self _) (Nat.zero_le _) (fun j hj => absurd hj (Nat.not_lt_zero j))

theorem dX13_putBack_0 : decode cX13_putBack 0 = .ok (.aload_n 0, 1) := by decide +kernel
theorem dX13_putBack_1 : decode cX13_putBack 1 = .ok (.dup, 1) := by decide +kernel
theorem dX13_putBack_2 : decode cX13_putBack 2 = .ok (.getfield 382, 3) := by decide +kernel
theorem dX13_putBack_5 : decode cX13_putBack 5 = .ok (.iconst 1, 1) := by decide +kernel
theorem dX13_putBack_6 : decode cX13_putBack 6 = .ok (.isub, 1) := by decide +kernel
theorem dX13_putBack_7 : decode cX13_putBack 7 = .ok (.putfield 382, 3) := by decide +kernel
theorem dX13_putBack_10 : decode cX13_putBack 10 = .ok (.iconst 0, 1) := by decide +kernel
theorem dX13_putBack_11 : decode cX13_putBack 11 = .ok (.istore_n 1, 1) := by decide +kernel
theorem dX13_putBack_12 : decode cX13_putBack 12 = .ok (.iload_n 1, 1) := by decide +kernel
theorem dX13_putBack_13 : decode cX13_putBack 13 = .ok (.bipush 96, 2) := by decide +kernel
theorem dX13_putBack_15 : decode cX13_putBack 15 = .ok (.if_icmp .ge 29, 3) := by decide +kernel
theorem dX13_putBack_18 : decode cX13_putBack 18 = .ok (.aload_n 0, 1) := by decide +kernel
theorem dX13_putBack_19 : decode cX13_putBack 19 = .ok (.getfield 214, 3) := by decide +kernel
theorem dX13_putBack_22 : decode cX13_putBack 22 = .ok (.iload_n 1, 1) := by decide +kernel
theorem dX13_putBack_23 : decode cX13_putBack 23 = .ok (.aload_n 0, 1) := by decide +kernel
theorem dX13_putBack_24 : decode cX13_putBack 24 = .ok (.getfield 229, 3) := by decide +kernel
theorem dX13_putBack_27 : decode cX13_putBack 27 = .ok (.bipush 96, 2) := by decide +kernel
theorem dX13_putBack_29 : decode cX13_putBack 29 = .ok (.aload_n 0, 1) := by decide +kernel
theorem dX13_putBack_30 : decode cX13_putBack 30 = .ok (.getfield 382, 3) := by decide +kernel
theorem dX13_putBack_33 : decode cX13_putBack 33 = .ok (.imul, 1) := by decide +kernel
theorem dX13_putBack_34 : decode cX13_putBack 34 = .ok (.iload_n 1, 1) := by decide +kernel
theorem dX13_putBack_35 : decode cX13_putBack 35 = .ok (.iadd, 1) := by decide +kernel
theorem dX13_putBack_36 : decode cX13_putBack 36 = .ok (.iaload, 1) := by decide +kernel
theorem dX13_putBack_37 : decode cX13_putBack 37 = .ok (.iastore, 1) := by decide +kernel
theorem dX13_putBack_38 : decode cX13_putBack 38 = .ok (.iinc 1 1, 3) := by decide +kernel
theorem dX13_putBack_41 : decode cX13_putBack 41 = .ok (.goto (-29), 3) := by decide +kernel
theorem dX13_putBack_44 : decode cX13_putBack 44 = .ok (.aload_n 0, 1) := by decide +kernel
theorem dX13_putBack_45 : decode cX13_putBack 45 = .ok (.aload_n 0, 1) := by decide +kernel
theorem dX13_putBack_46 : decode cX13_putBack 46 = .ok (.getfield 232, 3) := by decide +kernel
theorem dX13_putBack_49 : decode cX13_putBack 49 = .ok (.aload_n 0, 1) := by decide +kernel
theorem dX13_putBack_50 : decode cX13_putBack 50 = .ok (.getfield 382, 3) := by decide +kernel
theorem dX13_putBack_53 : decode cX13_putBack 53 = .ok (.iaload, 1) := by decide +kernel
theorem dX13_putBack_54 : decode cX13_putBack 54 = .ok (.putfield 362, 3) := by decide +kernel
theorem dX13_putBack_57 : decode cX13_putBack 57 = .ok (.return_, 1) := by decide +kernel
set_option maxHeartbeats 4000000 in
set_option maxRecDepth 100000 in
theorem K_X13_putBack (l : Launch) (D : va_G) (m0 : Nat) (m_stop : Nat) (m_tape : Nat) (i_taped : Int32) (i_length : Int32) (i_from : Int32) (i_behind : Int32) (i_hand : Int32) (i_value : Int32) (i_fault : Int32) (i_faultAt : Int32) (m_rule : Nat) (m_readRule : Nat) (m_teeth : Nat) (m_readTeeth : Nat) (m_sway : Nat) (m_readSway : Nat) (m_isTold : Nat) (m_markKind : Nat) (m_markValue : Nat) (m_marks : Nat) (i_sum : Int32) (i_parts : Int32) (m_pile : Nat) (m_height : Nat) (m_leftPass : Nat) (m_leftTurn : Nat) (m_leftTooth : Nat) (m_leftX : Nat) (i_wear : Int32) (i_cuts : Int32) (m_kept : Nat) (m_keptWear : Nat) (m_now : Nat) (m_passed : Nat) (i_x : Int32) (i_v : Int32) (i_hasPassed : Int32) (m_planTime : Nat) (m_planMany : Nat) (m_planned : Nat) (m_isQuiet : Nat) (i_plans : Int32) (i_hasPlan : Int32) (m_keptTeeth : Nat) (i_jobs : Int32) (i_orderBest : Int32) (m_jobRing : Nat) (m_jobSpeed : Nat) (m_jobFeed : Nat) (m_jobTurns : Nat) (m_orderRow : Nat) (m_bestRow : Nat) (i_hasOrder : Int32) (m_orderTold : Nat) (i_offers : Int32) (i_heards : Int32) (i_rights : Int32) (i_telling : Int32) (m_offerRing : Nat) (m_offerSpeed : Nat) (m_offerFeed : Nat) (m_offerTurns : Nat) (m_heardOffer : Nat) (m_heardVerdict : Nat) (m_heardAt : Nat) (m_rightOf : Nat) (m_rightVerdict : Nat) (m_rightAt : Nat) (m_verdictOf : Nat) (m_sound : Nat) (m_readSound : Nat) (i_sounds : Int32) (cI : ClassId) (fk : Nat → Int32) (fh : Nat → Int32) (fw : Nat → Int32) (sz : Nat) : Kv l yX13_putBack wsX13_putBack 1 40 0 0 D [.ref m0] [(m0, .inr (12, [.ref m_stop, .ref m_tape, .int i_taped, .int i_length, .int i_from, .int i_behind, .int i_hand, .int i_value, .int i_fault, .int i_faultAt, .ref m_rule, .ref m_readRule, .ref m_teeth, .ref m_readTeeth, .ref m_sway, .ref m_readSway, .ref m_isTold, .ref m_markKind, .ref m_markValue, .ref m_marks, .int i_sum, .int i_parts, .ref m_pile, .ref m_height, .ref m_leftPass, .ref m_leftTurn, .ref m_leftTooth, .ref m_leftX, .int i_wear, .int i_cuts, .ref m_kept, .ref m_keptWear, .int 1, .ref m_now, .ref m_passed, .int i_x, .int i_v, .int i_hasPassed, .ref m_planTime, .ref m_planMany, .ref m_planned, .ref m_isQuiet, .int i_plans, .int i_hasPlan, .ref m_keptTeeth, .int i_jobs, .int i_orderBest, .ref m_jobRing, .ref m_jobSpeed, .ref m_jobFeed, .ref m_jobTurns, .ref m_orderRow, .ref m_bestRow, .int i_hasOrder, .ref m_orderTold, .int i_offers, .int i_heards, .int i_rights, .int i_telling, .ref m_offerRing, .ref m_offerSpeed, .ref m_offerFeed, .ref m_offerTurns, .ref m_heardOffer, .ref m_heardVerdict, .ref m_heardAt, .ref m_rightOf, .ref m_rightVerdict, .ref m_rightAt, .ref m_verdictOf, .ref m_sound, .ref m_readSound, .int i_sounds])), (m_kept, .inl (cI, 672, .inl fk)), (m_height, .inl (cI, 96, .inl fh)), (m_keptWear, .inl (cI, 7, .inl fw))] [(cI, .int)] sz (fun (u : (Nat → Int32) × Int32) => (∀ j, j < 96 → u.1 j = fk j) ∧ (u.2 = fw 0)) (fun (u : (Nat → Int32) × Int32) => [(m0, .inr (12, [.ref m_stop, .ref m_tape, .int i_taped, .int i_length, .int i_from, .int i_behind, .int i_hand, .int i_value, .int i_fault, .int i_faultAt, .ref m_rule, .ref m_readRule, .ref m_teeth, .ref m_readTeeth, .ref m_sway, .ref m_readSway, .ref m_isTold, .ref m_markKind, .ref m_markValue, .ref m_marks, .int i_sum, .int i_parts, .ref m_pile, .ref m_height, .ref m_leftPass, .ref m_leftTurn, .ref m_leftTooth, .ref m_leftX, .int u.2, .int i_cuts, .ref m_kept, .ref m_keptWear, .int 0, .ref m_now, .ref m_passed, .int i_x, .int i_v, .int i_hasPassed, .ref m_planTime, .ref m_planMany, .ref m_planned, .ref m_isQuiet, .int i_plans, .int i_hasPlan, .ref m_keptTeeth, .int i_jobs, .int i_orderBest, .ref m_jobRing, .ref m_jobSpeed, .ref m_jobFeed, .ref m_jobTurns, .ref m_orderRow, .ref m_bestRow, .int i_hasOrder, .ref m_orderTold, .int i_offers, .int i_heards, .int i_rights, .int i_telling, .ref m_offerRing, .ref m_offerSpeed, .ref m_offerFeed, .ref m_offerTurns, .ref m_heardOffer, .ref m_heardVerdict, .ref m_heardAt, .ref m_rightOf, .ref m_rightVerdict, .ref m_rightAt, .ref m_verdictOf, .ref m_sound, .ref m_readSound, .int i_sounds])), (m_kept, .inl (cI, 672, .inl fk)), (m_height, .inl (cI, 96, .inl u.1)), (m_keptWear, .inl (cI, 7, .inl fw))]) (fun (_ : (Nat → Int32) × Int32) => [(cI, .int)]) := by
  unfold Kv
  refine g_ofW (cc := cX13_putBack) (lv := [(0, .ref m0)]) (by decide) rfl (Nat.le_of_ble_eq_true rfl) rfl ?_
  intro p e s m args below meth c A Q hA hQ F hr hnm
  have hts := F.2.2.2.2.1
  have w_0 : (Cond.fieldLink RX13 382 "QuietCutModel" "deep" "I").before args s = true := hts _ (List.mem_of_getElem? (i := 1) rfl)
  have i_X13 : ∀ w ∈ u_ws RX13 TX13 73, w ∈ wsX13_putBack := fun _ h => List.mem_cons_of_mem _ (List.mem_append_right _ h)
  have w_1 : (Cond.fieldLink RX13 232 "QuietCutModel" "keptWear" "[I").before args s = true := hts _ (List.mem_of_getElem? (i := 4) rfl)
  have w_2 : (Cond.fieldLink RX13 362 "QuietCutModel" "wear" "I").before args s = true := hts _ (List.mem_of_getElem? (i := 5) rfl)
  have w_3 : (Cond.fieldLink RX13 214 "QuietCutModel" "height" "[I").before args s = true := hts _ (List.mem_of_getElem? (i := 2) rfl)
  have w_4 : (Cond.fieldLink RX13 229 "QuietCutModel" "kept" "[I").before args s = true := hts _ (List.mem_of_getElem? (i := 3) rfl)
  refine g_aload_n F 0 dX13_putBack_0 rfl rfl ?_
  refine g_dup F dX13_putBack_1 rfl ?_
  refine g_get (C := RX13) (T := TX13) (N := 73) (v := .int 1) F i_X13 0 rfl rfl 32 (by decide) w_0 rfl rfl dX13_putBack_2 ?_
  refine g_iconst F 1 dX13_putBack_5 (by decide) ?_
  refine g_isub F dX13_putBack_6 ?_
  refine g_fold 0 (by decide) ?_
  refine g_put (C := RX13) (T := TX13) (N := 73) (ty := .int) (v := .int 0) F i_X13 0 rfl rfl 32 (by decide) w_0 rfl tyX13 tyX13_ok nmX13 rfl (by decide +kernel) rfl rfl (Nat.le_of_ble_eq_true rfl) [(m0, .inr (12, [.ref m_stop, .ref m_tape, .int i_taped, .int i_length, .int i_from, .int i_behind, .int i_hand, .int i_value, .int i_fault, .int i_faultAt, .ref m_rule, .ref m_readRule, .ref m_teeth, .ref m_readTeeth, .ref m_sway, .ref m_readSway, .ref m_isTold, .ref m_markKind, .ref m_markValue, .ref m_marks, .int i_sum, .int i_parts, .ref m_pile, .ref m_height, .ref m_leftPass, .ref m_leftTurn, .ref m_leftTooth, .ref m_leftX, .int i_wear, .int i_cuts, .ref m_kept, .ref m_keptWear, .int 0, .ref m_now, .ref m_passed, .int i_x, .int i_v, .int i_hasPassed, .ref m_planTime, .ref m_planMany, .ref m_planned, .ref m_isQuiet, .int i_plans, .int i_hasPlan, .ref m_keptTeeth, .int i_jobs, .int i_orderBest, .ref m_jobRing, .ref m_jobSpeed, .ref m_jobFeed, .ref m_jobTurns, .ref m_orderRow, .ref m_bestRow, .int i_hasOrder, .ref m_orderTold, .int i_offers, .int i_heards, .int i_rights, .int i_telling, .ref m_offerRing, .ref m_offerSpeed, .ref m_offerFeed, .ref m_offerTurns, .ref m_heardOffer, .ref m_heardVerdict, .ref m_heardAt, .ref m_rightOf, .ref m_rightVerdict, .ref m_rightAt, .ref m_verdictOf, .ref m_sound, .ref m_readSound, .int i_sounds])), (m_kept, .inl (cI, 672, .inl fk)), (m_height, .inl (cI, 96, .inl fh)), (m_keptWear, .inl (cI, 7, .inl fw))] rfl dX13_putBack_7 ?_
  refine g_iconst F 0 dX13_putBack_10 (by decide) ?_
  refine g_istore_n F [(1, .int 0), (0, .ref m0)] dX13_putBack_11 rfl (by decide) rfl ?_
  refine g_locals [(0, .ref m0), (1, .int 0)] [1, 0] rfl ?_
  have loop_12 : ∀ (fuel : Nat) (k : Nat) (g : Nat → Int32), 96 - k < fuel → (k ≤ 96) → (∀ j, j < k → g j = fk j) → gG p l e (gR 1 0 0 40) s m args below meth c D A 2 Q 0 0 [(m0, .inr (12, [.ref m_stop, .ref m_tape, .int i_taped, .int i_length, .int i_from, .int i_behind, .int i_hand, .int i_value, .int i_fault, .int i_faultAt, .ref m_rule, .ref m_readRule, .ref m_teeth, .ref m_readTeeth, .ref m_sway, .ref m_readSway, .ref m_isTold, .ref m_markKind, .ref m_markValue, .ref m_marks, .int i_sum, .int i_parts, .ref m_pile, .ref m_height, .ref m_leftPass, .ref m_leftTurn, .ref m_leftTooth, .ref m_leftX, .int i_wear, .int i_cuts, .ref m_kept, .ref m_keptWear, .int 0, .ref m_now, .ref m_passed, .int i_x, .int i_v, .int i_hasPassed, .ref m_planTime, .ref m_planMany, .ref m_planned, .ref m_isQuiet, .int i_plans, .int i_hasPlan, .ref m_keptTeeth, .int i_jobs, .int i_orderBest, .ref m_jobRing, .ref m_jobSpeed, .ref m_jobFeed, .ref m_jobTurns, .ref m_orderRow, .ref m_bestRow, .int i_hasOrder, .ref m_orderTold, .int i_offers, .int i_heards, .int i_rights, .int i_telling, .ref m_offerRing, .ref m_offerSpeed, .ref m_offerFeed, .ref m_offerTurns, .ref m_heardOffer, .ref m_heardVerdict, .ref m_heardAt, .ref m_rightOf, .ref m_rightVerdict, .ref m_rightAt, .ref m_verdictOf, .ref m_sound, .ref m_readSound, .int i_sounds])), (m_kept, .inl (cI, 672, .inl fk)), (m_height, .inl (cI, 96, .inl g)), (m_keptWear, .inl (cI, 7, .inl fw))] [(cI, .int)] [(0, .ref m0), (1, .int (nI k))] 12 [] := by
    intro fuel_12
    induction fuel_12 with
    | zero => intro k g hm; exact absurd hm (Nat.not_lt_zero _)
    | succ fuel_12 ih_12 =>
      intro k g hm12 hk0 hg
      refine g_iload_n F 1 dX13_putBack_12 rfl rfl ?_
      refine g_bipush F 96 dX13_putBack_13 (by decide) ?_
      refine g_icmp_ge F 44 dX13_putBack_15 (by decide) (fun c_15 => ?_) (fun c_15 => ?_)
      · have hk : k = 96 := Nat.le_antisymm hk0 (Nat.le_of_not_lt (fun h => nI_ge (b := 96) h (by decide) c_15))
        refine g_aload_n F 0 dX13_putBack_44 rfl rfl ?_
        refine g_aload_n F 0 dX13_putBack_45 rfl rfl ?_
        refine g_get (C := RX13) (T := TX13) (N := 73) (v := .ref m_keptWear) F i_X13 0 rfl rfl 31 (by decide) w_1 rfl rfl dX13_putBack_46 ?_
        refine g_aload_n F 0 dX13_putBack_49 rfl rfl ?_
        refine g_get (C := RX13) (T := TX13) (N := 73) (v := .int 0) F i_X13 0 rfl rfl 32 (by decide) w_0 rfl rfl dX13_putBack_50 ?_
        refine g_iald F 3 0 rfl rfl (by unfold vp_in; decide) dX13_putBack_53 ?_
        refine g_fold (fw 0) (by rfl) ?_
        refine g_put (C := RX13) (T := TX13) (N := 73) (ty := .int) (v := .int (fw 0)) F i_X13 0 rfl rfl 28 (by decide) w_2 rfl tyX13 tyX13_ok nmX13 rfl (by decide +kernel) rfl rfl (Nat.le_of_ble_eq_true rfl) [(m0, .inr (12, [.ref m_stop, .ref m_tape, .int i_taped, .int i_length, .int i_from, .int i_behind, .int i_hand, .int i_value, .int i_fault, .int i_faultAt, .ref m_rule, .ref m_readRule, .ref m_teeth, .ref m_readTeeth, .ref m_sway, .ref m_readSway, .ref m_isTold, .ref m_markKind, .ref m_markValue, .ref m_marks, .int i_sum, .int i_parts, .ref m_pile, .ref m_height, .ref m_leftPass, .ref m_leftTurn, .ref m_leftTooth, .ref m_leftX, .int (fw 0), .int i_cuts, .ref m_kept, .ref m_keptWear, .int 0, .ref m_now, .ref m_passed, .int i_x, .int i_v, .int i_hasPassed, .ref m_planTime, .ref m_planMany, .ref m_planned, .ref m_isQuiet, .int i_plans, .int i_hasPlan, .ref m_keptTeeth, .int i_jobs, .int i_orderBest, .ref m_jobRing, .ref m_jobSpeed, .ref m_jobFeed, .ref m_jobTurns, .ref m_orderRow, .ref m_bestRow, .int i_hasOrder, .ref m_orderTold, .int i_offers, .int i_heards, .int i_rights, .int i_telling, .ref m_offerRing, .ref m_offerSpeed, .ref m_offerFeed, .ref m_offerTurns, .ref m_heardOffer, .ref m_heardVerdict, .ref m_heardAt, .ref m_rightOf, .ref m_rightVerdict, .ref m_rightAt, .ref m_verdictOf, .ref m_sound, .ref m_readSound, .int i_sounds])), (m_kept, .inl (cI, 672, .inl fk)), (m_height, .inl (cI, 96, .inl g)), (m_keptWear, .inl (cI, 7, .inl fw))] rfl dX13_putBack_54 ?_
        exact g_vret F hA hQ hr (g, (fw 0)) (⟨fun j hj => hg j (by omega), rfl⟩) [0, 1, 2, 3] [0] rfl (by decide) rfl rfl dX13_putBack_57
      · have hk : k < 96 := Nat.lt_of_not_le (fun h => c_15 (nI_le (a := 96) h (by omega)))
        refine g_aload_n F 0 dX13_putBack_18 rfl rfl ?_
        refine g_get (C := RX13) (T := TX13) (N := 73) (v := .ref m_height) F i_X13 0 rfl rfl 23 (by decide) w_3 rfl rfl dX13_putBack_19 ?_
        refine g_iload_n F 1 dX13_putBack_22 rfl rfl ?_
        refine g_aload_n F 0 dX13_putBack_23 rfl rfl ?_
        refine g_get (C := RX13) (T := TX13) (N := 73) (v := .ref m_kept) F i_X13 0 rfl rfl 30 (by decide) w_4 rfl rfl dX13_putBack_24 ?_
        refine g_bipush F 96 dX13_putBack_27 (by decide) ?_
        refine g_aload_n F 0 dX13_putBack_29 rfl rfl ?_
        refine g_get (C := RX13) (T := TX13) (N := 73) (v := .int 0) F i_X13 0 rfl rfl 32 (by decide) w_0 rfl rfl dX13_putBack_30 ?_
        refine g_imul F dX13_putBack_33 ?_
        refine g_fold 0 (by decide) ?_
        refine g_iload_n F 1 dX13_putBack_34 rfl rfl ?_
        refine g_iadd F dX13_putBack_35 ?_
        refine g_fold (nI k) (by rw [show (0 : Int32) + nI k = nI k from by simp]) ?_
        refine g_iald F 1 0 rfl rfl (vp_in_nI (Nat.lt_trans hk (by decide)) (by decide)) dX13_putBack_36 ?_
        refine g_fold (fk k) (by rw [nI_clamp (by omega)]) ?_
        refine g_iast F 2 0 rfl rfl (vp_in_nI hk (by decide)) [(m0, .inr (12, [.ref m_stop, .ref m_tape, .int i_taped, .int i_length, .int i_from, .int i_behind, .int i_hand, .int i_value, .int i_fault, .int i_faultAt, .ref m_rule, .ref m_readRule, .ref m_teeth, .ref m_readTeeth, .ref m_sway, .ref m_readSway, .ref m_isTold, .ref m_markKind, .ref m_markValue, .ref m_marks, .int i_sum, .int i_parts, .ref m_pile, .ref m_height, .ref m_leftPass, .ref m_leftTurn, .ref m_leftTooth, .ref m_leftX, .int i_wear, .int i_cuts, .ref m_kept, .ref m_keptWear, .int 0, .ref m_now, .ref m_passed, .int i_x, .int i_v, .int i_hasPassed, .ref m_planTime, .ref m_planMany, .ref m_planned, .ref m_isQuiet, .int i_plans, .int i_hasPlan, .ref m_keptTeeth, .int i_jobs, .int i_orderBest, .ref m_jobRing, .ref m_jobSpeed, .ref m_jobFeed, .ref m_jobTurns, .ref m_orderRow, .ref m_bestRow, .int i_hasOrder, .ref m_orderTold, .int i_offers, .int i_heards, .int i_rights, .int i_telling, .ref m_offerRing, .ref m_offerSpeed, .ref m_offerFeed, .ref m_offerTurns, .ref m_heardOffer, .ref m_heardVerdict, .ref m_heardAt, .ref m_rightOf, .ref m_rightVerdict, .ref m_rightAt, .ref m_verdictOf, .ref m_sound, .ref m_readSound, .int i_sounds])), (m_kept, .inl (cI, 672, .inl fk)), (m_height, .inl (cI, 96, .inl (upd g k (fk k)))), (m_keptWear, .inl (cI, 7, .inl fw))] (by rw [nI_clamp (by omega)]; rfl) dX13_putBack_37 ?_
        refine g_iinc F (j := 1) (nI (k + 1)) [(1, .int (nI (k + 1))), (0, .ref m0)] dX13_putBack_38 rfl (nI_1 k) (by decide) rfl ?_
        refine g_goto F 12 dX13_putBack_41 (by decide) ?_
        refine g_locals [(0, .ref m0), (1, .int (nI (k + 1)))] [1, 0] rfl ?_
        exact ih_12 (k + 1) (upd g k (fk k)) (by omega) (hk) (fun j hj => by
          by_cases e9 : j = k
          · subst e9; rw [pk_us]
          · rw [pk_un e9]; exact hg j (by omega))
  exact loop_12 (_ + 1) 0 fh (Nat.lt_succ_self _) (Nat.zero_le _) (fun j hj => absurd hj (Nat.not_lt_zero j))

theorem dX13_isPair_0 : decode cX13_isPair 0 = .ok (.aload_n 0, 1) := by decide +kernel
theorem dX13_isPair_1 : decode cX13_isPair 1 = .ok (.getfield 199, 3) := by decide +kernel
theorem dX13_isPair_4 : decode cX13_isPair 4 = .ok (.iconst 3, 1) := by decide +kernel
theorem dX13_isPair_5 : decode cX13_isPair 5 = .ok (.iaload, 1) := by decide +kernel
theorem dX13_isPair_6 : decode cX13_isPair 6 = .ok (.iload_n 1, 1) := by decide +kernel
theorem dX13_isPair_7 : decode cX13_isPair 7 = .ok (.iconst 4, 1) := by decide +kernel
theorem dX13_isPair_8 : decode cX13_isPair 8 = .ok (.idiv, 1) := by decide +kernel
theorem dX13_isPair_9 : decode cX13_isPair 9 = .ok (.iadd, 1) := by decide +kernel
theorem dX13_isPair_10 : decode cX13_isPair 10 = .ok (.aload_n 0, 1) := by decide +kernel
theorem dX13_isPair_11 : decode cX13_isPair 11 = .ok (.getfield 199, 3) := by decide +kernel
theorem dX13_isPair_14 : decode cX13_isPair 14 = .ok (.iconst 4, 1) := by decide +kernel
theorem dX13_isPair_15 : decode cX13_isPair 15 = .ok (.iaload, 1) := by decide +kernel
theorem dX13_isPair_16 : decode cX13_isPair 16 = .ok (.if_icmp .gt 27, 3) := by decide +kernel
theorem dX13_isPair_19 : decode cX13_isPair 19 = .ok (.aload_n 0, 1) := by decide +kernel
theorem dX13_isPair_20 : decode cX13_isPair 20 = .ok (.getfield 199, 3) := by decide +kernel
theorem dX13_isPair_23 : decode cX13_isPair 23 = .ok (.iconst 5, 1) := by decide +kernel
theorem dX13_isPair_24 : decode cX13_isPair 24 = .ok (.iaload, 1) := by decide +kernel
theorem dX13_isPair_25 : decode cX13_isPair 25 = .ok (.iload_n 1, 1) := by decide +kernel
theorem dX13_isPair_26 : decode cX13_isPair 26 = .ok (.iconst 4, 1) := by decide +kernel
theorem dX13_isPair_27 : decode cX13_isPair 27 = .ok (.irem, 1) := by decide +kernel
theorem dX13_isPair_28 : decode cX13_isPair 28 = .ok (.iadd, 1) := by decide +kernel
theorem dX13_isPair_29 : decode cX13_isPair 29 = .ok (.aload_n 0, 1) := by decide +kernel
theorem dX13_isPair_30 : decode cX13_isPair 30 = .ok (.getfield 199, 3) := by decide +kernel
theorem dX13_isPair_33 : decode cX13_isPair 33 = .ok (.bipush 6, 2) := by decide +kernel
theorem dX13_isPair_35 : decode cX13_isPair 35 = .ok (.iaload, 1) := by decide +kernel
theorem dX13_isPair_36 : decode cX13_isPair 36 = .ok (.if_icmp .gt 7, 3) := by decide +kernel
theorem dX13_isPair_39 : decode cX13_isPair 39 = .ok (.iconst 1, 1) := by decide +kernel
theorem dX13_isPair_40 : decode cX13_isPair 40 = .ok (.goto 4, 3) := by decide +kernel
theorem dX13_isPair_43 : decode cX13_isPair 43 = .ok (.iconst 0, 1) := by decide +kernel
theorem dX13_isPair_44 : decode cX13_isPair 44 = .ok (.ireturn, 1) := by decide +kernel
set_option maxHeartbeats 4000000 in
set_option maxRecDepth 100000 in
theorem K_X13_isPair0 (l : Launch) (D : va_G) (m0 : Nat) (m_stop : Nat) (m_tape : Nat) (i_taped : Int32) (i_length : Int32) (i_from : Int32) (i_behind : Int32) (i_hand : Int32) (i_value : Int32) (i_fault : Int32) (i_faultAt : Int32) (m_rule : Nat) (m_readRule : Nat) (m_teeth : Nat) (m_readTeeth : Nat) (m_sway : Nat) (m_readSway : Nat) (m_isTold : Nat) (m_markKind : Nat) (m_markValue : Nat) (m_marks : Nat) (i_sum : Int32) (i_parts : Int32) (m_pile : Nat) (m_height : Nat) (m_leftPass : Nat) (m_leftTurn : Nat) (m_leftTooth : Nat) (m_leftX : Nat) (i_wear : Int32) (i_cuts : Int32) (m_kept : Nat) (m_keptWear : Nat) (i_deep : Int32) (m_now : Nat) (m_passed : Nat) (i_x : Int32) (i_v : Int32) (i_hasPassed : Int32) (m_planTime : Nat) (m_planMany : Nat) (m_planned : Nat) (m_isQuiet : Nat) (i_plans : Int32) (i_hasPlan : Int32) (m_keptTeeth : Nat) (i_jobs : Int32) (i_orderBest : Int32) (m_jobRing : Nat) (m_jobSpeed : Nat) (m_jobFeed : Nat) (m_jobTurns : Nat) (m_orderRow : Nat) (m_bestRow : Nat) (i_hasOrder : Int32) (m_orderTold : Nat) (i_offers : Int32) (i_heards : Int32) (i_rights : Int32) (i_telling : Int32) (m_offerRing : Nat) (m_offerSpeed : Nat) (m_offerFeed : Nat) (m_offerTurns : Nat) (m_heardOffer : Nat) (m_heardVerdict : Nat) (m_heardAt : Nat) (m_rightOf : Nat) (m_rightVerdict : Nat) (m_rightAt : Nat) (m_verdictOf : Nat) (m_sound : Nat) (m_readSound : Nat) (i_sounds : Int32) (cI : ClassId) (sz : Nat) : Ki l yX13_isPair wsX13_isPair 1 40 0 0 D [.ref m0, .int 0] [(m0, .inr (12, [.ref m_stop, .ref m_tape, .int i_taped, .int i_length, .int i_from, .int i_behind, .int i_hand, .int i_value, .int i_fault, .int i_faultAt, .ref m_rule, .ref m_readRule, .ref m_teeth, .ref m_readTeeth, .ref m_sway, .ref m_readSway, .ref m_isTold, .ref m_markKind, .ref m_markValue, .ref m_marks, .int i_sum, .int i_parts, .ref m_pile, .ref m_height, .ref m_leftPass, .ref m_leftTurn, .ref m_leftTooth, .ref m_leftX, .int i_wear, .int i_cuts, .ref m_kept, .ref m_keptWear, .int i_deep, .ref m_now, .ref m_passed, .int i_x, .int i_v, .int i_hasPassed, .ref m_planTime, .ref m_planMany, .ref m_planned, .ref m_isQuiet, .int i_plans, .int i_hasPlan, .ref m_keptTeeth, .int i_jobs, .int i_orderBest, .ref m_jobRing, .ref m_jobSpeed, .ref m_jobFeed, .ref m_jobTurns, .ref m_orderRow, .ref m_bestRow, .int i_hasOrder, .ref m_orderTold, .int i_offers, .int i_heards, .int i_rights, .int i_telling, .ref m_offerRing, .ref m_offerSpeed, .ref m_offerFeed, .ref m_offerTurns, .ref m_heardOffer, .ref m_heardVerdict, .ref m_heardAt, .ref m_rightOf, .ref m_rightVerdict, .ref m_rightAt, .ref m_verdictOf, .ref m_sound, .ref m_readSound, .int i_sounds])), (m_rule, .inl (cI, 12, .inl gz_untold))] [(cI, .int)] sz (fun (r : Int32) (_ : Unit) => r = 1) (fun (_ : Unit) => [(m0, .inr (12, [.ref m_stop, .ref m_tape, .int i_taped, .int i_length, .int i_from, .int i_behind, .int i_hand, .int i_value, .int i_fault, .int i_faultAt, .ref m_rule, .ref m_readRule, .ref m_teeth, .ref m_readTeeth, .ref m_sway, .ref m_readSway, .ref m_isTold, .ref m_markKind, .ref m_markValue, .ref m_marks, .int i_sum, .int i_parts, .ref m_pile, .ref m_height, .ref m_leftPass, .ref m_leftTurn, .ref m_leftTooth, .ref m_leftX, .int i_wear, .int i_cuts, .ref m_kept, .ref m_keptWear, .int i_deep, .ref m_now, .ref m_passed, .int i_x, .int i_v, .int i_hasPassed, .ref m_planTime, .ref m_planMany, .ref m_planned, .ref m_isQuiet, .int i_plans, .int i_hasPlan, .ref m_keptTeeth, .int i_jobs, .int i_orderBest, .ref m_jobRing, .ref m_jobSpeed, .ref m_jobFeed, .ref m_jobTurns, .ref m_orderRow, .ref m_bestRow, .int i_hasOrder, .ref m_orderTold, .int i_offers, .int i_heards, .int i_rights, .int i_telling, .ref m_offerRing, .ref m_offerSpeed, .ref m_offerFeed, .ref m_offerTurns, .ref m_heardOffer, .ref m_heardVerdict, .ref m_heardAt, .ref m_rightOf, .ref m_rightVerdict, .ref m_rightAt, .ref m_verdictOf, .ref m_sound, .ref m_readSound, .int i_sounds])), (m_rule, .inl (cI, 12, .inl gz_untold))]) (fun (_ : Unit) => [(cI, .int)]) := by
  unfold Ki
  refine g_ofW (cc := cX13_isPair) (lv := [(0, .ref m0), (1, .int 0)]) (by decide) rfl (Nat.le_of_ble_eq_true rfl) rfl ?_
  intro p e s m args below meth c A Q hA hQ F hr hnm
  have hts := F.2.2.2.2.1
  have w_0 : (Cond.fieldLink RX13 199 "QuietCutModel" "rule" "[I").before args s = true := hts _ (List.mem_of_getElem? (i := 1) rfl)
  have i_X13 : ∀ w ∈ u_ws RX13 TX13 73, w ∈ wsX13_isPair := fun _ h => List.mem_cons_of_mem _ (List.mem_append_right _ h)
  refine g_aload_n F 0 dX13_isPair_0 rfl rfl ?_
  refine g_get (C := RX13) (T := TX13) (N := 73) (v := .ref m_rule) F i_X13 0 rfl rfl 10 (by decide) w_0 rfl rfl dX13_isPair_1 ?_
  refine g_iconst F 3 dX13_isPair_4 (by decide) ?_
  refine g_iald F 1 0 rfl rfl (by unfold vp_in; decide) dX13_isPair_5 ?_
  refine g_fold 8 (by rfl) ?_
  refine g_iload_n F 1 dX13_isPair_6 rfl rfl ?_
  refine g_iconst F 4 dX13_isPair_7 (by decide) ?_
  refine g_idiv F dX13_isPair_8 (by decide) ?_
  refine g_fold 0 (by decide) ?_
  refine g_iadd F dX13_isPair_9 ?_
  refine g_fold 8 (by decide) ?_
  refine g_aload_n F 0 dX13_isPair_10 rfl rfl ?_
  refine g_get (C := RX13) (T := TX13) (N := 73) (v := .ref m_rule) F i_X13 0 rfl rfl 10 (by decide) w_0 rfl rfl dX13_isPair_11 ?_
  refine g_iconst F 4 dX13_isPair_14 (by decide) ?_
  refine g_iald F 1 0 rfl rfl (by unfold vp_in; decide) dX13_isPair_15 ?_
  refine g_fold 8 (by rfl) ?_
  refine g_icmp_gt F 43 dX13_isPair_16 (by decide) (fun h9 => absurd h9 (by decide)) (fun c_16 => ?_)
  refine g_aload_n F 0 dX13_isPair_19 rfl rfl ?_
  refine g_get (C := RX13) (T := TX13) (N := 73) (v := .ref m_rule) F i_X13 0 rfl rfl 10 (by decide) w_0 rfl rfl dX13_isPair_20 ?_
  refine g_iconst F 5 dX13_isPair_23 (by decide) ?_
  refine g_iald F 1 0 rfl rfl (by unfold vp_in; decide) dX13_isPair_24 ?_
  refine g_fold 2 (by rfl) ?_
  refine g_iload_n F 1 dX13_isPair_25 rfl rfl ?_
  refine g_iconst F 4 dX13_isPair_26 (by decide) ?_
  refine g_irem F dX13_isPair_27 (by decide) ?_
  refine g_fold 0 (by decide) ?_
  refine g_iadd F dX13_isPair_28 ?_
  refine g_fold 2 (by decide) ?_
  refine g_aload_n F 0 dX13_isPair_29 rfl rfl ?_
  refine g_get (C := RX13) (T := TX13) (N := 73) (v := .ref m_rule) F i_X13 0 rfl rfl 10 (by decide) w_0 rfl rfl dX13_isPair_30 ?_
  refine g_bipush F 6 dX13_isPair_33 (by decide) ?_
  refine g_iald F 1 0 rfl rfl (by unfold vp_in; decide) dX13_isPair_35 ?_
  refine g_fold 2 (by rfl) ?_
  refine g_icmp_gt F 43 dX13_isPair_36 (by decide) (fun h9 => absurd h9 (by decide)) (fun c_36 => ?_)
  refine g_iconst F 1 dX13_isPair_39 (by decide) ?_
  refine g_goto F 44 dX13_isPair_40 (by decide) ?_
  exact g_zret F hA hQ hr rfl () (rfl) [0, 1] [0] rfl (by decide) rfl rfl dX13_isPair_44


set_option maxHeartbeats 4000000 in
set_option maxRecDepth 100000 in
theorem K_X13_isPair1 (l : Launch) (D : va_G) (m0 : Nat) (m_stop : Nat) (m_tape : Nat) (i_taped : Int32) (i_length : Int32) (i_from : Int32) (i_behind : Int32) (i_hand : Int32) (i_value : Int32) (i_fault : Int32) (i_faultAt : Int32) (m_rule : Nat) (m_readRule : Nat) (m_teeth : Nat) (m_readTeeth : Nat) (m_sway : Nat) (m_readSway : Nat) (m_isTold : Nat) (m_markKind : Nat) (m_markValue : Nat) (m_marks : Nat) (i_sum : Int32) (i_parts : Int32) (m_pile : Nat) (m_height : Nat) (m_leftPass : Nat) (m_leftTurn : Nat) (m_leftTooth : Nat) (m_leftX : Nat) (i_wear : Int32) (i_cuts : Int32) (m_kept : Nat) (m_keptWear : Nat) (i_deep : Int32) (m_now : Nat) (m_passed : Nat) (i_x : Int32) (i_v : Int32) (i_hasPassed : Int32) (m_planTime : Nat) (m_planMany : Nat) (m_planned : Nat) (m_isQuiet : Nat) (i_plans : Int32) (i_hasPlan : Int32) (m_keptTeeth : Nat) (i_jobs : Int32) (i_orderBest : Int32) (m_jobRing : Nat) (m_jobSpeed : Nat) (m_jobFeed : Nat) (m_jobTurns : Nat) (m_orderRow : Nat) (m_bestRow : Nat) (i_hasOrder : Int32) (m_orderTold : Nat) (i_offers : Int32) (i_heards : Int32) (i_rights : Int32) (i_telling : Int32) (m_offerRing : Nat) (m_offerSpeed : Nat) (m_offerFeed : Nat) (m_offerTurns : Nat) (m_heardOffer : Nat) (m_heardVerdict : Nat) (m_heardAt : Nat) (m_rightOf : Nat) (m_rightVerdict : Nat) (m_rightAt : Nat) (m_verdictOf : Nat) (m_sound : Nat) (m_readSound : Nat) (i_sounds : Int32) (cI : ClassId) (sz : Nat) : Ki l yX13_isPair wsX13_isPair 1 40 0 0 D [.ref m0, .int 1] [(m0, .inr (12, [.ref m_stop, .ref m_tape, .int i_taped, .int i_length, .int i_from, .int i_behind, .int i_hand, .int i_value, .int i_fault, .int i_faultAt, .ref m_rule, .ref m_readRule, .ref m_teeth, .ref m_readTeeth, .ref m_sway, .ref m_readSway, .ref m_isTold, .ref m_markKind, .ref m_markValue, .ref m_marks, .int i_sum, .int i_parts, .ref m_pile, .ref m_height, .ref m_leftPass, .ref m_leftTurn, .ref m_leftTooth, .ref m_leftX, .int i_wear, .int i_cuts, .ref m_kept, .ref m_keptWear, .int i_deep, .ref m_now, .ref m_passed, .int i_x, .int i_v, .int i_hasPassed, .ref m_planTime, .ref m_planMany, .ref m_planned, .ref m_isQuiet, .int i_plans, .int i_hasPlan, .ref m_keptTeeth, .int i_jobs, .int i_orderBest, .ref m_jobRing, .ref m_jobSpeed, .ref m_jobFeed, .ref m_jobTurns, .ref m_orderRow, .ref m_bestRow, .int i_hasOrder, .ref m_orderTold, .int i_offers, .int i_heards, .int i_rights, .int i_telling, .ref m_offerRing, .ref m_offerSpeed, .ref m_offerFeed, .ref m_offerTurns, .ref m_heardOffer, .ref m_heardVerdict, .ref m_heardAt, .ref m_rightOf, .ref m_rightVerdict, .ref m_rightAt, .ref m_verdictOf, .ref m_sound, .ref m_readSound, .int i_sounds])), (m_rule, .inl (cI, 12, .inl gz_untold))] [(cI, .int)] sz (fun (r : Int32) (_ : Unit) => r = 0) (fun (_ : Unit) => [(m0, .inr (12, [.ref m_stop, .ref m_tape, .int i_taped, .int i_length, .int i_from, .int i_behind, .int i_hand, .int i_value, .int i_fault, .int i_faultAt, .ref m_rule, .ref m_readRule, .ref m_teeth, .ref m_readTeeth, .ref m_sway, .ref m_readSway, .ref m_isTold, .ref m_markKind, .ref m_markValue, .ref m_marks, .int i_sum, .int i_parts, .ref m_pile, .ref m_height, .ref m_leftPass, .ref m_leftTurn, .ref m_leftTooth, .ref m_leftX, .int i_wear, .int i_cuts, .ref m_kept, .ref m_keptWear, .int i_deep, .ref m_now, .ref m_passed, .int i_x, .int i_v, .int i_hasPassed, .ref m_planTime, .ref m_planMany, .ref m_planned, .ref m_isQuiet, .int i_plans, .int i_hasPlan, .ref m_keptTeeth, .int i_jobs, .int i_orderBest, .ref m_jobRing, .ref m_jobSpeed, .ref m_jobFeed, .ref m_jobTurns, .ref m_orderRow, .ref m_bestRow, .int i_hasOrder, .ref m_orderTold, .int i_offers, .int i_heards, .int i_rights, .int i_telling, .ref m_offerRing, .ref m_offerSpeed, .ref m_offerFeed, .ref m_offerTurns, .ref m_heardOffer, .ref m_heardVerdict, .ref m_heardAt, .ref m_rightOf, .ref m_rightVerdict, .ref m_rightAt, .ref m_verdictOf, .ref m_sound, .ref m_readSound, .int i_sounds])), (m_rule, .inl (cI, 12, .inl gz_untold))]) (fun (_ : Unit) => [(cI, .int)]) := by
  unfold Ki
  refine g_ofW (cc := cX13_isPair) (lv := [(0, .ref m0), (1, .int 1)]) (by decide) rfl (Nat.le_of_ble_eq_true rfl) rfl ?_
  intro p e s m args below meth c A Q hA hQ F hr hnm
  have hts := F.2.2.2.2.1
  have w_0 : (Cond.fieldLink RX13 199 "QuietCutModel" "rule" "[I").before args s = true := hts _ (List.mem_of_getElem? (i := 1) rfl)
  have i_X13 : ∀ w ∈ u_ws RX13 TX13 73, w ∈ wsX13_isPair := fun _ h => List.mem_cons_of_mem _ (List.mem_append_right _ h)
  refine g_aload_n F 0 dX13_isPair_0 rfl rfl ?_
  refine g_get (C := RX13) (T := TX13) (N := 73) (v := .ref m_rule) F i_X13 0 rfl rfl 10 (by decide) w_0 rfl rfl dX13_isPair_1 ?_
  refine g_iconst F 3 dX13_isPair_4 (by decide) ?_
  refine g_iald F 1 0 rfl rfl (by unfold vp_in; decide) dX13_isPair_5 ?_
  refine g_fold 8 (by rfl) ?_
  refine g_iload_n F 1 dX13_isPair_6 rfl rfl ?_
  refine g_iconst F 4 dX13_isPair_7 (by decide) ?_
  refine g_idiv F dX13_isPair_8 (by decide) ?_
  refine g_fold 0 (by decide) ?_
  refine g_iadd F dX13_isPair_9 ?_
  refine g_fold 8 (by decide) ?_
  refine g_aload_n F 0 dX13_isPair_10 rfl rfl ?_
  refine g_get (C := RX13) (T := TX13) (N := 73) (v := .ref m_rule) F i_X13 0 rfl rfl 10 (by decide) w_0 rfl rfl dX13_isPair_11 ?_
  refine g_iconst F 4 dX13_isPair_14 (by decide) ?_
  refine g_iald F 1 0 rfl rfl (by unfold vp_in; decide) dX13_isPair_15 ?_
  refine g_fold 8 (by rfl) ?_
  refine g_icmp_gt F 43 dX13_isPair_16 (by decide) (fun h9 => absurd h9 (by decide)) (fun c_16 => ?_)
  refine g_aload_n F 0 dX13_isPair_19 rfl rfl ?_
  refine g_get (C := RX13) (T := TX13) (N := 73) (v := .ref m_rule) F i_X13 0 rfl rfl 10 (by decide) w_0 rfl rfl dX13_isPair_20 ?_
  refine g_iconst F 5 dX13_isPair_23 (by decide) ?_
  refine g_iald F 1 0 rfl rfl (by unfold vp_in; decide) dX13_isPair_24 ?_
  refine g_fold 2 (by rfl) ?_
  refine g_iload_n F 1 dX13_isPair_25 rfl rfl ?_
  refine g_iconst F 4 dX13_isPair_26 (by decide) ?_
  refine g_irem F dX13_isPair_27 (by decide) ?_
  refine g_fold 1 (by decide) ?_
  refine g_iadd F dX13_isPair_28 ?_
  refine g_fold 3 (by decide) ?_
  refine g_aload_n F 0 dX13_isPair_29 rfl rfl ?_
  refine g_get (C := RX13) (T := TX13) (N := 73) (v := .ref m_rule) F i_X13 0 rfl rfl 10 (by decide) w_0 rfl rfl dX13_isPair_30 ?_
  refine g_bipush F 6 dX13_isPair_33 (by decide) ?_
  refine g_iald F 1 0 rfl rfl (by unfold vp_in; decide) dX13_isPair_35 ?_
  refine g_fold 2 (by rfl) ?_
  refine g_icmp_gt F 43 dX13_isPair_36 (by decide) (fun c_36 => ?_) (fun h9 => absurd (by decide) h9) 
  refine g_iconst F 0 dX13_isPair_43 (by decide) ?_
  exact g_zret F hA hQ hr rfl () (rfl) [0, 1] [0] rfl (by decide) rfl rfl dX13_isPair_44


set_option maxHeartbeats 4000000 in
set_option maxRecDepth 100000 in
theorem K_X13_isPair2 (l : Launch) (D : va_G) (m0 : Nat) (m_stop : Nat) (m_tape : Nat) (i_taped : Int32) (i_length : Int32) (i_from : Int32) (i_behind : Int32) (i_hand : Int32) (i_value : Int32) (i_fault : Int32) (i_faultAt : Int32) (m_rule : Nat) (m_readRule : Nat) (m_teeth : Nat) (m_readTeeth : Nat) (m_sway : Nat) (m_readSway : Nat) (m_isTold : Nat) (m_markKind : Nat) (m_markValue : Nat) (m_marks : Nat) (i_sum : Int32) (i_parts : Int32) (m_pile : Nat) (m_height : Nat) (m_leftPass : Nat) (m_leftTurn : Nat) (m_leftTooth : Nat) (m_leftX : Nat) (i_wear : Int32) (i_cuts : Int32) (m_kept : Nat) (m_keptWear : Nat) (i_deep : Int32) (m_now : Nat) (m_passed : Nat) (i_x : Int32) (i_v : Int32) (i_hasPassed : Int32) (m_planTime : Nat) (m_planMany : Nat) (m_planned : Nat) (m_isQuiet : Nat) (i_plans : Int32) (i_hasPlan : Int32) (m_keptTeeth : Nat) (i_jobs : Int32) (i_orderBest : Int32) (m_jobRing : Nat) (m_jobSpeed : Nat) (m_jobFeed : Nat) (m_jobTurns : Nat) (m_orderRow : Nat) (m_bestRow : Nat) (i_hasOrder : Int32) (m_orderTold : Nat) (i_offers : Int32) (i_heards : Int32) (i_rights : Int32) (i_telling : Int32) (m_offerRing : Nat) (m_offerSpeed : Nat) (m_offerFeed : Nat) (m_offerTurns : Nat) (m_heardOffer : Nat) (m_heardVerdict : Nat) (m_heardAt : Nat) (m_rightOf : Nat) (m_rightVerdict : Nat) (m_rightAt : Nat) (m_verdictOf : Nat) (m_sound : Nat) (m_readSound : Nat) (i_sounds : Int32) (cI : ClassId) (sz : Nat) : Ki l yX13_isPair wsX13_isPair 1 40 0 0 D [.ref m0, .int 2] [(m0, .inr (12, [.ref m_stop, .ref m_tape, .int i_taped, .int i_length, .int i_from, .int i_behind, .int i_hand, .int i_value, .int i_fault, .int i_faultAt, .ref m_rule, .ref m_readRule, .ref m_teeth, .ref m_readTeeth, .ref m_sway, .ref m_readSway, .ref m_isTold, .ref m_markKind, .ref m_markValue, .ref m_marks, .int i_sum, .int i_parts, .ref m_pile, .ref m_height, .ref m_leftPass, .ref m_leftTurn, .ref m_leftTooth, .ref m_leftX, .int i_wear, .int i_cuts, .ref m_kept, .ref m_keptWear, .int i_deep, .ref m_now, .ref m_passed, .int i_x, .int i_v, .int i_hasPassed, .ref m_planTime, .ref m_planMany, .ref m_planned, .ref m_isQuiet, .int i_plans, .int i_hasPlan, .ref m_keptTeeth, .int i_jobs, .int i_orderBest, .ref m_jobRing, .ref m_jobSpeed, .ref m_jobFeed, .ref m_jobTurns, .ref m_orderRow, .ref m_bestRow, .int i_hasOrder, .ref m_orderTold, .int i_offers, .int i_heards, .int i_rights, .int i_telling, .ref m_offerRing, .ref m_offerSpeed, .ref m_offerFeed, .ref m_offerTurns, .ref m_heardOffer, .ref m_heardVerdict, .ref m_heardAt, .ref m_rightOf, .ref m_rightVerdict, .ref m_rightAt, .ref m_verdictOf, .ref m_sound, .ref m_readSound, .int i_sounds])), (m_rule, .inl (cI, 12, .inl gz_untold))] [(cI, .int)] sz (fun (r : Int32) (_ : Unit) => r = 0) (fun (_ : Unit) => [(m0, .inr (12, [.ref m_stop, .ref m_tape, .int i_taped, .int i_length, .int i_from, .int i_behind, .int i_hand, .int i_value, .int i_fault, .int i_faultAt, .ref m_rule, .ref m_readRule, .ref m_teeth, .ref m_readTeeth, .ref m_sway, .ref m_readSway, .ref m_isTold, .ref m_markKind, .ref m_markValue, .ref m_marks, .int i_sum, .int i_parts, .ref m_pile, .ref m_height, .ref m_leftPass, .ref m_leftTurn, .ref m_leftTooth, .ref m_leftX, .int i_wear, .int i_cuts, .ref m_kept, .ref m_keptWear, .int i_deep, .ref m_now, .ref m_passed, .int i_x, .int i_v, .int i_hasPassed, .ref m_planTime, .ref m_planMany, .ref m_planned, .ref m_isQuiet, .int i_plans, .int i_hasPlan, .ref m_keptTeeth, .int i_jobs, .int i_orderBest, .ref m_jobRing, .ref m_jobSpeed, .ref m_jobFeed, .ref m_jobTurns, .ref m_orderRow, .ref m_bestRow, .int i_hasOrder, .ref m_orderTold, .int i_offers, .int i_heards, .int i_rights, .int i_telling, .ref m_offerRing, .ref m_offerSpeed, .ref m_offerFeed, .ref m_offerTurns, .ref m_heardOffer, .ref m_heardVerdict, .ref m_heardAt, .ref m_rightOf, .ref m_rightVerdict, .ref m_rightAt, .ref m_verdictOf, .ref m_sound, .ref m_readSound, .int i_sounds])), (m_rule, .inl (cI, 12, .inl gz_untold))]) (fun (_ : Unit) => [(cI, .int)]) := by
  unfold Ki
  refine g_ofW (cc := cX13_isPair) (lv := [(0, .ref m0), (1, .int 2)]) (by decide) rfl (Nat.le_of_ble_eq_true rfl) rfl ?_
  intro p e s m args below meth c A Q hA hQ F hr hnm
  have hts := F.2.2.2.2.1
  have w_0 : (Cond.fieldLink RX13 199 "QuietCutModel" "rule" "[I").before args s = true := hts _ (List.mem_of_getElem? (i := 1) rfl)
  have i_X13 : ∀ w ∈ u_ws RX13 TX13 73, w ∈ wsX13_isPair := fun _ h => List.mem_cons_of_mem _ (List.mem_append_right _ h)
  refine g_aload_n F 0 dX13_isPair_0 rfl rfl ?_
  refine g_get (C := RX13) (T := TX13) (N := 73) (v := .ref m_rule) F i_X13 0 rfl rfl 10 (by decide) w_0 rfl rfl dX13_isPair_1 ?_
  refine g_iconst F 3 dX13_isPair_4 (by decide) ?_
  refine g_iald F 1 0 rfl rfl (by unfold vp_in; decide) dX13_isPair_5 ?_
  refine g_fold 8 (by rfl) ?_
  refine g_iload_n F 1 dX13_isPair_6 rfl rfl ?_
  refine g_iconst F 4 dX13_isPair_7 (by decide) ?_
  refine g_idiv F dX13_isPair_8 (by decide) ?_
  refine g_fold 0 (by decide) ?_
  refine g_iadd F dX13_isPair_9 ?_
  refine g_fold 8 (by decide) ?_
  refine g_aload_n F 0 dX13_isPair_10 rfl rfl ?_
  refine g_get (C := RX13) (T := TX13) (N := 73) (v := .ref m_rule) F i_X13 0 rfl rfl 10 (by decide) w_0 rfl rfl dX13_isPair_11 ?_
  refine g_iconst F 4 dX13_isPair_14 (by decide) ?_
  refine g_iald F 1 0 rfl rfl (by unfold vp_in; decide) dX13_isPair_15 ?_
  refine g_fold 8 (by rfl) ?_
  refine g_icmp_gt F 43 dX13_isPair_16 (by decide) (fun h9 => absurd h9 (by decide)) (fun c_16 => ?_)
  refine g_aload_n F 0 dX13_isPair_19 rfl rfl ?_
  refine g_get (C := RX13) (T := TX13) (N := 73) (v := .ref m_rule) F i_X13 0 rfl rfl 10 (by decide) w_0 rfl rfl dX13_isPair_20 ?_
  refine g_iconst F 5 dX13_isPair_23 (by decide) ?_
  refine g_iald F 1 0 rfl rfl (by unfold vp_in; decide) dX13_isPair_24 ?_
  refine g_fold 2 (by rfl) ?_
  refine g_iload_n F 1 dX13_isPair_25 rfl rfl ?_
  refine g_iconst F 4 dX13_isPair_26 (by decide) ?_
  refine g_irem F dX13_isPair_27 (by decide) ?_
  refine g_fold 2 (by decide) ?_
  refine g_iadd F dX13_isPair_28 ?_
  refine g_fold 4 (by decide) ?_
  refine g_aload_n F 0 dX13_isPair_29 rfl rfl ?_
  refine g_get (C := RX13) (T := TX13) (N := 73) (v := .ref m_rule) F i_X13 0 rfl rfl 10 (by decide) w_0 rfl rfl dX13_isPair_30 ?_
  refine g_bipush F 6 dX13_isPair_33 (by decide) ?_
  refine g_iald F 1 0 rfl rfl (by unfold vp_in; decide) dX13_isPair_35 ?_
  refine g_fold 2 (by rfl) ?_
  refine g_icmp_gt F 43 dX13_isPair_36 (by decide) (fun c_36 => ?_) (fun h9 => absurd (by decide) h9) 
  refine g_iconst F 0 dX13_isPair_43 (by decide) ?_
  exact g_zret F hA hQ hr rfl () (rfl) [0, 1] [0] rfl (by decide) rfl rfl dX13_isPair_44


set_option maxHeartbeats 4000000 in
set_option maxRecDepth 100000 in
theorem K_X13_isPair3 (l : Launch) (D : va_G) (m0 : Nat) (m_stop : Nat) (m_tape : Nat) (i_taped : Int32) (i_length : Int32) (i_from : Int32) (i_behind : Int32) (i_hand : Int32) (i_value : Int32) (i_fault : Int32) (i_faultAt : Int32) (m_rule : Nat) (m_readRule : Nat) (m_teeth : Nat) (m_readTeeth : Nat) (m_sway : Nat) (m_readSway : Nat) (m_isTold : Nat) (m_markKind : Nat) (m_markValue : Nat) (m_marks : Nat) (i_sum : Int32) (i_parts : Int32) (m_pile : Nat) (m_height : Nat) (m_leftPass : Nat) (m_leftTurn : Nat) (m_leftTooth : Nat) (m_leftX : Nat) (i_wear : Int32) (i_cuts : Int32) (m_kept : Nat) (m_keptWear : Nat) (i_deep : Int32) (m_now : Nat) (m_passed : Nat) (i_x : Int32) (i_v : Int32) (i_hasPassed : Int32) (m_planTime : Nat) (m_planMany : Nat) (m_planned : Nat) (m_isQuiet : Nat) (i_plans : Int32) (i_hasPlan : Int32) (m_keptTeeth : Nat) (i_jobs : Int32) (i_orderBest : Int32) (m_jobRing : Nat) (m_jobSpeed : Nat) (m_jobFeed : Nat) (m_jobTurns : Nat) (m_orderRow : Nat) (m_bestRow : Nat) (i_hasOrder : Int32) (m_orderTold : Nat) (i_offers : Int32) (i_heards : Int32) (i_rights : Int32) (i_telling : Int32) (m_offerRing : Nat) (m_offerSpeed : Nat) (m_offerFeed : Nat) (m_offerTurns : Nat) (m_heardOffer : Nat) (m_heardVerdict : Nat) (m_heardAt : Nat) (m_rightOf : Nat) (m_rightVerdict : Nat) (m_rightAt : Nat) (m_verdictOf : Nat) (m_sound : Nat) (m_readSound : Nat) (i_sounds : Int32) (cI : ClassId) (sz : Nat) : Ki l yX13_isPair wsX13_isPair 1 40 0 0 D [.ref m0, .int 3] [(m0, .inr (12, [.ref m_stop, .ref m_tape, .int i_taped, .int i_length, .int i_from, .int i_behind, .int i_hand, .int i_value, .int i_fault, .int i_faultAt, .ref m_rule, .ref m_readRule, .ref m_teeth, .ref m_readTeeth, .ref m_sway, .ref m_readSway, .ref m_isTold, .ref m_markKind, .ref m_markValue, .ref m_marks, .int i_sum, .int i_parts, .ref m_pile, .ref m_height, .ref m_leftPass, .ref m_leftTurn, .ref m_leftTooth, .ref m_leftX, .int i_wear, .int i_cuts, .ref m_kept, .ref m_keptWear, .int i_deep, .ref m_now, .ref m_passed, .int i_x, .int i_v, .int i_hasPassed, .ref m_planTime, .ref m_planMany, .ref m_planned, .ref m_isQuiet, .int i_plans, .int i_hasPlan, .ref m_keptTeeth, .int i_jobs, .int i_orderBest, .ref m_jobRing, .ref m_jobSpeed, .ref m_jobFeed, .ref m_jobTurns, .ref m_orderRow, .ref m_bestRow, .int i_hasOrder, .ref m_orderTold, .int i_offers, .int i_heards, .int i_rights, .int i_telling, .ref m_offerRing, .ref m_offerSpeed, .ref m_offerFeed, .ref m_offerTurns, .ref m_heardOffer, .ref m_heardVerdict, .ref m_heardAt, .ref m_rightOf, .ref m_rightVerdict, .ref m_rightAt, .ref m_verdictOf, .ref m_sound, .ref m_readSound, .int i_sounds])), (m_rule, .inl (cI, 12, .inl gz_untold))] [(cI, .int)] sz (fun (r : Int32) (_ : Unit) => r = 0) (fun (_ : Unit) => [(m0, .inr (12, [.ref m_stop, .ref m_tape, .int i_taped, .int i_length, .int i_from, .int i_behind, .int i_hand, .int i_value, .int i_fault, .int i_faultAt, .ref m_rule, .ref m_readRule, .ref m_teeth, .ref m_readTeeth, .ref m_sway, .ref m_readSway, .ref m_isTold, .ref m_markKind, .ref m_markValue, .ref m_marks, .int i_sum, .int i_parts, .ref m_pile, .ref m_height, .ref m_leftPass, .ref m_leftTurn, .ref m_leftTooth, .ref m_leftX, .int i_wear, .int i_cuts, .ref m_kept, .ref m_keptWear, .int i_deep, .ref m_now, .ref m_passed, .int i_x, .int i_v, .int i_hasPassed, .ref m_planTime, .ref m_planMany, .ref m_planned, .ref m_isQuiet, .int i_plans, .int i_hasPlan, .ref m_keptTeeth, .int i_jobs, .int i_orderBest, .ref m_jobRing, .ref m_jobSpeed, .ref m_jobFeed, .ref m_jobTurns, .ref m_orderRow, .ref m_bestRow, .int i_hasOrder, .ref m_orderTold, .int i_offers, .int i_heards, .int i_rights, .int i_telling, .ref m_offerRing, .ref m_offerSpeed, .ref m_offerFeed, .ref m_offerTurns, .ref m_heardOffer, .ref m_heardVerdict, .ref m_heardAt, .ref m_rightOf, .ref m_rightVerdict, .ref m_rightAt, .ref m_verdictOf, .ref m_sound, .ref m_readSound, .int i_sounds])), (m_rule, .inl (cI, 12, .inl gz_untold))]) (fun (_ : Unit) => [(cI, .int)]) := by
  unfold Ki
  refine g_ofW (cc := cX13_isPair) (lv := [(0, .ref m0), (1, .int 3)]) (by decide) rfl (Nat.le_of_ble_eq_true rfl) rfl ?_
  intro p e s m args below meth c A Q hA hQ F hr hnm
  have hts := F.2.2.2.2.1
  have w_0 : (Cond.fieldLink RX13 199 "QuietCutModel" "rule" "[I").before args s = true := hts _ (List.mem_of_getElem? (i := 1) rfl)
  have i_X13 : ∀ w ∈ u_ws RX13 TX13 73, w ∈ wsX13_isPair := fun _ h => List.mem_cons_of_mem _ (List.mem_append_right _ h)
  refine g_aload_n F 0 dX13_isPair_0 rfl rfl ?_
  refine g_get (C := RX13) (T := TX13) (N := 73) (v := .ref m_rule) F i_X13 0 rfl rfl 10 (by decide) w_0 rfl rfl dX13_isPair_1 ?_
  refine g_iconst F 3 dX13_isPair_4 (by decide) ?_
  refine g_iald F 1 0 rfl rfl (by unfold vp_in; decide) dX13_isPair_5 ?_
  refine g_fold 8 (by rfl) ?_
  refine g_iload_n F 1 dX13_isPair_6 rfl rfl ?_
  refine g_iconst F 4 dX13_isPair_7 (by decide) ?_
  refine g_idiv F dX13_isPair_8 (by decide) ?_
  refine g_fold 0 (by decide) ?_
  refine g_iadd F dX13_isPair_9 ?_
  refine g_fold 8 (by decide) ?_
  refine g_aload_n F 0 dX13_isPair_10 rfl rfl ?_
  refine g_get (C := RX13) (T := TX13) (N := 73) (v := .ref m_rule) F i_X13 0 rfl rfl 10 (by decide) w_0 rfl rfl dX13_isPair_11 ?_
  refine g_iconst F 4 dX13_isPair_14 (by decide) ?_
  refine g_iald F 1 0 rfl rfl (by unfold vp_in; decide) dX13_isPair_15 ?_
  refine g_fold 8 (by rfl) ?_
  refine g_icmp_gt F 43 dX13_isPair_16 (by decide) (fun h9 => absurd h9 (by decide)) (fun c_16 => ?_)
  refine g_aload_n F 0 dX13_isPair_19 rfl rfl ?_
  refine g_get (C := RX13) (T := TX13) (N := 73) (v := .ref m_rule) F i_X13 0 rfl rfl 10 (by decide) w_0 rfl rfl dX13_isPair_20 ?_
  refine g_iconst F 5 dX13_isPair_23 (by decide) ?_
  refine g_iald F 1 0 rfl rfl (by unfold vp_in; decide) dX13_isPair_24 ?_
  refine g_fold 2 (by rfl) ?_
  refine g_iload_n F 1 dX13_isPair_25 rfl rfl ?_
  refine g_iconst F 4 dX13_isPair_26 (by decide) ?_
  refine g_irem F dX13_isPair_27 (by decide) ?_
  refine g_fold 3 (by decide) ?_
  refine g_iadd F dX13_isPair_28 ?_
  refine g_fold 5 (by decide) ?_
  refine g_aload_n F 0 dX13_isPair_29 rfl rfl ?_
  refine g_get (C := RX13) (T := TX13) (N := 73) (v := .ref m_rule) F i_X13 0 rfl rfl 10 (by decide) w_0 rfl rfl dX13_isPair_30 ?_
  refine g_bipush F 6 dX13_isPair_33 (by decide) ?_
  refine g_iald F 1 0 rfl rfl (by unfold vp_in; decide) dX13_isPair_35 ?_
  refine g_fold 2 (by rfl) ?_
  refine g_icmp_gt F 43 dX13_isPair_36 (by decide) (fun c_36 => ?_) (fun h9 => absurd (by decide) h9) 
  refine g_iconst F 0 dX13_isPair_43 (by decide) ?_
  exact g_zret F hA hQ hr rfl () (rfl) [0, 1] [0] rfl (by decide) rfl rfl dX13_isPair_44


set_option maxHeartbeats 4000000 in
set_option maxRecDepth 100000 in
theorem K_X13_isPair4 (l : Launch) (D : va_G) (m0 : Nat) (m_stop : Nat) (m_tape : Nat) (i_taped : Int32) (i_length : Int32) (i_from : Int32) (i_behind : Int32) (i_hand : Int32) (i_value : Int32) (i_fault : Int32) (i_faultAt : Int32) (m_rule : Nat) (m_readRule : Nat) (m_teeth : Nat) (m_readTeeth : Nat) (m_sway : Nat) (m_readSway : Nat) (m_isTold : Nat) (m_markKind : Nat) (m_markValue : Nat) (m_marks : Nat) (i_sum : Int32) (i_parts : Int32) (m_pile : Nat) (m_height : Nat) (m_leftPass : Nat) (m_leftTurn : Nat) (m_leftTooth : Nat) (m_leftX : Nat) (i_wear : Int32) (i_cuts : Int32) (m_kept : Nat) (m_keptWear : Nat) (i_deep : Int32) (m_now : Nat) (m_passed : Nat) (i_x : Int32) (i_v : Int32) (i_hasPassed : Int32) (m_planTime : Nat) (m_planMany : Nat) (m_planned : Nat) (m_isQuiet : Nat) (i_plans : Int32) (i_hasPlan : Int32) (m_keptTeeth : Nat) (i_jobs : Int32) (i_orderBest : Int32) (m_jobRing : Nat) (m_jobSpeed : Nat) (m_jobFeed : Nat) (m_jobTurns : Nat) (m_orderRow : Nat) (m_bestRow : Nat) (i_hasOrder : Int32) (m_orderTold : Nat) (i_offers : Int32) (i_heards : Int32) (i_rights : Int32) (i_telling : Int32) (m_offerRing : Nat) (m_offerSpeed : Nat) (m_offerFeed : Nat) (m_offerTurns : Nat) (m_heardOffer : Nat) (m_heardVerdict : Nat) (m_heardAt : Nat) (m_rightOf : Nat) (m_rightVerdict : Nat) (m_rightAt : Nat) (m_verdictOf : Nat) (m_sound : Nat) (m_readSound : Nat) (i_sounds : Int32) (cI : ClassId) (sz : Nat) : Ki l yX13_isPair wsX13_isPair 1 40 0 0 D [.ref m0, .int 4] [(m0, .inr (12, [.ref m_stop, .ref m_tape, .int i_taped, .int i_length, .int i_from, .int i_behind, .int i_hand, .int i_value, .int i_fault, .int i_faultAt, .ref m_rule, .ref m_readRule, .ref m_teeth, .ref m_readTeeth, .ref m_sway, .ref m_readSway, .ref m_isTold, .ref m_markKind, .ref m_markValue, .ref m_marks, .int i_sum, .int i_parts, .ref m_pile, .ref m_height, .ref m_leftPass, .ref m_leftTurn, .ref m_leftTooth, .ref m_leftX, .int i_wear, .int i_cuts, .ref m_kept, .ref m_keptWear, .int i_deep, .ref m_now, .ref m_passed, .int i_x, .int i_v, .int i_hasPassed, .ref m_planTime, .ref m_planMany, .ref m_planned, .ref m_isQuiet, .int i_plans, .int i_hasPlan, .ref m_keptTeeth, .int i_jobs, .int i_orderBest, .ref m_jobRing, .ref m_jobSpeed, .ref m_jobFeed, .ref m_jobTurns, .ref m_orderRow, .ref m_bestRow, .int i_hasOrder, .ref m_orderTold, .int i_offers, .int i_heards, .int i_rights, .int i_telling, .ref m_offerRing, .ref m_offerSpeed, .ref m_offerFeed, .ref m_offerTurns, .ref m_heardOffer, .ref m_heardVerdict, .ref m_heardAt, .ref m_rightOf, .ref m_rightVerdict, .ref m_rightAt, .ref m_verdictOf, .ref m_sound, .ref m_readSound, .int i_sounds])), (m_rule, .inl (cI, 12, .inl gz_untold))] [(cI, .int)] sz (fun (r : Int32) (_ : Unit) => r = 0) (fun (_ : Unit) => [(m0, .inr (12, [.ref m_stop, .ref m_tape, .int i_taped, .int i_length, .int i_from, .int i_behind, .int i_hand, .int i_value, .int i_fault, .int i_faultAt, .ref m_rule, .ref m_readRule, .ref m_teeth, .ref m_readTeeth, .ref m_sway, .ref m_readSway, .ref m_isTold, .ref m_markKind, .ref m_markValue, .ref m_marks, .int i_sum, .int i_parts, .ref m_pile, .ref m_height, .ref m_leftPass, .ref m_leftTurn, .ref m_leftTooth, .ref m_leftX, .int i_wear, .int i_cuts, .ref m_kept, .ref m_keptWear, .int i_deep, .ref m_now, .ref m_passed, .int i_x, .int i_v, .int i_hasPassed, .ref m_planTime, .ref m_planMany, .ref m_planned, .ref m_isQuiet, .int i_plans, .int i_hasPlan, .ref m_keptTeeth, .int i_jobs, .int i_orderBest, .ref m_jobRing, .ref m_jobSpeed, .ref m_jobFeed, .ref m_jobTurns, .ref m_orderRow, .ref m_bestRow, .int i_hasOrder, .ref m_orderTold, .int i_offers, .int i_heards, .int i_rights, .int i_telling, .ref m_offerRing, .ref m_offerSpeed, .ref m_offerFeed, .ref m_offerTurns, .ref m_heardOffer, .ref m_heardVerdict, .ref m_heardAt, .ref m_rightOf, .ref m_rightVerdict, .ref m_rightAt, .ref m_verdictOf, .ref m_sound, .ref m_readSound, .int i_sounds])), (m_rule, .inl (cI, 12, .inl gz_untold))]) (fun (_ : Unit) => [(cI, .int)]) := by
  unfold Ki
  refine g_ofW (cc := cX13_isPair) (lv := [(0, .ref m0), (1, .int 4)]) (by decide) rfl (Nat.le_of_ble_eq_true rfl) rfl ?_
  intro p e s m args below meth c A Q hA hQ F hr hnm
  have hts := F.2.2.2.2.1
  have w_0 : (Cond.fieldLink RX13 199 "QuietCutModel" "rule" "[I").before args s = true := hts _ (List.mem_of_getElem? (i := 1) rfl)
  have i_X13 : ∀ w ∈ u_ws RX13 TX13 73, w ∈ wsX13_isPair := fun _ h => List.mem_cons_of_mem _ (List.mem_append_right _ h)
  refine g_aload_n F 0 dX13_isPair_0 rfl rfl ?_
  refine g_get (C := RX13) (T := TX13) (N := 73) (v := .ref m_rule) F i_X13 0 rfl rfl 10 (by decide) w_0 rfl rfl dX13_isPair_1 ?_
  refine g_iconst F 3 dX13_isPair_4 (by decide) ?_
  refine g_iald F 1 0 rfl rfl (by unfold vp_in; decide) dX13_isPair_5 ?_
  refine g_fold 8 (by rfl) ?_
  refine g_iload_n F 1 dX13_isPair_6 rfl rfl ?_
  refine g_iconst F 4 dX13_isPair_7 (by decide) ?_
  refine g_idiv F dX13_isPair_8 (by decide) ?_
  refine g_fold 1 (by decide) ?_
  refine g_iadd F dX13_isPair_9 ?_
  refine g_fold 9 (by decide) ?_
  refine g_aload_n F 0 dX13_isPair_10 rfl rfl ?_
  refine g_get (C := RX13) (T := TX13) (N := 73) (v := .ref m_rule) F i_X13 0 rfl rfl 10 (by decide) w_0 rfl rfl dX13_isPair_11 ?_
  refine g_iconst F 4 dX13_isPair_14 (by decide) ?_
  refine g_iald F 1 0 rfl rfl (by unfold vp_in; decide) dX13_isPair_15 ?_
  refine g_fold 8 (by rfl) ?_
  refine g_icmp_gt F 43 dX13_isPair_16 (by decide) (fun c_16 => ?_) (fun h9 => absurd (by decide) h9) 
  refine g_iconst F 0 dX13_isPair_43 (by decide) ?_
  exact g_zret F hA hQ hr rfl () (rfl) [0, 1] [0] rfl (by decide) rfl rfl dX13_isPair_44


set_option maxHeartbeats 4000000 in
set_option maxRecDepth 100000 in
theorem K_X13_isPair5 (l : Launch) (D : va_G) (m0 : Nat) (m_stop : Nat) (m_tape : Nat) (i_taped : Int32) (i_length : Int32) (i_from : Int32) (i_behind : Int32) (i_hand : Int32) (i_value : Int32) (i_fault : Int32) (i_faultAt : Int32) (m_rule : Nat) (m_readRule : Nat) (m_teeth : Nat) (m_readTeeth : Nat) (m_sway : Nat) (m_readSway : Nat) (m_isTold : Nat) (m_markKind : Nat) (m_markValue : Nat) (m_marks : Nat) (i_sum : Int32) (i_parts : Int32) (m_pile : Nat) (m_height : Nat) (m_leftPass : Nat) (m_leftTurn : Nat) (m_leftTooth : Nat) (m_leftX : Nat) (i_wear : Int32) (i_cuts : Int32) (m_kept : Nat) (m_keptWear : Nat) (i_deep : Int32) (m_now : Nat) (m_passed : Nat) (i_x : Int32) (i_v : Int32) (i_hasPassed : Int32) (m_planTime : Nat) (m_planMany : Nat) (m_planned : Nat) (m_isQuiet : Nat) (i_plans : Int32) (i_hasPlan : Int32) (m_keptTeeth : Nat) (i_jobs : Int32) (i_orderBest : Int32) (m_jobRing : Nat) (m_jobSpeed : Nat) (m_jobFeed : Nat) (m_jobTurns : Nat) (m_orderRow : Nat) (m_bestRow : Nat) (i_hasOrder : Int32) (m_orderTold : Nat) (i_offers : Int32) (i_heards : Int32) (i_rights : Int32) (i_telling : Int32) (m_offerRing : Nat) (m_offerSpeed : Nat) (m_offerFeed : Nat) (m_offerTurns : Nat) (m_heardOffer : Nat) (m_heardVerdict : Nat) (m_heardAt : Nat) (m_rightOf : Nat) (m_rightVerdict : Nat) (m_rightAt : Nat) (m_verdictOf : Nat) (m_sound : Nat) (m_readSound : Nat) (i_sounds : Int32) (cI : ClassId) (sz : Nat) : Ki l yX13_isPair wsX13_isPair 1 40 0 0 D [.ref m0, .int 5] [(m0, .inr (12, [.ref m_stop, .ref m_tape, .int i_taped, .int i_length, .int i_from, .int i_behind, .int i_hand, .int i_value, .int i_fault, .int i_faultAt, .ref m_rule, .ref m_readRule, .ref m_teeth, .ref m_readTeeth, .ref m_sway, .ref m_readSway, .ref m_isTold, .ref m_markKind, .ref m_markValue, .ref m_marks, .int i_sum, .int i_parts, .ref m_pile, .ref m_height, .ref m_leftPass, .ref m_leftTurn, .ref m_leftTooth, .ref m_leftX, .int i_wear, .int i_cuts, .ref m_kept, .ref m_keptWear, .int i_deep, .ref m_now, .ref m_passed, .int i_x, .int i_v, .int i_hasPassed, .ref m_planTime, .ref m_planMany, .ref m_planned, .ref m_isQuiet, .int i_plans, .int i_hasPlan, .ref m_keptTeeth, .int i_jobs, .int i_orderBest, .ref m_jobRing, .ref m_jobSpeed, .ref m_jobFeed, .ref m_jobTurns, .ref m_orderRow, .ref m_bestRow, .int i_hasOrder, .ref m_orderTold, .int i_offers, .int i_heards, .int i_rights, .int i_telling, .ref m_offerRing, .ref m_offerSpeed, .ref m_offerFeed, .ref m_offerTurns, .ref m_heardOffer, .ref m_heardVerdict, .ref m_heardAt, .ref m_rightOf, .ref m_rightVerdict, .ref m_rightAt, .ref m_verdictOf, .ref m_sound, .ref m_readSound, .int i_sounds])), (m_rule, .inl (cI, 12, .inl gz_untold))] [(cI, .int)] sz (fun (r : Int32) (_ : Unit) => r = 0) (fun (_ : Unit) => [(m0, .inr (12, [.ref m_stop, .ref m_tape, .int i_taped, .int i_length, .int i_from, .int i_behind, .int i_hand, .int i_value, .int i_fault, .int i_faultAt, .ref m_rule, .ref m_readRule, .ref m_teeth, .ref m_readTeeth, .ref m_sway, .ref m_readSway, .ref m_isTold, .ref m_markKind, .ref m_markValue, .ref m_marks, .int i_sum, .int i_parts, .ref m_pile, .ref m_height, .ref m_leftPass, .ref m_leftTurn, .ref m_leftTooth, .ref m_leftX, .int i_wear, .int i_cuts, .ref m_kept, .ref m_keptWear, .int i_deep, .ref m_now, .ref m_passed, .int i_x, .int i_v, .int i_hasPassed, .ref m_planTime, .ref m_planMany, .ref m_planned, .ref m_isQuiet, .int i_plans, .int i_hasPlan, .ref m_keptTeeth, .int i_jobs, .int i_orderBest, .ref m_jobRing, .ref m_jobSpeed, .ref m_jobFeed, .ref m_jobTurns, .ref m_orderRow, .ref m_bestRow, .int i_hasOrder, .ref m_orderTold, .int i_offers, .int i_heards, .int i_rights, .int i_telling, .ref m_offerRing, .ref m_offerSpeed, .ref m_offerFeed, .ref m_offerTurns, .ref m_heardOffer, .ref m_heardVerdict, .ref m_heardAt, .ref m_rightOf, .ref m_rightVerdict, .ref m_rightAt, .ref m_verdictOf, .ref m_sound, .ref m_readSound, .int i_sounds])), (m_rule, .inl (cI, 12, .inl gz_untold))]) (fun (_ : Unit) => [(cI, .int)]) := by
  unfold Ki
  refine g_ofW (cc := cX13_isPair) (lv := [(0, .ref m0), (1, .int 5)]) (by decide) rfl (Nat.le_of_ble_eq_true rfl) rfl ?_
  intro p e s m args below meth c A Q hA hQ F hr hnm
  have hts := F.2.2.2.2.1
  have w_0 : (Cond.fieldLink RX13 199 "QuietCutModel" "rule" "[I").before args s = true := hts _ (List.mem_of_getElem? (i := 1) rfl)
  have i_X13 : ∀ w ∈ u_ws RX13 TX13 73, w ∈ wsX13_isPair := fun _ h => List.mem_cons_of_mem _ (List.mem_append_right _ h)
  refine g_aload_n F 0 dX13_isPair_0 rfl rfl ?_
  refine g_get (C := RX13) (T := TX13) (N := 73) (v := .ref m_rule) F i_X13 0 rfl rfl 10 (by decide) w_0 rfl rfl dX13_isPair_1 ?_
  refine g_iconst F 3 dX13_isPair_4 (by decide) ?_
  refine g_iald F 1 0 rfl rfl (by unfold vp_in; decide) dX13_isPair_5 ?_
  refine g_fold 8 (by rfl) ?_
  refine g_iload_n F 1 dX13_isPair_6 rfl rfl ?_
  refine g_iconst F 4 dX13_isPair_7 (by decide) ?_
  refine g_idiv F dX13_isPair_8 (by decide) ?_
  refine g_fold 1 (by decide) ?_
  refine g_iadd F dX13_isPair_9 ?_
  refine g_fold 9 (by decide) ?_
  refine g_aload_n F 0 dX13_isPair_10 rfl rfl ?_
  refine g_get (C := RX13) (T := TX13) (N := 73) (v := .ref m_rule) F i_X13 0 rfl rfl 10 (by decide) w_0 rfl rfl dX13_isPair_11 ?_
  refine g_iconst F 4 dX13_isPair_14 (by decide) ?_
  refine g_iald F 1 0 rfl rfl (by unfold vp_in; decide) dX13_isPair_15 ?_
  refine g_fold 8 (by rfl) ?_
  refine g_icmp_gt F 43 dX13_isPair_16 (by decide) (fun c_16 => ?_) (fun h9 => absurd (by decide) h9) 
  refine g_iconst F 0 dX13_isPair_43 (by decide) ?_
  exact g_zret F hA hQ hr rfl () (rfl) [0, 1] [0] rfl (by decide) rfl rfl dX13_isPair_44


set_option maxHeartbeats 4000000 in
set_option maxRecDepth 100000 in
theorem K_X13_isPair6 (l : Launch) (D : va_G) (m0 : Nat) (m_stop : Nat) (m_tape : Nat) (i_taped : Int32) (i_length : Int32) (i_from : Int32) (i_behind : Int32) (i_hand : Int32) (i_value : Int32) (i_fault : Int32) (i_faultAt : Int32) (m_rule : Nat) (m_readRule : Nat) (m_teeth : Nat) (m_readTeeth : Nat) (m_sway : Nat) (m_readSway : Nat) (m_isTold : Nat) (m_markKind : Nat) (m_markValue : Nat) (m_marks : Nat) (i_sum : Int32) (i_parts : Int32) (m_pile : Nat) (m_height : Nat) (m_leftPass : Nat) (m_leftTurn : Nat) (m_leftTooth : Nat) (m_leftX : Nat) (i_wear : Int32) (i_cuts : Int32) (m_kept : Nat) (m_keptWear : Nat) (i_deep : Int32) (m_now : Nat) (m_passed : Nat) (i_x : Int32) (i_v : Int32) (i_hasPassed : Int32) (m_planTime : Nat) (m_planMany : Nat) (m_planned : Nat) (m_isQuiet : Nat) (i_plans : Int32) (i_hasPlan : Int32) (m_keptTeeth : Nat) (i_jobs : Int32) (i_orderBest : Int32) (m_jobRing : Nat) (m_jobSpeed : Nat) (m_jobFeed : Nat) (m_jobTurns : Nat) (m_orderRow : Nat) (m_bestRow : Nat) (i_hasOrder : Int32) (m_orderTold : Nat) (i_offers : Int32) (i_heards : Int32) (i_rights : Int32) (i_telling : Int32) (m_offerRing : Nat) (m_offerSpeed : Nat) (m_offerFeed : Nat) (m_offerTurns : Nat) (m_heardOffer : Nat) (m_heardVerdict : Nat) (m_heardAt : Nat) (m_rightOf : Nat) (m_rightVerdict : Nat) (m_rightAt : Nat) (m_verdictOf : Nat) (m_sound : Nat) (m_readSound : Nat) (i_sounds : Int32) (cI : ClassId) (sz : Nat) : Ki l yX13_isPair wsX13_isPair 1 40 0 0 D [.ref m0, .int 6] [(m0, .inr (12, [.ref m_stop, .ref m_tape, .int i_taped, .int i_length, .int i_from, .int i_behind, .int i_hand, .int i_value, .int i_fault, .int i_faultAt, .ref m_rule, .ref m_readRule, .ref m_teeth, .ref m_readTeeth, .ref m_sway, .ref m_readSway, .ref m_isTold, .ref m_markKind, .ref m_markValue, .ref m_marks, .int i_sum, .int i_parts, .ref m_pile, .ref m_height, .ref m_leftPass, .ref m_leftTurn, .ref m_leftTooth, .ref m_leftX, .int i_wear, .int i_cuts, .ref m_kept, .ref m_keptWear, .int i_deep, .ref m_now, .ref m_passed, .int i_x, .int i_v, .int i_hasPassed, .ref m_planTime, .ref m_planMany, .ref m_planned, .ref m_isQuiet, .int i_plans, .int i_hasPlan, .ref m_keptTeeth, .int i_jobs, .int i_orderBest, .ref m_jobRing, .ref m_jobSpeed, .ref m_jobFeed, .ref m_jobTurns, .ref m_orderRow, .ref m_bestRow, .int i_hasOrder, .ref m_orderTold, .int i_offers, .int i_heards, .int i_rights, .int i_telling, .ref m_offerRing, .ref m_offerSpeed, .ref m_offerFeed, .ref m_offerTurns, .ref m_heardOffer, .ref m_heardVerdict, .ref m_heardAt, .ref m_rightOf, .ref m_rightVerdict, .ref m_rightAt, .ref m_verdictOf, .ref m_sound, .ref m_readSound, .int i_sounds])), (m_rule, .inl (cI, 12, .inl gz_untold))] [(cI, .int)] sz (fun (r : Int32) (_ : Unit) => r = 0) (fun (_ : Unit) => [(m0, .inr (12, [.ref m_stop, .ref m_tape, .int i_taped, .int i_length, .int i_from, .int i_behind, .int i_hand, .int i_value, .int i_fault, .int i_faultAt, .ref m_rule, .ref m_readRule, .ref m_teeth, .ref m_readTeeth, .ref m_sway, .ref m_readSway, .ref m_isTold, .ref m_markKind, .ref m_markValue, .ref m_marks, .int i_sum, .int i_parts, .ref m_pile, .ref m_height, .ref m_leftPass, .ref m_leftTurn, .ref m_leftTooth, .ref m_leftX, .int i_wear, .int i_cuts, .ref m_kept, .ref m_keptWear, .int i_deep, .ref m_now, .ref m_passed, .int i_x, .int i_v, .int i_hasPassed, .ref m_planTime, .ref m_planMany, .ref m_planned, .ref m_isQuiet, .int i_plans, .int i_hasPlan, .ref m_keptTeeth, .int i_jobs, .int i_orderBest, .ref m_jobRing, .ref m_jobSpeed, .ref m_jobFeed, .ref m_jobTurns, .ref m_orderRow, .ref m_bestRow, .int i_hasOrder, .ref m_orderTold, .int i_offers, .int i_heards, .int i_rights, .int i_telling, .ref m_offerRing, .ref m_offerSpeed, .ref m_offerFeed, .ref m_offerTurns, .ref m_heardOffer, .ref m_heardVerdict, .ref m_heardAt, .ref m_rightOf, .ref m_rightVerdict, .ref m_rightAt, .ref m_verdictOf, .ref m_sound, .ref m_readSound, .int i_sounds])), (m_rule, .inl (cI, 12, .inl gz_untold))]) (fun (_ : Unit) => [(cI, .int)]) := by
  unfold Ki
  refine g_ofW (cc := cX13_isPair) (lv := [(0, .ref m0), (1, .int 6)]) (by decide) rfl (Nat.le_of_ble_eq_true rfl) rfl ?_
  intro p e s m args below meth c A Q hA hQ F hr hnm
  have hts := F.2.2.2.2.1
  have w_0 : (Cond.fieldLink RX13 199 "QuietCutModel" "rule" "[I").before args s = true := hts _ (List.mem_of_getElem? (i := 1) rfl)
  have i_X13 : ∀ w ∈ u_ws RX13 TX13 73, w ∈ wsX13_isPair := fun _ h => List.mem_cons_of_mem _ (List.mem_append_right _ h)
  refine g_aload_n F 0 dX13_isPair_0 rfl rfl ?_
  refine g_get (C := RX13) (T := TX13) (N := 73) (v := .ref m_rule) F i_X13 0 rfl rfl 10 (by decide) w_0 rfl rfl dX13_isPair_1 ?_
  refine g_iconst F 3 dX13_isPair_4 (by decide) ?_
  refine g_iald F 1 0 rfl rfl (by unfold vp_in; decide) dX13_isPair_5 ?_
  refine g_fold 8 (by rfl) ?_
  refine g_iload_n F 1 dX13_isPair_6 rfl rfl ?_
  refine g_iconst F 4 dX13_isPair_7 (by decide) ?_
  refine g_idiv F dX13_isPair_8 (by decide) ?_
  refine g_fold 1 (by decide) ?_
  refine g_iadd F dX13_isPair_9 ?_
  refine g_fold 9 (by decide) ?_
  refine g_aload_n F 0 dX13_isPair_10 rfl rfl ?_
  refine g_get (C := RX13) (T := TX13) (N := 73) (v := .ref m_rule) F i_X13 0 rfl rfl 10 (by decide) w_0 rfl rfl dX13_isPair_11 ?_
  refine g_iconst F 4 dX13_isPair_14 (by decide) ?_
  refine g_iald F 1 0 rfl rfl (by unfold vp_in; decide) dX13_isPair_15 ?_
  refine g_fold 8 (by rfl) ?_
  refine g_icmp_gt F 43 dX13_isPair_16 (by decide) (fun c_16 => ?_) (fun h9 => absurd (by decide) h9) 
  refine g_iconst F 0 dX13_isPair_43 (by decide) ?_
  exact g_zret F hA hQ hr rfl () (rfl) [0, 1] [0] rfl (by decide) rfl rfl dX13_isPair_44


set_option maxHeartbeats 4000000 in
set_option maxRecDepth 100000 in
theorem K_X13_isPair7 (l : Launch) (D : va_G) (m0 : Nat) (m_stop : Nat) (m_tape : Nat) (i_taped : Int32) (i_length : Int32) (i_from : Int32) (i_behind : Int32) (i_hand : Int32) (i_value : Int32) (i_fault : Int32) (i_faultAt : Int32) (m_rule : Nat) (m_readRule : Nat) (m_teeth : Nat) (m_readTeeth : Nat) (m_sway : Nat) (m_readSway : Nat) (m_isTold : Nat) (m_markKind : Nat) (m_markValue : Nat) (m_marks : Nat) (i_sum : Int32) (i_parts : Int32) (m_pile : Nat) (m_height : Nat) (m_leftPass : Nat) (m_leftTurn : Nat) (m_leftTooth : Nat) (m_leftX : Nat) (i_wear : Int32) (i_cuts : Int32) (m_kept : Nat) (m_keptWear : Nat) (i_deep : Int32) (m_now : Nat) (m_passed : Nat) (i_x : Int32) (i_v : Int32) (i_hasPassed : Int32) (m_planTime : Nat) (m_planMany : Nat) (m_planned : Nat) (m_isQuiet : Nat) (i_plans : Int32) (i_hasPlan : Int32) (m_keptTeeth : Nat) (i_jobs : Int32) (i_orderBest : Int32) (m_jobRing : Nat) (m_jobSpeed : Nat) (m_jobFeed : Nat) (m_jobTurns : Nat) (m_orderRow : Nat) (m_bestRow : Nat) (i_hasOrder : Int32) (m_orderTold : Nat) (i_offers : Int32) (i_heards : Int32) (i_rights : Int32) (i_telling : Int32) (m_offerRing : Nat) (m_offerSpeed : Nat) (m_offerFeed : Nat) (m_offerTurns : Nat) (m_heardOffer : Nat) (m_heardVerdict : Nat) (m_heardAt : Nat) (m_rightOf : Nat) (m_rightVerdict : Nat) (m_rightAt : Nat) (m_verdictOf : Nat) (m_sound : Nat) (m_readSound : Nat) (i_sounds : Int32) (cI : ClassId) (sz : Nat) : Ki l yX13_isPair wsX13_isPair 1 40 0 0 D [.ref m0, .int 7] [(m0, .inr (12, [.ref m_stop, .ref m_tape, .int i_taped, .int i_length, .int i_from, .int i_behind, .int i_hand, .int i_value, .int i_fault, .int i_faultAt, .ref m_rule, .ref m_readRule, .ref m_teeth, .ref m_readTeeth, .ref m_sway, .ref m_readSway, .ref m_isTold, .ref m_markKind, .ref m_markValue, .ref m_marks, .int i_sum, .int i_parts, .ref m_pile, .ref m_height, .ref m_leftPass, .ref m_leftTurn, .ref m_leftTooth, .ref m_leftX, .int i_wear, .int i_cuts, .ref m_kept, .ref m_keptWear, .int i_deep, .ref m_now, .ref m_passed, .int i_x, .int i_v, .int i_hasPassed, .ref m_planTime, .ref m_planMany, .ref m_planned, .ref m_isQuiet, .int i_plans, .int i_hasPlan, .ref m_keptTeeth, .int i_jobs, .int i_orderBest, .ref m_jobRing, .ref m_jobSpeed, .ref m_jobFeed, .ref m_jobTurns, .ref m_orderRow, .ref m_bestRow, .int i_hasOrder, .ref m_orderTold, .int i_offers, .int i_heards, .int i_rights, .int i_telling, .ref m_offerRing, .ref m_offerSpeed, .ref m_offerFeed, .ref m_offerTurns, .ref m_heardOffer, .ref m_heardVerdict, .ref m_heardAt, .ref m_rightOf, .ref m_rightVerdict, .ref m_rightAt, .ref m_verdictOf, .ref m_sound, .ref m_readSound, .int i_sounds])), (m_rule, .inl (cI, 12, .inl gz_untold))] [(cI, .int)] sz (fun (r : Int32) (_ : Unit) => r = 0) (fun (_ : Unit) => [(m0, .inr (12, [.ref m_stop, .ref m_tape, .int i_taped, .int i_length, .int i_from, .int i_behind, .int i_hand, .int i_value, .int i_fault, .int i_faultAt, .ref m_rule, .ref m_readRule, .ref m_teeth, .ref m_readTeeth, .ref m_sway, .ref m_readSway, .ref m_isTold, .ref m_markKind, .ref m_markValue, .ref m_marks, .int i_sum, .int i_parts, .ref m_pile, .ref m_height, .ref m_leftPass, .ref m_leftTurn, .ref m_leftTooth, .ref m_leftX, .int i_wear, .int i_cuts, .ref m_kept, .ref m_keptWear, .int i_deep, .ref m_now, .ref m_passed, .int i_x, .int i_v, .int i_hasPassed, .ref m_planTime, .ref m_planMany, .ref m_planned, .ref m_isQuiet, .int i_plans, .int i_hasPlan, .ref m_keptTeeth, .int i_jobs, .int i_orderBest, .ref m_jobRing, .ref m_jobSpeed, .ref m_jobFeed, .ref m_jobTurns, .ref m_orderRow, .ref m_bestRow, .int i_hasOrder, .ref m_orderTold, .int i_offers, .int i_heards, .int i_rights, .int i_telling, .ref m_offerRing, .ref m_offerSpeed, .ref m_offerFeed, .ref m_offerTurns, .ref m_heardOffer, .ref m_heardVerdict, .ref m_heardAt, .ref m_rightOf, .ref m_rightVerdict, .ref m_rightAt, .ref m_verdictOf, .ref m_sound, .ref m_readSound, .int i_sounds])), (m_rule, .inl (cI, 12, .inl gz_untold))]) (fun (_ : Unit) => [(cI, .int)]) := by
  unfold Ki
  refine g_ofW (cc := cX13_isPair) (lv := [(0, .ref m0), (1, .int 7)]) (by decide) rfl (Nat.le_of_ble_eq_true rfl) rfl ?_
  intro p e s m args below meth c A Q hA hQ F hr hnm
  have hts := F.2.2.2.2.1
  have w_0 : (Cond.fieldLink RX13 199 "QuietCutModel" "rule" "[I").before args s = true := hts _ (List.mem_of_getElem? (i := 1) rfl)
  have i_X13 : ∀ w ∈ u_ws RX13 TX13 73, w ∈ wsX13_isPair := fun _ h => List.mem_cons_of_mem _ (List.mem_append_right _ h)
  refine g_aload_n F 0 dX13_isPair_0 rfl rfl ?_
  refine g_get (C := RX13) (T := TX13) (N := 73) (v := .ref m_rule) F i_X13 0 rfl rfl 10 (by decide) w_0 rfl rfl dX13_isPair_1 ?_
  refine g_iconst F 3 dX13_isPair_4 (by decide) ?_
  refine g_iald F 1 0 rfl rfl (by unfold vp_in; decide) dX13_isPair_5 ?_
  refine g_fold 8 (by rfl) ?_
  refine g_iload_n F 1 dX13_isPair_6 rfl rfl ?_
  refine g_iconst F 4 dX13_isPair_7 (by decide) ?_
  refine g_idiv F dX13_isPair_8 (by decide) ?_
  refine g_fold 1 (by decide) ?_
  refine g_iadd F dX13_isPair_9 ?_
  refine g_fold 9 (by decide) ?_
  refine g_aload_n F 0 dX13_isPair_10 rfl rfl ?_
  refine g_get (C := RX13) (T := TX13) (N := 73) (v := .ref m_rule) F i_X13 0 rfl rfl 10 (by decide) w_0 rfl rfl dX13_isPair_11 ?_
  refine g_iconst F 4 dX13_isPair_14 (by decide) ?_
  refine g_iald F 1 0 rfl rfl (by unfold vp_in; decide) dX13_isPair_15 ?_
  refine g_fold 8 (by rfl) ?_
  refine g_icmp_gt F 43 dX13_isPair_16 (by decide) (fun c_16 => ?_) (fun h9 => absurd (by decide) h9) 
  refine g_iconst F 0 dX13_isPair_43 (by decide) ?_
  exact g_zret F hA hQ hr rfl () (rfl) [0, 1] [0] rfl (by decide) rfl rfl dX13_isPair_44


set_option maxHeartbeats 4000000 in
set_option maxRecDepth 100000 in
theorem K_X13_isPair8 (l : Launch) (D : va_G) (m0 : Nat) (m_stop : Nat) (m_tape : Nat) (i_taped : Int32) (i_length : Int32) (i_from : Int32) (i_behind : Int32) (i_hand : Int32) (i_value : Int32) (i_fault : Int32) (i_faultAt : Int32) (m_rule : Nat) (m_readRule : Nat) (m_teeth : Nat) (m_readTeeth : Nat) (m_sway : Nat) (m_readSway : Nat) (m_isTold : Nat) (m_markKind : Nat) (m_markValue : Nat) (m_marks : Nat) (i_sum : Int32) (i_parts : Int32) (m_pile : Nat) (m_height : Nat) (m_leftPass : Nat) (m_leftTurn : Nat) (m_leftTooth : Nat) (m_leftX : Nat) (i_wear : Int32) (i_cuts : Int32) (m_kept : Nat) (m_keptWear : Nat) (i_deep : Int32) (m_now : Nat) (m_passed : Nat) (i_x : Int32) (i_v : Int32) (i_hasPassed : Int32) (m_planTime : Nat) (m_planMany : Nat) (m_planned : Nat) (m_isQuiet : Nat) (i_plans : Int32) (i_hasPlan : Int32) (m_keptTeeth : Nat) (i_jobs : Int32) (i_orderBest : Int32) (m_jobRing : Nat) (m_jobSpeed : Nat) (m_jobFeed : Nat) (m_jobTurns : Nat) (m_orderRow : Nat) (m_bestRow : Nat) (i_hasOrder : Int32) (m_orderTold : Nat) (i_offers : Int32) (i_heards : Int32) (i_rights : Int32) (i_telling : Int32) (m_offerRing : Nat) (m_offerSpeed : Nat) (m_offerFeed : Nat) (m_offerTurns : Nat) (m_heardOffer : Nat) (m_heardVerdict : Nat) (m_heardAt : Nat) (m_rightOf : Nat) (m_rightVerdict : Nat) (m_rightAt : Nat) (m_verdictOf : Nat) (m_sound : Nat) (m_readSound : Nat) (i_sounds : Int32) (cI : ClassId) (sz : Nat) : Ki l yX13_isPair wsX13_isPair 1 40 0 0 D [.ref m0, .int 8] [(m0, .inr (12, [.ref m_stop, .ref m_tape, .int i_taped, .int i_length, .int i_from, .int i_behind, .int i_hand, .int i_value, .int i_fault, .int i_faultAt, .ref m_rule, .ref m_readRule, .ref m_teeth, .ref m_readTeeth, .ref m_sway, .ref m_readSway, .ref m_isTold, .ref m_markKind, .ref m_markValue, .ref m_marks, .int i_sum, .int i_parts, .ref m_pile, .ref m_height, .ref m_leftPass, .ref m_leftTurn, .ref m_leftTooth, .ref m_leftX, .int i_wear, .int i_cuts, .ref m_kept, .ref m_keptWear, .int i_deep, .ref m_now, .ref m_passed, .int i_x, .int i_v, .int i_hasPassed, .ref m_planTime, .ref m_planMany, .ref m_planned, .ref m_isQuiet, .int i_plans, .int i_hasPlan, .ref m_keptTeeth, .int i_jobs, .int i_orderBest, .ref m_jobRing, .ref m_jobSpeed, .ref m_jobFeed, .ref m_jobTurns, .ref m_orderRow, .ref m_bestRow, .int i_hasOrder, .ref m_orderTold, .int i_offers, .int i_heards, .int i_rights, .int i_telling, .ref m_offerRing, .ref m_offerSpeed, .ref m_offerFeed, .ref m_offerTurns, .ref m_heardOffer, .ref m_heardVerdict, .ref m_heardAt, .ref m_rightOf, .ref m_rightVerdict, .ref m_rightAt, .ref m_verdictOf, .ref m_sound, .ref m_readSound, .int i_sounds])), (m_rule, .inl (cI, 12, .inl gz_untold))] [(cI, .int)] sz (fun (r : Int32) (_ : Unit) => r = 0) (fun (_ : Unit) => [(m0, .inr (12, [.ref m_stop, .ref m_tape, .int i_taped, .int i_length, .int i_from, .int i_behind, .int i_hand, .int i_value, .int i_fault, .int i_faultAt, .ref m_rule, .ref m_readRule, .ref m_teeth, .ref m_readTeeth, .ref m_sway, .ref m_readSway, .ref m_isTold, .ref m_markKind, .ref m_markValue, .ref m_marks, .int i_sum, .int i_parts, .ref m_pile, .ref m_height, .ref m_leftPass, .ref m_leftTurn, .ref m_leftTooth, .ref m_leftX, .int i_wear, .int i_cuts, .ref m_kept, .ref m_keptWear, .int i_deep, .ref m_now, .ref m_passed, .int i_x, .int i_v, .int i_hasPassed, .ref m_planTime, .ref m_planMany, .ref m_planned, .ref m_isQuiet, .int i_plans, .int i_hasPlan, .ref m_keptTeeth, .int i_jobs, .int i_orderBest, .ref m_jobRing, .ref m_jobSpeed, .ref m_jobFeed, .ref m_jobTurns, .ref m_orderRow, .ref m_bestRow, .int i_hasOrder, .ref m_orderTold, .int i_offers, .int i_heards, .int i_rights, .int i_telling, .ref m_offerRing, .ref m_offerSpeed, .ref m_offerFeed, .ref m_offerTurns, .ref m_heardOffer, .ref m_heardVerdict, .ref m_heardAt, .ref m_rightOf, .ref m_rightVerdict, .ref m_rightAt, .ref m_verdictOf, .ref m_sound, .ref m_readSound, .int i_sounds])), (m_rule, .inl (cI, 12, .inl gz_untold))]) (fun (_ : Unit) => [(cI, .int)]) := by
  unfold Ki
  refine g_ofW (cc := cX13_isPair) (lv := [(0, .ref m0), (1, .int 8)]) (by decide) rfl (Nat.le_of_ble_eq_true rfl) rfl ?_
  intro p e s m args below meth c A Q hA hQ F hr hnm
  have hts := F.2.2.2.2.1
  have w_0 : (Cond.fieldLink RX13 199 "QuietCutModel" "rule" "[I").before args s = true := hts _ (List.mem_of_getElem? (i := 1) rfl)
  have i_X13 : ∀ w ∈ u_ws RX13 TX13 73, w ∈ wsX13_isPair := fun _ h => List.mem_cons_of_mem _ (List.mem_append_right _ h)
  refine g_aload_n F 0 dX13_isPair_0 rfl rfl ?_
  refine g_get (C := RX13) (T := TX13) (N := 73) (v := .ref m_rule) F i_X13 0 rfl rfl 10 (by decide) w_0 rfl rfl dX13_isPair_1 ?_
  refine g_iconst F 3 dX13_isPair_4 (by decide) ?_
  refine g_iald F 1 0 rfl rfl (by unfold vp_in; decide) dX13_isPair_5 ?_
  refine g_fold 8 (by rfl) ?_
  refine g_iload_n F 1 dX13_isPair_6 rfl rfl ?_
  refine g_iconst F 4 dX13_isPair_7 (by decide) ?_
  refine g_idiv F dX13_isPair_8 (by decide) ?_
  refine g_fold 2 (by decide) ?_
  refine g_iadd F dX13_isPair_9 ?_
  refine g_fold 10 (by decide) ?_
  refine g_aload_n F 0 dX13_isPair_10 rfl rfl ?_
  refine g_get (C := RX13) (T := TX13) (N := 73) (v := .ref m_rule) F i_X13 0 rfl rfl 10 (by decide) w_0 rfl rfl dX13_isPair_11 ?_
  refine g_iconst F 4 dX13_isPair_14 (by decide) ?_
  refine g_iald F 1 0 rfl rfl (by unfold vp_in; decide) dX13_isPair_15 ?_
  refine g_fold 8 (by rfl) ?_
  refine g_icmp_gt F 43 dX13_isPair_16 (by decide) (fun c_16 => ?_) (fun h9 => absurd (by decide) h9) 
  refine g_iconst F 0 dX13_isPair_43 (by decide) ?_
  exact g_zret F hA hQ hr rfl () (rfl) [0, 1] [0] rfl (by decide) rfl rfl dX13_isPair_44


set_option maxHeartbeats 4000000 in
set_option maxRecDepth 100000 in
theorem K_X13_isPair9 (l : Launch) (D : va_G) (m0 : Nat) (m_stop : Nat) (m_tape : Nat) (i_taped : Int32) (i_length : Int32) (i_from : Int32) (i_behind : Int32) (i_hand : Int32) (i_value : Int32) (i_fault : Int32) (i_faultAt : Int32) (m_rule : Nat) (m_readRule : Nat) (m_teeth : Nat) (m_readTeeth : Nat) (m_sway : Nat) (m_readSway : Nat) (m_isTold : Nat) (m_markKind : Nat) (m_markValue : Nat) (m_marks : Nat) (i_sum : Int32) (i_parts : Int32) (m_pile : Nat) (m_height : Nat) (m_leftPass : Nat) (m_leftTurn : Nat) (m_leftTooth : Nat) (m_leftX : Nat) (i_wear : Int32) (i_cuts : Int32) (m_kept : Nat) (m_keptWear : Nat) (i_deep : Int32) (m_now : Nat) (m_passed : Nat) (i_x : Int32) (i_v : Int32) (i_hasPassed : Int32) (m_planTime : Nat) (m_planMany : Nat) (m_planned : Nat) (m_isQuiet : Nat) (i_plans : Int32) (i_hasPlan : Int32) (m_keptTeeth : Nat) (i_jobs : Int32) (i_orderBest : Int32) (m_jobRing : Nat) (m_jobSpeed : Nat) (m_jobFeed : Nat) (m_jobTurns : Nat) (m_orderRow : Nat) (m_bestRow : Nat) (i_hasOrder : Int32) (m_orderTold : Nat) (i_offers : Int32) (i_heards : Int32) (i_rights : Int32) (i_telling : Int32) (m_offerRing : Nat) (m_offerSpeed : Nat) (m_offerFeed : Nat) (m_offerTurns : Nat) (m_heardOffer : Nat) (m_heardVerdict : Nat) (m_heardAt : Nat) (m_rightOf : Nat) (m_rightVerdict : Nat) (m_rightAt : Nat) (m_verdictOf : Nat) (m_sound : Nat) (m_readSound : Nat) (i_sounds : Int32) (cI : ClassId) (sz : Nat) : Ki l yX13_isPair wsX13_isPair 1 40 0 0 D [.ref m0, .int 9] [(m0, .inr (12, [.ref m_stop, .ref m_tape, .int i_taped, .int i_length, .int i_from, .int i_behind, .int i_hand, .int i_value, .int i_fault, .int i_faultAt, .ref m_rule, .ref m_readRule, .ref m_teeth, .ref m_readTeeth, .ref m_sway, .ref m_readSway, .ref m_isTold, .ref m_markKind, .ref m_markValue, .ref m_marks, .int i_sum, .int i_parts, .ref m_pile, .ref m_height, .ref m_leftPass, .ref m_leftTurn, .ref m_leftTooth, .ref m_leftX, .int i_wear, .int i_cuts, .ref m_kept, .ref m_keptWear, .int i_deep, .ref m_now, .ref m_passed, .int i_x, .int i_v, .int i_hasPassed, .ref m_planTime, .ref m_planMany, .ref m_planned, .ref m_isQuiet, .int i_plans, .int i_hasPlan, .ref m_keptTeeth, .int i_jobs, .int i_orderBest, .ref m_jobRing, .ref m_jobSpeed, .ref m_jobFeed, .ref m_jobTurns, .ref m_orderRow, .ref m_bestRow, .int i_hasOrder, .ref m_orderTold, .int i_offers, .int i_heards, .int i_rights, .int i_telling, .ref m_offerRing, .ref m_offerSpeed, .ref m_offerFeed, .ref m_offerTurns, .ref m_heardOffer, .ref m_heardVerdict, .ref m_heardAt, .ref m_rightOf, .ref m_rightVerdict, .ref m_rightAt, .ref m_verdictOf, .ref m_sound, .ref m_readSound, .int i_sounds])), (m_rule, .inl (cI, 12, .inl gz_untold))] [(cI, .int)] sz (fun (r : Int32) (_ : Unit) => r = 0) (fun (_ : Unit) => [(m0, .inr (12, [.ref m_stop, .ref m_tape, .int i_taped, .int i_length, .int i_from, .int i_behind, .int i_hand, .int i_value, .int i_fault, .int i_faultAt, .ref m_rule, .ref m_readRule, .ref m_teeth, .ref m_readTeeth, .ref m_sway, .ref m_readSway, .ref m_isTold, .ref m_markKind, .ref m_markValue, .ref m_marks, .int i_sum, .int i_parts, .ref m_pile, .ref m_height, .ref m_leftPass, .ref m_leftTurn, .ref m_leftTooth, .ref m_leftX, .int i_wear, .int i_cuts, .ref m_kept, .ref m_keptWear, .int i_deep, .ref m_now, .ref m_passed, .int i_x, .int i_v, .int i_hasPassed, .ref m_planTime, .ref m_planMany, .ref m_planned, .ref m_isQuiet, .int i_plans, .int i_hasPlan, .ref m_keptTeeth, .int i_jobs, .int i_orderBest, .ref m_jobRing, .ref m_jobSpeed, .ref m_jobFeed, .ref m_jobTurns, .ref m_orderRow, .ref m_bestRow, .int i_hasOrder, .ref m_orderTold, .int i_offers, .int i_heards, .int i_rights, .int i_telling, .ref m_offerRing, .ref m_offerSpeed, .ref m_offerFeed, .ref m_offerTurns, .ref m_heardOffer, .ref m_heardVerdict, .ref m_heardAt, .ref m_rightOf, .ref m_rightVerdict, .ref m_rightAt, .ref m_verdictOf, .ref m_sound, .ref m_readSound, .int i_sounds])), (m_rule, .inl (cI, 12, .inl gz_untold))]) (fun (_ : Unit) => [(cI, .int)]) := by
  unfold Ki
  refine g_ofW (cc := cX13_isPair) (lv := [(0, .ref m0), (1, .int 9)]) (by decide) rfl (Nat.le_of_ble_eq_true rfl) rfl ?_
  intro p e s m args below meth c A Q hA hQ F hr hnm
  have hts := F.2.2.2.2.1
  have w_0 : (Cond.fieldLink RX13 199 "QuietCutModel" "rule" "[I").before args s = true := hts _ (List.mem_of_getElem? (i := 1) rfl)
  have i_X13 : ∀ w ∈ u_ws RX13 TX13 73, w ∈ wsX13_isPair := fun _ h => List.mem_cons_of_mem _ (List.mem_append_right _ h)
  refine g_aload_n F 0 dX13_isPair_0 rfl rfl ?_
  refine g_get (C := RX13) (T := TX13) (N := 73) (v := .ref m_rule) F i_X13 0 rfl rfl 10 (by decide) w_0 rfl rfl dX13_isPair_1 ?_
  refine g_iconst F 3 dX13_isPair_4 (by decide) ?_
  refine g_iald F 1 0 rfl rfl (by unfold vp_in; decide) dX13_isPair_5 ?_
  refine g_fold 8 (by rfl) ?_
  refine g_iload_n F 1 dX13_isPair_6 rfl rfl ?_
  refine g_iconst F 4 dX13_isPair_7 (by decide) ?_
  refine g_idiv F dX13_isPair_8 (by decide) ?_
  refine g_fold 2 (by decide) ?_
  refine g_iadd F dX13_isPair_9 ?_
  refine g_fold 10 (by decide) ?_
  refine g_aload_n F 0 dX13_isPair_10 rfl rfl ?_
  refine g_get (C := RX13) (T := TX13) (N := 73) (v := .ref m_rule) F i_X13 0 rfl rfl 10 (by decide) w_0 rfl rfl dX13_isPair_11 ?_
  refine g_iconst F 4 dX13_isPair_14 (by decide) ?_
  refine g_iald F 1 0 rfl rfl (by unfold vp_in; decide) dX13_isPair_15 ?_
  refine g_fold 8 (by rfl) ?_
  refine g_icmp_gt F 43 dX13_isPair_16 (by decide) (fun c_16 => ?_) (fun h9 => absurd (by decide) h9) 
  refine g_iconst F 0 dX13_isPair_43 (by decide) ?_
  exact g_zret F hA hQ hr rfl () (rfl) [0, 1] [0] rfl (by decide) rfl rfl dX13_isPair_44


set_option maxHeartbeats 4000000 in
set_option maxRecDepth 100000 in
theorem K_X13_isPair10 (l : Launch) (D : va_G) (m0 : Nat) (m_stop : Nat) (m_tape : Nat) (i_taped : Int32) (i_length : Int32) (i_from : Int32) (i_behind : Int32) (i_hand : Int32) (i_value : Int32) (i_fault : Int32) (i_faultAt : Int32) (m_rule : Nat) (m_readRule : Nat) (m_teeth : Nat) (m_readTeeth : Nat) (m_sway : Nat) (m_readSway : Nat) (m_isTold : Nat) (m_markKind : Nat) (m_markValue : Nat) (m_marks : Nat) (i_sum : Int32) (i_parts : Int32) (m_pile : Nat) (m_height : Nat) (m_leftPass : Nat) (m_leftTurn : Nat) (m_leftTooth : Nat) (m_leftX : Nat) (i_wear : Int32) (i_cuts : Int32) (m_kept : Nat) (m_keptWear : Nat) (i_deep : Int32) (m_now : Nat) (m_passed : Nat) (i_x : Int32) (i_v : Int32) (i_hasPassed : Int32) (m_planTime : Nat) (m_planMany : Nat) (m_planned : Nat) (m_isQuiet : Nat) (i_plans : Int32) (i_hasPlan : Int32) (m_keptTeeth : Nat) (i_jobs : Int32) (i_orderBest : Int32) (m_jobRing : Nat) (m_jobSpeed : Nat) (m_jobFeed : Nat) (m_jobTurns : Nat) (m_orderRow : Nat) (m_bestRow : Nat) (i_hasOrder : Int32) (m_orderTold : Nat) (i_offers : Int32) (i_heards : Int32) (i_rights : Int32) (i_telling : Int32) (m_offerRing : Nat) (m_offerSpeed : Nat) (m_offerFeed : Nat) (m_offerTurns : Nat) (m_heardOffer : Nat) (m_heardVerdict : Nat) (m_heardAt : Nat) (m_rightOf : Nat) (m_rightVerdict : Nat) (m_rightAt : Nat) (m_verdictOf : Nat) (m_sound : Nat) (m_readSound : Nat) (i_sounds : Int32) (cI : ClassId) (sz : Nat) : Ki l yX13_isPair wsX13_isPair 1 40 0 0 D [.ref m0, .int 10] [(m0, .inr (12, [.ref m_stop, .ref m_tape, .int i_taped, .int i_length, .int i_from, .int i_behind, .int i_hand, .int i_value, .int i_fault, .int i_faultAt, .ref m_rule, .ref m_readRule, .ref m_teeth, .ref m_readTeeth, .ref m_sway, .ref m_readSway, .ref m_isTold, .ref m_markKind, .ref m_markValue, .ref m_marks, .int i_sum, .int i_parts, .ref m_pile, .ref m_height, .ref m_leftPass, .ref m_leftTurn, .ref m_leftTooth, .ref m_leftX, .int i_wear, .int i_cuts, .ref m_kept, .ref m_keptWear, .int i_deep, .ref m_now, .ref m_passed, .int i_x, .int i_v, .int i_hasPassed, .ref m_planTime, .ref m_planMany, .ref m_planned, .ref m_isQuiet, .int i_plans, .int i_hasPlan, .ref m_keptTeeth, .int i_jobs, .int i_orderBest, .ref m_jobRing, .ref m_jobSpeed, .ref m_jobFeed, .ref m_jobTurns, .ref m_orderRow, .ref m_bestRow, .int i_hasOrder, .ref m_orderTold, .int i_offers, .int i_heards, .int i_rights, .int i_telling, .ref m_offerRing, .ref m_offerSpeed, .ref m_offerFeed, .ref m_offerTurns, .ref m_heardOffer, .ref m_heardVerdict, .ref m_heardAt, .ref m_rightOf, .ref m_rightVerdict, .ref m_rightAt, .ref m_verdictOf, .ref m_sound, .ref m_readSound, .int i_sounds])), (m_rule, .inl (cI, 12, .inl gz_untold))] [(cI, .int)] sz (fun (r : Int32) (_ : Unit) => r = 0) (fun (_ : Unit) => [(m0, .inr (12, [.ref m_stop, .ref m_tape, .int i_taped, .int i_length, .int i_from, .int i_behind, .int i_hand, .int i_value, .int i_fault, .int i_faultAt, .ref m_rule, .ref m_readRule, .ref m_teeth, .ref m_readTeeth, .ref m_sway, .ref m_readSway, .ref m_isTold, .ref m_markKind, .ref m_markValue, .ref m_marks, .int i_sum, .int i_parts, .ref m_pile, .ref m_height, .ref m_leftPass, .ref m_leftTurn, .ref m_leftTooth, .ref m_leftX, .int i_wear, .int i_cuts, .ref m_kept, .ref m_keptWear, .int i_deep, .ref m_now, .ref m_passed, .int i_x, .int i_v, .int i_hasPassed, .ref m_planTime, .ref m_planMany, .ref m_planned, .ref m_isQuiet, .int i_plans, .int i_hasPlan, .ref m_keptTeeth, .int i_jobs, .int i_orderBest, .ref m_jobRing, .ref m_jobSpeed, .ref m_jobFeed, .ref m_jobTurns, .ref m_orderRow, .ref m_bestRow, .int i_hasOrder, .ref m_orderTold, .int i_offers, .int i_heards, .int i_rights, .int i_telling, .ref m_offerRing, .ref m_offerSpeed, .ref m_offerFeed, .ref m_offerTurns, .ref m_heardOffer, .ref m_heardVerdict, .ref m_heardAt, .ref m_rightOf, .ref m_rightVerdict, .ref m_rightAt, .ref m_verdictOf, .ref m_sound, .ref m_readSound, .int i_sounds])), (m_rule, .inl (cI, 12, .inl gz_untold))]) (fun (_ : Unit) => [(cI, .int)]) := by
  unfold Ki
  refine g_ofW (cc := cX13_isPair) (lv := [(0, .ref m0), (1, .int 10)]) (by decide) rfl (Nat.le_of_ble_eq_true rfl) rfl ?_
  intro p e s m args below meth c A Q hA hQ F hr hnm
  have hts := F.2.2.2.2.1
  have w_0 : (Cond.fieldLink RX13 199 "QuietCutModel" "rule" "[I").before args s = true := hts _ (List.mem_of_getElem? (i := 1) rfl)
  have i_X13 : ∀ w ∈ u_ws RX13 TX13 73, w ∈ wsX13_isPair := fun _ h => List.mem_cons_of_mem _ (List.mem_append_right _ h)
  refine g_aload_n F 0 dX13_isPair_0 rfl rfl ?_
  refine g_get (C := RX13) (T := TX13) (N := 73) (v := .ref m_rule) F i_X13 0 rfl rfl 10 (by decide) w_0 rfl rfl dX13_isPair_1 ?_
  refine g_iconst F 3 dX13_isPair_4 (by decide) ?_
  refine g_iald F 1 0 rfl rfl (by unfold vp_in; decide) dX13_isPair_5 ?_
  refine g_fold 8 (by rfl) ?_
  refine g_iload_n F 1 dX13_isPair_6 rfl rfl ?_
  refine g_iconst F 4 dX13_isPair_7 (by decide) ?_
  refine g_idiv F dX13_isPair_8 (by decide) ?_
  refine g_fold 2 (by decide) ?_
  refine g_iadd F dX13_isPair_9 ?_
  refine g_fold 10 (by decide) ?_
  refine g_aload_n F 0 dX13_isPair_10 rfl rfl ?_
  refine g_get (C := RX13) (T := TX13) (N := 73) (v := .ref m_rule) F i_X13 0 rfl rfl 10 (by decide) w_0 rfl rfl dX13_isPair_11 ?_
  refine g_iconst F 4 dX13_isPair_14 (by decide) ?_
  refine g_iald F 1 0 rfl rfl (by unfold vp_in; decide) dX13_isPair_15 ?_
  refine g_fold 8 (by rfl) ?_
  refine g_icmp_gt F 43 dX13_isPair_16 (by decide) (fun c_16 => ?_) (fun h9 => absurd (by decide) h9) 
  refine g_iconst F 0 dX13_isPair_43 (by decide) ?_
  exact g_zret F hA hQ hr rfl () (rfl) [0, 1] [0] rfl (by decide) rfl rfl dX13_isPair_44


set_option maxHeartbeats 4000000 in
set_option maxRecDepth 100000 in
theorem K_X13_isPair11 (l : Launch) (D : va_G) (m0 : Nat) (m_stop : Nat) (m_tape : Nat) (i_taped : Int32) (i_length : Int32) (i_from : Int32) (i_behind : Int32) (i_hand : Int32) (i_value : Int32) (i_fault : Int32) (i_faultAt : Int32) (m_rule : Nat) (m_readRule : Nat) (m_teeth : Nat) (m_readTeeth : Nat) (m_sway : Nat) (m_readSway : Nat) (m_isTold : Nat) (m_markKind : Nat) (m_markValue : Nat) (m_marks : Nat) (i_sum : Int32) (i_parts : Int32) (m_pile : Nat) (m_height : Nat) (m_leftPass : Nat) (m_leftTurn : Nat) (m_leftTooth : Nat) (m_leftX : Nat) (i_wear : Int32) (i_cuts : Int32) (m_kept : Nat) (m_keptWear : Nat) (i_deep : Int32) (m_now : Nat) (m_passed : Nat) (i_x : Int32) (i_v : Int32) (i_hasPassed : Int32) (m_planTime : Nat) (m_planMany : Nat) (m_planned : Nat) (m_isQuiet : Nat) (i_plans : Int32) (i_hasPlan : Int32) (m_keptTeeth : Nat) (i_jobs : Int32) (i_orderBest : Int32) (m_jobRing : Nat) (m_jobSpeed : Nat) (m_jobFeed : Nat) (m_jobTurns : Nat) (m_orderRow : Nat) (m_bestRow : Nat) (i_hasOrder : Int32) (m_orderTold : Nat) (i_offers : Int32) (i_heards : Int32) (i_rights : Int32) (i_telling : Int32) (m_offerRing : Nat) (m_offerSpeed : Nat) (m_offerFeed : Nat) (m_offerTurns : Nat) (m_heardOffer : Nat) (m_heardVerdict : Nat) (m_heardAt : Nat) (m_rightOf : Nat) (m_rightVerdict : Nat) (m_rightAt : Nat) (m_verdictOf : Nat) (m_sound : Nat) (m_readSound : Nat) (i_sounds : Int32) (cI : ClassId) (sz : Nat) : Ki l yX13_isPair wsX13_isPair 1 40 0 0 D [.ref m0, .int 11] [(m0, .inr (12, [.ref m_stop, .ref m_tape, .int i_taped, .int i_length, .int i_from, .int i_behind, .int i_hand, .int i_value, .int i_fault, .int i_faultAt, .ref m_rule, .ref m_readRule, .ref m_teeth, .ref m_readTeeth, .ref m_sway, .ref m_readSway, .ref m_isTold, .ref m_markKind, .ref m_markValue, .ref m_marks, .int i_sum, .int i_parts, .ref m_pile, .ref m_height, .ref m_leftPass, .ref m_leftTurn, .ref m_leftTooth, .ref m_leftX, .int i_wear, .int i_cuts, .ref m_kept, .ref m_keptWear, .int i_deep, .ref m_now, .ref m_passed, .int i_x, .int i_v, .int i_hasPassed, .ref m_planTime, .ref m_planMany, .ref m_planned, .ref m_isQuiet, .int i_plans, .int i_hasPlan, .ref m_keptTeeth, .int i_jobs, .int i_orderBest, .ref m_jobRing, .ref m_jobSpeed, .ref m_jobFeed, .ref m_jobTurns, .ref m_orderRow, .ref m_bestRow, .int i_hasOrder, .ref m_orderTold, .int i_offers, .int i_heards, .int i_rights, .int i_telling, .ref m_offerRing, .ref m_offerSpeed, .ref m_offerFeed, .ref m_offerTurns, .ref m_heardOffer, .ref m_heardVerdict, .ref m_heardAt, .ref m_rightOf, .ref m_rightVerdict, .ref m_rightAt, .ref m_verdictOf, .ref m_sound, .ref m_readSound, .int i_sounds])), (m_rule, .inl (cI, 12, .inl gz_untold))] [(cI, .int)] sz (fun (r : Int32) (_ : Unit) => r = 0) (fun (_ : Unit) => [(m0, .inr (12, [.ref m_stop, .ref m_tape, .int i_taped, .int i_length, .int i_from, .int i_behind, .int i_hand, .int i_value, .int i_fault, .int i_faultAt, .ref m_rule, .ref m_readRule, .ref m_teeth, .ref m_readTeeth, .ref m_sway, .ref m_readSway, .ref m_isTold, .ref m_markKind, .ref m_markValue, .ref m_marks, .int i_sum, .int i_parts, .ref m_pile, .ref m_height, .ref m_leftPass, .ref m_leftTurn, .ref m_leftTooth, .ref m_leftX, .int i_wear, .int i_cuts, .ref m_kept, .ref m_keptWear, .int i_deep, .ref m_now, .ref m_passed, .int i_x, .int i_v, .int i_hasPassed, .ref m_planTime, .ref m_planMany, .ref m_planned, .ref m_isQuiet, .int i_plans, .int i_hasPlan, .ref m_keptTeeth, .int i_jobs, .int i_orderBest, .ref m_jobRing, .ref m_jobSpeed, .ref m_jobFeed, .ref m_jobTurns, .ref m_orderRow, .ref m_bestRow, .int i_hasOrder, .ref m_orderTold, .int i_offers, .int i_heards, .int i_rights, .int i_telling, .ref m_offerRing, .ref m_offerSpeed, .ref m_offerFeed, .ref m_offerTurns, .ref m_heardOffer, .ref m_heardVerdict, .ref m_heardAt, .ref m_rightOf, .ref m_rightVerdict, .ref m_rightAt, .ref m_verdictOf, .ref m_sound, .ref m_readSound, .int i_sounds])), (m_rule, .inl (cI, 12, .inl gz_untold))]) (fun (_ : Unit) => [(cI, .int)]) := by
  unfold Ki
  refine g_ofW (cc := cX13_isPair) (lv := [(0, .ref m0), (1, .int 11)]) (by decide) rfl (Nat.le_of_ble_eq_true rfl) rfl ?_
  intro p e s m args below meth c A Q hA hQ F hr hnm
  have hts := F.2.2.2.2.1
  have w_0 : (Cond.fieldLink RX13 199 "QuietCutModel" "rule" "[I").before args s = true := hts _ (List.mem_of_getElem? (i := 1) rfl)
  have i_X13 : ∀ w ∈ u_ws RX13 TX13 73, w ∈ wsX13_isPair := fun _ h => List.mem_cons_of_mem _ (List.mem_append_right _ h)
  refine g_aload_n F 0 dX13_isPair_0 rfl rfl ?_
  refine g_get (C := RX13) (T := TX13) (N := 73) (v := .ref m_rule) F i_X13 0 rfl rfl 10 (by decide) w_0 rfl rfl dX13_isPair_1 ?_
  refine g_iconst F 3 dX13_isPair_4 (by decide) ?_
  refine g_iald F 1 0 rfl rfl (by unfold vp_in; decide) dX13_isPair_5 ?_
  refine g_fold 8 (by rfl) ?_
  refine g_iload_n F 1 dX13_isPair_6 rfl rfl ?_
  refine g_iconst F 4 dX13_isPair_7 (by decide) ?_
  refine g_idiv F dX13_isPair_8 (by decide) ?_
  refine g_fold 2 (by decide) ?_
  refine g_iadd F dX13_isPair_9 ?_
  refine g_fold 10 (by decide) ?_
  refine g_aload_n F 0 dX13_isPair_10 rfl rfl ?_
  refine g_get (C := RX13) (T := TX13) (N := 73) (v := .ref m_rule) F i_X13 0 rfl rfl 10 (by decide) w_0 rfl rfl dX13_isPair_11 ?_
  refine g_iconst F 4 dX13_isPair_14 (by decide) ?_
  refine g_iald F 1 0 rfl rfl (by unfold vp_in; decide) dX13_isPair_15 ?_
  refine g_fold 8 (by rfl) ?_
  refine g_icmp_gt F 43 dX13_isPair_16 (by decide) (fun c_16 => ?_) (fun h9 => absurd (by decide) h9) 
  refine g_iconst F 0 dX13_isPair_43 (by decide) ?_
  exact g_zret F hA hQ hr rfl () (rfl) [0, 1] [0] rfl (by decide) rfl rfl dX13_isPair_44


set_option maxHeartbeats 4000000 in
set_option maxRecDepth 100000 in
theorem K_X13_isPair12 (l : Launch) (D : va_G) (m0 : Nat) (m_stop : Nat) (m_tape : Nat) (i_taped : Int32) (i_length : Int32) (i_from : Int32) (i_behind : Int32) (i_hand : Int32) (i_value : Int32) (i_fault : Int32) (i_faultAt : Int32) (m_rule : Nat) (m_readRule : Nat) (m_teeth : Nat) (m_readTeeth : Nat) (m_sway : Nat) (m_readSway : Nat) (m_isTold : Nat) (m_markKind : Nat) (m_markValue : Nat) (m_marks : Nat) (i_sum : Int32) (i_parts : Int32) (m_pile : Nat) (m_height : Nat) (m_leftPass : Nat) (m_leftTurn : Nat) (m_leftTooth : Nat) (m_leftX : Nat) (i_wear : Int32) (i_cuts : Int32) (m_kept : Nat) (m_keptWear : Nat) (i_deep : Int32) (m_now : Nat) (m_passed : Nat) (i_x : Int32) (i_v : Int32) (i_hasPassed : Int32) (m_planTime : Nat) (m_planMany : Nat) (m_planned : Nat) (m_isQuiet : Nat) (i_plans : Int32) (i_hasPlan : Int32) (m_keptTeeth : Nat) (i_jobs : Int32) (i_orderBest : Int32) (m_jobRing : Nat) (m_jobSpeed : Nat) (m_jobFeed : Nat) (m_jobTurns : Nat) (m_orderRow : Nat) (m_bestRow : Nat) (i_hasOrder : Int32) (m_orderTold : Nat) (i_offers : Int32) (i_heards : Int32) (i_rights : Int32) (i_telling : Int32) (m_offerRing : Nat) (m_offerSpeed : Nat) (m_offerFeed : Nat) (m_offerTurns : Nat) (m_heardOffer : Nat) (m_heardVerdict : Nat) (m_heardAt : Nat) (m_rightOf : Nat) (m_rightVerdict : Nat) (m_rightAt : Nat) (m_verdictOf : Nat) (m_sound : Nat) (m_readSound : Nat) (i_sounds : Int32) (cI : ClassId) (sz : Nat) : Ki l yX13_isPair wsX13_isPair 1 40 0 0 D [.ref m0, .int 12] [(m0, .inr (12, [.ref m_stop, .ref m_tape, .int i_taped, .int i_length, .int i_from, .int i_behind, .int i_hand, .int i_value, .int i_fault, .int i_faultAt, .ref m_rule, .ref m_readRule, .ref m_teeth, .ref m_readTeeth, .ref m_sway, .ref m_readSway, .ref m_isTold, .ref m_markKind, .ref m_markValue, .ref m_marks, .int i_sum, .int i_parts, .ref m_pile, .ref m_height, .ref m_leftPass, .ref m_leftTurn, .ref m_leftTooth, .ref m_leftX, .int i_wear, .int i_cuts, .ref m_kept, .ref m_keptWear, .int i_deep, .ref m_now, .ref m_passed, .int i_x, .int i_v, .int i_hasPassed, .ref m_planTime, .ref m_planMany, .ref m_planned, .ref m_isQuiet, .int i_plans, .int i_hasPlan, .ref m_keptTeeth, .int i_jobs, .int i_orderBest, .ref m_jobRing, .ref m_jobSpeed, .ref m_jobFeed, .ref m_jobTurns, .ref m_orderRow, .ref m_bestRow, .int i_hasOrder, .ref m_orderTold, .int i_offers, .int i_heards, .int i_rights, .int i_telling, .ref m_offerRing, .ref m_offerSpeed, .ref m_offerFeed, .ref m_offerTurns, .ref m_heardOffer, .ref m_heardVerdict, .ref m_heardAt, .ref m_rightOf, .ref m_rightVerdict, .ref m_rightAt, .ref m_verdictOf, .ref m_sound, .ref m_readSound, .int i_sounds])), (m_rule, .inl (cI, 12, .inl gz_untold))] [(cI, .int)] sz (fun (r : Int32) (_ : Unit) => r = 0) (fun (_ : Unit) => [(m0, .inr (12, [.ref m_stop, .ref m_tape, .int i_taped, .int i_length, .int i_from, .int i_behind, .int i_hand, .int i_value, .int i_fault, .int i_faultAt, .ref m_rule, .ref m_readRule, .ref m_teeth, .ref m_readTeeth, .ref m_sway, .ref m_readSway, .ref m_isTold, .ref m_markKind, .ref m_markValue, .ref m_marks, .int i_sum, .int i_parts, .ref m_pile, .ref m_height, .ref m_leftPass, .ref m_leftTurn, .ref m_leftTooth, .ref m_leftX, .int i_wear, .int i_cuts, .ref m_kept, .ref m_keptWear, .int i_deep, .ref m_now, .ref m_passed, .int i_x, .int i_v, .int i_hasPassed, .ref m_planTime, .ref m_planMany, .ref m_planned, .ref m_isQuiet, .int i_plans, .int i_hasPlan, .ref m_keptTeeth, .int i_jobs, .int i_orderBest, .ref m_jobRing, .ref m_jobSpeed, .ref m_jobFeed, .ref m_jobTurns, .ref m_orderRow, .ref m_bestRow, .int i_hasOrder, .ref m_orderTold, .int i_offers, .int i_heards, .int i_rights, .int i_telling, .ref m_offerRing, .ref m_offerSpeed, .ref m_offerFeed, .ref m_offerTurns, .ref m_heardOffer, .ref m_heardVerdict, .ref m_heardAt, .ref m_rightOf, .ref m_rightVerdict, .ref m_rightAt, .ref m_verdictOf, .ref m_sound, .ref m_readSound, .int i_sounds])), (m_rule, .inl (cI, 12, .inl gz_untold))]) (fun (_ : Unit) => [(cI, .int)]) := by
  unfold Ki
  refine g_ofW (cc := cX13_isPair) (lv := [(0, .ref m0), (1, .int 12)]) (by decide) rfl (Nat.le_of_ble_eq_true rfl) rfl ?_
  intro p e s m args below meth c A Q hA hQ F hr hnm
  have hts := F.2.2.2.2.1
  have w_0 : (Cond.fieldLink RX13 199 "QuietCutModel" "rule" "[I").before args s = true := hts _ (List.mem_of_getElem? (i := 1) rfl)
  have i_X13 : ∀ w ∈ u_ws RX13 TX13 73, w ∈ wsX13_isPair := fun _ h => List.mem_cons_of_mem _ (List.mem_append_right _ h)
  refine g_aload_n F 0 dX13_isPair_0 rfl rfl ?_
  refine g_get (C := RX13) (T := TX13) (N := 73) (v := .ref m_rule) F i_X13 0 rfl rfl 10 (by decide) w_0 rfl rfl dX13_isPair_1 ?_
  refine g_iconst F 3 dX13_isPair_4 (by decide) ?_
  refine g_iald F 1 0 rfl rfl (by unfold vp_in; decide) dX13_isPair_5 ?_
  refine g_fold 8 (by rfl) ?_
  refine g_iload_n F 1 dX13_isPair_6 rfl rfl ?_
  refine g_iconst F 4 dX13_isPair_7 (by decide) ?_
  refine g_idiv F dX13_isPair_8 (by decide) ?_
  refine g_fold 3 (by decide) ?_
  refine g_iadd F dX13_isPair_9 ?_
  refine g_fold 11 (by decide) ?_
  refine g_aload_n F 0 dX13_isPair_10 rfl rfl ?_
  refine g_get (C := RX13) (T := TX13) (N := 73) (v := .ref m_rule) F i_X13 0 rfl rfl 10 (by decide) w_0 rfl rfl dX13_isPair_11 ?_
  refine g_iconst F 4 dX13_isPair_14 (by decide) ?_
  refine g_iald F 1 0 rfl rfl (by unfold vp_in; decide) dX13_isPair_15 ?_
  refine g_fold 8 (by rfl) ?_
  refine g_icmp_gt F 43 dX13_isPair_16 (by decide) (fun c_16 => ?_) (fun h9 => absurd (by decide) h9) 
  refine g_iconst F 0 dX13_isPair_43 (by decide) ?_
  exact g_zret F hA hQ hr rfl () (rfl) [0, 1] [0] rfl (by decide) rfl rfl dX13_isPair_44


set_option maxHeartbeats 4000000 in
set_option maxRecDepth 100000 in
theorem K_X13_isPair13 (l : Launch) (D : va_G) (m0 : Nat) (m_stop : Nat) (m_tape : Nat) (i_taped : Int32) (i_length : Int32) (i_from : Int32) (i_behind : Int32) (i_hand : Int32) (i_value : Int32) (i_fault : Int32) (i_faultAt : Int32) (m_rule : Nat) (m_readRule : Nat) (m_teeth : Nat) (m_readTeeth : Nat) (m_sway : Nat) (m_readSway : Nat) (m_isTold : Nat) (m_markKind : Nat) (m_markValue : Nat) (m_marks : Nat) (i_sum : Int32) (i_parts : Int32) (m_pile : Nat) (m_height : Nat) (m_leftPass : Nat) (m_leftTurn : Nat) (m_leftTooth : Nat) (m_leftX : Nat) (i_wear : Int32) (i_cuts : Int32) (m_kept : Nat) (m_keptWear : Nat) (i_deep : Int32) (m_now : Nat) (m_passed : Nat) (i_x : Int32) (i_v : Int32) (i_hasPassed : Int32) (m_planTime : Nat) (m_planMany : Nat) (m_planned : Nat) (m_isQuiet : Nat) (i_plans : Int32) (i_hasPlan : Int32) (m_keptTeeth : Nat) (i_jobs : Int32) (i_orderBest : Int32) (m_jobRing : Nat) (m_jobSpeed : Nat) (m_jobFeed : Nat) (m_jobTurns : Nat) (m_orderRow : Nat) (m_bestRow : Nat) (i_hasOrder : Int32) (m_orderTold : Nat) (i_offers : Int32) (i_heards : Int32) (i_rights : Int32) (i_telling : Int32) (m_offerRing : Nat) (m_offerSpeed : Nat) (m_offerFeed : Nat) (m_offerTurns : Nat) (m_heardOffer : Nat) (m_heardVerdict : Nat) (m_heardAt : Nat) (m_rightOf : Nat) (m_rightVerdict : Nat) (m_rightAt : Nat) (m_verdictOf : Nat) (m_sound : Nat) (m_readSound : Nat) (i_sounds : Int32) (cI : ClassId) (sz : Nat) : Ki l yX13_isPair wsX13_isPair 1 40 0 0 D [.ref m0, .int 13] [(m0, .inr (12, [.ref m_stop, .ref m_tape, .int i_taped, .int i_length, .int i_from, .int i_behind, .int i_hand, .int i_value, .int i_fault, .int i_faultAt, .ref m_rule, .ref m_readRule, .ref m_teeth, .ref m_readTeeth, .ref m_sway, .ref m_readSway, .ref m_isTold, .ref m_markKind, .ref m_markValue, .ref m_marks, .int i_sum, .int i_parts, .ref m_pile, .ref m_height, .ref m_leftPass, .ref m_leftTurn, .ref m_leftTooth, .ref m_leftX, .int i_wear, .int i_cuts, .ref m_kept, .ref m_keptWear, .int i_deep, .ref m_now, .ref m_passed, .int i_x, .int i_v, .int i_hasPassed, .ref m_planTime, .ref m_planMany, .ref m_planned, .ref m_isQuiet, .int i_plans, .int i_hasPlan, .ref m_keptTeeth, .int i_jobs, .int i_orderBest, .ref m_jobRing, .ref m_jobSpeed, .ref m_jobFeed, .ref m_jobTurns, .ref m_orderRow, .ref m_bestRow, .int i_hasOrder, .ref m_orderTold, .int i_offers, .int i_heards, .int i_rights, .int i_telling, .ref m_offerRing, .ref m_offerSpeed, .ref m_offerFeed, .ref m_offerTurns, .ref m_heardOffer, .ref m_heardVerdict, .ref m_heardAt, .ref m_rightOf, .ref m_rightVerdict, .ref m_rightAt, .ref m_verdictOf, .ref m_sound, .ref m_readSound, .int i_sounds])), (m_rule, .inl (cI, 12, .inl gz_untold))] [(cI, .int)] sz (fun (r : Int32) (_ : Unit) => r = 0) (fun (_ : Unit) => [(m0, .inr (12, [.ref m_stop, .ref m_tape, .int i_taped, .int i_length, .int i_from, .int i_behind, .int i_hand, .int i_value, .int i_fault, .int i_faultAt, .ref m_rule, .ref m_readRule, .ref m_teeth, .ref m_readTeeth, .ref m_sway, .ref m_readSway, .ref m_isTold, .ref m_markKind, .ref m_markValue, .ref m_marks, .int i_sum, .int i_parts, .ref m_pile, .ref m_height, .ref m_leftPass, .ref m_leftTurn, .ref m_leftTooth, .ref m_leftX, .int i_wear, .int i_cuts, .ref m_kept, .ref m_keptWear, .int i_deep, .ref m_now, .ref m_passed, .int i_x, .int i_v, .int i_hasPassed, .ref m_planTime, .ref m_planMany, .ref m_planned, .ref m_isQuiet, .int i_plans, .int i_hasPlan, .ref m_keptTeeth, .int i_jobs, .int i_orderBest, .ref m_jobRing, .ref m_jobSpeed, .ref m_jobFeed, .ref m_jobTurns, .ref m_orderRow, .ref m_bestRow, .int i_hasOrder, .ref m_orderTold, .int i_offers, .int i_heards, .int i_rights, .int i_telling, .ref m_offerRing, .ref m_offerSpeed, .ref m_offerFeed, .ref m_offerTurns, .ref m_heardOffer, .ref m_heardVerdict, .ref m_heardAt, .ref m_rightOf, .ref m_rightVerdict, .ref m_rightAt, .ref m_verdictOf, .ref m_sound, .ref m_readSound, .int i_sounds])), (m_rule, .inl (cI, 12, .inl gz_untold))]) (fun (_ : Unit) => [(cI, .int)]) := by
  unfold Ki
  refine g_ofW (cc := cX13_isPair) (lv := [(0, .ref m0), (1, .int 13)]) (by decide) rfl (Nat.le_of_ble_eq_true rfl) rfl ?_
  intro p e s m args below meth c A Q hA hQ F hr hnm
  have hts := F.2.2.2.2.1
  have w_0 : (Cond.fieldLink RX13 199 "QuietCutModel" "rule" "[I").before args s = true := hts _ (List.mem_of_getElem? (i := 1) rfl)
  have i_X13 : ∀ w ∈ u_ws RX13 TX13 73, w ∈ wsX13_isPair := fun _ h => List.mem_cons_of_mem _ (List.mem_append_right _ h)
  refine g_aload_n F 0 dX13_isPair_0 rfl rfl ?_
  refine g_get (C := RX13) (T := TX13) (N := 73) (v := .ref m_rule) F i_X13 0 rfl rfl 10 (by decide) w_0 rfl rfl dX13_isPair_1 ?_
  refine g_iconst F 3 dX13_isPair_4 (by decide) ?_
  refine g_iald F 1 0 rfl rfl (by unfold vp_in; decide) dX13_isPair_5 ?_
  refine g_fold 8 (by rfl) ?_
  refine g_iload_n F 1 dX13_isPair_6 rfl rfl ?_
  refine g_iconst F 4 dX13_isPair_7 (by decide) ?_
  refine g_idiv F dX13_isPair_8 (by decide) ?_
  refine g_fold 3 (by decide) ?_
  refine g_iadd F dX13_isPair_9 ?_
  refine g_fold 11 (by decide) ?_
  refine g_aload_n F 0 dX13_isPair_10 rfl rfl ?_
  refine g_get (C := RX13) (T := TX13) (N := 73) (v := .ref m_rule) F i_X13 0 rfl rfl 10 (by decide) w_0 rfl rfl dX13_isPair_11 ?_
  refine g_iconst F 4 dX13_isPair_14 (by decide) ?_
  refine g_iald F 1 0 rfl rfl (by unfold vp_in; decide) dX13_isPair_15 ?_
  refine g_fold 8 (by rfl) ?_
  refine g_icmp_gt F 43 dX13_isPair_16 (by decide) (fun c_16 => ?_) (fun h9 => absurd (by decide) h9) 
  refine g_iconst F 0 dX13_isPair_43 (by decide) ?_
  exact g_zret F hA hQ hr rfl () (rfl) [0, 1] [0] rfl (by decide) rfl rfl dX13_isPair_44


set_option maxHeartbeats 4000000 in
set_option maxRecDepth 100000 in
theorem K_X13_isPair14 (l : Launch) (D : va_G) (m0 : Nat) (m_stop : Nat) (m_tape : Nat) (i_taped : Int32) (i_length : Int32) (i_from : Int32) (i_behind : Int32) (i_hand : Int32) (i_value : Int32) (i_fault : Int32) (i_faultAt : Int32) (m_rule : Nat) (m_readRule : Nat) (m_teeth : Nat) (m_readTeeth : Nat) (m_sway : Nat) (m_readSway : Nat) (m_isTold : Nat) (m_markKind : Nat) (m_markValue : Nat) (m_marks : Nat) (i_sum : Int32) (i_parts : Int32) (m_pile : Nat) (m_height : Nat) (m_leftPass : Nat) (m_leftTurn : Nat) (m_leftTooth : Nat) (m_leftX : Nat) (i_wear : Int32) (i_cuts : Int32) (m_kept : Nat) (m_keptWear : Nat) (i_deep : Int32) (m_now : Nat) (m_passed : Nat) (i_x : Int32) (i_v : Int32) (i_hasPassed : Int32) (m_planTime : Nat) (m_planMany : Nat) (m_planned : Nat) (m_isQuiet : Nat) (i_plans : Int32) (i_hasPlan : Int32) (m_keptTeeth : Nat) (i_jobs : Int32) (i_orderBest : Int32) (m_jobRing : Nat) (m_jobSpeed : Nat) (m_jobFeed : Nat) (m_jobTurns : Nat) (m_orderRow : Nat) (m_bestRow : Nat) (i_hasOrder : Int32) (m_orderTold : Nat) (i_offers : Int32) (i_heards : Int32) (i_rights : Int32) (i_telling : Int32) (m_offerRing : Nat) (m_offerSpeed : Nat) (m_offerFeed : Nat) (m_offerTurns : Nat) (m_heardOffer : Nat) (m_heardVerdict : Nat) (m_heardAt : Nat) (m_rightOf : Nat) (m_rightVerdict : Nat) (m_rightAt : Nat) (m_verdictOf : Nat) (m_sound : Nat) (m_readSound : Nat) (i_sounds : Int32) (cI : ClassId) (sz : Nat) : Ki l yX13_isPair wsX13_isPair 1 40 0 0 D [.ref m0, .int 14] [(m0, .inr (12, [.ref m_stop, .ref m_tape, .int i_taped, .int i_length, .int i_from, .int i_behind, .int i_hand, .int i_value, .int i_fault, .int i_faultAt, .ref m_rule, .ref m_readRule, .ref m_teeth, .ref m_readTeeth, .ref m_sway, .ref m_readSway, .ref m_isTold, .ref m_markKind, .ref m_markValue, .ref m_marks, .int i_sum, .int i_parts, .ref m_pile, .ref m_height, .ref m_leftPass, .ref m_leftTurn, .ref m_leftTooth, .ref m_leftX, .int i_wear, .int i_cuts, .ref m_kept, .ref m_keptWear, .int i_deep, .ref m_now, .ref m_passed, .int i_x, .int i_v, .int i_hasPassed, .ref m_planTime, .ref m_planMany, .ref m_planned, .ref m_isQuiet, .int i_plans, .int i_hasPlan, .ref m_keptTeeth, .int i_jobs, .int i_orderBest, .ref m_jobRing, .ref m_jobSpeed, .ref m_jobFeed, .ref m_jobTurns, .ref m_orderRow, .ref m_bestRow, .int i_hasOrder, .ref m_orderTold, .int i_offers, .int i_heards, .int i_rights, .int i_telling, .ref m_offerRing, .ref m_offerSpeed, .ref m_offerFeed, .ref m_offerTurns, .ref m_heardOffer, .ref m_heardVerdict, .ref m_heardAt, .ref m_rightOf, .ref m_rightVerdict, .ref m_rightAt, .ref m_verdictOf, .ref m_sound, .ref m_readSound, .int i_sounds])), (m_rule, .inl (cI, 12, .inl gz_untold))] [(cI, .int)] sz (fun (r : Int32) (_ : Unit) => r = 0) (fun (_ : Unit) => [(m0, .inr (12, [.ref m_stop, .ref m_tape, .int i_taped, .int i_length, .int i_from, .int i_behind, .int i_hand, .int i_value, .int i_fault, .int i_faultAt, .ref m_rule, .ref m_readRule, .ref m_teeth, .ref m_readTeeth, .ref m_sway, .ref m_readSway, .ref m_isTold, .ref m_markKind, .ref m_markValue, .ref m_marks, .int i_sum, .int i_parts, .ref m_pile, .ref m_height, .ref m_leftPass, .ref m_leftTurn, .ref m_leftTooth, .ref m_leftX, .int i_wear, .int i_cuts, .ref m_kept, .ref m_keptWear, .int i_deep, .ref m_now, .ref m_passed, .int i_x, .int i_v, .int i_hasPassed, .ref m_planTime, .ref m_planMany, .ref m_planned, .ref m_isQuiet, .int i_plans, .int i_hasPlan, .ref m_keptTeeth, .int i_jobs, .int i_orderBest, .ref m_jobRing, .ref m_jobSpeed, .ref m_jobFeed, .ref m_jobTurns, .ref m_orderRow, .ref m_bestRow, .int i_hasOrder, .ref m_orderTold, .int i_offers, .int i_heards, .int i_rights, .int i_telling, .ref m_offerRing, .ref m_offerSpeed, .ref m_offerFeed, .ref m_offerTurns, .ref m_heardOffer, .ref m_heardVerdict, .ref m_heardAt, .ref m_rightOf, .ref m_rightVerdict, .ref m_rightAt, .ref m_verdictOf, .ref m_sound, .ref m_readSound, .int i_sounds])), (m_rule, .inl (cI, 12, .inl gz_untold))]) (fun (_ : Unit) => [(cI, .int)]) := by
  unfold Ki
  refine g_ofW (cc := cX13_isPair) (lv := [(0, .ref m0), (1, .int 14)]) (by decide) rfl (Nat.le_of_ble_eq_true rfl) rfl ?_
  intro p e s m args below meth c A Q hA hQ F hr hnm
  have hts := F.2.2.2.2.1
  have w_0 : (Cond.fieldLink RX13 199 "QuietCutModel" "rule" "[I").before args s = true := hts _ (List.mem_of_getElem? (i := 1) rfl)
  have i_X13 : ∀ w ∈ u_ws RX13 TX13 73, w ∈ wsX13_isPair := fun _ h => List.mem_cons_of_mem _ (List.mem_append_right _ h)
  refine g_aload_n F 0 dX13_isPair_0 rfl rfl ?_
  refine g_get (C := RX13) (T := TX13) (N := 73) (v := .ref m_rule) F i_X13 0 rfl rfl 10 (by decide) w_0 rfl rfl dX13_isPair_1 ?_
  refine g_iconst F 3 dX13_isPair_4 (by decide) ?_
  refine g_iald F 1 0 rfl rfl (by unfold vp_in; decide) dX13_isPair_5 ?_
  refine g_fold 8 (by rfl) ?_
  refine g_iload_n F 1 dX13_isPair_6 rfl rfl ?_
  refine g_iconst F 4 dX13_isPair_7 (by decide) ?_
  refine g_idiv F dX13_isPair_8 (by decide) ?_
  refine g_fold 3 (by decide) ?_
  refine g_iadd F dX13_isPair_9 ?_
  refine g_fold 11 (by decide) ?_
  refine g_aload_n F 0 dX13_isPair_10 rfl rfl ?_
  refine g_get (C := RX13) (T := TX13) (N := 73) (v := .ref m_rule) F i_X13 0 rfl rfl 10 (by decide) w_0 rfl rfl dX13_isPair_11 ?_
  refine g_iconst F 4 dX13_isPair_14 (by decide) ?_
  refine g_iald F 1 0 rfl rfl (by unfold vp_in; decide) dX13_isPair_15 ?_
  refine g_fold 8 (by rfl) ?_
  refine g_icmp_gt F 43 dX13_isPair_16 (by decide) (fun c_16 => ?_) (fun h9 => absurd (by decide) h9) 
  refine g_iconst F 0 dX13_isPair_43 (by decide) ?_
  exact g_zret F hA hQ hr rfl () (rfl) [0, 1] [0] rfl (by decide) rfl rfl dX13_isPair_44


set_option maxHeartbeats 4000000 in
set_option maxRecDepth 100000 in
theorem K_X13_isPair15 (l : Launch) (D : va_G) (m0 : Nat) (m_stop : Nat) (m_tape : Nat) (i_taped : Int32) (i_length : Int32) (i_from : Int32) (i_behind : Int32) (i_hand : Int32) (i_value : Int32) (i_fault : Int32) (i_faultAt : Int32) (m_rule : Nat) (m_readRule : Nat) (m_teeth : Nat) (m_readTeeth : Nat) (m_sway : Nat) (m_readSway : Nat) (m_isTold : Nat) (m_markKind : Nat) (m_markValue : Nat) (m_marks : Nat) (i_sum : Int32) (i_parts : Int32) (m_pile : Nat) (m_height : Nat) (m_leftPass : Nat) (m_leftTurn : Nat) (m_leftTooth : Nat) (m_leftX : Nat) (i_wear : Int32) (i_cuts : Int32) (m_kept : Nat) (m_keptWear : Nat) (i_deep : Int32) (m_now : Nat) (m_passed : Nat) (i_x : Int32) (i_v : Int32) (i_hasPassed : Int32) (m_planTime : Nat) (m_planMany : Nat) (m_planned : Nat) (m_isQuiet : Nat) (i_plans : Int32) (i_hasPlan : Int32) (m_keptTeeth : Nat) (i_jobs : Int32) (i_orderBest : Int32) (m_jobRing : Nat) (m_jobSpeed : Nat) (m_jobFeed : Nat) (m_jobTurns : Nat) (m_orderRow : Nat) (m_bestRow : Nat) (i_hasOrder : Int32) (m_orderTold : Nat) (i_offers : Int32) (i_heards : Int32) (i_rights : Int32) (i_telling : Int32) (m_offerRing : Nat) (m_offerSpeed : Nat) (m_offerFeed : Nat) (m_offerTurns : Nat) (m_heardOffer : Nat) (m_heardVerdict : Nat) (m_heardAt : Nat) (m_rightOf : Nat) (m_rightVerdict : Nat) (m_rightAt : Nat) (m_verdictOf : Nat) (m_sound : Nat) (m_readSound : Nat) (i_sounds : Int32) (cI : ClassId) (sz : Nat) : Ki l yX13_isPair wsX13_isPair 1 40 0 0 D [.ref m0, .int 15] [(m0, .inr (12, [.ref m_stop, .ref m_tape, .int i_taped, .int i_length, .int i_from, .int i_behind, .int i_hand, .int i_value, .int i_fault, .int i_faultAt, .ref m_rule, .ref m_readRule, .ref m_teeth, .ref m_readTeeth, .ref m_sway, .ref m_readSway, .ref m_isTold, .ref m_markKind, .ref m_markValue, .ref m_marks, .int i_sum, .int i_parts, .ref m_pile, .ref m_height, .ref m_leftPass, .ref m_leftTurn, .ref m_leftTooth, .ref m_leftX, .int i_wear, .int i_cuts, .ref m_kept, .ref m_keptWear, .int i_deep, .ref m_now, .ref m_passed, .int i_x, .int i_v, .int i_hasPassed, .ref m_planTime, .ref m_planMany, .ref m_planned, .ref m_isQuiet, .int i_plans, .int i_hasPlan, .ref m_keptTeeth, .int i_jobs, .int i_orderBest, .ref m_jobRing, .ref m_jobSpeed, .ref m_jobFeed, .ref m_jobTurns, .ref m_orderRow, .ref m_bestRow, .int i_hasOrder, .ref m_orderTold, .int i_offers, .int i_heards, .int i_rights, .int i_telling, .ref m_offerRing, .ref m_offerSpeed, .ref m_offerFeed, .ref m_offerTurns, .ref m_heardOffer, .ref m_heardVerdict, .ref m_heardAt, .ref m_rightOf, .ref m_rightVerdict, .ref m_rightAt, .ref m_verdictOf, .ref m_sound, .ref m_readSound, .int i_sounds])), (m_rule, .inl (cI, 12, .inl gz_untold))] [(cI, .int)] sz (fun (r : Int32) (_ : Unit) => r = 0) (fun (_ : Unit) => [(m0, .inr (12, [.ref m_stop, .ref m_tape, .int i_taped, .int i_length, .int i_from, .int i_behind, .int i_hand, .int i_value, .int i_fault, .int i_faultAt, .ref m_rule, .ref m_readRule, .ref m_teeth, .ref m_readTeeth, .ref m_sway, .ref m_readSway, .ref m_isTold, .ref m_markKind, .ref m_markValue, .ref m_marks, .int i_sum, .int i_parts, .ref m_pile, .ref m_height, .ref m_leftPass, .ref m_leftTurn, .ref m_leftTooth, .ref m_leftX, .int i_wear, .int i_cuts, .ref m_kept, .ref m_keptWear, .int i_deep, .ref m_now, .ref m_passed, .int i_x, .int i_v, .int i_hasPassed, .ref m_planTime, .ref m_planMany, .ref m_planned, .ref m_isQuiet, .int i_plans, .int i_hasPlan, .ref m_keptTeeth, .int i_jobs, .int i_orderBest, .ref m_jobRing, .ref m_jobSpeed, .ref m_jobFeed, .ref m_jobTurns, .ref m_orderRow, .ref m_bestRow, .int i_hasOrder, .ref m_orderTold, .int i_offers, .int i_heards, .int i_rights, .int i_telling, .ref m_offerRing, .ref m_offerSpeed, .ref m_offerFeed, .ref m_offerTurns, .ref m_heardOffer, .ref m_heardVerdict, .ref m_heardAt, .ref m_rightOf, .ref m_rightVerdict, .ref m_rightAt, .ref m_verdictOf, .ref m_sound, .ref m_readSound, .int i_sounds])), (m_rule, .inl (cI, 12, .inl gz_untold))]) (fun (_ : Unit) => [(cI, .int)]) := by
  unfold Ki
  refine g_ofW (cc := cX13_isPair) (lv := [(0, .ref m0), (1, .int 15)]) (by decide) rfl (Nat.le_of_ble_eq_true rfl) rfl ?_
  intro p e s m args below meth c A Q hA hQ F hr hnm
  have hts := F.2.2.2.2.1
  have w_0 : (Cond.fieldLink RX13 199 "QuietCutModel" "rule" "[I").before args s = true := hts _ (List.mem_of_getElem? (i := 1) rfl)
  have i_X13 : ∀ w ∈ u_ws RX13 TX13 73, w ∈ wsX13_isPair := fun _ h => List.mem_cons_of_mem _ (List.mem_append_right _ h)
  refine g_aload_n F 0 dX13_isPair_0 rfl rfl ?_
  refine g_get (C := RX13) (T := TX13) (N := 73) (v := .ref m_rule) F i_X13 0 rfl rfl 10 (by decide) w_0 rfl rfl dX13_isPair_1 ?_
  refine g_iconst F 3 dX13_isPair_4 (by decide) ?_
  refine g_iald F 1 0 rfl rfl (by unfold vp_in; decide) dX13_isPair_5 ?_
  refine g_fold 8 (by rfl) ?_
  refine g_iload_n F 1 dX13_isPair_6 rfl rfl ?_
  refine g_iconst F 4 dX13_isPair_7 (by decide) ?_
  refine g_idiv F dX13_isPair_8 (by decide) ?_
  refine g_fold 3 (by decide) ?_
  refine g_iadd F dX13_isPair_9 ?_
  refine g_fold 11 (by decide) ?_
  refine g_aload_n F 0 dX13_isPair_10 rfl rfl ?_
  refine g_get (C := RX13) (T := TX13) (N := 73) (v := .ref m_rule) F i_X13 0 rfl rfl 10 (by decide) w_0 rfl rfl dX13_isPair_11 ?_
  refine g_iconst F 4 dX13_isPair_14 (by decide) ?_
  refine g_iald F 1 0 rfl rfl (by unfold vp_in; decide) dX13_isPair_15 ?_
  refine g_fold 8 (by rfl) ?_
  refine g_icmp_gt F 43 dX13_isPair_16 (by decide) (fun c_16 => ?_) (fun h9 => absurd (by decide) h9) 
  refine g_iconst F 0 dX13_isPair_43 (by decide) ?_
  exact g_zret F hA hQ hr rfl () (rfl) [0, 1] [0] rfl (by decide) rfl rfl dX13_isPair_44

theorem dX13_findVerdicts_0 : decode cX13_findVerdicts 0 = .ok (.aload_n 0, 1) := by decide +kernel
theorem dX13_findVerdicts_1 : decode cX13_findVerdicts 1 = .ok (.invokevirtual 412, 3) := by decide +kernel
theorem dX13_findVerdicts_4 : decode cX13_findVerdicts 4 = .ok (.iconst 0, 1) := by decide +kernel
theorem dX13_findVerdicts_5 : decode cX13_findVerdicts 5 = .ok (.istore_n 1, 1) := by decide +kernel
theorem dX13_findVerdicts_6 : decode cX13_findVerdicts 6 = .ok (.iload_n 1, 1) := by decide +kernel
theorem dX13_findVerdicts_7 : decode cX13_findVerdicts 7 = .ok (.bipush 16, 2) := by decide +kernel
theorem dX13_findVerdicts_9 : decode cX13_findVerdicts 9 = .ok (.if_icmp .ge 121, 3) := by decide +kernel
theorem dX13_findVerdicts_12 : decode cX13_findVerdicts 12 = .ok (.iconst 0, 1) := by decide +kernel
theorem dX13_findVerdicts_13 : decode cX13_findVerdicts 13 = .ok (.istore_n 2, 1) := by decide +kernel
theorem dX13_findVerdicts_14 : decode cX13_findVerdicts 14 = .ok (.iload_n 2, 1) := by decide +kernel
theorem dX13_findVerdicts_15 : decode cX13_findVerdicts 15 = .ok (.aload_n 0, 1) := by decide +kernel
theorem dX13_findVerdicts_16 : decode cX13_findVerdicts 16 = .ok (.getfield 338, 3) := by decide +kernel
theorem dX13_findVerdicts_19 : decode cX13_findVerdicts 19 = .ok (.if_icmp .ge 105, 3) := by decide +kernel
theorem dX13_findVerdicts_22 : decode cX13_findVerdicts 22 = .ok (.aload_n 0, 1) := by decide +kernel
theorem dX13_findVerdicts_23 : decode cX13_findVerdicts 23 = .ok (.iload_n 1, 1) := by decide +kernel
theorem dX13_findVerdicts_24 : decode cX13_findVerdicts 24 = .ok (.invokevirtual 502, 3) := by decide +kernel
theorem dX13_findVerdicts_27 : decode cX13_findVerdicts 27 = .ok (.ifCond .eq 97, 3) := by decide +kernel
theorem dX13_findVerdicts_30 : decode cX13_findVerdicts 30 = .ok (.iconst 0, 1) := by decide +kernel
theorem dX13_findVerdicts_31 : decode cX13_findVerdicts 31 = .ok (.istore_n 3, 1) := by decide +kernel
theorem dX13_findVerdicts_32 : decode cX13_findVerdicts 32 = .ok (.iload_n 3, 1) := by decide +kernel
theorem dX13_findVerdicts_33 : decode cX13_findVerdicts 33 = .ok (.bipush 96, 2) := by decide +kernel
theorem dX13_findVerdicts_35 : decode cX13_findVerdicts 35 = .ok (.if_icmp .ge 18, 3) := by decide +kernel
theorem dX13_findVerdicts_38 : decode cX13_findVerdicts 38 = .ok (.aload_n 0, 1) := by decide +kernel
theorem dX13_findVerdicts_39 : decode cX13_findVerdicts 39 = .ok (.getfield 214, 3) := by decide +kernel
theorem dX13_findVerdicts_42 : decode cX13_findVerdicts 42 = .ok (.iload_n 3, 1) := by decide +kernel
theorem dX13_findVerdicts_43 : decode cX13_findVerdicts 43 = .ok (.sipush 1000, 3) := by decide +kernel
theorem dX13_findVerdicts_46 : decode cX13_findVerdicts 46 = .ok (.iastore, 1) := by decide +kernel
theorem dX13_findVerdicts_47 : decode cX13_findVerdicts 47 = .ok (.iinc 3 1, 3) := by decide +kernel
theorem dX13_findVerdicts_50 : decode cX13_findVerdicts 50 = .ok (.goto (-18), 3) := by decide +kernel
theorem dX13_findVerdicts_53 : decode cX13_findVerdicts 53 = .ok (.aload_n 0, 1) := by decide +kernel
theorem dX13_findVerdicts_54 : decode cX13_findVerdicts 54 = .ok (.iconst 0, 1) := by decide +kernel
theorem dX13_findVerdicts_55 : decode cX13_findVerdicts 55 = .ok (.putfield 362, 3) := by decide +kernel
theorem dX13_findVerdicts_58 : decode cX13_findVerdicts 58 = .ok (.aload_n 0, 1) := by decide +kernel
theorem dX13_findVerdicts_59 : decode cX13_findVerdicts 59 = .ok (.getfield 307, 3) := by decide +kernel
theorem dX13_findVerdicts_62 : decode cX13_findVerdicts 62 = .ok (.bipush 10, 2) := by decide +kernel
theorem dX13_findVerdicts_64 : decode cX13_findVerdicts 64 = .ok (.iload_n 1, 1) := by decide +kernel
theorem dX13_findVerdicts_65 : decode cX13_findVerdicts 65 = .ok (.imul, 1) := by decide +kernel
theorem dX13_findVerdicts_66 : decode cX13_findVerdicts 66 = .ok (.iload_n 2, 1) := by decide +kernel
theorem dX13_findVerdicts_67 : decode cX13_findVerdicts 67 = .ok (.iadd, 1) := by decide +kernel
theorem dX13_findVerdicts_68 : decode cX13_findVerdicts 68 = .ok (.aload_n 0, 1) := by decide +kernel
theorem dX13_findVerdicts_69 : decode cX13_findVerdicts 69 = .ok (.aload_n 0, 1) := by decide +kernel
theorem dX13_findVerdicts_70 : decode cX13_findVerdicts 70 = .ok (.getfield 277, 3) := by decide +kernel
theorem dX13_findVerdicts_73 : decode cX13_findVerdicts 73 = .ok (.iload_n 2, 1) := by decide +kernel
theorem dX13_findVerdicts_74 : decode cX13_findVerdicts 74 = .ok (.iaload, 1) := by decide +kernel
theorem dX13_findVerdicts_75 : decode cX13_findVerdicts 75 = .ok (.aload_n 0, 1) := by decide +kernel
theorem dX13_findVerdicts_76 : decode cX13_findVerdicts 76 = .ok (.getfield 280, 3) := by decide +kernel
theorem dX13_findVerdicts_79 : decode cX13_findVerdicts 79 = .ok (.iload_n 2, 1) := by decide +kernel
theorem dX13_findVerdicts_80 : decode cX13_findVerdicts 80 = .ok (.iaload, 1) := by decide +kernel
theorem dX13_findVerdicts_81 : decode cX13_findVerdicts 81 = .ok (.aload_n 0, 1) := by decide +kernel
theorem dX13_findVerdicts_82 : decode cX13_findVerdicts 82 = .ok (.getfield 283, 3) := by decide +kernel
theorem dX13_findVerdicts_85 : decode cX13_findVerdicts 85 = .ok (.iload_n 2, 1) := by decide +kernel
theorem dX13_findVerdicts_86 : decode cX13_findVerdicts 86 = .ok (.iaload, 1) := by decide +kernel
theorem dX13_findVerdicts_87 : decode cX13_findVerdicts 87 = .ok (.aload_n 0, 1) := by decide +kernel
theorem dX13_findVerdicts_88 : decode cX13_findVerdicts 88 = .ok (.getfield 286, 3) := by decide +kernel
theorem dX13_findVerdicts_91 : decode cX13_findVerdicts 91 = .ok (.iload_n 2, 1) := by decide +kernel
theorem dX13_findVerdicts_92 : decode cX13_findVerdicts 92 = .ok (.iaload, 1) := by decide +kernel
theorem dX13_findVerdicts_93 : decode cX13_findVerdicts 93 = .ok (.aload_n 0, 1) := by decide +kernel
theorem dX13_findVerdicts_94 : decode cX13_findVerdicts 94 = .ok (.getfield 199, 3) := by decide +kernel
theorem dX13_findVerdicts_97 : decode cX13_findVerdicts 97 = .ok (.iconst 3, 1) := by decide +kernel
theorem dX13_findVerdicts_98 : decode cX13_findVerdicts 98 = .ok (.iaload, 1) := by decide +kernel
theorem dX13_findVerdicts_99 : decode cX13_findVerdicts 99 = .ok (.iload_n 1, 1) := by decide +kernel
theorem dX13_findVerdicts_100 : decode cX13_findVerdicts 100 = .ok (.iconst 4, 1) := by decide +kernel
theorem dX13_findVerdicts_101 : decode cX13_findVerdicts 101 = .ok (.idiv, 1) := by decide +kernel
theorem dX13_findVerdicts_102 : decode cX13_findVerdicts 102 = .ok (.iadd, 1) := by decide +kernel
theorem dX13_findVerdicts_103 : decode cX13_findVerdicts 103 = .ok (.aload_n 0, 1) := by decide +kernel
theorem dX13_findVerdicts_104 : decode cX13_findVerdicts 104 = .ok (.getfield 199, 3) := by decide +kernel
theorem dX13_findVerdicts_107 : decode cX13_findVerdicts 107 = .ok (.iconst 5, 1) := by decide +kernel
theorem dX13_findVerdicts_108 : decode cX13_findVerdicts 108 = .ok (.iaload, 1) := by decide +kernel
theorem dX13_findVerdicts_109 : decode cX13_findVerdicts 109 = .ok (.iload_n 1, 1) := by decide +kernel
theorem dX13_findVerdicts_110 : decode cX13_findVerdicts 110 = .ok (.iconst 4, 1) := by decide +kernel
theorem dX13_findVerdicts_111 : decode cX13_findVerdicts 111 = .ok (.irem, 1) := by decide +kernel
theorem dX13_findVerdicts_112 : decode cX13_findVerdicts 112 = .ok (.iadd, 1) := by decide +kernel
theorem dX13_findVerdicts_113 : decode cX13_findVerdicts 113 = .ok (.iconst (-1), 1) := by decide +kernel
theorem dX13_findVerdicts_114 : decode cX13_findVerdicts 114 = .ok (.invokevirtual 415, 3) := by decide +kernel
theorem dX13_findVerdicts_117 : decode cX13_findVerdicts 117 = .ok (.iastore, 1) := by decide +kernel
theorem dX13_findVerdicts_118 : decode cX13_findVerdicts 118 = .ok (.iinc 2 1, 3) := by decide +kernel
theorem dX13_findVerdicts_121 : decode cX13_findVerdicts 121 = .ok (.goto (-107), 3) := by decide +kernel
theorem dX13_findVerdicts_124 : decode cX13_findVerdicts 124 = .ok (.iinc 1 1, 3) := by decide +kernel
theorem dX13_findVerdicts_127 : decode cX13_findVerdicts 127 = .ok (.goto (-121), 3) := by decide +kernel
theorem dX13_findVerdicts_130 : decode cX13_findVerdicts 130 = .ok (.aload_n 0, 1) := by decide +kernel
theorem dX13_findVerdicts_131 : decode cX13_findVerdicts 131 = .ok (.invokevirtual 419, 3) := by decide +kernel
theorem dX13_findVerdicts_134 : decode cX13_findVerdicts 134 = .ok (.return_, 1) := by decide +kernel
set_option maxRecDepth 20000 in
theorem ggX13_findVerdicts_X13_putBack : GoodIn wsX13_findVerdicts wsX13_putBack := goodIn_r _ [87, 16, 2, 15, 17, 3, 88, 89, 90, 91, 92, 93, 94, 95, 96, 97, 98, 99, 100, 101, 102, 103, 104, 105, 106, 107, 108, 109, 110, 111, 112, 113, 114, 115, 116, 117, 118, 119, 120, 121, 122, 123, 124, 125, 126, 127, 128, 129, 130, 131, 132, 133, 134, 135, 136, 137, 138, 139, 140, 141, 142, 143, 144, 145, 146, 147, 148, 149, 150, 151, 152, 153, 154, 155, 156, 157, 158, 159, 160] rfl (by decide +kernel)
set_option maxRecDepth 20000 in
theorem gX13_findVerdicts_X13_putBack : GoodIn wsX13_findVerdicts (wsV RX13 419 RX13 yX13_putBack wsX13_putBack) := goodIn_app (goodIn_of _ (by decide +kernel)) ggX13_findVerdicts_X13_putBack
set_option maxRecDepth 20000 in
theorem ggX13_findVerdicts_X13_putBy : GoodIn wsX13_findVerdicts wsX13_putBy := goodIn_r _ [14, 15, 16, 2, 17, 3, 88, 89, 90, 91, 92, 93, 94, 95, 96, 97, 98, 99, 100, 101, 102, 103, 104, 105, 106, 107, 108, 109, 110, 111, 112, 113, 114, 115, 116, 117, 118, 119, 120, 121, 122, 123, 124, 125, 126, 127, 128, 129, 130, 131, 132, 133, 134, 135, 136, 137, 138, 139, 140, 141, 142, 143, 144, 145, 146, 147, 148, 149, 150, 151, 152, 153, 154, 155, 156, 157, 158, 159, 160] rfl (by decide +kernel)
set_option maxRecDepth 20000 in
theorem gX13_findVerdicts_X13_putBy : GoodIn wsX13_findVerdicts (wsV RX13 412 RX13 yX13_putBy wsX13_putBy) := goodIn_app (goodIn_of _ (by decide +kernel)) ggX13_findVerdicts_X13_putBy
set_option maxHeartbeats 4000000 in
set_option maxRecDepth 100000 in
theorem K_X13_findVerdicts (l : Launch) (D : va_G) (m0 : Nat) (m_stop : Nat) (m_tape : Nat) (m_rule : Nat) (m_readRule : Nat) (m_teeth : Nat) (m_readTeeth : Nat) (m_sway : Nat) (m_readSway : Nat) (m_isTold : Nat) (m_markKind : Nat) (m_markValue : Nat) (m_marks : Nat) (m_pile : Nat) (m_height : Nat) (m_leftPass : Nat) (m_leftTurn : Nat) (m_leftTooth : Nat) (m_leftX : Nat) (m_kept : Nat) (m_keptWear : Nat) (m_now : Nat) (m_passed : Nat) (m_planTime : Nat) (m_planMany : Nat) (m_planned : Nat) (m_isQuiet : Nat) (m_keptTeeth : Nat) (m_jobRing : Nat) (m_jobSpeed : Nat) (m_jobFeed : Nat) (m_jobTurns : Nat) (m_orderRow : Nat) (m_bestRow : Nat) (m_orderTold : Nat) (m_offerRing : Nat) (m_offerSpeed : Nat) (m_offerFeed : Nat) (m_offerTurns : Nat) (m_heardOffer : Nat) (m_heardVerdict : Nat) (m_heardAt : Nat) (m_rightOf : Nat) (m_rightVerdict : Nat) (m_rightAt : Nat) (m_verdictOf : Nat) (m_sound : Nat) (m_readSound : Nat) (cI : ClassId) (sz : Nat) : Kv l yX13_findVerdicts wsX13_findVerdicts 2 61 0 0 D [.ref m0] [(m0, .inr (12, [.ref m_stop, .ref m_tape, .int 0, .int 0, .int 0, .int 0, .int 0, .int 0, .int 0, .int (-1), .ref m_rule, .ref m_readRule, .ref m_teeth, .ref m_readTeeth, .ref m_sway, .ref m_readSway, .ref m_isTold, .ref m_markKind, .ref m_markValue, .ref m_marks, .int 5, .int 0, .ref m_pile, .ref m_height, .ref m_leftPass, .ref m_leftTurn, .ref m_leftTooth, .ref m_leftX, .int 0, .int 0, .ref m_kept, .ref m_keptWear, .int 0, .ref m_now, .ref m_passed, .int 0, .int 0, .int 0, .ref m_planTime, .ref m_planMany, .ref m_planned, .ref m_isQuiet, .int 0, .int 0, .ref m_keptTeeth, .int 0, .int 0, .ref m_jobRing, .ref m_jobSpeed, .ref m_jobFeed, .ref m_jobTurns, .ref m_orderRow, .ref m_bestRow, .int 0, .ref m_orderTold, .int 0, .int 0, .int 0, .int 0, .ref m_offerRing, .ref m_offerSpeed, .ref m_offerFeed, .ref m_offerTurns, .ref m_heardOffer, .ref m_heardVerdict, .ref m_heardAt, .ref m_rightOf, .ref m_rightVerdict, .ref m_rightAt, .ref m_verdictOf, .ref m_sound, .ref m_readSound, .int 0])), (m_kept, .inl (cI, 672, .inl (fun _ => 0))), (m_height, .inl (cI, 96, .inl (fun _ => 1000))), (m_keptWear, .inl (cI, 7, .inl (fun _ => 0)))] [(cI, .int)] sz (fun (u : (Nat → Int32) × (Nat → Int32) × (Nat → Int32) × Int32) => True) (fun (u : (Nat → Int32) × (Nat → Int32) × (Nat → Int32) × Int32) => [(m0, .inr (12, [.ref m_stop, .ref m_tape, .int 0, .int 0, .int 0, .int 0, .int 0, .int 0, .int 0, .int (-1), .ref m_rule, .ref m_readRule, .ref m_teeth, .ref m_readTeeth, .ref m_sway, .ref m_readSway, .ref m_isTold, .ref m_markKind, .ref m_markValue, .ref m_marks, .int 5, .int 0, .ref m_pile, .ref m_height, .ref m_leftPass, .ref m_leftTurn, .ref m_leftTooth, .ref m_leftX, .int u.2.2.2, .int 0, .ref m_kept, .ref m_keptWear, .int 0, .ref m_now, .ref m_passed, .int 0, .int 0, .int 0, .ref m_planTime, .ref m_planMany, .ref m_planned, .ref m_isQuiet, .int 0, .int 0, .ref m_keptTeeth, .int 0, .int 0, .ref m_jobRing, .ref m_jobSpeed, .ref m_jobFeed, .ref m_jobTurns, .ref m_orderRow, .ref m_bestRow, .int 0, .ref m_orderTold, .int 0, .int 0, .int 0, .int 0, .ref m_offerRing, .ref m_offerSpeed, .ref m_offerFeed, .ref m_offerTurns, .ref m_heardOffer, .ref m_heardVerdict, .ref m_heardAt, .ref m_rightOf, .ref m_rightVerdict, .ref m_rightAt, .ref m_verdictOf, .ref m_sound, .ref m_readSound, .int 0])), (m_kept, .inl (cI, 672, .inl u.1)), (m_height, .inl (cI, 96, .inl u.2.1)), (m_keptWear, .inl (cI, 7, .inl u.2.2.1))]) (fun (_ : (Nat → Int32) × (Nat → Int32) × (Nat → Int32) × Int32) => [(cI, .int)]) := by
  unfold Kv
  refine g_ofW (cc := cX13_findVerdicts) (lv := [(0, .ref m0)]) (by decide) rfl (Nat.le_of_ble_eq_true rfl) rfl ?_
  intro p e s m args below meth c A Q hA hQ F hr hnm
  have hts := F.2.2.2.2.1
  have w_0 : (Cond.fieldLink RX13 338 "QuietCutModel" "offers" "I").before args s = true := hts _ (List.mem_of_getElem? (i := 1) rfl)
  have i_X13 : ∀ w ∈ u_ws RX13 TX13 73, w ∈ wsX13_findVerdicts := fun _ h => List.mem_cons_of_mem _ (List.mem_append_right _ h)
  refine g_aload_n F 0 dX13_findVerdicts_0 rfl rfl ?_
  refine g_callVv (k := 0) (n := 0) (b := m0) (As := []) (st := []) (wc := [(m0, .inr (12, [.ref m_stop, .ref m_tape, .int 0, .int 0, .int 0, .int 0, .int 0, .int 0, .int 0, .int (-1), .ref m_rule, .ref m_readRule, .ref m_teeth, .ref m_readTeeth, .ref m_sway, .ref m_readSway, .ref m_isTold, .ref m_markKind, .ref m_markValue, .ref m_marks, .int 5, .int 0, .ref m_pile, .ref m_height, .ref m_leftPass, .ref m_leftTurn, .ref m_leftTooth, .ref m_leftX, .int 0, .int 0, .ref m_kept, .ref m_keptWear, .int 0, .ref m_now, .ref m_passed, .int 0, .int 0, .int 0, .ref m_planTime, .ref m_planMany, .ref m_planned, .ref m_isQuiet, .int 0, .int 0, .ref m_keptTeeth, .int 0, .int 0, .ref m_jobRing, .ref m_jobSpeed, .ref m_jobFeed, .ref m_jobTurns, .ref m_orderRow, .ref m_bestRow, .int 0, .ref m_orderTold, .int 0, .int 0, .int 0, .int 0, .ref m_offerRing, .ref m_offerSpeed, .ref m_offerFeed, .ref m_offerTurns, .ref m_heardOffer, .ref m_heardVerdict, .ref m_heardAt, .ref m_rightOf, .ref m_rightVerdict, .ref m_rightAt, .ref m_verdictOf, .ref m_sound, .ref m_readSound, .int 0])), (m_kept, .inl (cI, 672, .inl (fun _ => 0))), (m_height, .inl (cI, 96, .inl (fun _ => 1000))), (m_keptWear, .inl (cI, 7, .inl (fun _ => 0)))]) (wr := []) F [0, 1, 2, 3] [] [0] rfl rfl (by decide) rfl (by decide) (by decide) rfl (fun sz => K_X13_putBy l D m0 m_stop m_tape 0 0 0 0 0 0 0 (-1) m_rule m_readRule m_teeth m_readTeeth m_sway m_readSway m_isTold m_markKind m_markValue m_marks 5 0 m_pile m_height m_leftPass m_leftTurn m_leftTooth m_leftX 0 0 m_kept m_keptWear m_now m_passed 0 0 0 m_planTime m_planMany m_planned m_isQuiet 0 0 m_keptTeeth 0 0 m_jobRing m_jobSpeed m_jobFeed m_jobTurns m_orderRow m_bestRow 0 m_orderTold 0 0 0 0 m_offerRing m_offerSpeed m_offerFeed m_offerTurns m_heardOffer m_heardVerdict m_heardAt m_rightOf m_rightVerdict m_rightAt m_verdictOf m_sound m_readSound 0 cI (fun _ => 0) (fun _ => 1000) (fun _ => 0)  sz) (cwV 0 hts gX13_findVerdicts_X13_putBy rfl rfl rfl (by decide +kernel) ⟨Nat.le_of_ble_eq_true rfl, Nat.le_of_ble_eq_true rfl⟩) rfl 0 rfl rfl (Nat.le_of_ble_eq_true rfl) ⟨Nat.le_of_ble_eq_true rfl, Nat.le_of_ble_eq_true rfl⟩ dX13_findVerdicts_1 (fun u_0 hw_2 => ?_)
  obtain ⟨g_3, rfl⟩ : ∃ z, z = u_0 := ⟨_, rfl⟩
  have hw_2 : ∀ j, j < 96 → g_3 j = (fun _ => 1000) j := hw_2
  have hp0_4 := hw_2
  show gG p l e (gR 2 0 0 61) s m args below meth c D A 4 Q 0 0 [(m0, .inr (12, [.ref m_stop, .ref m_tape, .int 0, .int 0, .int 0, .int 0, .int 0, .int 0, .int 0, .int (-1), .ref m_rule, .ref m_readRule, .ref m_teeth, .ref m_readTeeth, .ref m_sway, .ref m_readSway, .ref m_isTold, .ref m_markKind, .ref m_markValue, .ref m_marks, .int 5, .int 0, .ref m_pile, .ref m_height, .ref m_leftPass, .ref m_leftTurn, .ref m_leftTooth, .ref m_leftX, .int 0, .int 0, .ref m_kept, .ref m_keptWear, .int 1, .ref m_now, .ref m_passed, .int 0, .int 0, .int 0, .ref m_planTime, .ref m_planMany, .ref m_planned, .ref m_isQuiet, .int 0, .int 0, .ref m_keptTeeth, .int 0, .int 0, .ref m_jobRing, .ref m_jobSpeed, .ref m_jobFeed, .ref m_jobTurns, .ref m_orderRow, .ref m_bestRow, .int 0, .ref m_orderTold, .int 0, .int 0, .int 0, .int 0, .ref m_offerRing, .ref m_offerSpeed, .ref m_offerFeed, .ref m_offerTurns, .ref m_heardOffer, .ref m_heardVerdict, .ref m_heardAt, .ref m_rightOf, .ref m_rightVerdict, .ref m_rightAt, .ref m_verdictOf, .ref m_sound, .ref m_readSound, .int 0])), (m_kept, .inl (cI, 672, .inl g_3)), (m_height, .inl (cI, 96, .inl (fun _ => 1000))), (m_keptWear, .inl (cI, 7, .inl (upd (fun _ => 0) 0 0)))] [(cI, .int)] [(0, .ref m0)] 4 []
  refine g_iconst F 0 dX13_findVerdicts_4 (by decide) ?_
  refine g_istore_n F [(1, .int 0), (0, .ref m0)] dX13_findVerdicts_5 rfl (by decide) rfl ?_
  refine g_iload_n F 0 dX13_findVerdicts_6 rfl rfl ?_
  refine g_bipush F 16 dX13_findVerdicts_7 (by decide) ?_
  refine g_icmp_ge F 130 dX13_findVerdicts_9 (by decide) (fun h9 => absurd h9 (by decide)) (fun c_9 => ?_)
  refine g_iconst F 0 dX13_findVerdicts_12 (by decide) ?_
  refine g_istore_n F [(2, .int 0), (1, .int 0), (0, .ref m0)] dX13_findVerdicts_13 rfl (by decide) rfl ?_
  refine g_iload_n F 0 dX13_findVerdicts_14 rfl rfl ?_
  refine g_aload_n F 2 dX13_findVerdicts_15 rfl rfl ?_
  refine g_get (C := RX13) (T := TX13) (N := 73) (v := .int 0) F i_X13 0 rfl rfl 55 (by decide) w_0 rfl rfl dX13_findVerdicts_16 ?_
  refine g_icmp_ge F 124 dX13_findVerdicts_19 (by decide) (fun c_19 => ?_) (fun h9 => absurd (by decide) h9) 
  refine g_iinc F (j := 1) 1 [(1, .int 1), (2, .int 0), (0, .ref m0)] dX13_findVerdicts_124 rfl (by decide) (by decide) rfl ?_
  refine g_goto F 6 dX13_findVerdicts_127 (by decide) ?_
  refine g_iload_n F 0 dX13_findVerdicts_6 rfl rfl ?_
  refine g_bipush F 16 dX13_findVerdicts_7 (by decide) ?_
  refine g_icmp_ge F 130 dX13_findVerdicts_9 (by decide) (fun h9 => absurd h9 (by decide)) (fun c_9 => ?_)
  refine g_iconst F 0 dX13_findVerdicts_12 (by decide) ?_
  refine g_istore_n F [(2, .int 0), (1, .int 1), (0, .ref m0)] dX13_findVerdicts_13 rfl (by decide) rfl ?_
  refine g_iload_n F 0 dX13_findVerdicts_14 rfl rfl ?_
  refine g_aload_n F 2 dX13_findVerdicts_15 rfl rfl ?_
  refine g_get (C := RX13) (T := TX13) (N := 73) (v := .int 0) F i_X13 0 rfl rfl 55 (by decide) w_0 rfl rfl dX13_findVerdicts_16 ?_
  refine g_icmp_ge F 124 dX13_findVerdicts_19 (by decide) (fun c_19 => ?_) (fun h9 => absurd (by decide) h9) 
  refine g_iinc F (j := 1) 2 [(1, .int 2), (2, .int 0), (0, .ref m0)] dX13_findVerdicts_124 rfl (by decide) (by decide) rfl ?_
  refine g_goto F 6 dX13_findVerdicts_127 (by decide) ?_
  refine g_iload_n F 0 dX13_findVerdicts_6 rfl rfl ?_
  refine g_bipush F 16 dX13_findVerdicts_7 (by decide) ?_
  refine g_icmp_ge F 130 dX13_findVerdicts_9 (by decide) (fun h9 => absurd h9 (by decide)) (fun c_9 => ?_)
  refine g_iconst F 0 dX13_findVerdicts_12 (by decide) ?_
  refine g_istore_n F [(2, .int 0), (1, .int 2), (0, .ref m0)] dX13_findVerdicts_13 rfl (by decide) rfl ?_
  refine g_iload_n F 0 dX13_findVerdicts_14 rfl rfl ?_
  refine g_aload_n F 2 dX13_findVerdicts_15 rfl rfl ?_
  refine g_get (C := RX13) (T := TX13) (N := 73) (v := .int 0) F i_X13 0 rfl rfl 55 (by decide) w_0 rfl rfl dX13_findVerdicts_16 ?_
  refine g_icmp_ge F 124 dX13_findVerdicts_19 (by decide) (fun c_19 => ?_) (fun h9 => absurd (by decide) h9) 
  refine g_iinc F (j := 1) 3 [(1, .int 3), (2, .int 0), (0, .ref m0)] dX13_findVerdicts_124 rfl (by decide) (by decide) rfl ?_
  refine g_goto F 6 dX13_findVerdicts_127 (by decide) ?_
  refine g_iload_n F 0 dX13_findVerdicts_6 rfl rfl ?_
  refine g_bipush F 16 dX13_findVerdicts_7 (by decide) ?_
  refine g_icmp_ge F 130 dX13_findVerdicts_9 (by decide) (fun h9 => absurd h9 (by decide)) (fun c_9 => ?_)
  refine g_iconst F 0 dX13_findVerdicts_12 (by decide) ?_
  refine g_istore_n F [(2, .int 0), (1, .int 3), (0, .ref m0)] dX13_findVerdicts_13 rfl (by decide) rfl ?_
  refine g_iload_n F 0 dX13_findVerdicts_14 rfl rfl ?_
  refine g_aload_n F 2 dX13_findVerdicts_15 rfl rfl ?_
  refine g_get (C := RX13) (T := TX13) (N := 73) (v := .int 0) F i_X13 0 rfl rfl 55 (by decide) w_0 rfl rfl dX13_findVerdicts_16 ?_
  refine g_icmp_ge F 124 dX13_findVerdicts_19 (by decide) (fun c_19 => ?_) (fun h9 => absurd (by decide) h9) 
  refine g_iinc F (j := 1) 4 [(1, .int 4), (2, .int 0), (0, .ref m0)] dX13_findVerdicts_124 rfl (by decide) (by decide) rfl ?_
  refine g_goto F 6 dX13_findVerdicts_127 (by decide) ?_
  refine g_iload_n F 0 dX13_findVerdicts_6 rfl rfl ?_
  refine g_bipush F 16 dX13_findVerdicts_7 (by decide) ?_
  refine g_icmp_ge F 130 dX13_findVerdicts_9 (by decide) (fun h9 => absurd h9 (by decide)) (fun c_9 => ?_)
  refine g_iconst F 0 dX13_findVerdicts_12 (by decide) ?_
  refine g_istore_n F [(2, .int 0), (1, .int 4), (0, .ref m0)] dX13_findVerdicts_13 rfl (by decide) rfl ?_
  refine g_iload_n F 0 dX13_findVerdicts_14 rfl rfl ?_
  refine g_aload_n F 2 dX13_findVerdicts_15 rfl rfl ?_
  refine g_get (C := RX13) (T := TX13) (N := 73) (v := .int 0) F i_X13 0 rfl rfl 55 (by decide) w_0 rfl rfl dX13_findVerdicts_16 ?_
  refine g_icmp_ge F 124 dX13_findVerdicts_19 (by decide) (fun c_19 => ?_) (fun h9 => absurd (by decide) h9) 
  refine g_iinc F (j := 1) 5 [(1, .int 5), (2, .int 0), (0, .ref m0)] dX13_findVerdicts_124 rfl (by decide) (by decide) rfl ?_
  refine g_goto F 6 dX13_findVerdicts_127 (by decide) ?_
  refine g_iload_n F 0 dX13_findVerdicts_6 rfl rfl ?_
  refine g_bipush F 16 dX13_findVerdicts_7 (by decide) ?_
  refine g_icmp_ge F 130 dX13_findVerdicts_9 (by decide) (fun h9 => absurd h9 (by decide)) (fun c_9 => ?_)
  refine g_iconst F 0 dX13_findVerdicts_12 (by decide) ?_
  refine g_istore_n F [(2, .int 0), (1, .int 5), (0, .ref m0)] dX13_findVerdicts_13 rfl (by decide) rfl ?_
  refine g_iload_n F 0 dX13_findVerdicts_14 rfl rfl ?_
  refine g_aload_n F 2 dX13_findVerdicts_15 rfl rfl ?_
  refine g_get (C := RX13) (T := TX13) (N := 73) (v := .int 0) F i_X13 0 rfl rfl 55 (by decide) w_0 rfl rfl dX13_findVerdicts_16 ?_
  refine g_icmp_ge F 124 dX13_findVerdicts_19 (by decide) (fun c_19 => ?_) (fun h9 => absurd (by decide) h9) 
  refine g_iinc F (j := 1) 6 [(1, .int 6), (2, .int 0), (0, .ref m0)] dX13_findVerdicts_124 rfl (by decide) (by decide) rfl ?_
  refine g_goto F 6 dX13_findVerdicts_127 (by decide) ?_
  refine g_iload_n F 0 dX13_findVerdicts_6 rfl rfl ?_
  refine g_bipush F 16 dX13_findVerdicts_7 (by decide) ?_
  refine g_icmp_ge F 130 dX13_findVerdicts_9 (by decide) (fun h9 => absurd h9 (by decide)) (fun c_9 => ?_)
  refine g_iconst F 0 dX13_findVerdicts_12 (by decide) ?_
  refine g_istore_n F [(2, .int 0), (1, .int 6), (0, .ref m0)] dX13_findVerdicts_13 rfl (by decide) rfl ?_
  refine g_iload_n F 0 dX13_findVerdicts_14 rfl rfl ?_
  refine g_aload_n F 2 dX13_findVerdicts_15 rfl rfl ?_
  refine g_get (C := RX13) (T := TX13) (N := 73) (v := .int 0) F i_X13 0 rfl rfl 55 (by decide) w_0 rfl rfl dX13_findVerdicts_16 ?_
  refine g_icmp_ge F 124 dX13_findVerdicts_19 (by decide) (fun c_19 => ?_) (fun h9 => absurd (by decide) h9) 
  refine g_iinc F (j := 1) 7 [(1, .int 7), (2, .int 0), (0, .ref m0)] dX13_findVerdicts_124 rfl (by decide) (by decide) rfl ?_
  refine g_goto F 6 dX13_findVerdicts_127 (by decide) ?_
  refine g_iload_n F 0 dX13_findVerdicts_6 rfl rfl ?_
  refine g_bipush F 16 dX13_findVerdicts_7 (by decide) ?_
  refine g_icmp_ge F 130 dX13_findVerdicts_9 (by decide) (fun h9 => absurd h9 (by decide)) (fun c_9 => ?_)
  refine g_iconst F 0 dX13_findVerdicts_12 (by decide) ?_
  refine g_istore_n F [(2, .int 0), (1, .int 7), (0, .ref m0)] dX13_findVerdicts_13 rfl (by decide) rfl ?_
  refine g_iload_n F 0 dX13_findVerdicts_14 rfl rfl ?_
  refine g_aload_n F 2 dX13_findVerdicts_15 rfl rfl ?_
  refine g_get (C := RX13) (T := TX13) (N := 73) (v := .int 0) F i_X13 0 rfl rfl 55 (by decide) w_0 rfl rfl dX13_findVerdicts_16 ?_
  refine g_icmp_ge F 124 dX13_findVerdicts_19 (by decide) (fun c_19 => ?_) (fun h9 => absurd (by decide) h9) 
  refine g_iinc F (j := 1) 8 [(1, .int 8), (2, .int 0), (0, .ref m0)] dX13_findVerdicts_124 rfl (by decide) (by decide) rfl ?_
  refine g_goto F 6 dX13_findVerdicts_127 (by decide) ?_
  refine g_iload_n F 0 dX13_findVerdicts_6 rfl rfl ?_
  refine g_bipush F 16 dX13_findVerdicts_7 (by decide) ?_
  refine g_icmp_ge F 130 dX13_findVerdicts_9 (by decide) (fun h9 => absurd h9 (by decide)) (fun c_9 => ?_)
  refine g_iconst F 0 dX13_findVerdicts_12 (by decide) ?_
  refine g_istore_n F [(2, .int 0), (1, .int 8), (0, .ref m0)] dX13_findVerdicts_13 rfl (by decide) rfl ?_
  refine g_iload_n F 0 dX13_findVerdicts_14 rfl rfl ?_
  refine g_aload_n F 2 dX13_findVerdicts_15 rfl rfl ?_
  refine g_get (C := RX13) (T := TX13) (N := 73) (v := .int 0) F i_X13 0 rfl rfl 55 (by decide) w_0 rfl rfl dX13_findVerdicts_16 ?_
  refine g_icmp_ge F 124 dX13_findVerdicts_19 (by decide) (fun c_19 => ?_) (fun h9 => absurd (by decide) h9) 
  refine g_iinc F (j := 1) 9 [(1, .int 9), (2, .int 0), (0, .ref m0)] dX13_findVerdicts_124 rfl (by decide) (by decide) rfl ?_
  refine g_goto F 6 dX13_findVerdicts_127 (by decide) ?_
  refine g_iload_n F 0 dX13_findVerdicts_6 rfl rfl ?_
  refine g_bipush F 16 dX13_findVerdicts_7 (by decide) ?_
  refine g_icmp_ge F 130 dX13_findVerdicts_9 (by decide) (fun h9 => absurd h9 (by decide)) (fun c_9 => ?_)
  refine g_iconst F 0 dX13_findVerdicts_12 (by decide) ?_
  refine g_istore_n F [(2, .int 0), (1, .int 9), (0, .ref m0)] dX13_findVerdicts_13 rfl (by decide) rfl ?_
  refine g_iload_n F 0 dX13_findVerdicts_14 rfl rfl ?_
  refine g_aload_n F 2 dX13_findVerdicts_15 rfl rfl ?_
  refine g_get (C := RX13) (T := TX13) (N := 73) (v := .int 0) F i_X13 0 rfl rfl 55 (by decide) w_0 rfl rfl dX13_findVerdicts_16 ?_
  refine g_icmp_ge F 124 dX13_findVerdicts_19 (by decide) (fun c_19 => ?_) (fun h9 => absurd (by decide) h9) 
  refine g_iinc F (j := 1) 10 [(1, .int 10), (2, .int 0), (0, .ref m0)] dX13_findVerdicts_124 rfl (by decide) (by decide) rfl ?_
  refine g_goto F 6 dX13_findVerdicts_127 (by decide) ?_
  refine g_iload_n F 0 dX13_findVerdicts_6 rfl rfl ?_
  refine g_bipush F 16 dX13_findVerdicts_7 (by decide) ?_
  refine g_icmp_ge F 130 dX13_findVerdicts_9 (by decide) (fun h9 => absurd h9 (by decide)) (fun c_9 => ?_)
  refine g_iconst F 0 dX13_findVerdicts_12 (by decide) ?_
  refine g_istore_n F [(2, .int 0), (1, .int 10), (0, .ref m0)] dX13_findVerdicts_13 rfl (by decide) rfl ?_
  refine g_iload_n F 0 dX13_findVerdicts_14 rfl rfl ?_
  refine g_aload_n F 2 dX13_findVerdicts_15 rfl rfl ?_
  refine g_get (C := RX13) (T := TX13) (N := 73) (v := .int 0) F i_X13 0 rfl rfl 55 (by decide) w_0 rfl rfl dX13_findVerdicts_16 ?_
  refine g_icmp_ge F 124 dX13_findVerdicts_19 (by decide) (fun c_19 => ?_) (fun h9 => absurd (by decide) h9) 
  refine g_iinc F (j := 1) 11 [(1, .int 11), (2, .int 0), (0, .ref m0)] dX13_findVerdicts_124 rfl (by decide) (by decide) rfl ?_
  refine g_goto F 6 dX13_findVerdicts_127 (by decide) ?_
  refine g_iload_n F 0 dX13_findVerdicts_6 rfl rfl ?_
  refine g_bipush F 16 dX13_findVerdicts_7 (by decide) ?_
  refine g_icmp_ge F 130 dX13_findVerdicts_9 (by decide) (fun h9 => absurd h9 (by decide)) (fun c_9 => ?_)
  refine g_iconst F 0 dX13_findVerdicts_12 (by decide) ?_
  refine g_istore_n F [(2, .int 0), (1, .int 11), (0, .ref m0)] dX13_findVerdicts_13 rfl (by decide) rfl ?_
  refine g_iload_n F 0 dX13_findVerdicts_14 rfl rfl ?_
  refine g_aload_n F 2 dX13_findVerdicts_15 rfl rfl ?_
  refine g_get (C := RX13) (T := TX13) (N := 73) (v := .int 0) F i_X13 0 rfl rfl 55 (by decide) w_0 rfl rfl dX13_findVerdicts_16 ?_
  refine g_icmp_ge F 124 dX13_findVerdicts_19 (by decide) (fun c_19 => ?_) (fun h9 => absurd (by decide) h9) 
  refine g_iinc F (j := 1) 12 [(1, .int 12), (2, .int 0), (0, .ref m0)] dX13_findVerdicts_124 rfl (by decide) (by decide) rfl ?_
  refine g_goto F 6 dX13_findVerdicts_127 (by decide) ?_
  refine g_iload_n F 0 dX13_findVerdicts_6 rfl rfl ?_
  refine g_bipush F 16 dX13_findVerdicts_7 (by decide) ?_
  refine g_icmp_ge F 130 dX13_findVerdicts_9 (by decide) (fun h9 => absurd h9 (by decide)) (fun c_9 => ?_)
  refine g_iconst F 0 dX13_findVerdicts_12 (by decide) ?_
  refine g_istore_n F [(2, .int 0), (1, .int 12), (0, .ref m0)] dX13_findVerdicts_13 rfl (by decide) rfl ?_
  refine g_iload_n F 0 dX13_findVerdicts_14 rfl rfl ?_
  refine g_aload_n F 2 dX13_findVerdicts_15 rfl rfl ?_
  refine g_get (C := RX13) (T := TX13) (N := 73) (v := .int 0) F i_X13 0 rfl rfl 55 (by decide) w_0 rfl rfl dX13_findVerdicts_16 ?_
  refine g_icmp_ge F 124 dX13_findVerdicts_19 (by decide) (fun c_19 => ?_) (fun h9 => absurd (by decide) h9) 
  refine g_iinc F (j := 1) 13 [(1, .int 13), (2, .int 0), (0, .ref m0)] dX13_findVerdicts_124 rfl (by decide) (by decide) rfl ?_
  refine g_goto F 6 dX13_findVerdicts_127 (by decide) ?_
  refine g_iload_n F 0 dX13_findVerdicts_6 rfl rfl ?_
  refine g_bipush F 16 dX13_findVerdicts_7 (by decide) ?_
  refine g_icmp_ge F 130 dX13_findVerdicts_9 (by decide) (fun h9 => absurd h9 (by decide)) (fun c_9 => ?_)
  refine g_iconst F 0 dX13_findVerdicts_12 (by decide) ?_
  refine g_istore_n F [(2, .int 0), (1, .int 13), (0, .ref m0)] dX13_findVerdicts_13 rfl (by decide) rfl ?_
  refine g_iload_n F 0 dX13_findVerdicts_14 rfl rfl ?_
  refine g_aload_n F 2 dX13_findVerdicts_15 rfl rfl ?_
  refine g_get (C := RX13) (T := TX13) (N := 73) (v := .int 0) F i_X13 0 rfl rfl 55 (by decide) w_0 rfl rfl dX13_findVerdicts_16 ?_
  refine g_icmp_ge F 124 dX13_findVerdicts_19 (by decide) (fun c_19 => ?_) (fun h9 => absurd (by decide) h9) 
  refine g_iinc F (j := 1) 14 [(1, .int 14), (2, .int 0), (0, .ref m0)] dX13_findVerdicts_124 rfl (by decide) (by decide) rfl ?_
  refine g_goto F 6 dX13_findVerdicts_127 (by decide) ?_
  refine g_iload_n F 0 dX13_findVerdicts_6 rfl rfl ?_
  refine g_bipush F 16 dX13_findVerdicts_7 (by decide) ?_
  refine g_icmp_ge F 130 dX13_findVerdicts_9 (by decide) (fun h9 => absurd h9 (by decide)) (fun c_9 => ?_)
  refine g_iconst F 0 dX13_findVerdicts_12 (by decide) ?_
  refine g_istore_n F [(2, .int 0), (1, .int 14), (0, .ref m0)] dX13_findVerdicts_13 rfl (by decide) rfl ?_
  refine g_iload_n F 0 dX13_findVerdicts_14 rfl rfl ?_
  refine g_aload_n F 2 dX13_findVerdicts_15 rfl rfl ?_
  refine g_get (C := RX13) (T := TX13) (N := 73) (v := .int 0) F i_X13 0 rfl rfl 55 (by decide) w_0 rfl rfl dX13_findVerdicts_16 ?_
  refine g_icmp_ge F 124 dX13_findVerdicts_19 (by decide) (fun c_19 => ?_) (fun h9 => absurd (by decide) h9) 
  refine g_iinc F (j := 1) 15 [(1, .int 15), (2, .int 0), (0, .ref m0)] dX13_findVerdicts_124 rfl (by decide) (by decide) rfl ?_
  refine g_goto F 6 dX13_findVerdicts_127 (by decide) ?_
  refine g_iload_n F 0 dX13_findVerdicts_6 rfl rfl ?_
  refine g_bipush F 16 dX13_findVerdicts_7 (by decide) ?_
  refine g_icmp_ge F 130 dX13_findVerdicts_9 (by decide) (fun h9 => absurd h9 (by decide)) (fun c_9 => ?_)
  refine g_iconst F 0 dX13_findVerdicts_12 (by decide) ?_
  refine g_istore_n F [(2, .int 0), (1, .int 15), (0, .ref m0)] dX13_findVerdicts_13 rfl (by decide) rfl ?_
  refine g_iload_n F 0 dX13_findVerdicts_14 rfl rfl ?_
  refine g_aload_n F 2 dX13_findVerdicts_15 rfl rfl ?_
  refine g_get (C := RX13) (T := TX13) (N := 73) (v := .int 0) F i_X13 0 rfl rfl 55 (by decide) w_0 rfl rfl dX13_findVerdicts_16 ?_
  refine g_icmp_ge F 124 dX13_findVerdicts_19 (by decide) (fun c_19 => ?_) (fun h9 => absurd (by decide) h9) 
  refine g_iinc F (j := 1) 16 [(1, .int 16), (2, .int 0), (0, .ref m0)] dX13_findVerdicts_124 rfl (by decide) (by decide) rfl ?_
  refine g_goto F 6 dX13_findVerdicts_127 (by decide) ?_
  refine g_iload_n F 0 dX13_findVerdicts_6 rfl rfl ?_
  refine g_bipush F 16 dX13_findVerdicts_7 (by decide) ?_
  refine g_icmp_ge F 130 dX13_findVerdicts_9 (by decide) (fun c_9 => ?_) (fun h9 => absurd (by decide) h9) 
  refine g_aload_n F 2 dX13_findVerdicts_130 rfl rfl ?_
  refine g_callVv (k := 0) (n := 0) (b := m0) (As := []) (st := []) (wc := [(m0, .inr (12, [.ref m_stop, .ref m_tape, .int 0, .int 0, .int 0, .int 0, .int 0, .int 0, .int 0, .int (-1), .ref m_rule, .ref m_readRule, .ref m_teeth, .ref m_readTeeth, .ref m_sway, .ref m_readSway, .ref m_isTold, .ref m_markKind, .ref m_markValue, .ref m_marks, .int 5, .int 0, .ref m_pile, .ref m_height, .ref m_leftPass, .ref m_leftTurn, .ref m_leftTooth, .ref m_leftX, .int 0, .int 0, .ref m_kept, .ref m_keptWear, .int 1, .ref m_now, .ref m_passed, .int 0, .int 0, .int 0, .ref m_planTime, .ref m_planMany, .ref m_planned, .ref m_isQuiet, .int 0, .int 0, .ref m_keptTeeth, .int 0, .int 0, .ref m_jobRing, .ref m_jobSpeed, .ref m_jobFeed, .ref m_jobTurns, .ref m_orderRow, .ref m_bestRow, .int 0, .ref m_orderTold, .int 0, .int 0, .int 0, .int 0, .ref m_offerRing, .ref m_offerSpeed, .ref m_offerFeed, .ref m_offerTurns, .ref m_heardOffer, .ref m_heardVerdict, .ref m_heardAt, .ref m_rightOf, .ref m_rightVerdict, .ref m_rightAt, .ref m_verdictOf, .ref m_sound, .ref m_readSound, .int 0])), (m_kept, .inl (cI, 672, .inl g_3)), (m_height, .inl (cI, 96, .inl (fun _ => 1000))), (m_keptWear, .inl (cI, 7, .inl (upd (fun _ => 0) 0 0)))]) (wr := []) F [0, 1, 2, 3] [] [0] rfl rfl (by decide) rfl (by decide) (by decide) rfl (fun sz => K_X13_putBack l D m0 m_stop m_tape 0 0 0 0 0 0 0 (-1) m_rule m_readRule m_teeth m_readTeeth m_sway m_readSway m_isTold m_markKind m_markValue m_marks 5 0 m_pile m_height m_leftPass m_leftTurn m_leftTooth m_leftX 0 0 m_kept m_keptWear m_now m_passed 0 0 0 m_planTime m_planMany m_planned m_isQuiet 0 0 m_keptTeeth 0 0 m_jobRing m_jobSpeed m_jobFeed m_jobTurns m_orderRow m_bestRow 0 m_orderTold 0 0 0 0 m_offerRing m_offerSpeed m_offerFeed m_offerTurns m_heardOffer m_heardVerdict m_heardAt m_rightOf m_rightVerdict m_rightAt m_verdictOf m_sound m_readSound 0 cI g_3 (fun _ => 1000) (upd (fun _ => 0) 0 0)  sz) (cwV 0 hts gX13_findVerdicts_X13_putBack rfl rfl rfl (by decide +kernel) ⟨Nat.le_of_ble_eq_true rfl, Nat.le_of_ble_eq_true rfl⟩) rfl 0 rfl rfl (Nat.le_of_ble_eq_true rfl) ⟨Nat.le_of_ble_eq_true rfl, Nat.le_of_ble_eq_true rfl⟩ dX13_findVerdicts_131 (fun u_5 hw_7 => ?_)
  obtain ⟨g_8, w_8⟩ := u_5
  have hw_7 : (∀ j, j < 96 → g_8 j = g_3 j) ∧ (w_8 = (upd (fun _ => 0) 0 0) 0) := hw_7
  obtain ⟨hp0_9, hp1_9⟩ := hw_7
  show gG p l e (gR 2 0 0 61) s m args below meth c D A 4 Q 0 0 [(m0, .inr (12, [.ref m_stop, .ref m_tape, .int 0, .int 0, .int 0, .int 0, .int 0, .int 0, .int 0, .int (-1), .ref m_rule, .ref m_readRule, .ref m_teeth, .ref m_readTeeth, .ref m_sway, .ref m_readSway, .ref m_isTold, .ref m_markKind, .ref m_markValue, .ref m_marks, .int 5, .int 0, .ref m_pile, .ref m_height, .ref m_leftPass, .ref m_leftTurn, .ref m_leftTooth, .ref m_leftX, .int w_8, .int 0, .ref m_kept, .ref m_keptWear, .int 0, .ref m_now, .ref m_passed, .int 0, .int 0, .int 0, .ref m_planTime, .ref m_planMany, .ref m_planned, .ref m_isQuiet, .int 0, .int 0, .ref m_keptTeeth, .int 0, .int 0, .ref m_jobRing, .ref m_jobSpeed, .ref m_jobFeed, .ref m_jobTurns, .ref m_orderRow, .ref m_bestRow, .int 0, .ref m_orderTold, .int 0, .int 0, .int 0, .int 0, .ref m_offerRing, .ref m_offerSpeed, .ref m_offerFeed, .ref m_offerTurns, .ref m_heardOffer, .ref m_heardVerdict, .ref m_heardAt, .ref m_rightOf, .ref m_rightVerdict, .ref m_rightAt, .ref m_verdictOf, .ref m_sound, .ref m_readSound, .int 0])), (m_kept, .inl (cI, 672, .inl g_3)), (m_height, .inl (cI, 96, .inl g_8)), (m_keptWear, .inl (cI, 7, .inl (upd (fun _ => 0) 0 0)))] [(cI, .int)] [(1, .int 16), (2, .int 0), (0, .ref m0)] 134 []
  exact g_vret F hA hQ hr (g_3, g_8, (upd (fun _ => 0) 0 0), w_8) (trivial) [0, 1, 2, 3] [0] rfl (by decide) rfl rfl dX13_findVerdicts_134

theorem dX13_fitOf_0 : decode cX13_fitOf 0 = .ok (.aload_n 0, 1) := by decide +kernel
theorem dX13_fitOf_1 : decode cX13_fitOf 1 = .ok (.invokevirtual 505, 3) := by decide +kernel
theorem dX13_fitOf_4 : decode cX13_fitOf 4 = .ok (.iconst 0, 1) := by decide +kernel
theorem dX13_fitOf_5 : decode cX13_fitOf 5 = .ok (.istore_n 2, 1) := by decide +kernel
theorem dX13_fitOf_6 : decode cX13_fitOf 6 = .ok (.iconst 0, 1) := by decide +kernel
theorem dX13_fitOf_7 : decode cX13_fitOf 7 = .ok (.istore_n 3, 1) := by decide +kernel
theorem dX13_fitOf_8 : decode cX13_fitOf 8 = .ok (.iload_n 3, 1) := by decide +kernel
theorem dX13_fitOf_9 : decode cX13_fitOf 9 = .ok (.bipush 16, 2) := by decide +kernel
theorem dX13_fitOf_11 : decode cX13_fitOf 11 = .ok (.if_icmp .ge 99, 3) := by decide +kernel
theorem dX13_fitOf_14 : decode cX13_fitOf 14 = .ok (.aload_n 0, 1) := by decide +kernel
theorem dX13_fitOf_15 : decode cX13_fitOf 15 = .ok (.iload_n 3, 1) := by decide +kernel
theorem dX13_fitOf_16 : decode cX13_fitOf 16 = .ok (.invokevirtual 502, 3) := by decide +kernel
theorem dX13_fitOf_19 : decode cX13_fitOf 19 = .ok (.istore 4, 2) := by decide +kernel
theorem dX13_fitOf_21 : decode cX13_fitOf 21 = .ok (.iconst 0, 1) := by decide +kernel
theorem dX13_fitOf_22 : decode cX13_fitOf 22 = .ok (.istore 5, 2) := by decide +kernel
theorem dX13_fitOf_24 : decode cX13_fitOf 24 = .ok (.iload 5, 2) := by decide +kernel
theorem dX13_fitOf_26 : decode cX13_fitOf 26 = .ok (.aload_n 0, 1) := by decide +kernel
theorem dX13_fitOf_27 : decode cX13_fitOf 27 = .ok (.getfield 341, 3) := by decide +kernel
theorem dX13_fitOf_30 : decode cX13_fitOf 30 = .ok (.if_icmp .ge 59, 3) := by decide +kernel
theorem dX13_fitOf_33 : decode cX13_fitOf 33 = .ok (.iload 4, 2) := by decide +kernel
theorem dX13_fitOf_35 : decode cX13_fitOf 35 = .ok (.ifCond .eq 54, 3) := by decide +kernel
theorem dX13_fitOf_38 : decode cX13_fitOf 38 = .ok (.aload_n 0, 1) := by decide +kernel
theorem dX13_fitOf_39 : decode cX13_fitOf 39 = .ok (.iload 5, 2) := by decide +kernel
theorem dX13_fitOf_41 : decode cX13_fitOf 41 = .ok (.iload_n 1, 1) := by decide +kernel
theorem dX13_fitOf_42 : decode cX13_fitOf 42 = .ok (.invokevirtual 508, 3) := by decide +kernel
theorem dX13_fitOf_45 : decode cX13_fitOf 45 = .ok (.iconst (-1), 1) := by decide +kernel
theorem dX13_fitOf_46 : decode cX13_fitOf 46 = .ok (.if_icmp .eq 30, 3) := by decide +kernel
theorem dX13_fitOf_49 : decode cX13_fitOf 49 = .ok (.aload_n 0, 1) := by decide +kernel
theorem dX13_fitOf_50 : decode cX13_fitOf 50 = .ok (.iload 5, 2) := by decide +kernel
theorem dX13_fitOf_52 : decode cX13_fitOf 52 = .ok (.iload_n 1, 1) := by decide +kernel
theorem dX13_fitOf_53 : decode cX13_fitOf 53 = .ok (.invokevirtual 508, 3) := by decide +kernel
theorem dX13_fitOf_56 : decode cX13_fitOf 56 = .ok (.aload_n 0, 1) := by decide +kernel
theorem dX13_fitOf_57 : decode cX13_fitOf 57 = .ok (.getfield 307, 3) := by decide +kernel
theorem dX13_fitOf_60 : decode cX13_fitOf 60 = .ok (.bipush 10, 2) := by decide +kernel
theorem dX13_fitOf_62 : decode cX13_fitOf 62 = .ok (.iload_n 3, 1) := by decide +kernel
theorem dX13_fitOf_63 : decode cX13_fitOf 63 = .ok (.imul, 1) := by decide +kernel
theorem dX13_fitOf_64 : decode cX13_fitOf 64 = .ok (.aload_n 0, 1) := by decide +kernel
theorem dX13_fitOf_65 : decode cX13_fitOf 65 = .ok (.getfield 289, 3) := by decide +kernel
theorem dX13_fitOf_68 : decode cX13_fitOf 68 = .ok (.iload 5, 2) := by decide +kernel
theorem dX13_fitOf_70 : decode cX13_fitOf 70 = .ok (.iaload, 1) := by decide +kernel
theorem dX13_fitOf_71 : decode cX13_fitOf 71 = .ok (.iadd, 1) := by decide +kernel
theorem dX13_fitOf_72 : decode cX13_fitOf 72 = .ok (.iaload, 1) := by decide +kernel
theorem dX13_fitOf_73 : decode cX13_fitOf 73 = .ok (.if_icmp .ne 7, 3) := by decide +kernel
theorem dX13_fitOf_76 : decode cX13_fitOf 76 = .ok (.iconst 1, 1) := by decide +kernel
theorem dX13_fitOf_77 : decode cX13_fitOf 77 = .ok (.goto 4, 3) := by decide +kernel
theorem dX13_fitOf_80 : decode cX13_fitOf 80 = .ok (.iconst 0, 1) := by decide +kernel
theorem dX13_fitOf_81 : decode cX13_fitOf 81 = .ok (.istore 4, 2) := by decide +kernel
theorem dX13_fitOf_83 : decode cX13_fitOf 83 = .ok (.iinc 5 1, 3) := by decide +kernel
theorem dX13_fitOf_86 : decode cX13_fitOf 86 = .ok (.goto (-62), 3) := by decide +kernel
theorem dX13_fitOf_89 : decode cX13_fitOf 89 = .ok (.iload_n 2, 1) := by decide +kernel
theorem dX13_fitOf_90 : decode cX13_fitOf 90 = .ok (.iload 4, 2) := by decide +kernel
theorem dX13_fitOf_92 : decode cX13_fitOf 92 = .ok (.ifCond .eq 9, 3) := by decide +kernel
theorem dX13_fitOf_95 : decode cX13_fitOf 95 = .ok (.iconst 1, 1) := by decide +kernel
theorem dX13_fitOf_96 : decode cX13_fitOf 96 = .ok (.iload_n 3, 1) := by decide +kernel
theorem dX13_fitOf_97 : decode cX13_fitOf 97 = .ok (.ishl, 1) := by decide +kernel
theorem dX13_fitOf_98 : decode cX13_fitOf 98 = .ok (.goto 4, 3) := by decide +kernel
theorem dX13_fitOf_101 : decode cX13_fitOf 101 = .ok (.iconst 0, 1) := by decide +kernel
theorem dX13_fitOf_102 : decode cX13_fitOf 102 = .ok (.ior, 1) := by decide +kernel
theorem dX13_fitOf_103 : decode cX13_fitOf 103 = .ok (.istore_n 2, 1) := by decide +kernel
theorem dX13_fitOf_104 : decode cX13_fitOf 104 = .ok (.iinc 3 1, 3) := by decide +kernel
theorem dX13_fitOf_107 : decode cX13_fitOf 107 = .ok (.goto (-99), 3) := by decide +kernel
theorem dX13_fitOf_110 : decode cX13_fitOf 110 = .ok (.iload_n 2, 1) := by decide +kernel
theorem dX13_fitOf_111 : decode cX13_fitOf 111 = .ok (.ireturn, 1) := by decide +kernel
set_option maxRecDepth 20000 in
theorem ggX13_fitOf_X13_findVerdicts : GoodIn wsX13_fitOf wsX13_findVerdicts := goodIn_r _ [8, 9, 10, 11, 2, 12, 13, 14, 15, 16, 17, 18, 19, 7, 20, 21, 22, 23, 24, 25, 26, 27, 28, 29, 30, 31, 32, 33, 34, 35, 36, 37, 38, 39, 40, 41, 42, 43, 44, 45, 46, 47, 48, 49, 50, 51, 52, 53, 54, 55, 56, 57, 58, 59, 60, 61, 62, 63, 64, 65, 66, 67, 68, 69, 70, 71, 72, 73, 74, 75, 76, 77, 78, 79, 80, 81, 82, 83, 84, 85, 86, 87, 88, 89, 90, 91, 92, 93, 104, 105, 106, 107, 108, 109, 110, 111, 112, 113, 114, 115, 116, 117, 118, 119, 120, 121, 122, 123, 124, 125, 126, 127, 128, 129, 130, 131, 132, 133, 134, 135, 136, 137, 138, 139, 140, 141, 142, 143, 144, 145, 146, 147, 148, 149, 150, 151, 152, 153, 154, 155, 156, 157, 158, 159, 160, 161, 162, 163, 164, 165, 166, 167, 168, 169, 170, 171, 172, 173, 174, 175, 176] rfl (by decide +kernel)
set_option maxRecDepth 20000 in
theorem gX13_fitOf_X13_findVerdicts : GoodIn wsX13_fitOf (wsV RX13 505 RX13 yX13_findVerdicts wsX13_findVerdicts) := goodIn_app (goodIn_of _ (by decide +kernel)) ggX13_fitOf_X13_findVerdicts
set_option maxRecDepth 20000 in
theorem ggX13_fitOf_X13_isPair : GoodIn wsX13_fitOf wsX13_isPair := goodIn_r _ [27, 16, 104, 105, 106, 107, 108, 109, 110, 111, 112, 113, 114, 115, 116, 117, 118, 119, 120, 121, 122, 123, 124, 125, 126, 127, 128, 129, 130, 131, 132, 133, 134, 135, 136, 137, 138, 139, 140, 141, 142, 143, 144, 145, 146, 147, 148, 149, 150, 151, 152, 153, 154, 155, 156, 157, 158, 159, 160, 161, 162, 163, 164, 165, 166, 167, 168, 169, 170, 171, 172, 173, 174, 175, 176] rfl (by decide +kernel)
set_option maxRecDepth 20000 in
theorem gX13_fitOf_X13_isPair : GoodIn wsX13_fitOf (wsV RX13 502 RX13 yX13_isPair wsX13_isPair) := goodIn_app (goodIn_of _ (by decide +kernel)) ggX13_fitOf_X13_isPair
set_option maxHeartbeats 4000000 in
set_option maxRecDepth 100000 in
theorem K_X13_fitOf (l : Launch) (D : va_G) (m0 : Nat) (m_stop : Nat) (m_tape : Nat) (m_rule : Nat) (m_readRule : Nat) (m_teeth : Nat) (m_readTeeth : Nat) (m_sway : Nat) (m_readSway : Nat) (m_isTold : Nat) (m_markKind : Nat) (m_markValue : Nat) (m_marks : Nat) (m_pile : Nat) (m_height : Nat) (m_leftPass : Nat) (m_leftTurn : Nat) (m_leftTooth : Nat) (m_leftX : Nat) (m_kept : Nat) (m_keptWear : Nat) (m_now : Nat) (m_passed : Nat) (m_planTime : Nat) (m_planMany : Nat) (m_planned : Nat) (m_isQuiet : Nat) (m_keptTeeth : Nat) (m_jobRing : Nat) (m_jobSpeed : Nat) (m_jobFeed : Nat) (m_jobTurns : Nat) (m_orderRow : Nat) (m_bestRow : Nat) (m_orderTold : Nat) (m_offerRing : Nat) (m_offerSpeed : Nat) (m_offerFeed : Nat) (m_offerTurns : Nat) (m_heardOffer : Nat) (m_heardVerdict : Nat) (m_heardAt : Nat) (m_rightOf : Nat) (m_rightVerdict : Nat) (m_rightAt : Nat) (m_verdictOf : Nat) (m_sound : Nat) (m_readSound : Nat) (cI : ClassId) (a : Int32) (sz : Nat) : Ki l yX13_fitOf wsX13_fitOf 3 84 0 0 D [.ref m0, .int a] [(m0, .inr (12, [.ref m_stop, .ref m_tape, .int 0, .int 0, .int 0, .int 0, .int 0, .int 0, .int 0, .int (-1), .ref m_rule, .ref m_readRule, .ref m_teeth, .ref m_readTeeth, .ref m_sway, .ref m_readSway, .ref m_isTold, .ref m_markKind, .ref m_markValue, .ref m_marks, .int 5, .int 0, .ref m_pile, .ref m_height, .ref m_leftPass, .ref m_leftTurn, .ref m_leftTooth, .ref m_leftX, .int 0, .int 0, .ref m_kept, .ref m_keptWear, .int 0, .ref m_now, .ref m_passed, .int 0, .int 0, .int 0, .ref m_planTime, .ref m_planMany, .ref m_planned, .ref m_isQuiet, .int 0, .int 0, .ref m_keptTeeth, .int 0, .int 0, .ref m_jobRing, .ref m_jobSpeed, .ref m_jobFeed, .ref m_jobTurns, .ref m_orderRow, .ref m_bestRow, .int 0, .ref m_orderTold, .int 0, .int 0, .int 0, .int 0, .ref m_offerRing, .ref m_offerSpeed, .ref m_offerFeed, .ref m_offerTurns, .ref m_heardOffer, .ref m_heardVerdict, .ref m_heardAt, .ref m_rightOf, .ref m_rightVerdict, .ref m_rightAt, .ref m_verdictOf, .ref m_sound, .ref m_readSound, .int 0])), (m_kept, .inl (cI, 672, .inl (fun _ => 0))), (m_height, .inl (cI, 96, .inl (fun _ => 1000))), (m_keptWear, .inl (cI, 7, .inl (fun _ => 0))), (m_rule, .inl (cI, 12, .inl gz_untold))] [(cI, .int)] sz (fun (r : Int32) (u : (Nat → Int32) × (Nat → Int32) × (Nat → Int32) × Int32) => r = 1) (fun (u : (Nat → Int32) × (Nat → Int32) × (Nat → Int32) × Int32) => [(m0, .inr (12, [.ref m_stop, .ref m_tape, .int 0, .int 0, .int 0, .int 0, .int 0, .int 0, .int 0, .int (-1), .ref m_rule, .ref m_readRule, .ref m_teeth, .ref m_readTeeth, .ref m_sway, .ref m_readSway, .ref m_isTold, .ref m_markKind, .ref m_markValue, .ref m_marks, .int 5, .int 0, .ref m_pile, .ref m_height, .ref m_leftPass, .ref m_leftTurn, .ref m_leftTooth, .ref m_leftX, .int u.2.2.2, .int 0, .ref m_kept, .ref m_keptWear, .int 0, .ref m_now, .ref m_passed, .int 0, .int 0, .int 0, .ref m_planTime, .ref m_planMany, .ref m_planned, .ref m_isQuiet, .int 0, .int 0, .ref m_keptTeeth, .int 0, .int 0, .ref m_jobRing, .ref m_jobSpeed, .ref m_jobFeed, .ref m_jobTurns, .ref m_orderRow, .ref m_bestRow, .int 0, .ref m_orderTold, .int 0, .int 0, .int 0, .int 0, .ref m_offerRing, .ref m_offerSpeed, .ref m_offerFeed, .ref m_offerTurns, .ref m_heardOffer, .ref m_heardVerdict, .ref m_heardAt, .ref m_rightOf, .ref m_rightVerdict, .ref m_rightAt, .ref m_verdictOf, .ref m_sound, .ref m_readSound, .int 0])), (m_kept, .inl (cI, 672, .inl u.1)), (m_height, .inl (cI, 96, .inl u.2.1)), (m_keptWear, .inl (cI, 7, .inl u.2.2.1)), (m_rule, .inl (cI, 12, .inl gz_untold))]) (fun (_ : (Nat → Int32) × (Nat → Int32) × (Nat → Int32) × Int32) => [(cI, .int)]) := by
  unfold Ki
  refine g_ofW (cc := cX13_fitOf) (lv := [(0, .ref m0), (1, .int a)]) (by decide) rfl (Nat.le_of_ble_eq_true rfl) rfl ?_
  intro p e s m args below meth c A Q hA hQ F hr hnm
  have hts := F.2.2.2.2.1
  have w_0 : (Cond.fieldLink RX13 341 "QuietCutModel" "heards" "I").before args s = true := hts _ (List.mem_of_getElem? (i := 1) rfl)
  have i_X13 : ∀ w ∈ u_ws RX13 TX13 73, w ∈ wsX13_fitOf := fun _ h => List.mem_cons_of_mem _ (List.mem_append_right _ h)
  refine g_aload_n F 0 dX13_fitOf_0 rfl rfl ?_
  refine g_callVv (k := 0) (n := 0) (b := m0) (As := []) (st := []) (wc := [(m0, .inr (12, [.ref m_stop, .ref m_tape, .int 0, .int 0, .int 0, .int 0, .int 0, .int 0, .int 0, .int (-1), .ref m_rule, .ref m_readRule, .ref m_teeth, .ref m_readTeeth, .ref m_sway, .ref m_readSway, .ref m_isTold, .ref m_markKind, .ref m_markValue, .ref m_marks, .int 5, .int 0, .ref m_pile, .ref m_height, .ref m_leftPass, .ref m_leftTurn, .ref m_leftTooth, .ref m_leftX, .int 0, .int 0, .ref m_kept, .ref m_keptWear, .int 0, .ref m_now, .ref m_passed, .int 0, .int 0, .int 0, .ref m_planTime, .ref m_planMany, .ref m_planned, .ref m_isQuiet, .int 0, .int 0, .ref m_keptTeeth, .int 0, .int 0, .ref m_jobRing, .ref m_jobSpeed, .ref m_jobFeed, .ref m_jobTurns, .ref m_orderRow, .ref m_bestRow, .int 0, .ref m_orderTold, .int 0, .int 0, .int 0, .int 0, .ref m_offerRing, .ref m_offerSpeed, .ref m_offerFeed, .ref m_offerTurns, .ref m_heardOffer, .ref m_heardVerdict, .ref m_heardAt, .ref m_rightOf, .ref m_rightVerdict, .ref m_rightAt, .ref m_verdictOf, .ref m_sound, .ref m_readSound, .int 0])), (m_kept, .inl (cI, 672, .inl (fun _ => 0))), (m_height, .inl (cI, 96, .inl (fun _ => 1000))), (m_keptWear, .inl (cI, 7, .inl (fun _ => 0)))]) (wr := [(m_rule, .inl (cI, 12, .inl gz_untold))]) F [0, 1, 2, 3] [4] [0] rfl rfl (by decide) rfl (by decide) (by decide) rfl (fun sz => K_X13_findVerdicts l D m0 m_stop m_tape m_rule m_readRule m_teeth m_readTeeth m_sway m_readSway m_isTold m_markKind m_markValue m_marks m_pile m_height m_leftPass m_leftTurn m_leftTooth m_leftX m_kept m_keptWear m_now m_passed m_planTime m_planMany m_planned m_isQuiet m_keptTeeth m_jobRing m_jobSpeed m_jobFeed m_jobTurns m_orderRow m_bestRow m_orderTold m_offerRing m_offerSpeed m_offerFeed m_offerTurns m_heardOffer m_heardVerdict m_heardAt m_rightOf m_rightVerdict m_rightAt m_verdictOf m_sound m_readSound cI  sz) (cwV 0 hts gX13_fitOf_X13_findVerdicts rfl rfl rfl (by decide +kernel) ⟨Nat.le_of_ble_eq_true rfl, Nat.le_of_ble_eq_true rfl⟩) rfl 0 rfl rfl (Nat.le_of_ble_eq_true rfl) ⟨Nat.le_of_ble_eq_true rfl, Nat.le_of_ble_eq_true rfl⟩ dX13_fitOf_1 (fun u_0 hw_2 => ?_)
  obtain ⟨g1_3, g2_3, g3_3, w_3⟩ := u_0
  show gG p l e (gR 3 0 0 84) s m args below meth c D A 6 Q 0 0 [(m_rule, .inl (cI, 12, .inl gz_untold)), (m0, .inr (12, [.ref m_stop, .ref m_tape, .int 0, .int 0, .int 0, .int 0, .int 0, .int 0, .int 0, .int (-1), .ref m_rule, .ref m_readRule, .ref m_teeth, .ref m_readTeeth, .ref m_sway, .ref m_readSway, .ref m_isTold, .ref m_markKind, .ref m_markValue, .ref m_marks, .int 5, .int 0, .ref m_pile, .ref m_height, .ref m_leftPass, .ref m_leftTurn, .ref m_leftTooth, .ref m_leftX, .int w_3, .int 0, .ref m_kept, .ref m_keptWear, .int 0, .ref m_now, .ref m_passed, .int 0, .int 0, .int 0, .ref m_planTime, .ref m_planMany, .ref m_planned, .ref m_isQuiet, .int 0, .int 0, .ref m_keptTeeth, .int 0, .int 0, .ref m_jobRing, .ref m_jobSpeed, .ref m_jobFeed, .ref m_jobTurns, .ref m_orderRow, .ref m_bestRow, .int 0, .ref m_orderTold, .int 0, .int 0, .int 0, .int 0, .ref m_offerRing, .ref m_offerSpeed, .ref m_offerFeed, .ref m_offerTurns, .ref m_heardOffer, .ref m_heardVerdict, .ref m_heardAt, .ref m_rightOf, .ref m_rightVerdict, .ref m_rightAt, .ref m_verdictOf, .ref m_sound, .ref m_readSound, .int 0])), (m_kept, .inl (cI, 672, .inl g1_3)), (m_height, .inl (cI, 96, .inl g2_3)), (m_keptWear, .inl (cI, 7, .inl g3_3))] [(cI, .int)] [(0, .ref m0), (1, .int a)] 4 []
  refine g_iconst F 0 dX13_fitOf_4 (by decide) ?_
  refine g_istore_n F [(2, .int 0), (0, .ref m0), (1, .int a)] dX13_fitOf_5 rfl (by decide) rfl ?_
  refine g_iconst F 0 dX13_fitOf_6 (by decide) ?_
  refine g_istore_n F [(3, .int 0), (2, .int 0), (0, .ref m0), (1, .int a)] dX13_fitOf_7 rfl (by decide) rfl ?_
  refine g_iload_n F 0 dX13_fitOf_8 rfl rfl ?_
  refine g_bipush F 16 dX13_fitOf_9 (by decide) ?_
  refine g_icmp_ge F 110 dX13_fitOf_11 (by decide) (fun h9 => absurd h9 (by decide)) (fun c_11 => ?_)
  refine g_aload_n F 2 dX13_fitOf_14 rfl rfl ?_
  refine g_iload_n F 0 dX13_fitOf_15 rfl rfl ?_
  refine g_callVi (k := 0) (n := 0) (b := m0) (As := [.int 0]) (st := []) (wc := [(m0, .inr (12, [.ref m_stop, .ref m_tape, .int 0, .int 0, .int 0, .int 0, .int 0, .int 0, .int 0, .int (-1), .ref m_rule, .ref m_readRule, .ref m_teeth, .ref m_readTeeth, .ref m_sway, .ref m_readSway, .ref m_isTold, .ref m_markKind, .ref m_markValue, .ref m_marks, .int 5, .int 0, .ref m_pile, .ref m_height, .ref m_leftPass, .ref m_leftTurn, .ref m_leftTooth, .ref m_leftX, .int w_3, .int 0, .ref m_kept, .ref m_keptWear, .int 0, .ref m_now, .ref m_passed, .int 0, .int 0, .int 0, .ref m_planTime, .ref m_planMany, .ref m_planned, .ref m_isQuiet, .int 0, .int 0, .ref m_keptTeeth, .int 0, .int 0, .ref m_jobRing, .ref m_jobSpeed, .ref m_jobFeed, .ref m_jobTurns, .ref m_orderRow, .ref m_bestRow, .int 0, .ref m_orderTold, .int 0, .int 0, .int 0, .int 0, .ref m_offerRing, .ref m_offerSpeed, .ref m_offerFeed, .ref m_offerTurns, .ref m_heardOffer, .ref m_heardVerdict, .ref m_heardAt, .ref m_rightOf, .ref m_rightVerdict, .ref m_rightAt, .ref m_verdictOf, .ref m_sound, .ref m_readSound, .int 0])), (m_rule, .inl (cI, 12, .inl gz_untold))]) (wr := [(m_kept, .inl (cI, 672, .inl g1_3)), (m_height, .inl (cI, 96, .inl g2_3)), (m_keptWear, .inl (cI, 7, .inl g3_3))]) F [1, 0] [2, 3, 4] [0] rfl rfl (by decide) rfl (by decide) (by decide) rfl (fun sz => K_X13_isPair0 l D m0 m_stop m_tape 0 0 0 0 0 0 0 (-1) m_rule m_readRule m_teeth m_readTeeth m_sway m_readSway m_isTold m_markKind m_markValue m_marks 5 0 m_pile m_height m_leftPass m_leftTurn m_leftTooth m_leftX w_3 0 m_kept m_keptWear 0 m_now m_passed 0 0 0 m_planTime m_planMany m_planned m_isQuiet 0 0 m_keptTeeth 0 0 m_jobRing m_jobSpeed m_jobFeed m_jobTurns m_orderRow m_bestRow 0 m_orderTold 0 0 0 0 m_offerRing m_offerSpeed m_offerFeed m_offerTurns m_heardOffer m_heardVerdict m_heardAt m_rightOf m_rightVerdict m_rightAt m_verdictOf m_sound m_readSound 0 cI  sz) (cwV 1 hts gX13_fitOf_X13_isPair rfl rfl rfl (by decide +kernel) ⟨Nat.le_of_ble_eq_true rfl, Nat.le_of_ble_eq_true rfl⟩) rfl 0 rfl rfl (Nat.le_of_ble_eq_true rfl) ⟨Nat.le_of_ble_eq_true rfl, Nat.le_of_ble_eq_true rfl⟩ dX13_fitOf_16 (fun r_6 _ hw_7 => ?_)
  have hw_7 : r_6 = 1 := hw_7
  have e_r_6 := hw_7
  show gG p l e (gR 3 0 0 84) s m args below meth c D A 6 Q 0 0 [(m_kept, .inl (cI, 672, .inl g1_3)), (m_height, .inl (cI, 96, .inl g2_3)), (m_keptWear, .inl (cI, 7, .inl g3_3)), (m0, .inr (12, [.ref m_stop, .ref m_tape, .int 0, .int 0, .int 0, .int 0, .int 0, .int 0, .int 0, .int (-1), .ref m_rule, .ref m_readRule, .ref m_teeth, .ref m_readTeeth, .ref m_sway, .ref m_readSway, .ref m_isTold, .ref m_markKind, .ref m_markValue, .ref m_marks, .int 5, .int 0, .ref m_pile, .ref m_height, .ref m_leftPass, .ref m_leftTurn, .ref m_leftTooth, .ref m_leftX, .int w_3, .int 0, .ref m_kept, .ref m_keptWear, .int 0, .ref m_now, .ref m_passed, .int 0, .int 0, .int 0, .ref m_planTime, .ref m_planMany, .ref m_planned, .ref m_isQuiet, .int 0, .int 0, .ref m_keptTeeth, .int 0, .int 0, .ref m_jobRing, .ref m_jobSpeed, .ref m_jobFeed, .ref m_jobTurns, .ref m_orderRow, .ref m_bestRow, .int 0, .ref m_orderTold, .int 0, .int 0, .int 0, .int 0, .ref m_offerRing, .ref m_offerSpeed, .ref m_offerFeed, .ref m_offerTurns, .ref m_heardOffer, .ref m_heardVerdict, .ref m_heardAt, .ref m_rightOf, .ref m_rightVerdict, .ref m_rightAt, .ref m_verdictOf, .ref m_sound, .ref m_readSound, .int 0])), (m_rule, .inl (cI, 12, .inl gz_untold))] [(cI, .int)] [(3, .int 0), (2, .int 0), (0, .ref m0), (1, .int a)] 19 [.int r_6]
  refine g_fold 1 e_r_6 ?_
  refine g_istore F [(4, .int 1), (3, .int 0), (2, .int 0), (0, .ref m0), (1, .int a)] dX13_fitOf_19 (by decide) rfl ?_
  refine g_iconst F 0 dX13_fitOf_21 (by decide) ?_
  refine g_istore F [(5, .int 0), (4, .int 1), (3, .int 0), (2, .int 0), (0, .ref m0), (1, .int a)] dX13_fitOf_22 (by decide) rfl ?_
  refine g_iload F 0 dX13_fitOf_24 rfl ?_
  refine g_aload_n F 4 dX13_fitOf_26 rfl rfl ?_
  refine g_get (C := RX13) (T := TX13) (N := 73) (v := .int 0) F i_X13 3 rfl rfl 56 (by decide) w_0 rfl rfl dX13_fitOf_27 ?_
  refine g_icmp_ge F 89 dX13_fitOf_30 (by decide) (fun c_30 => ?_) (fun h9 => absurd (by decide) h9) 
  refine g_iload_n F 3 dX13_fitOf_89 rfl rfl ?_
  refine g_iload F 1 dX13_fitOf_90 rfl ?_
  refine g_if_eq F 101 dX13_fitOf_92 (by decide) (fun h9 => absurd h9 (by decide)) (fun c_92 => ?_)
  refine g_iconst F 1 dX13_fitOf_95 (by decide) ?_
  refine g_iload_n F 2 dX13_fitOf_96 rfl rfl ?_
  refine g_ishl F dX13_fitOf_97 ?_
  refine g_fold 1 (by decide) ?_
  refine g_goto F 102 dX13_fitOf_98 (by decide) ?_
  refine g_ior F dX13_fitOf_102 ?_
  refine g_fold 1 (by decide) ?_
  refine g_istore_n F [(2, .int 1), (5, .int 0), (4, .int 1), (3, .int 0), (0, .ref m0), (1, .int a)] dX13_fitOf_103 rfl (by decide) rfl ?_
  refine g_iinc F (j := 3) 1 [(3, .int 1), (2, .int 1), (5, .int 0), (4, .int 1), (0, .ref m0), (1, .int a)] dX13_fitOf_104 rfl (by decide) (by decide) rfl ?_
  refine g_goto F 8 dX13_fitOf_107 (by decide) ?_
  refine g_iload_n F 0 dX13_fitOf_8 rfl rfl ?_
  refine g_bipush F 16 dX13_fitOf_9 (by decide) ?_
  refine g_icmp_ge F 110 dX13_fitOf_11 (by decide) (fun h9 => absurd h9 (by decide)) (fun c_11 => ?_)
  refine g_aload_n F 4 dX13_fitOf_14 rfl rfl ?_
  refine g_iload_n F 0 dX13_fitOf_15 rfl rfl ?_
  refine g_callVi (k := 0) (n := 0) (b := m0) (As := [.int 1]) (st := []) (wc := [(m0, .inr (12, [.ref m_stop, .ref m_tape, .int 0, .int 0, .int 0, .int 0, .int 0, .int 0, .int 0, .int (-1), .ref m_rule, .ref m_readRule, .ref m_teeth, .ref m_readTeeth, .ref m_sway, .ref m_readSway, .ref m_isTold, .ref m_markKind, .ref m_markValue, .ref m_marks, .int 5, .int 0, .ref m_pile, .ref m_height, .ref m_leftPass, .ref m_leftTurn, .ref m_leftTooth, .ref m_leftX, .int w_3, .int 0, .ref m_kept, .ref m_keptWear, .int 0, .ref m_now, .ref m_passed, .int 0, .int 0, .int 0, .ref m_planTime, .ref m_planMany, .ref m_planned, .ref m_isQuiet, .int 0, .int 0, .ref m_keptTeeth, .int 0, .int 0, .ref m_jobRing, .ref m_jobSpeed, .ref m_jobFeed, .ref m_jobTurns, .ref m_orderRow, .ref m_bestRow, .int 0, .ref m_orderTold, .int 0, .int 0, .int 0, .int 0, .ref m_offerRing, .ref m_offerSpeed, .ref m_offerFeed, .ref m_offerTurns, .ref m_heardOffer, .ref m_heardVerdict, .ref m_heardAt, .ref m_rightOf, .ref m_rightVerdict, .ref m_rightAt, .ref m_verdictOf, .ref m_sound, .ref m_readSound, .int 0])), (m_rule, .inl (cI, 12, .inl gz_untold))]) (wr := [(m_kept, .inl (cI, 672, .inl g1_3)), (m_height, .inl (cI, 96, .inl g2_3)), (m_keptWear, .inl (cI, 7, .inl g3_3))]) F [3, 4] [0, 1, 2] [0] rfl rfl (by decide) rfl (by decide) (by decide) rfl (fun sz => K_X13_isPair1 l D m0 m_stop m_tape 0 0 0 0 0 0 0 (-1) m_rule m_readRule m_teeth m_readTeeth m_sway m_readSway m_isTold m_markKind m_markValue m_marks 5 0 m_pile m_height m_leftPass m_leftTurn m_leftTooth m_leftX w_3 0 m_kept m_keptWear 0 m_now m_passed 0 0 0 m_planTime m_planMany m_planned m_isQuiet 0 0 m_keptTeeth 0 0 m_jobRing m_jobSpeed m_jobFeed m_jobTurns m_orderRow m_bestRow 0 m_orderTold 0 0 0 0 m_offerRing m_offerSpeed m_offerFeed m_offerTurns m_heardOffer m_heardVerdict m_heardAt m_rightOf m_rightVerdict m_rightAt m_verdictOf m_sound m_readSound 0 cI  sz) (cwV 1 hts gX13_fitOf_X13_isPair rfl rfl rfl (by decide +kernel) ⟨Nat.le_of_ble_eq_true rfl, Nat.le_of_ble_eq_true rfl⟩) rfl 0 rfl rfl (Nat.le_of_ble_eq_true rfl) ⟨Nat.le_of_ble_eq_true rfl, Nat.le_of_ble_eq_true rfl⟩ dX13_fitOf_16 (fun r_11 _ hw_12 => ?_)
  have hw_12 : r_11 = 0 := hw_12
  have e_r_11 := hw_12
  show gG p l e (gR 3 0 0 84) s m args below meth c D A 6 Q 0 0 [(m_kept, .inl (cI, 672, .inl g1_3)), (m_height, .inl (cI, 96, .inl g2_3)), (m_keptWear, .inl (cI, 7, .inl g3_3)), (m0, .inr (12, [.ref m_stop, .ref m_tape, .int 0, .int 0, .int 0, .int 0, .int 0, .int 0, .int 0, .int (-1), .ref m_rule, .ref m_readRule, .ref m_teeth, .ref m_readTeeth, .ref m_sway, .ref m_readSway, .ref m_isTold, .ref m_markKind, .ref m_markValue, .ref m_marks, .int 5, .int 0, .ref m_pile, .ref m_height, .ref m_leftPass, .ref m_leftTurn, .ref m_leftTooth, .ref m_leftX, .int w_3, .int 0, .ref m_kept, .ref m_keptWear, .int 0, .ref m_now, .ref m_passed, .int 0, .int 0, .int 0, .ref m_planTime, .ref m_planMany, .ref m_planned, .ref m_isQuiet, .int 0, .int 0, .ref m_keptTeeth, .int 0, .int 0, .ref m_jobRing, .ref m_jobSpeed, .ref m_jobFeed, .ref m_jobTurns, .ref m_orderRow, .ref m_bestRow, .int 0, .ref m_orderTold, .int 0, .int 0, .int 0, .int 0, .ref m_offerRing, .ref m_offerSpeed, .ref m_offerFeed, .ref m_offerTurns, .ref m_heardOffer, .ref m_heardVerdict, .ref m_heardAt, .ref m_rightOf, .ref m_rightVerdict, .ref m_rightAt, .ref m_verdictOf, .ref m_sound, .ref m_readSound, .int 0])), (m_rule, .inl (cI, 12, .inl gz_untold))] [(cI, .int)] [(3, .int 1), (2, .int 1), (5, .int 0), (4, .int 1), (0, .ref m0), (1, .int a)] 19 [.int r_11]
  refine g_fold 0 e_r_11 ?_
  refine g_istore F [(4, .int 0), (3, .int 1), (2, .int 1), (5, .int 0), (0, .ref m0), (1, .int a)] dX13_fitOf_19 (by decide) rfl ?_
  refine g_iconst F 0 dX13_fitOf_21 (by decide) ?_
  refine g_istore F [(5, .int 0), (4, .int 0), (3, .int 1), (2, .int 1), (0, .ref m0), (1, .int a)] dX13_fitOf_22 (by decide) rfl ?_
  refine g_iload F 0 dX13_fitOf_24 rfl ?_
  refine g_aload_n F 4 dX13_fitOf_26 rfl rfl ?_
  refine g_get (C := RX13) (T := TX13) (N := 73) (v := .int 0) F i_X13 3 rfl rfl 56 (by decide) w_0 rfl rfl dX13_fitOf_27 ?_
  refine g_icmp_ge F 89 dX13_fitOf_30 (by decide) (fun c_30 => ?_) (fun h9 => absurd (by decide) h9) 
  refine g_iload_n F 3 dX13_fitOf_89 rfl rfl ?_
  refine g_iload F 1 dX13_fitOf_90 rfl ?_
  refine g_if_eq F 101 dX13_fitOf_92 (by decide) (fun c_92 => ?_) (fun h9 => absurd (by decide) h9) 
  refine g_iconst F 0 dX13_fitOf_101 (by decide) ?_
  refine g_ior F dX13_fitOf_102 ?_
  refine g_fold 1 (by decide) ?_
  refine g_istore_n F [(2, .int 1), (5, .int 0), (4, .int 0), (3, .int 1), (0, .ref m0), (1, .int a)] dX13_fitOf_103 rfl (by decide) rfl ?_
  refine g_iinc F (j := 3) 2 [(3, .int 2), (2, .int 1), (5, .int 0), (4, .int 0), (0, .ref m0), (1, .int a)] dX13_fitOf_104 rfl (by decide) (by decide) rfl ?_
  refine g_goto F 8 dX13_fitOf_107 (by decide) ?_
  refine g_iload_n F 0 dX13_fitOf_8 rfl rfl ?_
  refine g_bipush F 16 dX13_fitOf_9 (by decide) ?_
  refine g_icmp_ge F 110 dX13_fitOf_11 (by decide) (fun h9 => absurd h9 (by decide)) (fun c_11 => ?_)
  refine g_aload_n F 4 dX13_fitOf_14 rfl rfl ?_
  refine g_iload_n F 0 dX13_fitOf_15 rfl rfl ?_
  refine g_callVi (k := 0) (n := 0) (b := m0) (As := [.int 2]) (st := []) (wc := [(m0, .inr (12, [.ref m_stop, .ref m_tape, .int 0, .int 0, .int 0, .int 0, .int 0, .int 0, .int 0, .int (-1), .ref m_rule, .ref m_readRule, .ref m_teeth, .ref m_readTeeth, .ref m_sway, .ref m_readSway, .ref m_isTold, .ref m_markKind, .ref m_markValue, .ref m_marks, .int 5, .int 0, .ref m_pile, .ref m_height, .ref m_leftPass, .ref m_leftTurn, .ref m_leftTooth, .ref m_leftX, .int w_3, .int 0, .ref m_kept, .ref m_keptWear, .int 0, .ref m_now, .ref m_passed, .int 0, .int 0, .int 0, .ref m_planTime, .ref m_planMany, .ref m_planned, .ref m_isQuiet, .int 0, .int 0, .ref m_keptTeeth, .int 0, .int 0, .ref m_jobRing, .ref m_jobSpeed, .ref m_jobFeed, .ref m_jobTurns, .ref m_orderRow, .ref m_bestRow, .int 0, .ref m_orderTold, .int 0, .int 0, .int 0, .int 0, .ref m_offerRing, .ref m_offerSpeed, .ref m_offerFeed, .ref m_offerTurns, .ref m_heardOffer, .ref m_heardVerdict, .ref m_heardAt, .ref m_rightOf, .ref m_rightVerdict, .ref m_rightAt, .ref m_verdictOf, .ref m_sound, .ref m_readSound, .int 0])), (m_rule, .inl (cI, 12, .inl gz_untold))]) (wr := [(m_kept, .inl (cI, 672, .inl g1_3)), (m_height, .inl (cI, 96, .inl g2_3)), (m_keptWear, .inl (cI, 7, .inl g3_3))]) F [3, 4] [0, 1, 2] [0] rfl rfl (by decide) rfl (by decide) (by decide) rfl (fun sz => K_X13_isPair2 l D m0 m_stop m_tape 0 0 0 0 0 0 0 (-1) m_rule m_readRule m_teeth m_readTeeth m_sway m_readSway m_isTold m_markKind m_markValue m_marks 5 0 m_pile m_height m_leftPass m_leftTurn m_leftTooth m_leftX w_3 0 m_kept m_keptWear 0 m_now m_passed 0 0 0 m_planTime m_planMany m_planned m_isQuiet 0 0 m_keptTeeth 0 0 m_jobRing m_jobSpeed m_jobFeed m_jobTurns m_orderRow m_bestRow 0 m_orderTold 0 0 0 0 m_offerRing m_offerSpeed m_offerFeed m_offerTurns m_heardOffer m_heardVerdict m_heardAt m_rightOf m_rightVerdict m_rightAt m_verdictOf m_sound m_readSound 0 cI  sz) (cwV 1 hts gX13_fitOf_X13_isPair rfl rfl rfl (by decide +kernel) ⟨Nat.le_of_ble_eq_true rfl, Nat.le_of_ble_eq_true rfl⟩) rfl 0 rfl rfl (Nat.le_of_ble_eq_true rfl) ⟨Nat.le_of_ble_eq_true rfl, Nat.le_of_ble_eq_true rfl⟩ dX13_fitOf_16 (fun r_16 _ hw_17 => ?_)
  have hw_17 : r_16 = 0 := hw_17
  have e_r_16 := hw_17
  show gG p l e (gR 3 0 0 84) s m args below meth c D A 6 Q 0 0 [(m_kept, .inl (cI, 672, .inl g1_3)), (m_height, .inl (cI, 96, .inl g2_3)), (m_keptWear, .inl (cI, 7, .inl g3_3)), (m0, .inr (12, [.ref m_stop, .ref m_tape, .int 0, .int 0, .int 0, .int 0, .int 0, .int 0, .int 0, .int (-1), .ref m_rule, .ref m_readRule, .ref m_teeth, .ref m_readTeeth, .ref m_sway, .ref m_readSway, .ref m_isTold, .ref m_markKind, .ref m_markValue, .ref m_marks, .int 5, .int 0, .ref m_pile, .ref m_height, .ref m_leftPass, .ref m_leftTurn, .ref m_leftTooth, .ref m_leftX, .int w_3, .int 0, .ref m_kept, .ref m_keptWear, .int 0, .ref m_now, .ref m_passed, .int 0, .int 0, .int 0, .ref m_planTime, .ref m_planMany, .ref m_planned, .ref m_isQuiet, .int 0, .int 0, .ref m_keptTeeth, .int 0, .int 0, .ref m_jobRing, .ref m_jobSpeed, .ref m_jobFeed, .ref m_jobTurns, .ref m_orderRow, .ref m_bestRow, .int 0, .ref m_orderTold, .int 0, .int 0, .int 0, .int 0, .ref m_offerRing, .ref m_offerSpeed, .ref m_offerFeed, .ref m_offerTurns, .ref m_heardOffer, .ref m_heardVerdict, .ref m_heardAt, .ref m_rightOf, .ref m_rightVerdict, .ref m_rightAt, .ref m_verdictOf, .ref m_sound, .ref m_readSound, .int 0])), (m_rule, .inl (cI, 12, .inl gz_untold))] [(cI, .int)] [(3, .int 2), (2, .int 1), (5, .int 0), (4, .int 0), (0, .ref m0), (1, .int a)] 19 [.int r_16]
  refine g_fold 0 e_r_16 ?_
  refine g_istore F [(4, .int 0), (3, .int 2), (2, .int 1), (5, .int 0), (0, .ref m0), (1, .int a)] dX13_fitOf_19 (by decide) rfl ?_
  refine g_iconst F 0 dX13_fitOf_21 (by decide) ?_
  refine g_istore F [(5, .int 0), (4, .int 0), (3, .int 2), (2, .int 1), (0, .ref m0), (1, .int a)] dX13_fitOf_22 (by decide) rfl ?_
  refine g_iload F 0 dX13_fitOf_24 rfl ?_
  refine g_aload_n F 4 dX13_fitOf_26 rfl rfl ?_
  refine g_get (C := RX13) (T := TX13) (N := 73) (v := .int 0) F i_X13 3 rfl rfl 56 (by decide) w_0 rfl rfl dX13_fitOf_27 ?_
  refine g_icmp_ge F 89 dX13_fitOf_30 (by decide) (fun c_30 => ?_) (fun h9 => absurd (by decide) h9) 
  refine g_iload_n F 3 dX13_fitOf_89 rfl rfl ?_
  refine g_iload F 1 dX13_fitOf_90 rfl ?_
  refine g_if_eq F 101 dX13_fitOf_92 (by decide) (fun c_92 => ?_) (fun h9 => absurd (by decide) h9) 
  refine g_iconst F 0 dX13_fitOf_101 (by decide) ?_
  refine g_ior F dX13_fitOf_102 ?_
  refine g_fold 1 (by decide) ?_
  refine g_istore_n F [(2, .int 1), (5, .int 0), (4, .int 0), (3, .int 2), (0, .ref m0), (1, .int a)] dX13_fitOf_103 rfl (by decide) rfl ?_
  refine g_iinc F (j := 3) 3 [(3, .int 3), (2, .int 1), (5, .int 0), (4, .int 0), (0, .ref m0), (1, .int a)] dX13_fitOf_104 rfl (by decide) (by decide) rfl ?_
  refine g_goto F 8 dX13_fitOf_107 (by decide) ?_
  refine g_iload_n F 0 dX13_fitOf_8 rfl rfl ?_
  refine g_bipush F 16 dX13_fitOf_9 (by decide) ?_
  refine g_icmp_ge F 110 dX13_fitOf_11 (by decide) (fun h9 => absurd h9 (by decide)) (fun c_11 => ?_)
  refine g_aload_n F 4 dX13_fitOf_14 rfl rfl ?_
  refine g_iload_n F 0 dX13_fitOf_15 rfl rfl ?_
  refine g_callVi (k := 0) (n := 0) (b := m0) (As := [.int 3]) (st := []) (wc := [(m0, .inr (12, [.ref m_stop, .ref m_tape, .int 0, .int 0, .int 0, .int 0, .int 0, .int 0, .int 0, .int (-1), .ref m_rule, .ref m_readRule, .ref m_teeth, .ref m_readTeeth, .ref m_sway, .ref m_readSway, .ref m_isTold, .ref m_markKind, .ref m_markValue, .ref m_marks, .int 5, .int 0, .ref m_pile, .ref m_height, .ref m_leftPass, .ref m_leftTurn, .ref m_leftTooth, .ref m_leftX, .int w_3, .int 0, .ref m_kept, .ref m_keptWear, .int 0, .ref m_now, .ref m_passed, .int 0, .int 0, .int 0, .ref m_planTime, .ref m_planMany, .ref m_planned, .ref m_isQuiet, .int 0, .int 0, .ref m_keptTeeth, .int 0, .int 0, .ref m_jobRing, .ref m_jobSpeed, .ref m_jobFeed, .ref m_jobTurns, .ref m_orderRow, .ref m_bestRow, .int 0, .ref m_orderTold, .int 0, .int 0, .int 0, .int 0, .ref m_offerRing, .ref m_offerSpeed, .ref m_offerFeed, .ref m_offerTurns, .ref m_heardOffer, .ref m_heardVerdict, .ref m_heardAt, .ref m_rightOf, .ref m_rightVerdict, .ref m_rightAt, .ref m_verdictOf, .ref m_sound, .ref m_readSound, .int 0])), (m_rule, .inl (cI, 12, .inl gz_untold))]) (wr := [(m_kept, .inl (cI, 672, .inl g1_3)), (m_height, .inl (cI, 96, .inl g2_3)), (m_keptWear, .inl (cI, 7, .inl g3_3))]) F [3, 4] [0, 1, 2] [0] rfl rfl (by decide) rfl (by decide) (by decide) rfl (fun sz => K_X13_isPair3 l D m0 m_stop m_tape 0 0 0 0 0 0 0 (-1) m_rule m_readRule m_teeth m_readTeeth m_sway m_readSway m_isTold m_markKind m_markValue m_marks 5 0 m_pile m_height m_leftPass m_leftTurn m_leftTooth m_leftX w_3 0 m_kept m_keptWear 0 m_now m_passed 0 0 0 m_planTime m_planMany m_planned m_isQuiet 0 0 m_keptTeeth 0 0 m_jobRing m_jobSpeed m_jobFeed m_jobTurns m_orderRow m_bestRow 0 m_orderTold 0 0 0 0 m_offerRing m_offerSpeed m_offerFeed m_offerTurns m_heardOffer m_heardVerdict m_heardAt m_rightOf m_rightVerdict m_rightAt m_verdictOf m_sound m_readSound 0 cI  sz) (cwV 1 hts gX13_fitOf_X13_isPair rfl rfl rfl (by decide +kernel) ⟨Nat.le_of_ble_eq_true rfl, Nat.le_of_ble_eq_true rfl⟩) rfl 0 rfl rfl (Nat.le_of_ble_eq_true rfl) ⟨Nat.le_of_ble_eq_true rfl, Nat.le_of_ble_eq_true rfl⟩ dX13_fitOf_16 (fun r_21 _ hw_22 => ?_)
  have hw_22 : r_21 = 0 := hw_22
  have e_r_21 := hw_22
  show gG p l e (gR 3 0 0 84) s m args below meth c D A 6 Q 0 0 [(m_kept, .inl (cI, 672, .inl g1_3)), (m_height, .inl (cI, 96, .inl g2_3)), (m_keptWear, .inl (cI, 7, .inl g3_3)), (m0, .inr (12, [.ref m_stop, .ref m_tape, .int 0, .int 0, .int 0, .int 0, .int 0, .int 0, .int 0, .int (-1), .ref m_rule, .ref m_readRule, .ref m_teeth, .ref m_readTeeth, .ref m_sway, .ref m_readSway, .ref m_isTold, .ref m_markKind, .ref m_markValue, .ref m_marks, .int 5, .int 0, .ref m_pile, .ref m_height, .ref m_leftPass, .ref m_leftTurn, .ref m_leftTooth, .ref m_leftX, .int w_3, .int 0, .ref m_kept, .ref m_keptWear, .int 0, .ref m_now, .ref m_passed, .int 0, .int 0, .int 0, .ref m_planTime, .ref m_planMany, .ref m_planned, .ref m_isQuiet, .int 0, .int 0, .ref m_keptTeeth, .int 0, .int 0, .ref m_jobRing, .ref m_jobSpeed, .ref m_jobFeed, .ref m_jobTurns, .ref m_orderRow, .ref m_bestRow, .int 0, .ref m_orderTold, .int 0, .int 0, .int 0, .int 0, .ref m_offerRing, .ref m_offerSpeed, .ref m_offerFeed, .ref m_offerTurns, .ref m_heardOffer, .ref m_heardVerdict, .ref m_heardAt, .ref m_rightOf, .ref m_rightVerdict, .ref m_rightAt, .ref m_verdictOf, .ref m_sound, .ref m_readSound, .int 0])), (m_rule, .inl (cI, 12, .inl gz_untold))] [(cI, .int)] [(3, .int 3), (2, .int 1), (5, .int 0), (4, .int 0), (0, .ref m0), (1, .int a)] 19 [.int r_21]
  refine g_fold 0 e_r_21 ?_
  refine g_istore F [(4, .int 0), (3, .int 3), (2, .int 1), (5, .int 0), (0, .ref m0), (1, .int a)] dX13_fitOf_19 (by decide) rfl ?_
  refine g_iconst F 0 dX13_fitOf_21 (by decide) ?_
  refine g_istore F [(5, .int 0), (4, .int 0), (3, .int 3), (2, .int 1), (0, .ref m0), (1, .int a)] dX13_fitOf_22 (by decide) rfl ?_
  refine g_iload F 0 dX13_fitOf_24 rfl ?_
  refine g_aload_n F 4 dX13_fitOf_26 rfl rfl ?_
  refine g_get (C := RX13) (T := TX13) (N := 73) (v := .int 0) F i_X13 3 rfl rfl 56 (by decide) w_0 rfl rfl dX13_fitOf_27 ?_
  refine g_icmp_ge F 89 dX13_fitOf_30 (by decide) (fun c_30 => ?_) (fun h9 => absurd (by decide) h9) 
  refine g_iload_n F 3 dX13_fitOf_89 rfl rfl ?_
  refine g_iload F 1 dX13_fitOf_90 rfl ?_
  refine g_if_eq F 101 dX13_fitOf_92 (by decide) (fun c_92 => ?_) (fun h9 => absurd (by decide) h9) 
  refine g_iconst F 0 dX13_fitOf_101 (by decide) ?_
  refine g_ior F dX13_fitOf_102 ?_
  refine g_fold 1 (by decide) ?_
  refine g_istore_n F [(2, .int 1), (5, .int 0), (4, .int 0), (3, .int 3), (0, .ref m0), (1, .int a)] dX13_fitOf_103 rfl (by decide) rfl ?_
  refine g_iinc F (j := 3) 4 [(3, .int 4), (2, .int 1), (5, .int 0), (4, .int 0), (0, .ref m0), (1, .int a)] dX13_fitOf_104 rfl (by decide) (by decide) rfl ?_
  refine g_goto F 8 dX13_fitOf_107 (by decide) ?_
  refine g_iload_n F 0 dX13_fitOf_8 rfl rfl ?_
  refine g_bipush F 16 dX13_fitOf_9 (by decide) ?_
  refine g_icmp_ge F 110 dX13_fitOf_11 (by decide) (fun h9 => absurd h9 (by decide)) (fun c_11 => ?_)
  refine g_aload_n F 4 dX13_fitOf_14 rfl rfl ?_
  refine g_iload_n F 0 dX13_fitOf_15 rfl rfl ?_
  refine g_callVi (k := 0) (n := 0) (b := m0) (As := [.int 4]) (st := []) (wc := [(m0, .inr (12, [.ref m_stop, .ref m_tape, .int 0, .int 0, .int 0, .int 0, .int 0, .int 0, .int 0, .int (-1), .ref m_rule, .ref m_readRule, .ref m_teeth, .ref m_readTeeth, .ref m_sway, .ref m_readSway, .ref m_isTold, .ref m_markKind, .ref m_markValue, .ref m_marks, .int 5, .int 0, .ref m_pile, .ref m_height, .ref m_leftPass, .ref m_leftTurn, .ref m_leftTooth, .ref m_leftX, .int w_3, .int 0, .ref m_kept, .ref m_keptWear, .int 0, .ref m_now, .ref m_passed, .int 0, .int 0, .int 0, .ref m_planTime, .ref m_planMany, .ref m_planned, .ref m_isQuiet, .int 0, .int 0, .ref m_keptTeeth, .int 0, .int 0, .ref m_jobRing, .ref m_jobSpeed, .ref m_jobFeed, .ref m_jobTurns, .ref m_orderRow, .ref m_bestRow, .int 0, .ref m_orderTold, .int 0, .int 0, .int 0, .int 0, .ref m_offerRing, .ref m_offerSpeed, .ref m_offerFeed, .ref m_offerTurns, .ref m_heardOffer, .ref m_heardVerdict, .ref m_heardAt, .ref m_rightOf, .ref m_rightVerdict, .ref m_rightAt, .ref m_verdictOf, .ref m_sound, .ref m_readSound, .int 0])), (m_rule, .inl (cI, 12, .inl gz_untold))]) (wr := [(m_kept, .inl (cI, 672, .inl g1_3)), (m_height, .inl (cI, 96, .inl g2_3)), (m_keptWear, .inl (cI, 7, .inl g3_3))]) F [3, 4] [0, 1, 2] [0] rfl rfl (by decide) rfl (by decide) (by decide) rfl (fun sz => K_X13_isPair4 l D m0 m_stop m_tape 0 0 0 0 0 0 0 (-1) m_rule m_readRule m_teeth m_readTeeth m_sway m_readSway m_isTold m_markKind m_markValue m_marks 5 0 m_pile m_height m_leftPass m_leftTurn m_leftTooth m_leftX w_3 0 m_kept m_keptWear 0 m_now m_passed 0 0 0 m_planTime m_planMany m_planned m_isQuiet 0 0 m_keptTeeth 0 0 m_jobRing m_jobSpeed m_jobFeed m_jobTurns m_orderRow m_bestRow 0 m_orderTold 0 0 0 0 m_offerRing m_offerSpeed m_offerFeed m_offerTurns m_heardOffer m_heardVerdict m_heardAt m_rightOf m_rightVerdict m_rightAt m_verdictOf m_sound m_readSound 0 cI  sz) (cwV 1 hts gX13_fitOf_X13_isPair rfl rfl rfl (by decide +kernel) ⟨Nat.le_of_ble_eq_true rfl, Nat.le_of_ble_eq_true rfl⟩) rfl 0 rfl rfl (Nat.le_of_ble_eq_true rfl) ⟨Nat.le_of_ble_eq_true rfl, Nat.le_of_ble_eq_true rfl⟩ dX13_fitOf_16 (fun r_26 _ hw_27 => ?_)
  have hw_27 : r_26 = 0 := hw_27
  have e_r_26 := hw_27
  show gG p l e (gR 3 0 0 84) s m args below meth c D A 6 Q 0 0 [(m_kept, .inl (cI, 672, .inl g1_3)), (m_height, .inl (cI, 96, .inl g2_3)), (m_keptWear, .inl (cI, 7, .inl g3_3)), (m0, .inr (12, [.ref m_stop, .ref m_tape, .int 0, .int 0, .int 0, .int 0, .int 0, .int 0, .int 0, .int (-1), .ref m_rule, .ref m_readRule, .ref m_teeth, .ref m_readTeeth, .ref m_sway, .ref m_readSway, .ref m_isTold, .ref m_markKind, .ref m_markValue, .ref m_marks, .int 5, .int 0, .ref m_pile, .ref m_height, .ref m_leftPass, .ref m_leftTurn, .ref m_leftTooth, .ref m_leftX, .int w_3, .int 0, .ref m_kept, .ref m_keptWear, .int 0, .ref m_now, .ref m_passed, .int 0, .int 0, .int 0, .ref m_planTime, .ref m_planMany, .ref m_planned, .ref m_isQuiet, .int 0, .int 0, .ref m_keptTeeth, .int 0, .int 0, .ref m_jobRing, .ref m_jobSpeed, .ref m_jobFeed, .ref m_jobTurns, .ref m_orderRow, .ref m_bestRow, .int 0, .ref m_orderTold, .int 0, .int 0, .int 0, .int 0, .ref m_offerRing, .ref m_offerSpeed, .ref m_offerFeed, .ref m_offerTurns, .ref m_heardOffer, .ref m_heardVerdict, .ref m_heardAt, .ref m_rightOf, .ref m_rightVerdict, .ref m_rightAt, .ref m_verdictOf, .ref m_sound, .ref m_readSound, .int 0])), (m_rule, .inl (cI, 12, .inl gz_untold))] [(cI, .int)] [(3, .int 4), (2, .int 1), (5, .int 0), (4, .int 0), (0, .ref m0), (1, .int a)] 19 [.int r_26]
  refine g_fold 0 e_r_26 ?_
  refine g_istore F [(4, .int 0), (3, .int 4), (2, .int 1), (5, .int 0), (0, .ref m0), (1, .int a)] dX13_fitOf_19 (by decide) rfl ?_
  refine g_iconst F 0 dX13_fitOf_21 (by decide) ?_
  refine g_istore F [(5, .int 0), (4, .int 0), (3, .int 4), (2, .int 1), (0, .ref m0), (1, .int a)] dX13_fitOf_22 (by decide) rfl ?_
  refine g_iload F 0 dX13_fitOf_24 rfl ?_
  refine g_aload_n F 4 dX13_fitOf_26 rfl rfl ?_
  refine g_get (C := RX13) (T := TX13) (N := 73) (v := .int 0) F i_X13 3 rfl rfl 56 (by decide) w_0 rfl rfl dX13_fitOf_27 ?_
  refine g_icmp_ge F 89 dX13_fitOf_30 (by decide) (fun c_30 => ?_) (fun h9 => absurd (by decide) h9) 
  refine g_iload_n F 3 dX13_fitOf_89 rfl rfl ?_
  refine g_iload F 1 dX13_fitOf_90 rfl ?_
  refine g_if_eq F 101 dX13_fitOf_92 (by decide) (fun c_92 => ?_) (fun h9 => absurd (by decide) h9) 
  refine g_iconst F 0 dX13_fitOf_101 (by decide) ?_
  refine g_ior F dX13_fitOf_102 ?_
  refine g_fold 1 (by decide) ?_
  refine g_istore_n F [(2, .int 1), (5, .int 0), (4, .int 0), (3, .int 4), (0, .ref m0), (1, .int a)] dX13_fitOf_103 rfl (by decide) rfl ?_
  refine g_iinc F (j := 3) 5 [(3, .int 5), (2, .int 1), (5, .int 0), (4, .int 0), (0, .ref m0), (1, .int a)] dX13_fitOf_104 rfl (by decide) (by decide) rfl ?_
  refine g_goto F 8 dX13_fitOf_107 (by decide) ?_
  refine g_iload_n F 0 dX13_fitOf_8 rfl rfl ?_
  refine g_bipush F 16 dX13_fitOf_9 (by decide) ?_
  refine g_icmp_ge F 110 dX13_fitOf_11 (by decide) (fun h9 => absurd h9 (by decide)) (fun c_11 => ?_)
  refine g_aload_n F 4 dX13_fitOf_14 rfl rfl ?_
  refine g_iload_n F 0 dX13_fitOf_15 rfl rfl ?_
  refine g_callVi (k := 0) (n := 0) (b := m0) (As := [.int 5]) (st := []) (wc := [(m0, .inr (12, [.ref m_stop, .ref m_tape, .int 0, .int 0, .int 0, .int 0, .int 0, .int 0, .int 0, .int (-1), .ref m_rule, .ref m_readRule, .ref m_teeth, .ref m_readTeeth, .ref m_sway, .ref m_readSway, .ref m_isTold, .ref m_markKind, .ref m_markValue, .ref m_marks, .int 5, .int 0, .ref m_pile, .ref m_height, .ref m_leftPass, .ref m_leftTurn, .ref m_leftTooth, .ref m_leftX, .int w_3, .int 0, .ref m_kept, .ref m_keptWear, .int 0, .ref m_now, .ref m_passed, .int 0, .int 0, .int 0, .ref m_planTime, .ref m_planMany, .ref m_planned, .ref m_isQuiet, .int 0, .int 0, .ref m_keptTeeth, .int 0, .int 0, .ref m_jobRing, .ref m_jobSpeed, .ref m_jobFeed, .ref m_jobTurns, .ref m_orderRow, .ref m_bestRow, .int 0, .ref m_orderTold, .int 0, .int 0, .int 0, .int 0, .ref m_offerRing, .ref m_offerSpeed, .ref m_offerFeed, .ref m_offerTurns, .ref m_heardOffer, .ref m_heardVerdict, .ref m_heardAt, .ref m_rightOf, .ref m_rightVerdict, .ref m_rightAt, .ref m_verdictOf, .ref m_sound, .ref m_readSound, .int 0])), (m_rule, .inl (cI, 12, .inl gz_untold))]) (wr := [(m_kept, .inl (cI, 672, .inl g1_3)), (m_height, .inl (cI, 96, .inl g2_3)), (m_keptWear, .inl (cI, 7, .inl g3_3))]) F [3, 4] [0, 1, 2] [0] rfl rfl (by decide) rfl (by decide) (by decide) rfl (fun sz => K_X13_isPair5 l D m0 m_stop m_tape 0 0 0 0 0 0 0 (-1) m_rule m_readRule m_teeth m_readTeeth m_sway m_readSway m_isTold m_markKind m_markValue m_marks 5 0 m_pile m_height m_leftPass m_leftTurn m_leftTooth m_leftX w_3 0 m_kept m_keptWear 0 m_now m_passed 0 0 0 m_planTime m_planMany m_planned m_isQuiet 0 0 m_keptTeeth 0 0 m_jobRing m_jobSpeed m_jobFeed m_jobTurns m_orderRow m_bestRow 0 m_orderTold 0 0 0 0 m_offerRing m_offerSpeed m_offerFeed m_offerTurns m_heardOffer m_heardVerdict m_heardAt m_rightOf m_rightVerdict m_rightAt m_verdictOf m_sound m_readSound 0 cI  sz) (cwV 1 hts gX13_fitOf_X13_isPair rfl rfl rfl (by decide +kernel) ⟨Nat.le_of_ble_eq_true rfl, Nat.le_of_ble_eq_true rfl⟩) rfl 0 rfl rfl (Nat.le_of_ble_eq_true rfl) ⟨Nat.le_of_ble_eq_true rfl, Nat.le_of_ble_eq_true rfl⟩ dX13_fitOf_16 (fun r_31 _ hw_32 => ?_)
  have hw_32 : r_31 = 0 := hw_32
  have e_r_31 := hw_32
  show gG p l e (gR 3 0 0 84) s m args below meth c D A 6 Q 0 0 [(m_kept, .inl (cI, 672, .inl g1_3)), (m_height, .inl (cI, 96, .inl g2_3)), (m_keptWear, .inl (cI, 7, .inl g3_3)), (m0, .inr (12, [.ref m_stop, .ref m_tape, .int 0, .int 0, .int 0, .int 0, .int 0, .int 0, .int 0, .int (-1), .ref m_rule, .ref m_readRule, .ref m_teeth, .ref m_readTeeth, .ref m_sway, .ref m_readSway, .ref m_isTold, .ref m_markKind, .ref m_markValue, .ref m_marks, .int 5, .int 0, .ref m_pile, .ref m_height, .ref m_leftPass, .ref m_leftTurn, .ref m_leftTooth, .ref m_leftX, .int w_3, .int 0, .ref m_kept, .ref m_keptWear, .int 0, .ref m_now, .ref m_passed, .int 0, .int 0, .int 0, .ref m_planTime, .ref m_planMany, .ref m_planned, .ref m_isQuiet, .int 0, .int 0, .ref m_keptTeeth, .int 0, .int 0, .ref m_jobRing, .ref m_jobSpeed, .ref m_jobFeed, .ref m_jobTurns, .ref m_orderRow, .ref m_bestRow, .int 0, .ref m_orderTold, .int 0, .int 0, .int 0, .int 0, .ref m_offerRing, .ref m_offerSpeed, .ref m_offerFeed, .ref m_offerTurns, .ref m_heardOffer, .ref m_heardVerdict, .ref m_heardAt, .ref m_rightOf, .ref m_rightVerdict, .ref m_rightAt, .ref m_verdictOf, .ref m_sound, .ref m_readSound, .int 0])), (m_rule, .inl (cI, 12, .inl gz_untold))] [(cI, .int)] [(3, .int 5), (2, .int 1), (5, .int 0), (4, .int 0), (0, .ref m0), (1, .int a)] 19 [.int r_31]
  refine g_fold 0 e_r_31 ?_
  refine g_istore F [(4, .int 0), (3, .int 5), (2, .int 1), (5, .int 0), (0, .ref m0), (1, .int a)] dX13_fitOf_19 (by decide) rfl ?_
  refine g_iconst F 0 dX13_fitOf_21 (by decide) ?_
  refine g_istore F [(5, .int 0), (4, .int 0), (3, .int 5), (2, .int 1), (0, .ref m0), (1, .int a)] dX13_fitOf_22 (by decide) rfl ?_
  refine g_iload F 0 dX13_fitOf_24 rfl ?_
  refine g_aload_n F 4 dX13_fitOf_26 rfl rfl ?_
  refine g_get (C := RX13) (T := TX13) (N := 73) (v := .int 0) F i_X13 3 rfl rfl 56 (by decide) w_0 rfl rfl dX13_fitOf_27 ?_
  refine g_icmp_ge F 89 dX13_fitOf_30 (by decide) (fun c_30 => ?_) (fun h9 => absurd (by decide) h9) 
  refine g_iload_n F 3 dX13_fitOf_89 rfl rfl ?_
  refine g_iload F 1 dX13_fitOf_90 rfl ?_
  refine g_if_eq F 101 dX13_fitOf_92 (by decide) (fun c_92 => ?_) (fun h9 => absurd (by decide) h9) 
  refine g_iconst F 0 dX13_fitOf_101 (by decide) ?_
  refine g_ior F dX13_fitOf_102 ?_
  refine g_fold 1 (by decide) ?_
  refine g_istore_n F [(2, .int 1), (5, .int 0), (4, .int 0), (3, .int 5), (0, .ref m0), (1, .int a)] dX13_fitOf_103 rfl (by decide) rfl ?_
  refine g_iinc F (j := 3) 6 [(3, .int 6), (2, .int 1), (5, .int 0), (4, .int 0), (0, .ref m0), (1, .int a)] dX13_fitOf_104 rfl (by decide) (by decide) rfl ?_
  refine g_goto F 8 dX13_fitOf_107 (by decide) ?_
  refine g_iload_n F 0 dX13_fitOf_8 rfl rfl ?_
  refine g_bipush F 16 dX13_fitOf_9 (by decide) ?_
  refine g_icmp_ge F 110 dX13_fitOf_11 (by decide) (fun h9 => absurd h9 (by decide)) (fun c_11 => ?_)
  refine g_aload_n F 4 dX13_fitOf_14 rfl rfl ?_
  refine g_iload_n F 0 dX13_fitOf_15 rfl rfl ?_
  refine g_callVi (k := 0) (n := 0) (b := m0) (As := [.int 6]) (st := []) (wc := [(m0, .inr (12, [.ref m_stop, .ref m_tape, .int 0, .int 0, .int 0, .int 0, .int 0, .int 0, .int 0, .int (-1), .ref m_rule, .ref m_readRule, .ref m_teeth, .ref m_readTeeth, .ref m_sway, .ref m_readSway, .ref m_isTold, .ref m_markKind, .ref m_markValue, .ref m_marks, .int 5, .int 0, .ref m_pile, .ref m_height, .ref m_leftPass, .ref m_leftTurn, .ref m_leftTooth, .ref m_leftX, .int w_3, .int 0, .ref m_kept, .ref m_keptWear, .int 0, .ref m_now, .ref m_passed, .int 0, .int 0, .int 0, .ref m_planTime, .ref m_planMany, .ref m_planned, .ref m_isQuiet, .int 0, .int 0, .ref m_keptTeeth, .int 0, .int 0, .ref m_jobRing, .ref m_jobSpeed, .ref m_jobFeed, .ref m_jobTurns, .ref m_orderRow, .ref m_bestRow, .int 0, .ref m_orderTold, .int 0, .int 0, .int 0, .int 0, .ref m_offerRing, .ref m_offerSpeed, .ref m_offerFeed, .ref m_offerTurns, .ref m_heardOffer, .ref m_heardVerdict, .ref m_heardAt, .ref m_rightOf, .ref m_rightVerdict, .ref m_rightAt, .ref m_verdictOf, .ref m_sound, .ref m_readSound, .int 0])), (m_rule, .inl (cI, 12, .inl gz_untold))]) (wr := [(m_kept, .inl (cI, 672, .inl g1_3)), (m_height, .inl (cI, 96, .inl g2_3)), (m_keptWear, .inl (cI, 7, .inl g3_3))]) F [3, 4] [0, 1, 2] [0] rfl rfl (by decide) rfl (by decide) (by decide) rfl (fun sz => K_X13_isPair6 l D m0 m_stop m_tape 0 0 0 0 0 0 0 (-1) m_rule m_readRule m_teeth m_readTeeth m_sway m_readSway m_isTold m_markKind m_markValue m_marks 5 0 m_pile m_height m_leftPass m_leftTurn m_leftTooth m_leftX w_3 0 m_kept m_keptWear 0 m_now m_passed 0 0 0 m_planTime m_planMany m_planned m_isQuiet 0 0 m_keptTeeth 0 0 m_jobRing m_jobSpeed m_jobFeed m_jobTurns m_orderRow m_bestRow 0 m_orderTold 0 0 0 0 m_offerRing m_offerSpeed m_offerFeed m_offerTurns m_heardOffer m_heardVerdict m_heardAt m_rightOf m_rightVerdict m_rightAt m_verdictOf m_sound m_readSound 0 cI  sz) (cwV 1 hts gX13_fitOf_X13_isPair rfl rfl rfl (by decide +kernel) ⟨Nat.le_of_ble_eq_true rfl, Nat.le_of_ble_eq_true rfl⟩) rfl 0 rfl rfl (Nat.le_of_ble_eq_true rfl) ⟨Nat.le_of_ble_eq_true rfl, Nat.le_of_ble_eq_true rfl⟩ dX13_fitOf_16 (fun r_36 _ hw_37 => ?_)
  have hw_37 : r_36 = 0 := hw_37
  have e_r_36 := hw_37
  show gG p l e (gR 3 0 0 84) s m args below meth c D A 6 Q 0 0 [(m_kept, .inl (cI, 672, .inl g1_3)), (m_height, .inl (cI, 96, .inl g2_3)), (m_keptWear, .inl (cI, 7, .inl g3_3)), (m0, .inr (12, [.ref m_stop, .ref m_tape, .int 0, .int 0, .int 0, .int 0, .int 0, .int 0, .int 0, .int (-1), .ref m_rule, .ref m_readRule, .ref m_teeth, .ref m_readTeeth, .ref m_sway, .ref m_readSway, .ref m_isTold, .ref m_markKind, .ref m_markValue, .ref m_marks, .int 5, .int 0, .ref m_pile, .ref m_height, .ref m_leftPass, .ref m_leftTurn, .ref m_leftTooth, .ref m_leftX, .int w_3, .int 0, .ref m_kept, .ref m_keptWear, .int 0, .ref m_now, .ref m_passed, .int 0, .int 0, .int 0, .ref m_planTime, .ref m_planMany, .ref m_planned, .ref m_isQuiet, .int 0, .int 0, .ref m_keptTeeth, .int 0, .int 0, .ref m_jobRing, .ref m_jobSpeed, .ref m_jobFeed, .ref m_jobTurns, .ref m_orderRow, .ref m_bestRow, .int 0, .ref m_orderTold, .int 0, .int 0, .int 0, .int 0, .ref m_offerRing, .ref m_offerSpeed, .ref m_offerFeed, .ref m_offerTurns, .ref m_heardOffer, .ref m_heardVerdict, .ref m_heardAt, .ref m_rightOf, .ref m_rightVerdict, .ref m_rightAt, .ref m_verdictOf, .ref m_sound, .ref m_readSound, .int 0])), (m_rule, .inl (cI, 12, .inl gz_untold))] [(cI, .int)] [(3, .int 6), (2, .int 1), (5, .int 0), (4, .int 0), (0, .ref m0), (1, .int a)] 19 [.int r_36]
  refine g_fold 0 e_r_36 ?_
  refine g_istore F [(4, .int 0), (3, .int 6), (2, .int 1), (5, .int 0), (0, .ref m0), (1, .int a)] dX13_fitOf_19 (by decide) rfl ?_
  refine g_iconst F 0 dX13_fitOf_21 (by decide) ?_
  refine g_istore F [(5, .int 0), (4, .int 0), (3, .int 6), (2, .int 1), (0, .ref m0), (1, .int a)] dX13_fitOf_22 (by decide) rfl ?_
  refine g_iload F 0 dX13_fitOf_24 rfl ?_
  refine g_aload_n F 4 dX13_fitOf_26 rfl rfl ?_
  refine g_get (C := RX13) (T := TX13) (N := 73) (v := .int 0) F i_X13 3 rfl rfl 56 (by decide) w_0 rfl rfl dX13_fitOf_27 ?_
  refine g_icmp_ge F 89 dX13_fitOf_30 (by decide) (fun c_30 => ?_) (fun h9 => absurd (by decide) h9) 
  refine g_iload_n F 3 dX13_fitOf_89 rfl rfl ?_
  refine g_iload F 1 dX13_fitOf_90 rfl ?_
  refine g_if_eq F 101 dX13_fitOf_92 (by decide) (fun c_92 => ?_) (fun h9 => absurd (by decide) h9) 
  refine g_iconst F 0 dX13_fitOf_101 (by decide) ?_
  refine g_ior F dX13_fitOf_102 ?_
  refine g_fold 1 (by decide) ?_
  refine g_istore_n F [(2, .int 1), (5, .int 0), (4, .int 0), (3, .int 6), (0, .ref m0), (1, .int a)] dX13_fitOf_103 rfl (by decide) rfl ?_
  refine g_iinc F (j := 3) 7 [(3, .int 7), (2, .int 1), (5, .int 0), (4, .int 0), (0, .ref m0), (1, .int a)] dX13_fitOf_104 rfl (by decide) (by decide) rfl ?_
  refine g_goto F 8 dX13_fitOf_107 (by decide) ?_
  refine g_iload_n F 0 dX13_fitOf_8 rfl rfl ?_
  refine g_bipush F 16 dX13_fitOf_9 (by decide) ?_
  refine g_icmp_ge F 110 dX13_fitOf_11 (by decide) (fun h9 => absurd h9 (by decide)) (fun c_11 => ?_)
  refine g_aload_n F 4 dX13_fitOf_14 rfl rfl ?_
  refine g_iload_n F 0 dX13_fitOf_15 rfl rfl ?_
  refine g_callVi (k := 0) (n := 0) (b := m0) (As := [.int 7]) (st := []) (wc := [(m0, .inr (12, [.ref m_stop, .ref m_tape, .int 0, .int 0, .int 0, .int 0, .int 0, .int 0, .int 0, .int (-1), .ref m_rule, .ref m_readRule, .ref m_teeth, .ref m_readTeeth, .ref m_sway, .ref m_readSway, .ref m_isTold, .ref m_markKind, .ref m_markValue, .ref m_marks, .int 5, .int 0, .ref m_pile, .ref m_height, .ref m_leftPass, .ref m_leftTurn, .ref m_leftTooth, .ref m_leftX, .int w_3, .int 0, .ref m_kept, .ref m_keptWear, .int 0, .ref m_now, .ref m_passed, .int 0, .int 0, .int 0, .ref m_planTime, .ref m_planMany, .ref m_planned, .ref m_isQuiet, .int 0, .int 0, .ref m_keptTeeth, .int 0, .int 0, .ref m_jobRing, .ref m_jobSpeed, .ref m_jobFeed, .ref m_jobTurns, .ref m_orderRow, .ref m_bestRow, .int 0, .ref m_orderTold, .int 0, .int 0, .int 0, .int 0, .ref m_offerRing, .ref m_offerSpeed, .ref m_offerFeed, .ref m_offerTurns, .ref m_heardOffer, .ref m_heardVerdict, .ref m_heardAt, .ref m_rightOf, .ref m_rightVerdict, .ref m_rightAt, .ref m_verdictOf, .ref m_sound, .ref m_readSound, .int 0])), (m_rule, .inl (cI, 12, .inl gz_untold))]) (wr := [(m_kept, .inl (cI, 672, .inl g1_3)), (m_height, .inl (cI, 96, .inl g2_3)), (m_keptWear, .inl (cI, 7, .inl g3_3))]) F [3, 4] [0, 1, 2] [0] rfl rfl (by decide) rfl (by decide) (by decide) rfl (fun sz => K_X13_isPair7 l D m0 m_stop m_tape 0 0 0 0 0 0 0 (-1) m_rule m_readRule m_teeth m_readTeeth m_sway m_readSway m_isTold m_markKind m_markValue m_marks 5 0 m_pile m_height m_leftPass m_leftTurn m_leftTooth m_leftX w_3 0 m_kept m_keptWear 0 m_now m_passed 0 0 0 m_planTime m_planMany m_planned m_isQuiet 0 0 m_keptTeeth 0 0 m_jobRing m_jobSpeed m_jobFeed m_jobTurns m_orderRow m_bestRow 0 m_orderTold 0 0 0 0 m_offerRing m_offerSpeed m_offerFeed m_offerTurns m_heardOffer m_heardVerdict m_heardAt m_rightOf m_rightVerdict m_rightAt m_verdictOf m_sound m_readSound 0 cI  sz) (cwV 1 hts gX13_fitOf_X13_isPair rfl rfl rfl (by decide +kernel) ⟨Nat.le_of_ble_eq_true rfl, Nat.le_of_ble_eq_true rfl⟩) rfl 0 rfl rfl (Nat.le_of_ble_eq_true rfl) ⟨Nat.le_of_ble_eq_true rfl, Nat.le_of_ble_eq_true rfl⟩ dX13_fitOf_16 (fun r_41 _ hw_42 => ?_)
  have hw_42 : r_41 = 0 := hw_42
  have e_r_41 := hw_42
  show gG p l e (gR 3 0 0 84) s m args below meth c D A 6 Q 0 0 [(m_kept, .inl (cI, 672, .inl g1_3)), (m_height, .inl (cI, 96, .inl g2_3)), (m_keptWear, .inl (cI, 7, .inl g3_3)), (m0, .inr (12, [.ref m_stop, .ref m_tape, .int 0, .int 0, .int 0, .int 0, .int 0, .int 0, .int 0, .int (-1), .ref m_rule, .ref m_readRule, .ref m_teeth, .ref m_readTeeth, .ref m_sway, .ref m_readSway, .ref m_isTold, .ref m_markKind, .ref m_markValue, .ref m_marks, .int 5, .int 0, .ref m_pile, .ref m_height, .ref m_leftPass, .ref m_leftTurn, .ref m_leftTooth, .ref m_leftX, .int w_3, .int 0, .ref m_kept, .ref m_keptWear, .int 0, .ref m_now, .ref m_passed, .int 0, .int 0, .int 0, .ref m_planTime, .ref m_planMany, .ref m_planned, .ref m_isQuiet, .int 0, .int 0, .ref m_keptTeeth, .int 0, .int 0, .ref m_jobRing, .ref m_jobSpeed, .ref m_jobFeed, .ref m_jobTurns, .ref m_orderRow, .ref m_bestRow, .int 0, .ref m_orderTold, .int 0, .int 0, .int 0, .int 0, .ref m_offerRing, .ref m_offerSpeed, .ref m_offerFeed, .ref m_offerTurns, .ref m_heardOffer, .ref m_heardVerdict, .ref m_heardAt, .ref m_rightOf, .ref m_rightVerdict, .ref m_rightAt, .ref m_verdictOf, .ref m_sound, .ref m_readSound, .int 0])), (m_rule, .inl (cI, 12, .inl gz_untold))] [(cI, .int)] [(3, .int 7), (2, .int 1), (5, .int 0), (4, .int 0), (0, .ref m0), (1, .int a)] 19 [.int r_41]
  refine g_fold 0 e_r_41 ?_
  refine g_istore F [(4, .int 0), (3, .int 7), (2, .int 1), (5, .int 0), (0, .ref m0), (1, .int a)] dX13_fitOf_19 (by decide) rfl ?_
  refine g_iconst F 0 dX13_fitOf_21 (by decide) ?_
  refine g_istore F [(5, .int 0), (4, .int 0), (3, .int 7), (2, .int 1), (0, .ref m0), (1, .int a)] dX13_fitOf_22 (by decide) rfl ?_
  refine g_iload F 0 dX13_fitOf_24 rfl ?_
  refine g_aload_n F 4 dX13_fitOf_26 rfl rfl ?_
  refine g_get (C := RX13) (T := TX13) (N := 73) (v := .int 0) F i_X13 3 rfl rfl 56 (by decide) w_0 rfl rfl dX13_fitOf_27 ?_
  refine g_icmp_ge F 89 dX13_fitOf_30 (by decide) (fun c_30 => ?_) (fun h9 => absurd (by decide) h9) 
  refine g_iload_n F 3 dX13_fitOf_89 rfl rfl ?_
  refine g_iload F 1 dX13_fitOf_90 rfl ?_
  refine g_if_eq F 101 dX13_fitOf_92 (by decide) (fun c_92 => ?_) (fun h9 => absurd (by decide) h9) 
  refine g_iconst F 0 dX13_fitOf_101 (by decide) ?_
  refine g_ior F dX13_fitOf_102 ?_
  refine g_fold 1 (by decide) ?_
  refine g_istore_n F [(2, .int 1), (5, .int 0), (4, .int 0), (3, .int 7), (0, .ref m0), (1, .int a)] dX13_fitOf_103 rfl (by decide) rfl ?_
  refine g_iinc F (j := 3) 8 [(3, .int 8), (2, .int 1), (5, .int 0), (4, .int 0), (0, .ref m0), (1, .int a)] dX13_fitOf_104 rfl (by decide) (by decide) rfl ?_
  refine g_goto F 8 dX13_fitOf_107 (by decide) ?_
  refine g_iload_n F 0 dX13_fitOf_8 rfl rfl ?_
  refine g_bipush F 16 dX13_fitOf_9 (by decide) ?_
  refine g_icmp_ge F 110 dX13_fitOf_11 (by decide) (fun h9 => absurd h9 (by decide)) (fun c_11 => ?_)
  refine g_aload_n F 4 dX13_fitOf_14 rfl rfl ?_
  refine g_iload_n F 0 dX13_fitOf_15 rfl rfl ?_
  refine g_callVi (k := 0) (n := 0) (b := m0) (As := [.int 8]) (st := []) (wc := [(m0, .inr (12, [.ref m_stop, .ref m_tape, .int 0, .int 0, .int 0, .int 0, .int 0, .int 0, .int 0, .int (-1), .ref m_rule, .ref m_readRule, .ref m_teeth, .ref m_readTeeth, .ref m_sway, .ref m_readSway, .ref m_isTold, .ref m_markKind, .ref m_markValue, .ref m_marks, .int 5, .int 0, .ref m_pile, .ref m_height, .ref m_leftPass, .ref m_leftTurn, .ref m_leftTooth, .ref m_leftX, .int w_3, .int 0, .ref m_kept, .ref m_keptWear, .int 0, .ref m_now, .ref m_passed, .int 0, .int 0, .int 0, .ref m_planTime, .ref m_planMany, .ref m_planned, .ref m_isQuiet, .int 0, .int 0, .ref m_keptTeeth, .int 0, .int 0, .ref m_jobRing, .ref m_jobSpeed, .ref m_jobFeed, .ref m_jobTurns, .ref m_orderRow, .ref m_bestRow, .int 0, .ref m_orderTold, .int 0, .int 0, .int 0, .int 0, .ref m_offerRing, .ref m_offerSpeed, .ref m_offerFeed, .ref m_offerTurns, .ref m_heardOffer, .ref m_heardVerdict, .ref m_heardAt, .ref m_rightOf, .ref m_rightVerdict, .ref m_rightAt, .ref m_verdictOf, .ref m_sound, .ref m_readSound, .int 0])), (m_rule, .inl (cI, 12, .inl gz_untold))]) (wr := [(m_kept, .inl (cI, 672, .inl g1_3)), (m_height, .inl (cI, 96, .inl g2_3)), (m_keptWear, .inl (cI, 7, .inl g3_3))]) F [3, 4] [0, 1, 2] [0] rfl rfl (by decide) rfl (by decide) (by decide) rfl (fun sz => K_X13_isPair8 l D m0 m_stop m_tape 0 0 0 0 0 0 0 (-1) m_rule m_readRule m_teeth m_readTeeth m_sway m_readSway m_isTold m_markKind m_markValue m_marks 5 0 m_pile m_height m_leftPass m_leftTurn m_leftTooth m_leftX w_3 0 m_kept m_keptWear 0 m_now m_passed 0 0 0 m_planTime m_planMany m_planned m_isQuiet 0 0 m_keptTeeth 0 0 m_jobRing m_jobSpeed m_jobFeed m_jobTurns m_orderRow m_bestRow 0 m_orderTold 0 0 0 0 m_offerRing m_offerSpeed m_offerFeed m_offerTurns m_heardOffer m_heardVerdict m_heardAt m_rightOf m_rightVerdict m_rightAt m_verdictOf m_sound m_readSound 0 cI  sz) (cwV 1 hts gX13_fitOf_X13_isPair rfl rfl rfl (by decide +kernel) ⟨Nat.le_of_ble_eq_true rfl, Nat.le_of_ble_eq_true rfl⟩) rfl 0 rfl rfl (Nat.le_of_ble_eq_true rfl) ⟨Nat.le_of_ble_eq_true rfl, Nat.le_of_ble_eq_true rfl⟩ dX13_fitOf_16 (fun r_46 _ hw_47 => ?_)
  have hw_47 : r_46 = 0 := hw_47
  have e_r_46 := hw_47
  show gG p l e (gR 3 0 0 84) s m args below meth c D A 6 Q 0 0 [(m_kept, .inl (cI, 672, .inl g1_3)), (m_height, .inl (cI, 96, .inl g2_3)), (m_keptWear, .inl (cI, 7, .inl g3_3)), (m0, .inr (12, [.ref m_stop, .ref m_tape, .int 0, .int 0, .int 0, .int 0, .int 0, .int 0, .int 0, .int (-1), .ref m_rule, .ref m_readRule, .ref m_teeth, .ref m_readTeeth, .ref m_sway, .ref m_readSway, .ref m_isTold, .ref m_markKind, .ref m_markValue, .ref m_marks, .int 5, .int 0, .ref m_pile, .ref m_height, .ref m_leftPass, .ref m_leftTurn, .ref m_leftTooth, .ref m_leftX, .int w_3, .int 0, .ref m_kept, .ref m_keptWear, .int 0, .ref m_now, .ref m_passed, .int 0, .int 0, .int 0, .ref m_planTime, .ref m_planMany, .ref m_planned, .ref m_isQuiet, .int 0, .int 0, .ref m_keptTeeth, .int 0, .int 0, .ref m_jobRing, .ref m_jobSpeed, .ref m_jobFeed, .ref m_jobTurns, .ref m_orderRow, .ref m_bestRow, .int 0, .ref m_orderTold, .int 0, .int 0, .int 0, .int 0, .ref m_offerRing, .ref m_offerSpeed, .ref m_offerFeed, .ref m_offerTurns, .ref m_heardOffer, .ref m_heardVerdict, .ref m_heardAt, .ref m_rightOf, .ref m_rightVerdict, .ref m_rightAt, .ref m_verdictOf, .ref m_sound, .ref m_readSound, .int 0])), (m_rule, .inl (cI, 12, .inl gz_untold))] [(cI, .int)] [(3, .int 8), (2, .int 1), (5, .int 0), (4, .int 0), (0, .ref m0), (1, .int a)] 19 [.int r_46]
  refine g_fold 0 e_r_46 ?_
  refine g_istore F [(4, .int 0), (3, .int 8), (2, .int 1), (5, .int 0), (0, .ref m0), (1, .int a)] dX13_fitOf_19 (by decide) rfl ?_
  refine g_iconst F 0 dX13_fitOf_21 (by decide) ?_
  refine g_istore F [(5, .int 0), (4, .int 0), (3, .int 8), (2, .int 1), (0, .ref m0), (1, .int a)] dX13_fitOf_22 (by decide) rfl ?_
  refine g_iload F 0 dX13_fitOf_24 rfl ?_
  refine g_aload_n F 4 dX13_fitOf_26 rfl rfl ?_
  refine g_get (C := RX13) (T := TX13) (N := 73) (v := .int 0) F i_X13 3 rfl rfl 56 (by decide) w_0 rfl rfl dX13_fitOf_27 ?_
  refine g_icmp_ge F 89 dX13_fitOf_30 (by decide) (fun c_30 => ?_) (fun h9 => absurd (by decide) h9) 
  refine g_iload_n F 3 dX13_fitOf_89 rfl rfl ?_
  refine g_iload F 1 dX13_fitOf_90 rfl ?_
  refine g_if_eq F 101 dX13_fitOf_92 (by decide) (fun c_92 => ?_) (fun h9 => absurd (by decide) h9) 
  refine g_iconst F 0 dX13_fitOf_101 (by decide) ?_
  refine g_ior F dX13_fitOf_102 ?_
  refine g_fold 1 (by decide) ?_
  refine g_istore_n F [(2, .int 1), (5, .int 0), (4, .int 0), (3, .int 8), (0, .ref m0), (1, .int a)] dX13_fitOf_103 rfl (by decide) rfl ?_
  refine g_iinc F (j := 3) 9 [(3, .int 9), (2, .int 1), (5, .int 0), (4, .int 0), (0, .ref m0), (1, .int a)] dX13_fitOf_104 rfl (by decide) (by decide) rfl ?_
  refine g_goto F 8 dX13_fitOf_107 (by decide) ?_
  refine g_iload_n F 0 dX13_fitOf_8 rfl rfl ?_
  refine g_bipush F 16 dX13_fitOf_9 (by decide) ?_
  refine g_icmp_ge F 110 dX13_fitOf_11 (by decide) (fun h9 => absurd h9 (by decide)) (fun c_11 => ?_)
  refine g_aload_n F 4 dX13_fitOf_14 rfl rfl ?_
  refine g_iload_n F 0 dX13_fitOf_15 rfl rfl ?_
  refine g_callVi (k := 0) (n := 0) (b := m0) (As := [.int 9]) (st := []) (wc := [(m0, .inr (12, [.ref m_stop, .ref m_tape, .int 0, .int 0, .int 0, .int 0, .int 0, .int 0, .int 0, .int (-1), .ref m_rule, .ref m_readRule, .ref m_teeth, .ref m_readTeeth, .ref m_sway, .ref m_readSway, .ref m_isTold, .ref m_markKind, .ref m_markValue, .ref m_marks, .int 5, .int 0, .ref m_pile, .ref m_height, .ref m_leftPass, .ref m_leftTurn, .ref m_leftTooth, .ref m_leftX, .int w_3, .int 0, .ref m_kept, .ref m_keptWear, .int 0, .ref m_now, .ref m_passed, .int 0, .int 0, .int 0, .ref m_planTime, .ref m_planMany, .ref m_planned, .ref m_isQuiet, .int 0, .int 0, .ref m_keptTeeth, .int 0, .int 0, .ref m_jobRing, .ref m_jobSpeed, .ref m_jobFeed, .ref m_jobTurns, .ref m_orderRow, .ref m_bestRow, .int 0, .ref m_orderTold, .int 0, .int 0, .int 0, .int 0, .ref m_offerRing, .ref m_offerSpeed, .ref m_offerFeed, .ref m_offerTurns, .ref m_heardOffer, .ref m_heardVerdict, .ref m_heardAt, .ref m_rightOf, .ref m_rightVerdict, .ref m_rightAt, .ref m_verdictOf, .ref m_sound, .ref m_readSound, .int 0])), (m_rule, .inl (cI, 12, .inl gz_untold))]) (wr := [(m_kept, .inl (cI, 672, .inl g1_3)), (m_height, .inl (cI, 96, .inl g2_3)), (m_keptWear, .inl (cI, 7, .inl g3_3))]) F [3, 4] [0, 1, 2] [0] rfl rfl (by decide) rfl (by decide) (by decide) rfl (fun sz => K_X13_isPair9 l D m0 m_stop m_tape 0 0 0 0 0 0 0 (-1) m_rule m_readRule m_teeth m_readTeeth m_sway m_readSway m_isTold m_markKind m_markValue m_marks 5 0 m_pile m_height m_leftPass m_leftTurn m_leftTooth m_leftX w_3 0 m_kept m_keptWear 0 m_now m_passed 0 0 0 m_planTime m_planMany m_planned m_isQuiet 0 0 m_keptTeeth 0 0 m_jobRing m_jobSpeed m_jobFeed m_jobTurns m_orderRow m_bestRow 0 m_orderTold 0 0 0 0 m_offerRing m_offerSpeed m_offerFeed m_offerTurns m_heardOffer m_heardVerdict m_heardAt m_rightOf m_rightVerdict m_rightAt m_verdictOf m_sound m_readSound 0 cI  sz) (cwV 1 hts gX13_fitOf_X13_isPair rfl rfl rfl (by decide +kernel) ⟨Nat.le_of_ble_eq_true rfl, Nat.le_of_ble_eq_true rfl⟩) rfl 0 rfl rfl (Nat.le_of_ble_eq_true rfl) ⟨Nat.le_of_ble_eq_true rfl, Nat.le_of_ble_eq_true rfl⟩ dX13_fitOf_16 (fun r_51 _ hw_52 => ?_)
  have hw_52 : r_51 = 0 := hw_52
  have e_r_51 := hw_52
  show gG p l e (gR 3 0 0 84) s m args below meth c D A 6 Q 0 0 [(m_kept, .inl (cI, 672, .inl g1_3)), (m_height, .inl (cI, 96, .inl g2_3)), (m_keptWear, .inl (cI, 7, .inl g3_3)), (m0, .inr (12, [.ref m_stop, .ref m_tape, .int 0, .int 0, .int 0, .int 0, .int 0, .int 0, .int 0, .int (-1), .ref m_rule, .ref m_readRule, .ref m_teeth, .ref m_readTeeth, .ref m_sway, .ref m_readSway, .ref m_isTold, .ref m_markKind, .ref m_markValue, .ref m_marks, .int 5, .int 0, .ref m_pile, .ref m_height, .ref m_leftPass, .ref m_leftTurn, .ref m_leftTooth, .ref m_leftX, .int w_3, .int 0, .ref m_kept, .ref m_keptWear, .int 0, .ref m_now, .ref m_passed, .int 0, .int 0, .int 0, .ref m_planTime, .ref m_planMany, .ref m_planned, .ref m_isQuiet, .int 0, .int 0, .ref m_keptTeeth, .int 0, .int 0, .ref m_jobRing, .ref m_jobSpeed, .ref m_jobFeed, .ref m_jobTurns, .ref m_orderRow, .ref m_bestRow, .int 0, .ref m_orderTold, .int 0, .int 0, .int 0, .int 0, .ref m_offerRing, .ref m_offerSpeed, .ref m_offerFeed, .ref m_offerTurns, .ref m_heardOffer, .ref m_heardVerdict, .ref m_heardAt, .ref m_rightOf, .ref m_rightVerdict, .ref m_rightAt, .ref m_verdictOf, .ref m_sound, .ref m_readSound, .int 0])), (m_rule, .inl (cI, 12, .inl gz_untold))] [(cI, .int)] [(3, .int 9), (2, .int 1), (5, .int 0), (4, .int 0), (0, .ref m0), (1, .int a)] 19 [.int r_51]
  refine g_fold 0 e_r_51 ?_
  refine g_istore F [(4, .int 0), (3, .int 9), (2, .int 1), (5, .int 0), (0, .ref m0), (1, .int a)] dX13_fitOf_19 (by decide) rfl ?_
  refine g_iconst F 0 dX13_fitOf_21 (by decide) ?_
  refine g_istore F [(5, .int 0), (4, .int 0), (3, .int 9), (2, .int 1), (0, .ref m0), (1, .int a)] dX13_fitOf_22 (by decide) rfl ?_
  refine g_iload F 0 dX13_fitOf_24 rfl ?_
  refine g_aload_n F 4 dX13_fitOf_26 rfl rfl ?_
  refine g_get (C := RX13) (T := TX13) (N := 73) (v := .int 0) F i_X13 3 rfl rfl 56 (by decide) w_0 rfl rfl dX13_fitOf_27 ?_
  refine g_icmp_ge F 89 dX13_fitOf_30 (by decide) (fun c_30 => ?_) (fun h9 => absurd (by decide) h9) 
  refine g_iload_n F 3 dX13_fitOf_89 rfl rfl ?_
  refine g_iload F 1 dX13_fitOf_90 rfl ?_
  refine g_if_eq F 101 dX13_fitOf_92 (by decide) (fun c_92 => ?_) (fun h9 => absurd (by decide) h9) 
  refine g_iconst F 0 dX13_fitOf_101 (by decide) ?_
  refine g_ior F dX13_fitOf_102 ?_
  refine g_fold 1 (by decide) ?_
  refine g_istore_n F [(2, .int 1), (5, .int 0), (4, .int 0), (3, .int 9), (0, .ref m0), (1, .int a)] dX13_fitOf_103 rfl (by decide) rfl ?_
  refine g_iinc F (j := 3) 10 [(3, .int 10), (2, .int 1), (5, .int 0), (4, .int 0), (0, .ref m0), (1, .int a)] dX13_fitOf_104 rfl (by decide) (by decide) rfl ?_
  refine g_goto F 8 dX13_fitOf_107 (by decide) ?_
  refine g_iload_n F 0 dX13_fitOf_8 rfl rfl ?_
  refine g_bipush F 16 dX13_fitOf_9 (by decide) ?_
  refine g_icmp_ge F 110 dX13_fitOf_11 (by decide) (fun h9 => absurd h9 (by decide)) (fun c_11 => ?_)
  refine g_aload_n F 4 dX13_fitOf_14 rfl rfl ?_
  refine g_iload_n F 0 dX13_fitOf_15 rfl rfl ?_
  refine g_callVi (k := 0) (n := 0) (b := m0) (As := [.int 10]) (st := []) (wc := [(m0, .inr (12, [.ref m_stop, .ref m_tape, .int 0, .int 0, .int 0, .int 0, .int 0, .int 0, .int 0, .int (-1), .ref m_rule, .ref m_readRule, .ref m_teeth, .ref m_readTeeth, .ref m_sway, .ref m_readSway, .ref m_isTold, .ref m_markKind, .ref m_markValue, .ref m_marks, .int 5, .int 0, .ref m_pile, .ref m_height, .ref m_leftPass, .ref m_leftTurn, .ref m_leftTooth, .ref m_leftX, .int w_3, .int 0, .ref m_kept, .ref m_keptWear, .int 0, .ref m_now, .ref m_passed, .int 0, .int 0, .int 0, .ref m_planTime, .ref m_planMany, .ref m_planned, .ref m_isQuiet, .int 0, .int 0, .ref m_keptTeeth, .int 0, .int 0, .ref m_jobRing, .ref m_jobSpeed, .ref m_jobFeed, .ref m_jobTurns, .ref m_orderRow, .ref m_bestRow, .int 0, .ref m_orderTold, .int 0, .int 0, .int 0, .int 0, .ref m_offerRing, .ref m_offerSpeed, .ref m_offerFeed, .ref m_offerTurns, .ref m_heardOffer, .ref m_heardVerdict, .ref m_heardAt, .ref m_rightOf, .ref m_rightVerdict, .ref m_rightAt, .ref m_verdictOf, .ref m_sound, .ref m_readSound, .int 0])), (m_rule, .inl (cI, 12, .inl gz_untold))]) (wr := [(m_kept, .inl (cI, 672, .inl g1_3)), (m_height, .inl (cI, 96, .inl g2_3)), (m_keptWear, .inl (cI, 7, .inl g3_3))]) F [3, 4] [0, 1, 2] [0] rfl rfl (by decide) rfl (by decide) (by decide) rfl (fun sz => K_X13_isPair10 l D m0 m_stop m_tape 0 0 0 0 0 0 0 (-1) m_rule m_readRule m_teeth m_readTeeth m_sway m_readSway m_isTold m_markKind m_markValue m_marks 5 0 m_pile m_height m_leftPass m_leftTurn m_leftTooth m_leftX w_3 0 m_kept m_keptWear 0 m_now m_passed 0 0 0 m_planTime m_planMany m_planned m_isQuiet 0 0 m_keptTeeth 0 0 m_jobRing m_jobSpeed m_jobFeed m_jobTurns m_orderRow m_bestRow 0 m_orderTold 0 0 0 0 m_offerRing m_offerSpeed m_offerFeed m_offerTurns m_heardOffer m_heardVerdict m_heardAt m_rightOf m_rightVerdict m_rightAt m_verdictOf m_sound m_readSound 0 cI  sz) (cwV 1 hts gX13_fitOf_X13_isPair rfl rfl rfl (by decide +kernel) ⟨Nat.le_of_ble_eq_true rfl, Nat.le_of_ble_eq_true rfl⟩) rfl 0 rfl rfl (Nat.le_of_ble_eq_true rfl) ⟨Nat.le_of_ble_eq_true rfl, Nat.le_of_ble_eq_true rfl⟩ dX13_fitOf_16 (fun r_56 _ hw_57 => ?_)
  have hw_57 : r_56 = 0 := hw_57
  have e_r_56 := hw_57
  show gG p l e (gR 3 0 0 84) s m args below meth c D A 6 Q 0 0 [(m_kept, .inl (cI, 672, .inl g1_3)), (m_height, .inl (cI, 96, .inl g2_3)), (m_keptWear, .inl (cI, 7, .inl g3_3)), (m0, .inr (12, [.ref m_stop, .ref m_tape, .int 0, .int 0, .int 0, .int 0, .int 0, .int 0, .int 0, .int (-1), .ref m_rule, .ref m_readRule, .ref m_teeth, .ref m_readTeeth, .ref m_sway, .ref m_readSway, .ref m_isTold, .ref m_markKind, .ref m_markValue, .ref m_marks, .int 5, .int 0, .ref m_pile, .ref m_height, .ref m_leftPass, .ref m_leftTurn, .ref m_leftTooth, .ref m_leftX, .int w_3, .int 0, .ref m_kept, .ref m_keptWear, .int 0, .ref m_now, .ref m_passed, .int 0, .int 0, .int 0, .ref m_planTime, .ref m_planMany, .ref m_planned, .ref m_isQuiet, .int 0, .int 0, .ref m_keptTeeth, .int 0, .int 0, .ref m_jobRing, .ref m_jobSpeed, .ref m_jobFeed, .ref m_jobTurns, .ref m_orderRow, .ref m_bestRow, .int 0, .ref m_orderTold, .int 0, .int 0, .int 0, .int 0, .ref m_offerRing, .ref m_offerSpeed, .ref m_offerFeed, .ref m_offerTurns, .ref m_heardOffer, .ref m_heardVerdict, .ref m_heardAt, .ref m_rightOf, .ref m_rightVerdict, .ref m_rightAt, .ref m_verdictOf, .ref m_sound, .ref m_readSound, .int 0])), (m_rule, .inl (cI, 12, .inl gz_untold))] [(cI, .int)] [(3, .int 10), (2, .int 1), (5, .int 0), (4, .int 0), (0, .ref m0), (1, .int a)] 19 [.int r_56]
  refine g_fold 0 e_r_56 ?_
  refine g_istore F [(4, .int 0), (3, .int 10), (2, .int 1), (5, .int 0), (0, .ref m0), (1, .int a)] dX13_fitOf_19 (by decide) rfl ?_
  refine g_iconst F 0 dX13_fitOf_21 (by decide) ?_
  refine g_istore F [(5, .int 0), (4, .int 0), (3, .int 10), (2, .int 1), (0, .ref m0), (1, .int a)] dX13_fitOf_22 (by decide) rfl ?_
  refine g_iload F 0 dX13_fitOf_24 rfl ?_
  refine g_aload_n F 4 dX13_fitOf_26 rfl rfl ?_
  refine g_get (C := RX13) (T := TX13) (N := 73) (v := .int 0) F i_X13 3 rfl rfl 56 (by decide) w_0 rfl rfl dX13_fitOf_27 ?_
  refine g_icmp_ge F 89 dX13_fitOf_30 (by decide) (fun c_30 => ?_) (fun h9 => absurd (by decide) h9) 
  refine g_iload_n F 3 dX13_fitOf_89 rfl rfl ?_
  refine g_iload F 1 dX13_fitOf_90 rfl ?_
  refine g_if_eq F 101 dX13_fitOf_92 (by decide) (fun c_92 => ?_) (fun h9 => absurd (by decide) h9) 
  refine g_iconst F 0 dX13_fitOf_101 (by decide) ?_
  refine g_ior F dX13_fitOf_102 ?_
  refine g_fold 1 (by decide) ?_
  refine g_istore_n F [(2, .int 1), (5, .int 0), (4, .int 0), (3, .int 10), (0, .ref m0), (1, .int a)] dX13_fitOf_103 rfl (by decide) rfl ?_
  refine g_iinc F (j := 3) 11 [(3, .int 11), (2, .int 1), (5, .int 0), (4, .int 0), (0, .ref m0), (1, .int a)] dX13_fitOf_104 rfl (by decide) (by decide) rfl ?_
  refine g_goto F 8 dX13_fitOf_107 (by decide) ?_
  refine g_iload_n F 0 dX13_fitOf_8 rfl rfl ?_
  refine g_bipush F 16 dX13_fitOf_9 (by decide) ?_
  refine g_icmp_ge F 110 dX13_fitOf_11 (by decide) (fun h9 => absurd h9 (by decide)) (fun c_11 => ?_)
  refine g_aload_n F 4 dX13_fitOf_14 rfl rfl ?_
  refine g_iload_n F 0 dX13_fitOf_15 rfl rfl ?_
  refine g_callVi (k := 0) (n := 0) (b := m0) (As := [.int 11]) (st := []) (wc := [(m0, .inr (12, [.ref m_stop, .ref m_tape, .int 0, .int 0, .int 0, .int 0, .int 0, .int 0, .int 0, .int (-1), .ref m_rule, .ref m_readRule, .ref m_teeth, .ref m_readTeeth, .ref m_sway, .ref m_readSway, .ref m_isTold, .ref m_markKind, .ref m_markValue, .ref m_marks, .int 5, .int 0, .ref m_pile, .ref m_height, .ref m_leftPass, .ref m_leftTurn, .ref m_leftTooth, .ref m_leftX, .int w_3, .int 0, .ref m_kept, .ref m_keptWear, .int 0, .ref m_now, .ref m_passed, .int 0, .int 0, .int 0, .ref m_planTime, .ref m_planMany, .ref m_planned, .ref m_isQuiet, .int 0, .int 0, .ref m_keptTeeth, .int 0, .int 0, .ref m_jobRing, .ref m_jobSpeed, .ref m_jobFeed, .ref m_jobTurns, .ref m_orderRow, .ref m_bestRow, .int 0, .ref m_orderTold, .int 0, .int 0, .int 0, .int 0, .ref m_offerRing, .ref m_offerSpeed, .ref m_offerFeed, .ref m_offerTurns, .ref m_heardOffer, .ref m_heardVerdict, .ref m_heardAt, .ref m_rightOf, .ref m_rightVerdict, .ref m_rightAt, .ref m_verdictOf, .ref m_sound, .ref m_readSound, .int 0])), (m_rule, .inl (cI, 12, .inl gz_untold))]) (wr := [(m_kept, .inl (cI, 672, .inl g1_3)), (m_height, .inl (cI, 96, .inl g2_3)), (m_keptWear, .inl (cI, 7, .inl g3_3))]) F [3, 4] [0, 1, 2] [0] rfl rfl (by decide) rfl (by decide) (by decide) rfl (fun sz => K_X13_isPair11 l D m0 m_stop m_tape 0 0 0 0 0 0 0 (-1) m_rule m_readRule m_teeth m_readTeeth m_sway m_readSway m_isTold m_markKind m_markValue m_marks 5 0 m_pile m_height m_leftPass m_leftTurn m_leftTooth m_leftX w_3 0 m_kept m_keptWear 0 m_now m_passed 0 0 0 m_planTime m_planMany m_planned m_isQuiet 0 0 m_keptTeeth 0 0 m_jobRing m_jobSpeed m_jobFeed m_jobTurns m_orderRow m_bestRow 0 m_orderTold 0 0 0 0 m_offerRing m_offerSpeed m_offerFeed m_offerTurns m_heardOffer m_heardVerdict m_heardAt m_rightOf m_rightVerdict m_rightAt m_verdictOf m_sound m_readSound 0 cI  sz) (cwV 1 hts gX13_fitOf_X13_isPair rfl rfl rfl (by decide +kernel) ⟨Nat.le_of_ble_eq_true rfl, Nat.le_of_ble_eq_true rfl⟩) rfl 0 rfl rfl (Nat.le_of_ble_eq_true rfl) ⟨Nat.le_of_ble_eq_true rfl, Nat.le_of_ble_eq_true rfl⟩ dX13_fitOf_16 (fun r_61 _ hw_62 => ?_)
  have hw_62 : r_61 = 0 := hw_62
  have e_r_61 := hw_62
  show gG p l e (gR 3 0 0 84) s m args below meth c D A 6 Q 0 0 [(m_kept, .inl (cI, 672, .inl g1_3)), (m_height, .inl (cI, 96, .inl g2_3)), (m_keptWear, .inl (cI, 7, .inl g3_3)), (m0, .inr (12, [.ref m_stop, .ref m_tape, .int 0, .int 0, .int 0, .int 0, .int 0, .int 0, .int 0, .int (-1), .ref m_rule, .ref m_readRule, .ref m_teeth, .ref m_readTeeth, .ref m_sway, .ref m_readSway, .ref m_isTold, .ref m_markKind, .ref m_markValue, .ref m_marks, .int 5, .int 0, .ref m_pile, .ref m_height, .ref m_leftPass, .ref m_leftTurn, .ref m_leftTooth, .ref m_leftX, .int w_3, .int 0, .ref m_kept, .ref m_keptWear, .int 0, .ref m_now, .ref m_passed, .int 0, .int 0, .int 0, .ref m_planTime, .ref m_planMany, .ref m_planned, .ref m_isQuiet, .int 0, .int 0, .ref m_keptTeeth, .int 0, .int 0, .ref m_jobRing, .ref m_jobSpeed, .ref m_jobFeed, .ref m_jobTurns, .ref m_orderRow, .ref m_bestRow, .int 0, .ref m_orderTold, .int 0, .int 0, .int 0, .int 0, .ref m_offerRing, .ref m_offerSpeed, .ref m_offerFeed, .ref m_offerTurns, .ref m_heardOffer, .ref m_heardVerdict, .ref m_heardAt, .ref m_rightOf, .ref m_rightVerdict, .ref m_rightAt, .ref m_verdictOf, .ref m_sound, .ref m_readSound, .int 0])), (m_rule, .inl (cI, 12, .inl gz_untold))] [(cI, .int)] [(3, .int 11), (2, .int 1), (5, .int 0), (4, .int 0), (0, .ref m0), (1, .int a)] 19 [.int r_61]
  refine g_fold 0 e_r_61 ?_
  refine g_istore F [(4, .int 0), (3, .int 11), (2, .int 1), (5, .int 0), (0, .ref m0), (1, .int a)] dX13_fitOf_19 (by decide) rfl ?_
  refine g_iconst F 0 dX13_fitOf_21 (by decide) ?_
  refine g_istore F [(5, .int 0), (4, .int 0), (3, .int 11), (2, .int 1), (0, .ref m0), (1, .int a)] dX13_fitOf_22 (by decide) rfl ?_
  refine g_iload F 0 dX13_fitOf_24 rfl ?_
  refine g_aload_n F 4 dX13_fitOf_26 rfl rfl ?_
  refine g_get (C := RX13) (T := TX13) (N := 73) (v := .int 0) F i_X13 3 rfl rfl 56 (by decide) w_0 rfl rfl dX13_fitOf_27 ?_
  refine g_icmp_ge F 89 dX13_fitOf_30 (by decide) (fun c_30 => ?_) (fun h9 => absurd (by decide) h9) 
  refine g_iload_n F 3 dX13_fitOf_89 rfl rfl ?_
  refine g_iload F 1 dX13_fitOf_90 rfl ?_
  refine g_if_eq F 101 dX13_fitOf_92 (by decide) (fun c_92 => ?_) (fun h9 => absurd (by decide) h9) 
  refine g_iconst F 0 dX13_fitOf_101 (by decide) ?_
  refine g_ior F dX13_fitOf_102 ?_
  refine g_fold 1 (by decide) ?_
  refine g_istore_n F [(2, .int 1), (5, .int 0), (4, .int 0), (3, .int 11), (0, .ref m0), (1, .int a)] dX13_fitOf_103 rfl (by decide) rfl ?_
  refine g_iinc F (j := 3) 12 [(3, .int 12), (2, .int 1), (5, .int 0), (4, .int 0), (0, .ref m0), (1, .int a)] dX13_fitOf_104 rfl (by decide) (by decide) rfl ?_
  refine g_goto F 8 dX13_fitOf_107 (by decide) ?_
  refine g_iload_n F 0 dX13_fitOf_8 rfl rfl ?_
  refine g_bipush F 16 dX13_fitOf_9 (by decide) ?_
  refine g_icmp_ge F 110 dX13_fitOf_11 (by decide) (fun h9 => absurd h9 (by decide)) (fun c_11 => ?_)
  refine g_aload_n F 4 dX13_fitOf_14 rfl rfl ?_
  refine g_iload_n F 0 dX13_fitOf_15 rfl rfl ?_
  refine g_callVi (k := 0) (n := 0) (b := m0) (As := [.int 12]) (st := []) (wc := [(m0, .inr (12, [.ref m_stop, .ref m_tape, .int 0, .int 0, .int 0, .int 0, .int 0, .int 0, .int 0, .int (-1), .ref m_rule, .ref m_readRule, .ref m_teeth, .ref m_readTeeth, .ref m_sway, .ref m_readSway, .ref m_isTold, .ref m_markKind, .ref m_markValue, .ref m_marks, .int 5, .int 0, .ref m_pile, .ref m_height, .ref m_leftPass, .ref m_leftTurn, .ref m_leftTooth, .ref m_leftX, .int w_3, .int 0, .ref m_kept, .ref m_keptWear, .int 0, .ref m_now, .ref m_passed, .int 0, .int 0, .int 0, .ref m_planTime, .ref m_planMany, .ref m_planned, .ref m_isQuiet, .int 0, .int 0, .ref m_keptTeeth, .int 0, .int 0, .ref m_jobRing, .ref m_jobSpeed, .ref m_jobFeed, .ref m_jobTurns, .ref m_orderRow, .ref m_bestRow, .int 0, .ref m_orderTold, .int 0, .int 0, .int 0, .int 0, .ref m_offerRing, .ref m_offerSpeed, .ref m_offerFeed, .ref m_offerTurns, .ref m_heardOffer, .ref m_heardVerdict, .ref m_heardAt, .ref m_rightOf, .ref m_rightVerdict, .ref m_rightAt, .ref m_verdictOf, .ref m_sound, .ref m_readSound, .int 0])), (m_rule, .inl (cI, 12, .inl gz_untold))]) (wr := [(m_kept, .inl (cI, 672, .inl g1_3)), (m_height, .inl (cI, 96, .inl g2_3)), (m_keptWear, .inl (cI, 7, .inl g3_3))]) F [3, 4] [0, 1, 2] [0] rfl rfl (by decide) rfl (by decide) (by decide) rfl (fun sz => K_X13_isPair12 l D m0 m_stop m_tape 0 0 0 0 0 0 0 (-1) m_rule m_readRule m_teeth m_readTeeth m_sway m_readSway m_isTold m_markKind m_markValue m_marks 5 0 m_pile m_height m_leftPass m_leftTurn m_leftTooth m_leftX w_3 0 m_kept m_keptWear 0 m_now m_passed 0 0 0 m_planTime m_planMany m_planned m_isQuiet 0 0 m_keptTeeth 0 0 m_jobRing m_jobSpeed m_jobFeed m_jobTurns m_orderRow m_bestRow 0 m_orderTold 0 0 0 0 m_offerRing m_offerSpeed m_offerFeed m_offerTurns m_heardOffer m_heardVerdict m_heardAt m_rightOf m_rightVerdict m_rightAt m_verdictOf m_sound m_readSound 0 cI  sz) (cwV 1 hts gX13_fitOf_X13_isPair rfl rfl rfl (by decide +kernel) ⟨Nat.le_of_ble_eq_true rfl, Nat.le_of_ble_eq_true rfl⟩) rfl 0 rfl rfl (Nat.le_of_ble_eq_true rfl) ⟨Nat.le_of_ble_eq_true rfl, Nat.le_of_ble_eq_true rfl⟩ dX13_fitOf_16 (fun r_66 _ hw_67 => ?_)
  have hw_67 : r_66 = 0 := hw_67
  have e_r_66 := hw_67
  show gG p l e (gR 3 0 0 84) s m args below meth c D A 6 Q 0 0 [(m_kept, .inl (cI, 672, .inl g1_3)), (m_height, .inl (cI, 96, .inl g2_3)), (m_keptWear, .inl (cI, 7, .inl g3_3)), (m0, .inr (12, [.ref m_stop, .ref m_tape, .int 0, .int 0, .int 0, .int 0, .int 0, .int 0, .int 0, .int (-1), .ref m_rule, .ref m_readRule, .ref m_teeth, .ref m_readTeeth, .ref m_sway, .ref m_readSway, .ref m_isTold, .ref m_markKind, .ref m_markValue, .ref m_marks, .int 5, .int 0, .ref m_pile, .ref m_height, .ref m_leftPass, .ref m_leftTurn, .ref m_leftTooth, .ref m_leftX, .int w_3, .int 0, .ref m_kept, .ref m_keptWear, .int 0, .ref m_now, .ref m_passed, .int 0, .int 0, .int 0, .ref m_planTime, .ref m_planMany, .ref m_planned, .ref m_isQuiet, .int 0, .int 0, .ref m_keptTeeth, .int 0, .int 0, .ref m_jobRing, .ref m_jobSpeed, .ref m_jobFeed, .ref m_jobTurns, .ref m_orderRow, .ref m_bestRow, .int 0, .ref m_orderTold, .int 0, .int 0, .int 0, .int 0, .ref m_offerRing, .ref m_offerSpeed, .ref m_offerFeed, .ref m_offerTurns, .ref m_heardOffer, .ref m_heardVerdict, .ref m_heardAt, .ref m_rightOf, .ref m_rightVerdict, .ref m_rightAt, .ref m_verdictOf, .ref m_sound, .ref m_readSound, .int 0])), (m_rule, .inl (cI, 12, .inl gz_untold))] [(cI, .int)] [(3, .int 12), (2, .int 1), (5, .int 0), (4, .int 0), (0, .ref m0), (1, .int a)] 19 [.int r_66]
  refine g_fold 0 e_r_66 ?_
  refine g_istore F [(4, .int 0), (3, .int 12), (2, .int 1), (5, .int 0), (0, .ref m0), (1, .int a)] dX13_fitOf_19 (by decide) rfl ?_
  refine g_iconst F 0 dX13_fitOf_21 (by decide) ?_
  refine g_istore F [(5, .int 0), (4, .int 0), (3, .int 12), (2, .int 1), (0, .ref m0), (1, .int a)] dX13_fitOf_22 (by decide) rfl ?_
  refine g_iload F 0 dX13_fitOf_24 rfl ?_
  refine g_aload_n F 4 dX13_fitOf_26 rfl rfl ?_
  refine g_get (C := RX13) (T := TX13) (N := 73) (v := .int 0) F i_X13 3 rfl rfl 56 (by decide) w_0 rfl rfl dX13_fitOf_27 ?_
  refine g_icmp_ge F 89 dX13_fitOf_30 (by decide) (fun c_30 => ?_) (fun h9 => absurd (by decide) h9) 
  refine g_iload_n F 3 dX13_fitOf_89 rfl rfl ?_
  refine g_iload F 1 dX13_fitOf_90 rfl ?_
  refine g_if_eq F 101 dX13_fitOf_92 (by decide) (fun c_92 => ?_) (fun h9 => absurd (by decide) h9) 
  refine g_iconst F 0 dX13_fitOf_101 (by decide) ?_
  refine g_ior F dX13_fitOf_102 ?_
  refine g_fold 1 (by decide) ?_
  refine g_istore_n F [(2, .int 1), (5, .int 0), (4, .int 0), (3, .int 12), (0, .ref m0), (1, .int a)] dX13_fitOf_103 rfl (by decide) rfl ?_
  refine g_iinc F (j := 3) 13 [(3, .int 13), (2, .int 1), (5, .int 0), (4, .int 0), (0, .ref m0), (1, .int a)] dX13_fitOf_104 rfl (by decide) (by decide) rfl ?_
  refine g_goto F 8 dX13_fitOf_107 (by decide) ?_
  refine g_iload_n F 0 dX13_fitOf_8 rfl rfl ?_
  refine g_bipush F 16 dX13_fitOf_9 (by decide) ?_
  refine g_icmp_ge F 110 dX13_fitOf_11 (by decide) (fun h9 => absurd h9 (by decide)) (fun c_11 => ?_)
  refine g_aload_n F 4 dX13_fitOf_14 rfl rfl ?_
  refine g_iload_n F 0 dX13_fitOf_15 rfl rfl ?_
  refine g_callVi (k := 0) (n := 0) (b := m0) (As := [.int 13]) (st := []) (wc := [(m0, .inr (12, [.ref m_stop, .ref m_tape, .int 0, .int 0, .int 0, .int 0, .int 0, .int 0, .int 0, .int (-1), .ref m_rule, .ref m_readRule, .ref m_teeth, .ref m_readTeeth, .ref m_sway, .ref m_readSway, .ref m_isTold, .ref m_markKind, .ref m_markValue, .ref m_marks, .int 5, .int 0, .ref m_pile, .ref m_height, .ref m_leftPass, .ref m_leftTurn, .ref m_leftTooth, .ref m_leftX, .int w_3, .int 0, .ref m_kept, .ref m_keptWear, .int 0, .ref m_now, .ref m_passed, .int 0, .int 0, .int 0, .ref m_planTime, .ref m_planMany, .ref m_planned, .ref m_isQuiet, .int 0, .int 0, .ref m_keptTeeth, .int 0, .int 0, .ref m_jobRing, .ref m_jobSpeed, .ref m_jobFeed, .ref m_jobTurns, .ref m_orderRow, .ref m_bestRow, .int 0, .ref m_orderTold, .int 0, .int 0, .int 0, .int 0, .ref m_offerRing, .ref m_offerSpeed, .ref m_offerFeed, .ref m_offerTurns, .ref m_heardOffer, .ref m_heardVerdict, .ref m_heardAt, .ref m_rightOf, .ref m_rightVerdict, .ref m_rightAt, .ref m_verdictOf, .ref m_sound, .ref m_readSound, .int 0])), (m_rule, .inl (cI, 12, .inl gz_untold))]) (wr := [(m_kept, .inl (cI, 672, .inl g1_3)), (m_height, .inl (cI, 96, .inl g2_3)), (m_keptWear, .inl (cI, 7, .inl g3_3))]) F [3, 4] [0, 1, 2] [0] rfl rfl (by decide) rfl (by decide) (by decide) rfl (fun sz => K_X13_isPair13 l D m0 m_stop m_tape 0 0 0 0 0 0 0 (-1) m_rule m_readRule m_teeth m_readTeeth m_sway m_readSway m_isTold m_markKind m_markValue m_marks 5 0 m_pile m_height m_leftPass m_leftTurn m_leftTooth m_leftX w_3 0 m_kept m_keptWear 0 m_now m_passed 0 0 0 m_planTime m_planMany m_planned m_isQuiet 0 0 m_keptTeeth 0 0 m_jobRing m_jobSpeed m_jobFeed m_jobTurns m_orderRow m_bestRow 0 m_orderTold 0 0 0 0 m_offerRing m_offerSpeed m_offerFeed m_offerTurns m_heardOffer m_heardVerdict m_heardAt m_rightOf m_rightVerdict m_rightAt m_verdictOf m_sound m_readSound 0 cI  sz) (cwV 1 hts gX13_fitOf_X13_isPair rfl rfl rfl (by decide +kernel) ⟨Nat.le_of_ble_eq_true rfl, Nat.le_of_ble_eq_true rfl⟩) rfl 0 rfl rfl (Nat.le_of_ble_eq_true rfl) ⟨Nat.le_of_ble_eq_true rfl, Nat.le_of_ble_eq_true rfl⟩ dX13_fitOf_16 (fun r_71 _ hw_72 => ?_)
  have hw_72 : r_71 = 0 := hw_72
  have e_r_71 := hw_72
  show gG p l e (gR 3 0 0 84) s m args below meth c D A 6 Q 0 0 [(m_kept, .inl (cI, 672, .inl g1_3)), (m_height, .inl (cI, 96, .inl g2_3)), (m_keptWear, .inl (cI, 7, .inl g3_3)), (m0, .inr (12, [.ref m_stop, .ref m_tape, .int 0, .int 0, .int 0, .int 0, .int 0, .int 0, .int 0, .int (-1), .ref m_rule, .ref m_readRule, .ref m_teeth, .ref m_readTeeth, .ref m_sway, .ref m_readSway, .ref m_isTold, .ref m_markKind, .ref m_markValue, .ref m_marks, .int 5, .int 0, .ref m_pile, .ref m_height, .ref m_leftPass, .ref m_leftTurn, .ref m_leftTooth, .ref m_leftX, .int w_3, .int 0, .ref m_kept, .ref m_keptWear, .int 0, .ref m_now, .ref m_passed, .int 0, .int 0, .int 0, .ref m_planTime, .ref m_planMany, .ref m_planned, .ref m_isQuiet, .int 0, .int 0, .ref m_keptTeeth, .int 0, .int 0, .ref m_jobRing, .ref m_jobSpeed, .ref m_jobFeed, .ref m_jobTurns, .ref m_orderRow, .ref m_bestRow, .int 0, .ref m_orderTold, .int 0, .int 0, .int 0, .int 0, .ref m_offerRing, .ref m_offerSpeed, .ref m_offerFeed, .ref m_offerTurns, .ref m_heardOffer, .ref m_heardVerdict, .ref m_heardAt, .ref m_rightOf, .ref m_rightVerdict, .ref m_rightAt, .ref m_verdictOf, .ref m_sound, .ref m_readSound, .int 0])), (m_rule, .inl (cI, 12, .inl gz_untold))] [(cI, .int)] [(3, .int 13), (2, .int 1), (5, .int 0), (4, .int 0), (0, .ref m0), (1, .int a)] 19 [.int r_71]
  refine g_fold 0 e_r_71 ?_
  refine g_istore F [(4, .int 0), (3, .int 13), (2, .int 1), (5, .int 0), (0, .ref m0), (1, .int a)] dX13_fitOf_19 (by decide) rfl ?_
  refine g_iconst F 0 dX13_fitOf_21 (by decide) ?_
  refine g_istore F [(5, .int 0), (4, .int 0), (3, .int 13), (2, .int 1), (0, .ref m0), (1, .int a)] dX13_fitOf_22 (by decide) rfl ?_
  refine g_iload F 0 dX13_fitOf_24 rfl ?_
  refine g_aload_n F 4 dX13_fitOf_26 rfl rfl ?_
  refine g_get (C := RX13) (T := TX13) (N := 73) (v := .int 0) F i_X13 3 rfl rfl 56 (by decide) w_0 rfl rfl dX13_fitOf_27 ?_
  refine g_icmp_ge F 89 dX13_fitOf_30 (by decide) (fun c_30 => ?_) (fun h9 => absurd (by decide) h9) 
  refine g_iload_n F 3 dX13_fitOf_89 rfl rfl ?_
  refine g_iload F 1 dX13_fitOf_90 rfl ?_
  refine g_if_eq F 101 dX13_fitOf_92 (by decide) (fun c_92 => ?_) (fun h9 => absurd (by decide) h9) 
  refine g_iconst F 0 dX13_fitOf_101 (by decide) ?_
  refine g_ior F dX13_fitOf_102 ?_
  refine g_fold 1 (by decide) ?_
  refine g_istore_n F [(2, .int 1), (5, .int 0), (4, .int 0), (3, .int 13), (0, .ref m0), (1, .int a)] dX13_fitOf_103 rfl (by decide) rfl ?_
  refine g_iinc F (j := 3) 14 [(3, .int 14), (2, .int 1), (5, .int 0), (4, .int 0), (0, .ref m0), (1, .int a)] dX13_fitOf_104 rfl (by decide) (by decide) rfl ?_
  refine g_goto F 8 dX13_fitOf_107 (by decide) ?_
  refine g_iload_n F 0 dX13_fitOf_8 rfl rfl ?_
  refine g_bipush F 16 dX13_fitOf_9 (by decide) ?_
  refine g_icmp_ge F 110 dX13_fitOf_11 (by decide) (fun h9 => absurd h9 (by decide)) (fun c_11 => ?_)
  refine g_aload_n F 4 dX13_fitOf_14 rfl rfl ?_
  refine g_iload_n F 0 dX13_fitOf_15 rfl rfl ?_
  refine g_callVi (k := 0) (n := 0) (b := m0) (As := [.int 14]) (st := []) (wc := [(m0, .inr (12, [.ref m_stop, .ref m_tape, .int 0, .int 0, .int 0, .int 0, .int 0, .int 0, .int 0, .int (-1), .ref m_rule, .ref m_readRule, .ref m_teeth, .ref m_readTeeth, .ref m_sway, .ref m_readSway, .ref m_isTold, .ref m_markKind, .ref m_markValue, .ref m_marks, .int 5, .int 0, .ref m_pile, .ref m_height, .ref m_leftPass, .ref m_leftTurn, .ref m_leftTooth, .ref m_leftX, .int w_3, .int 0, .ref m_kept, .ref m_keptWear, .int 0, .ref m_now, .ref m_passed, .int 0, .int 0, .int 0, .ref m_planTime, .ref m_planMany, .ref m_planned, .ref m_isQuiet, .int 0, .int 0, .ref m_keptTeeth, .int 0, .int 0, .ref m_jobRing, .ref m_jobSpeed, .ref m_jobFeed, .ref m_jobTurns, .ref m_orderRow, .ref m_bestRow, .int 0, .ref m_orderTold, .int 0, .int 0, .int 0, .int 0, .ref m_offerRing, .ref m_offerSpeed, .ref m_offerFeed, .ref m_offerTurns, .ref m_heardOffer, .ref m_heardVerdict, .ref m_heardAt, .ref m_rightOf, .ref m_rightVerdict, .ref m_rightAt, .ref m_verdictOf, .ref m_sound, .ref m_readSound, .int 0])), (m_rule, .inl (cI, 12, .inl gz_untold))]) (wr := [(m_kept, .inl (cI, 672, .inl g1_3)), (m_height, .inl (cI, 96, .inl g2_3)), (m_keptWear, .inl (cI, 7, .inl g3_3))]) F [3, 4] [0, 1, 2] [0] rfl rfl (by decide) rfl (by decide) (by decide) rfl (fun sz => K_X13_isPair14 l D m0 m_stop m_tape 0 0 0 0 0 0 0 (-1) m_rule m_readRule m_teeth m_readTeeth m_sway m_readSway m_isTold m_markKind m_markValue m_marks 5 0 m_pile m_height m_leftPass m_leftTurn m_leftTooth m_leftX w_3 0 m_kept m_keptWear 0 m_now m_passed 0 0 0 m_planTime m_planMany m_planned m_isQuiet 0 0 m_keptTeeth 0 0 m_jobRing m_jobSpeed m_jobFeed m_jobTurns m_orderRow m_bestRow 0 m_orderTold 0 0 0 0 m_offerRing m_offerSpeed m_offerFeed m_offerTurns m_heardOffer m_heardVerdict m_heardAt m_rightOf m_rightVerdict m_rightAt m_verdictOf m_sound m_readSound 0 cI  sz) (cwV 1 hts gX13_fitOf_X13_isPair rfl rfl rfl (by decide +kernel) ⟨Nat.le_of_ble_eq_true rfl, Nat.le_of_ble_eq_true rfl⟩) rfl 0 rfl rfl (Nat.le_of_ble_eq_true rfl) ⟨Nat.le_of_ble_eq_true rfl, Nat.le_of_ble_eq_true rfl⟩ dX13_fitOf_16 (fun r_76 _ hw_77 => ?_)
  have hw_77 : r_76 = 0 := hw_77
  have e_r_76 := hw_77
  show gG p l e (gR 3 0 0 84) s m args below meth c D A 6 Q 0 0 [(m_kept, .inl (cI, 672, .inl g1_3)), (m_height, .inl (cI, 96, .inl g2_3)), (m_keptWear, .inl (cI, 7, .inl g3_3)), (m0, .inr (12, [.ref m_stop, .ref m_tape, .int 0, .int 0, .int 0, .int 0, .int 0, .int 0, .int 0, .int (-1), .ref m_rule, .ref m_readRule, .ref m_teeth, .ref m_readTeeth, .ref m_sway, .ref m_readSway, .ref m_isTold, .ref m_markKind, .ref m_markValue, .ref m_marks, .int 5, .int 0, .ref m_pile, .ref m_height, .ref m_leftPass, .ref m_leftTurn, .ref m_leftTooth, .ref m_leftX, .int w_3, .int 0, .ref m_kept, .ref m_keptWear, .int 0, .ref m_now, .ref m_passed, .int 0, .int 0, .int 0, .ref m_planTime, .ref m_planMany, .ref m_planned, .ref m_isQuiet, .int 0, .int 0, .ref m_keptTeeth, .int 0, .int 0, .ref m_jobRing, .ref m_jobSpeed, .ref m_jobFeed, .ref m_jobTurns, .ref m_orderRow, .ref m_bestRow, .int 0, .ref m_orderTold, .int 0, .int 0, .int 0, .int 0, .ref m_offerRing, .ref m_offerSpeed, .ref m_offerFeed, .ref m_offerTurns, .ref m_heardOffer, .ref m_heardVerdict, .ref m_heardAt, .ref m_rightOf, .ref m_rightVerdict, .ref m_rightAt, .ref m_verdictOf, .ref m_sound, .ref m_readSound, .int 0])), (m_rule, .inl (cI, 12, .inl gz_untold))] [(cI, .int)] [(3, .int 14), (2, .int 1), (5, .int 0), (4, .int 0), (0, .ref m0), (1, .int a)] 19 [.int r_76]
  refine g_fold 0 e_r_76 ?_
  refine g_istore F [(4, .int 0), (3, .int 14), (2, .int 1), (5, .int 0), (0, .ref m0), (1, .int a)] dX13_fitOf_19 (by decide) rfl ?_
  refine g_iconst F 0 dX13_fitOf_21 (by decide) ?_
  refine g_istore F [(5, .int 0), (4, .int 0), (3, .int 14), (2, .int 1), (0, .ref m0), (1, .int a)] dX13_fitOf_22 (by decide) rfl ?_
  refine g_iload F 0 dX13_fitOf_24 rfl ?_
  refine g_aload_n F 4 dX13_fitOf_26 rfl rfl ?_
  refine g_get (C := RX13) (T := TX13) (N := 73) (v := .int 0) F i_X13 3 rfl rfl 56 (by decide) w_0 rfl rfl dX13_fitOf_27 ?_
  refine g_icmp_ge F 89 dX13_fitOf_30 (by decide) (fun c_30 => ?_) (fun h9 => absurd (by decide) h9) 
  refine g_iload_n F 3 dX13_fitOf_89 rfl rfl ?_
  refine g_iload F 1 dX13_fitOf_90 rfl ?_
  refine g_if_eq F 101 dX13_fitOf_92 (by decide) (fun c_92 => ?_) (fun h9 => absurd (by decide) h9) 
  refine g_iconst F 0 dX13_fitOf_101 (by decide) ?_
  refine g_ior F dX13_fitOf_102 ?_
  refine g_fold 1 (by decide) ?_
  refine g_istore_n F [(2, .int 1), (5, .int 0), (4, .int 0), (3, .int 14), (0, .ref m0), (1, .int a)] dX13_fitOf_103 rfl (by decide) rfl ?_
  refine g_iinc F (j := 3) 15 [(3, .int 15), (2, .int 1), (5, .int 0), (4, .int 0), (0, .ref m0), (1, .int a)] dX13_fitOf_104 rfl (by decide) (by decide) rfl ?_
  refine g_goto F 8 dX13_fitOf_107 (by decide) ?_
  refine g_iload_n F 0 dX13_fitOf_8 rfl rfl ?_
  refine g_bipush F 16 dX13_fitOf_9 (by decide) ?_
  refine g_icmp_ge F 110 dX13_fitOf_11 (by decide) (fun h9 => absurd h9 (by decide)) (fun c_11 => ?_)
  refine g_aload_n F 4 dX13_fitOf_14 rfl rfl ?_
  refine g_iload_n F 0 dX13_fitOf_15 rfl rfl ?_
  refine g_callVi (k := 0) (n := 0) (b := m0) (As := [.int 15]) (st := []) (wc := [(m0, .inr (12, [.ref m_stop, .ref m_tape, .int 0, .int 0, .int 0, .int 0, .int 0, .int 0, .int 0, .int (-1), .ref m_rule, .ref m_readRule, .ref m_teeth, .ref m_readTeeth, .ref m_sway, .ref m_readSway, .ref m_isTold, .ref m_markKind, .ref m_markValue, .ref m_marks, .int 5, .int 0, .ref m_pile, .ref m_height, .ref m_leftPass, .ref m_leftTurn, .ref m_leftTooth, .ref m_leftX, .int w_3, .int 0, .ref m_kept, .ref m_keptWear, .int 0, .ref m_now, .ref m_passed, .int 0, .int 0, .int 0, .ref m_planTime, .ref m_planMany, .ref m_planned, .ref m_isQuiet, .int 0, .int 0, .ref m_keptTeeth, .int 0, .int 0, .ref m_jobRing, .ref m_jobSpeed, .ref m_jobFeed, .ref m_jobTurns, .ref m_orderRow, .ref m_bestRow, .int 0, .ref m_orderTold, .int 0, .int 0, .int 0, .int 0, .ref m_offerRing, .ref m_offerSpeed, .ref m_offerFeed, .ref m_offerTurns, .ref m_heardOffer, .ref m_heardVerdict, .ref m_heardAt, .ref m_rightOf, .ref m_rightVerdict, .ref m_rightAt, .ref m_verdictOf, .ref m_sound, .ref m_readSound, .int 0])), (m_rule, .inl (cI, 12, .inl gz_untold))]) (wr := [(m_kept, .inl (cI, 672, .inl g1_3)), (m_height, .inl (cI, 96, .inl g2_3)), (m_keptWear, .inl (cI, 7, .inl g3_3))]) F [3, 4] [0, 1, 2] [0] rfl rfl (by decide) rfl (by decide) (by decide) rfl (fun sz => K_X13_isPair15 l D m0 m_stop m_tape 0 0 0 0 0 0 0 (-1) m_rule m_readRule m_teeth m_readTeeth m_sway m_readSway m_isTold m_markKind m_markValue m_marks 5 0 m_pile m_height m_leftPass m_leftTurn m_leftTooth m_leftX w_3 0 m_kept m_keptWear 0 m_now m_passed 0 0 0 m_planTime m_planMany m_planned m_isQuiet 0 0 m_keptTeeth 0 0 m_jobRing m_jobSpeed m_jobFeed m_jobTurns m_orderRow m_bestRow 0 m_orderTold 0 0 0 0 m_offerRing m_offerSpeed m_offerFeed m_offerTurns m_heardOffer m_heardVerdict m_heardAt m_rightOf m_rightVerdict m_rightAt m_verdictOf m_sound m_readSound 0 cI  sz) (cwV 1 hts gX13_fitOf_X13_isPair rfl rfl rfl (by decide +kernel) ⟨Nat.le_of_ble_eq_true rfl, Nat.le_of_ble_eq_true rfl⟩) rfl 0 rfl rfl (Nat.le_of_ble_eq_true rfl) ⟨Nat.le_of_ble_eq_true rfl, Nat.le_of_ble_eq_true rfl⟩ dX13_fitOf_16 (fun r_81 _ hw_82 => ?_)
  have hw_82 : r_81 = 0 := hw_82
  have e_r_81 := hw_82
  show gG p l e (gR 3 0 0 84) s m args below meth c D A 6 Q 0 0 [(m_kept, .inl (cI, 672, .inl g1_3)), (m_height, .inl (cI, 96, .inl g2_3)), (m_keptWear, .inl (cI, 7, .inl g3_3)), (m0, .inr (12, [.ref m_stop, .ref m_tape, .int 0, .int 0, .int 0, .int 0, .int 0, .int 0, .int 0, .int (-1), .ref m_rule, .ref m_readRule, .ref m_teeth, .ref m_readTeeth, .ref m_sway, .ref m_readSway, .ref m_isTold, .ref m_markKind, .ref m_markValue, .ref m_marks, .int 5, .int 0, .ref m_pile, .ref m_height, .ref m_leftPass, .ref m_leftTurn, .ref m_leftTooth, .ref m_leftX, .int w_3, .int 0, .ref m_kept, .ref m_keptWear, .int 0, .ref m_now, .ref m_passed, .int 0, .int 0, .int 0, .ref m_planTime, .ref m_planMany, .ref m_planned, .ref m_isQuiet, .int 0, .int 0, .ref m_keptTeeth, .int 0, .int 0, .ref m_jobRing, .ref m_jobSpeed, .ref m_jobFeed, .ref m_jobTurns, .ref m_orderRow, .ref m_bestRow, .int 0, .ref m_orderTold, .int 0, .int 0, .int 0, .int 0, .ref m_offerRing, .ref m_offerSpeed, .ref m_offerFeed, .ref m_offerTurns, .ref m_heardOffer, .ref m_heardVerdict, .ref m_heardAt, .ref m_rightOf, .ref m_rightVerdict, .ref m_rightAt, .ref m_verdictOf, .ref m_sound, .ref m_readSound, .int 0])), (m_rule, .inl (cI, 12, .inl gz_untold))] [(cI, .int)] [(3, .int 15), (2, .int 1), (5, .int 0), (4, .int 0), (0, .ref m0), (1, .int a)] 19 [.int r_81]
  refine g_fold 0 e_r_81 ?_
  refine g_istore F [(4, .int 0), (3, .int 15), (2, .int 1), (5, .int 0), (0, .ref m0), (1, .int a)] dX13_fitOf_19 (by decide) rfl ?_
  refine g_iconst F 0 dX13_fitOf_21 (by decide) ?_
  refine g_istore F [(5, .int 0), (4, .int 0), (3, .int 15), (2, .int 1), (0, .ref m0), (1, .int a)] dX13_fitOf_22 (by decide) rfl ?_
  refine g_iload F 0 dX13_fitOf_24 rfl ?_
  refine g_aload_n F 4 dX13_fitOf_26 rfl rfl ?_
  refine g_get (C := RX13) (T := TX13) (N := 73) (v := .int 0) F i_X13 3 rfl rfl 56 (by decide) w_0 rfl rfl dX13_fitOf_27 ?_
  refine g_icmp_ge F 89 dX13_fitOf_30 (by decide) (fun c_30 => ?_) (fun h9 => absurd (by decide) h9) 
  refine g_iload_n F 3 dX13_fitOf_89 rfl rfl ?_
  refine g_iload F 1 dX13_fitOf_90 rfl ?_
  refine g_if_eq F 101 dX13_fitOf_92 (by decide) (fun c_92 => ?_) (fun h9 => absurd (by decide) h9) 
  refine g_iconst F 0 dX13_fitOf_101 (by decide) ?_
  refine g_ior F dX13_fitOf_102 ?_
  refine g_fold 1 (by decide) ?_
  refine g_istore_n F [(2, .int 1), (5, .int 0), (4, .int 0), (3, .int 15), (0, .ref m0), (1, .int a)] dX13_fitOf_103 rfl (by decide) rfl ?_
  refine g_iinc F (j := 3) 16 [(3, .int 16), (2, .int 1), (5, .int 0), (4, .int 0), (0, .ref m0), (1, .int a)] dX13_fitOf_104 rfl (by decide) (by decide) rfl ?_
  refine g_goto F 8 dX13_fitOf_107 (by decide) ?_
  refine g_iload_n F 0 dX13_fitOf_8 rfl rfl ?_
  refine g_bipush F 16 dX13_fitOf_9 (by decide) ?_
  refine g_icmp_ge F 110 dX13_fitOf_11 (by decide) (fun c_11 => ?_) (fun h9 => absurd (by decide) h9) 
  refine g_iload_n F 1 dX13_fitOf_110 rfl rfl ?_
  exact g_iret F hA hQ hr (g1_3, g2_3, g3_3, w_3) (rfl) [3, 0, 1, 2, 4] [0] rfl (by decide) rfl rfl dX13_fitOf_111

theorem dX13_fit_0 : decode cX13_fit 0 = .ok (.iload_n 1, 1) := by decide +kernel
theorem dX13_fit_1 : decode cX13_fit 1 = .ok (.i2l, 1) := by decide +kernel
theorem dX13_fit_2 : decode cX13_fit 2 = .ok (.lconst 0, 1) := by decide +kernel
theorem dX13_fit_3 : decode cX13_fit 3 = .ok (.ldc2_w 500, 3) := by decide +kernel
theorem dX13_fit_6 : decode cX13_fit 6 = .ok (.invokestatic 61, 3) := by decide +kernel
theorem dX13_fit_9 : decode cX13_fit 9 = .ok (.ifCond .eq 11, 3) := by decide +kernel
theorem dX13_fit_12 : decode cX13_fit 12 = .ok (.aload_n 0, 1) := by decide +kernel
theorem dX13_fit_13 : decode cX13_fit 13 = .ok (.iload_n 1, 1) := by decide +kernel
theorem dX13_fit_14 : decode cX13_fit 14 = .ok (.invokevirtual 511, 3) := by decide +kernel
theorem dX13_fit_17 : decode cX13_fit 17 = .ok (.goto 5, 3) := by decide +kernel
theorem dX13_fit_20 : decode cX13_fit 20 = .ok (.bipush (-2), 2) := by decide +kernel
theorem dX13_fit_22 : decode cX13_fit 22 = .ok (.ireturn, 1) := by decide +kernel
set_option maxRecDepth 20000 in
theorem ggX13_fit_X13_fitOf : GoodIn wsX13_fit wsX13_fitOf := goodIn_r _ [9, 10, 11, 12, 13, 14, 15, 4, 16, 17, 18, 19, 20, 21, 22, 23, 24, 25, 26, 27, 28, 29, 30, 31, 32, 33, 34, 35, 36, 37, 38, 39, 40, 41, 42, 43, 44, 45, 46, 47, 48, 49, 50, 51, 52, 53, 54, 55, 56, 57, 58, 59, 60, 61, 62, 63, 64, 65, 66, 67, 68, 69, 70, 71, 72, 73, 74, 75, 76, 77, 78, 79, 80, 81, 82, 83, 84, 85, 86, 87, 88, 89, 90, 91, 92, 93, 94, 95, 96, 97, 98, 99, 100, 101, 102, 103, 104, 105, 106, 107, 108, 109, 110, 111, 112, 113, 114, 115, 116, 117, 118, 119, 120, 121, 122, 123, 124, 125, 126, 127, 128, 129, 130, 131, 132, 133, 134, 135, 136, 137, 138, 139, 140, 141, 142, 143, 144, 145, 146, 147, 148, 149, 150, 151, 152, 153, 154, 155, 156, 157, 158, 159, 160, 161, 162, 163, 164, 165, 166, 167, 168, 169, 170, 171, 172, 173, 174, 175, 176, 177, 178, 179, 180, 181, 182, 183, 184] rfl (by decide +kernel)
set_option maxRecDepth 20000 in
theorem gX13_fit_X13_fitOf : GoodIn wsX13_fit (wsV RX13 511 RX13 yX13_fitOf wsX13_fitOf) := goodIn_app (goodIn_of _ (by decide +kernel)) ggX13_fit_X13_fitOf
set_option maxRecDepth 20000 in
theorem ggX13_fit_X13_in : GoodIn wsX13_fit wsX13_in := goodIn_r _ [5] rfl (by decide +kernel)
set_option maxRecDepth 20000 in
theorem gX13_fit_X13_in : GoodIn wsX13_fit (va_wsS RX13 61 yX13_in wsX13_in) := goodIn_app (goodIn_of _ (by decide +kernel)) ggX13_fit_X13_in
set_option maxHeartbeats 4000000 in
set_option maxRecDepth 100000 in
theorem K_X13_fit (l : Launch) (D : va_G) (m0 : Nat) (m_stop : Nat) (m_tape : Nat) (m_rule : Nat) (m_readRule : Nat) (m_teeth : Nat) (m_readTeeth : Nat) (m_sway : Nat) (m_readSway : Nat) (m_isTold : Nat) (m_markKind : Nat) (m_markValue : Nat) (m_marks : Nat) (m_pile : Nat) (m_height : Nat) (m_leftPass : Nat) (m_leftTurn : Nat) (m_leftTooth : Nat) (m_leftX : Nat) (m_kept : Nat) (m_keptWear : Nat) (m_now : Nat) (m_passed : Nat) (m_planTime : Nat) (m_planMany : Nat) (m_planned : Nat) (m_isQuiet : Nat) (m_keptTeeth : Nat) (m_jobRing : Nat) (m_jobSpeed : Nat) (m_jobFeed : Nat) (m_jobTurns : Nat) (m_orderRow : Nat) (m_bestRow : Nat) (m_orderTold : Nat) (m_offerRing : Nat) (m_offerSpeed : Nat) (m_offerFeed : Nat) (m_offerTurns : Nat) (m_heardOffer : Nat) (m_heardVerdict : Nat) (m_heardAt : Nat) (m_rightOf : Nat) (m_rightVerdict : Nat) (m_rightAt : Nat) (m_verdictOf : Nat) (m_sound : Nat) (m_readSound : Nat) (cI : ClassId) (a : Int32) (sz : Nat) : Ki l yX13_fit wsX13_fit 4 109 0 0 D [.ref m0, .int a] [(m0, .inr (12, [.ref m_stop, .ref m_tape, .int 0, .int 0, .int 0, .int 0, .int 0, .int 0, .int 0, .int (-1), .ref m_rule, .ref m_readRule, .ref m_teeth, .ref m_readTeeth, .ref m_sway, .ref m_readSway, .ref m_isTold, .ref m_markKind, .ref m_markValue, .ref m_marks, .int 5, .int 0, .ref m_pile, .ref m_height, .ref m_leftPass, .ref m_leftTurn, .ref m_leftTooth, .ref m_leftX, .int 0, .int 0, .ref m_kept, .ref m_keptWear, .int 0, .ref m_now, .ref m_passed, .int 0, .int 0, .int 0, .ref m_planTime, .ref m_planMany, .ref m_planned, .ref m_isQuiet, .int 0, .int 0, .ref m_keptTeeth, .int 0, .int 0, .ref m_jobRing, .ref m_jobSpeed, .ref m_jobFeed, .ref m_jobTurns, .ref m_orderRow, .ref m_bestRow, .int 0, .ref m_orderTold, .int 0, .int 0, .int 0, .int 0, .ref m_offerRing, .ref m_offerSpeed, .ref m_offerFeed, .ref m_offerTurns, .ref m_heardOffer, .ref m_heardVerdict, .ref m_heardAt, .ref m_rightOf, .ref m_rightVerdict, .ref m_rightAt, .ref m_verdictOf, .ref m_sound, .ref m_readSound, .int 0])), (m_kept, .inl (cI, 672, .inl (fun _ => 0))), (m_height, .inl (cI, 96, .inl (fun _ => 1000))), (m_keptWear, .inl (cI, 7, .inl (fun _ => 0))), (m_rule, .inl (cI, 12, .inl gz_untold))] [(cI, .int)] sz (fun (r : Int32) (_ : Unit) => r = (if 0 ≤ a ∧ a ≤ 999 then 1 else (-2))) (fun (_ : Unit) => []) (fun (_ : Unit) => [(cI, .int)]) := by
  unfold Ki
  refine g_ofW (cc := cX13_fit) (lv := [(0, .ref m0), (1, .int a)]) (by decide) rfl (Nat.le_of_ble_eq_true rfl) rfl ?_
  intro p e s m args below meth c A Q hA hQ F hr hnm
  have hts := F.2.2.2.2.1
  have w_0 : (Cond.constantLong RX13 500 (999)).before args s = true := hts _ (List.mem_of_getElem? (i := 1) rfl)
  refine g_iload_n F 1 dX13_fit_0 rfl rfl ?_
  refine g_i2l F dX13_fit_1 ?_
  refine g_lconst F 0 dX13_fit_2 (by decide) ?_
  refine g_ldc2 F w_0 dX13_fit_3 ?_
  refine g_callSi (k := 0) (n := 0) (As := [.long a.toInt64, .long 0, .long 999]) (st := []) (wc := []) (wr := [(m0, .inr (12, [.ref m_stop, .ref m_tape, .int 0, .int 0, .int 0, .int 0, .int 0, .int 0, .int 0, .int (-1), .ref m_rule, .ref m_readRule, .ref m_teeth, .ref m_readTeeth, .ref m_sway, .ref m_readSway, .ref m_isTold, .ref m_markKind, .ref m_markValue, .ref m_marks, .int 5, .int 0, .ref m_pile, .ref m_height, .ref m_leftPass, .ref m_leftTurn, .ref m_leftTooth, .ref m_leftX, .int 0, .int 0, .ref m_kept, .ref m_keptWear, .int 0, .ref m_now, .ref m_passed, .int 0, .int 0, .int 0, .ref m_planTime, .ref m_planMany, .ref m_planned, .ref m_isQuiet, .int 0, .int 0, .ref m_keptTeeth, .int 0, .int 0, .ref m_jobRing, .ref m_jobSpeed, .ref m_jobFeed, .ref m_jobTurns, .ref m_orderRow, .ref m_bestRow, .int 0, .ref m_orderTold, .int 0, .int 0, .int 0, .int 0, .ref m_offerRing, .ref m_offerSpeed, .ref m_offerFeed, .ref m_offerTurns, .ref m_heardOffer, .ref m_heardVerdict, .ref m_heardAt, .ref m_rightOf, .ref m_rightVerdict, .ref m_rightAt, .ref m_verdictOf, .ref m_sound, .ref m_readSound, .int 0])), (m_kept, .inl (cI, 672, .inl (fun _ => 0))), (m_height, .inl (cI, 96, .inl (fun _ => 1000))), (m_keptWear, .inl (cI, 7, .inl (fun _ => 0))), (m_rule, .inl (cI, 12, .inl gz_untold))]) F [] [0, 1, 2, 3, 4] [] rfl rfl (by decide) rfl (by decide) (by decide) rfl (fun sz => K_X13_in l D a.toInt64 0 999  sz) (va_cwS 3 hts gX13_fit_X13_in rfl rfl rfl (by decide +kernel) ⟨Nat.le_of_ble_eq_true rfl, Nat.le_of_ble_eq_true rfl⟩) rfl (Nat.le_of_ble_eq_true rfl) ⟨Nat.le_of_ble_eq_true rfl, Nat.le_of_ble_eq_true rfl⟩ dX13_fit_6 (fun r_1 _ hw_2 => ?_)
  have hw_2 : r_1 = (if 0 ≤ a.toInt64 ∧ a.toInt64 ≤ 999 then 1 else 0) := hw_2
  have e_r_1 := hw_2
  show gG p l e (gR 4 0 0 109) s m args below meth c D A 2 Q 0 0 [(m0, .inr (12, [.ref m_stop, .ref m_tape, .int 0, .int 0, .int 0, .int 0, .int 0, .int 0, .int 0, .int (-1), .ref m_rule, .ref m_readRule, .ref m_teeth, .ref m_readTeeth, .ref m_sway, .ref m_readSway, .ref m_isTold, .ref m_markKind, .ref m_markValue, .ref m_marks, .int 5, .int 0, .ref m_pile, .ref m_height, .ref m_leftPass, .ref m_leftTurn, .ref m_leftTooth, .ref m_leftX, .int 0, .int 0, .ref m_kept, .ref m_keptWear, .int 0, .ref m_now, .ref m_passed, .int 0, .int 0, .int 0, .ref m_planTime, .ref m_planMany, .ref m_planned, .ref m_isQuiet, .int 0, .int 0, .ref m_keptTeeth, .int 0, .int 0, .ref m_jobRing, .ref m_jobSpeed, .ref m_jobFeed, .ref m_jobTurns, .ref m_orderRow, .ref m_bestRow, .int 0, .ref m_orderTold, .int 0, .int 0, .int 0, .int 0, .ref m_offerRing, .ref m_offerSpeed, .ref m_offerFeed, .ref m_offerTurns, .ref m_heardOffer, .ref m_heardVerdict, .ref m_heardAt, .ref m_rightOf, .ref m_rightVerdict, .ref m_rightAt, .ref m_verdictOf, .ref m_sound, .ref m_readSound, .int 0])), (m_kept, .inl (cI, 672, .inl (fun _ => 0))), (m_height, .inl (cI, 96, .inl (fun _ => 1000))), (m_keptWear, .inl (cI, 7, .inl (fun _ => 0))), (m_rule, .inl (cI, 12, .inl gz_untold))] [(cI, .int)] [(0, .ref m0), (1, .int a)] 9 [.int r_1]
  refine g_fold (if 0 ≤ a.toInt64 ∧ a.toInt64 ≤ 999 then 1 else 0) e_r_1 ?_
  refine g_fold (if 0 ≤ a ∧ a ≤ 999 then 1 else 0) (gl_in a 0 999 _ _ (by decide) (by decide)) ?_
  refine g_if_eq F 20 dX13_fit_9 (by decide) (fun c_9 => ?_) (fun c_9 => ?_)
  · have c_9 := gb_0 c_9
    refine g_bipush F (-2) dX13_fit_20 (by decide) ?_
    exact g_iret F hA hQ hr () (by first | exact (gi_e (by (simp only [Int32.lt_iff_toInt_lt, Int32.le_iff_toInt_le, ← Int32.toInt_inj, Int32.reduceToInt] at c_9 ⊢; omega)) rfl)) [] [0] rfl (by decide) rfl rfl dX13_fit_22
  · have c_9 := gb_n0 c_9
    refine g_aload_n F 0 dX13_fit_12 rfl rfl ?_
    refine g_iload_n F 1 dX13_fit_13 rfl rfl ?_
    refine g_callVi (k := 0) (n := 0) (b := m0) (As := [.int a]) (st := []) (wc := [(m0, .inr (12, [.ref m_stop, .ref m_tape, .int 0, .int 0, .int 0, .int 0, .int 0, .int 0, .int 0, .int (-1), .ref m_rule, .ref m_readRule, .ref m_teeth, .ref m_readTeeth, .ref m_sway, .ref m_readSway, .ref m_isTold, .ref m_markKind, .ref m_markValue, .ref m_marks, .int 5, .int 0, .ref m_pile, .ref m_height, .ref m_leftPass, .ref m_leftTurn, .ref m_leftTooth, .ref m_leftX, .int 0, .int 0, .ref m_kept, .ref m_keptWear, .int 0, .ref m_now, .ref m_passed, .int 0, .int 0, .int 0, .ref m_planTime, .ref m_planMany, .ref m_planned, .ref m_isQuiet, .int 0, .int 0, .ref m_keptTeeth, .int 0, .int 0, .ref m_jobRing, .ref m_jobSpeed, .ref m_jobFeed, .ref m_jobTurns, .ref m_orderRow, .ref m_bestRow, .int 0, .ref m_orderTold, .int 0, .int 0, .int 0, .int 0, .ref m_offerRing, .ref m_offerSpeed, .ref m_offerFeed, .ref m_offerTurns, .ref m_heardOffer, .ref m_heardVerdict, .ref m_heardAt, .ref m_rightOf, .ref m_rightVerdict, .ref m_rightAt, .ref m_verdictOf, .ref m_sound, .ref m_readSound, .int 0])), (m_kept, .inl (cI, 672, .inl (fun _ => 0))), (m_height, .inl (cI, 96, .inl (fun _ => 1000))), (m_keptWear, .inl (cI, 7, .inl (fun _ => 0))), (m_rule, .inl (cI, 12, .inl gz_untold))]) (wr := []) F [0, 1, 2, 3, 4] [] [0] rfl rfl (by decide) rfl (by decide) (by decide) rfl (fun sz => K_X13_fitOf l D m0 m_stop m_tape m_rule m_readRule m_teeth m_readTeeth m_sway m_readSway m_isTold m_markKind m_markValue m_marks m_pile m_height m_leftPass m_leftTurn m_leftTooth m_leftX m_kept m_keptWear m_now m_passed m_planTime m_planMany m_planned m_isQuiet m_keptTeeth m_jobRing m_jobSpeed m_jobFeed m_jobTurns m_orderRow m_bestRow m_orderTold m_offerRing m_offerSpeed m_offerFeed m_offerTurns m_heardOffer m_heardVerdict m_heardAt m_rightOf m_rightVerdict m_rightAt m_verdictOf m_sound m_readSound cI a  sz) (cwV 1 hts gX13_fit_X13_fitOf rfl rfl rfl (by decide +kernel) ⟨Nat.le_of_ble_eq_true rfl, Nat.le_of_ble_eq_true rfl⟩) rfl 0 rfl rfl (Nat.le_of_ble_eq_true rfl) ⟨Nat.le_of_ble_eq_true rfl, Nat.le_of_ble_eq_true rfl⟩ dX13_fit_14 (fun r_6 u_5 hw_7 => ?_)
    obtain ⟨g1_8, g2_8, g3_8, w_8⟩ := u_5
    have hw_7 : r_6 = 1 := hw_7
    have e_r_6 := hw_7
    show gG p l e (gR 4 0 0 109) s m args below meth c D A 2 Q 0 0 [(m0, .inr (12, [.ref m_stop, .ref m_tape, .int 0, .int 0, .int 0, .int 0, .int 0, .int 0, .int 0, .int (-1), .ref m_rule, .ref m_readRule, .ref m_teeth, .ref m_readTeeth, .ref m_sway, .ref m_readSway, .ref m_isTold, .ref m_markKind, .ref m_markValue, .ref m_marks, .int 5, .int 0, .ref m_pile, .ref m_height, .ref m_leftPass, .ref m_leftTurn, .ref m_leftTooth, .ref m_leftX, .int w_8, .int 0, .ref m_kept, .ref m_keptWear, .int 0, .ref m_now, .ref m_passed, .int 0, .int 0, .int 0, .ref m_planTime, .ref m_planMany, .ref m_planned, .ref m_isQuiet, .int 0, .int 0, .ref m_keptTeeth, .int 0, .int 0, .ref m_jobRing, .ref m_jobSpeed, .ref m_jobFeed, .ref m_jobTurns, .ref m_orderRow, .ref m_bestRow, .int 0, .ref m_orderTold, .int 0, .int 0, .int 0, .int 0, .ref m_offerRing, .ref m_offerSpeed, .ref m_offerFeed, .ref m_offerTurns, .ref m_heardOffer, .ref m_heardVerdict, .ref m_heardAt, .ref m_rightOf, .ref m_rightVerdict, .ref m_rightAt, .ref m_verdictOf, .ref m_sound, .ref m_readSound, .int 0])), (m_kept, .inl (cI, 672, .inl g1_8)), (m_height, .inl (cI, 96, .inl g2_8)), (m_keptWear, .inl (cI, 7, .inl g3_8)), (m_rule, .inl (cI, 12, .inl gz_untold))] [(cI, .int)] [(0, .ref m0), (1, .int a)] 17 [.int r_6]
    refine g_fold 1 e_r_6 ?_
    refine g_goto F 22 dX13_fit_17 (by decide) ?_
    exact g_iret F hA hQ hr () (by first | exact (gi_p (by (simp only [Int32.lt_iff_toInt_lt, Int32.le_iff_toInt_le, ← Int32.toInt_inj, Int32.reduceToInt] at c_9 ⊢; omega)) rfl)) [] [0] rfl (by decide) rfl rfl dX13_fit_22

theorem dX13_bits_0 : decode cX13_bits 0 = .ok (.iconst 0, 1) := by decide +kernel
theorem dX13_bits_1 : decode cX13_bits 1 = .ok (.istore_n 1, 1) := by decide +kernel
theorem dX13_bits_2 : decode cX13_bits 2 = .ok (.iload_n 0, 1) := by decide +kernel
theorem dX13_bits_3 : decode cX13_bits 3 = .ok (.istore_n 2, 1) := by decide +kernel
theorem dX13_bits_4 : decode cX13_bits 4 = .ok (.iload_n 2, 1) := by decide +kernel
theorem dX13_bits_5 : decode cX13_bits 5 = .ok (.ifCond .eq 15, 3) := by decide +kernel
theorem dX13_bits_8 : decode cX13_bits 8 = .ok (.iinc 1 1, 3) := by decide +kernel
theorem dX13_bits_11 : decode cX13_bits 11 = .ok (.iload_n 2, 1) := by decide +kernel
theorem dX13_bits_12 : decode cX13_bits 12 = .ok (.iload_n 2, 1) := by decide +kernel
theorem dX13_bits_13 : decode cX13_bits 13 = .ok (.iconst 1, 1) := by decide +kernel
theorem dX13_bits_14 : decode cX13_bits 14 = .ok (.isub, 1) := by decide +kernel
theorem dX13_bits_15 : decode cX13_bits 15 = .ok (.iand, 1) := by decide +kernel
theorem dX13_bits_16 : decode cX13_bits 16 = .ok (.istore_n 2, 1) := by decide +kernel
theorem dX13_bits_17 : decode cX13_bits 17 = .ok (.goto (-13), 3) := by decide +kernel
theorem dX13_bits_20 : decode cX13_bits 20 = .ok (.iload_n 1, 1) := by decide +kernel
theorem dX13_bits_21 : decode cX13_bits 21 = .ok (.ireturn, 1) := by decide +kernel
set_option maxHeartbeats 4000000 in
set_option maxRecDepth 100000 in
theorem K_X13_bits1 (l : Launch) (D : va_G) (sz : Nat) : Ki l yX13_bits wsX13_bits 1 30 0 0 D [.int 1] [] [] sz (fun (r : Int32) (_ : Unit) => r = 1) (fun (_ : Unit) => []) (fun (_ : Unit) => []) := by
  unfold Ki
  refine g_ofW (cc := cX13_bits) (lv := [(0, .int 1)]) (by decide) rfl (Nat.le_of_ble_eq_true rfl) rfl ?_
  intro p e s m args below meth c A Q hA hQ F hr hnm
  have hts := F.2.2.2.2.1
  refine g_iconst F 0 dX13_bits_0 (by decide) ?_
  refine g_istore_n F [(1, .int 0), (0, .int 1)] dX13_bits_1 rfl (by decide) rfl ?_
  refine g_iload_n F 1 dX13_bits_2 rfl rfl ?_
  refine g_istore_n F [(2, .int 1), (1, .int 0), (0, .int 1)] dX13_bits_3 rfl (by decide) rfl ?_
  refine g_iload_n F 0 dX13_bits_4 rfl rfl ?_
  refine g_if_eq F 20 dX13_bits_5 (by decide) (fun h9 => absurd h9 (by decide)) (fun c_5 => ?_)
  refine g_iinc F (j := 1) 1 [(1, .int 1), (2, .int 1), (0, .int 1)] dX13_bits_8 rfl (by decide) (by decide) rfl ?_
  refine g_iload_n F 1 dX13_bits_11 rfl rfl ?_
  refine g_iload_n F 1 dX13_bits_12 rfl rfl ?_
  refine g_iconst F 1 dX13_bits_13 (by decide) ?_
  refine g_isub F dX13_bits_14 ?_
  refine g_fold 0 (by decide) ?_
  refine g_iand F dX13_bits_15 ?_
  refine g_fold 0 (by decide) ?_
  refine g_istore_n F [(2, .int 0), (1, .int 1), (0, .int 1)] dX13_bits_16 rfl (by decide) rfl ?_
  refine g_goto F 4 dX13_bits_17 (by decide) ?_
  refine g_iload_n F 0 dX13_bits_4 rfl rfl ?_
  refine g_if_eq F 20 dX13_bits_5 (by decide) (fun c_5 => ?_) (fun h9 => absurd (by decide) h9) 
  refine g_iload_n F 1 dX13_bits_20 rfl rfl ?_
  exact g_iret F hA hQ hr () (rfl) [] [] rfl (by decide) rfl rfl dX13_bits_21

theorem dX13_next_0 : decode cX13_next 0 = .ok (.aload_n 0, 1) := by decide +kernel
theorem dX13_next_1 : decode cX13_next 1 = .ok (.sipush 999, 3) := by decide +kernel
theorem dX13_next_4 : decode cX13_next 4 = .ok (.invokevirtual 511, 3) := by decide +kernel
theorem dX13_next_7 : decode cX13_next 7 = .ok (.istore_n 1, 1) := by decide +kernel
theorem dX13_next_8 : decode cX13_next 8 = .ok (.iconst (-1), 1) := by decide +kernel
theorem dX13_next_9 : decode cX13_next 9 = .ok (.istore_n 2, 1) := by decide +kernel
theorem dX13_next_10 : decode cX13_next 10 = .ok (.iload_n 1, 1) := by decide +kernel
theorem dX13_next_11 : decode cX13_next 11 = .ok (.invokestatic 490, 3) := by decide +kernel
theorem dX13_next_14 : decode cX13_next 14 = .ok (.istore_n 3, 1) := by decide +kernel
theorem dX13_next_15 : decode cX13_next 15 = .ok (.iconst 0, 1) := by decide +kernel
theorem dX13_next_16 : decode cX13_next 16 = .ok (.istore 4, 2) := by decide +kernel
theorem dX13_next_18 : decode cX13_next 18 = .ok (.iload 4, 2) := by decide +kernel
theorem dX13_next_20 : decode cX13_next 20 = .ok (.aload_n 0, 1) := by decide +kernel
theorem dX13_next_21 : decode cX13_next 21 = .ok (.getfield 338, 3) := by decide +kernel
theorem dX13_next_24 : decode cX13_next 24 = .ok (.if_icmp .ge 108, 3) := by decide +kernel
theorem dX13_next_27 : decode cX13_next 27 = .ok (.iconst 0, 1) := by decide +kernel
theorem dX13_next_28 : decode cX13_next 28 = .ok (.istore 5, 2) := by decide +kernel
theorem dX13_next_30 : decode cX13_next 30 = .ok (.iconst 0, 1) := by decide +kernel
theorem dX13_next_31 : decode cX13_next 31 = .ok (.istore 6, 2) := by decide +kernel
theorem dX13_next_33 : decode cX13_next 33 = .ok (.iload 6, 2) := by decide +kernel
theorem dX13_next_35 : decode cX13_next 35 = .ok (.iconst 2, 1) := by decide +kernel
theorem dX13_next_36 : decode cX13_next 36 = .ok (.if_icmp .gt 75, 3) := by decide +kernel
theorem dX13_next_39 : decode cX13_next 39 = .ok (.iconst 0, 1) := by decide +kernel
theorem dX13_next_40 : decode cX13_next 40 = .ok (.istore 7, 2) := by decide +kernel
theorem dX13_next_42 : decode cX13_next 42 = .ok (.iconst 0, 1) := by decide +kernel
theorem dX13_next_43 : decode cX13_next 43 = .ok (.istore 8, 2) := by decide +kernel
theorem dX13_next_45 : decode cX13_next 45 = .ok (.iload 8, 2) := by decide +kernel
theorem dX13_next_47 : decode cX13_next 47 = .ok (.bipush 16, 2) := by decide +kernel
theorem dX13_next_49 : decode cX13_next 49 = .ok (.if_icmp .ge 47, 3) := by decide +kernel
theorem dX13_next_52 : decode cX13_next 52 = .ok (.iload 7, 2) := by decide +kernel
theorem dX13_next_54 : decode cX13_next 54 = .ok (.iload_n 1, 1) := by decide +kernel
theorem dX13_next_55 : decode cX13_next 55 = .ok (.iload 8, 2) := by decide +kernel
theorem dX13_next_57 : decode cX13_next 57 = .ok (.ishr, 1) := by decide +kernel
theorem dX13_next_58 : decode cX13_next 58 = .ok (.iconst 1, 1) := by decide +kernel
theorem dX13_next_59 : decode cX13_next 59 = .ok (.iand, 1) := by decide +kernel
theorem dX13_next_60 : decode cX13_next 60 = .ok (.iconst 1, 1) := by decide +kernel
theorem dX13_next_61 : decode cX13_next 61 = .ok (.if_icmp .ne 25, 3) := by decide +kernel
theorem dX13_next_64 : decode cX13_next 64 = .ok (.aload_n 0, 1) := by decide +kernel
theorem dX13_next_65 : decode cX13_next 65 = .ok (.getfield 307, 3) := by decide +kernel
theorem dX13_next_68 : decode cX13_next 68 = .ok (.bipush 10, 2) := by decide +kernel
theorem dX13_next_70 : decode cX13_next 70 = .ok (.iload 8, 2) := by decide +kernel
theorem dX13_next_72 : decode cX13_next 72 = .ok (.imul, 1) := by decide +kernel
theorem dX13_next_73 : decode cX13_next 73 = .ok (.iload 4, 2) := by decide +kernel
theorem dX13_next_75 : decode cX13_next 75 = .ok (.iadd, 1) := by decide +kernel
theorem dX13_next_76 : decode cX13_next 76 = .ok (.iaload, 1) := by decide +kernel
theorem dX13_next_77 : decode cX13_next 77 = .ok (.iload 6, 2) := by decide +kernel
theorem dX13_next_79 : decode cX13_next 79 = .ok (.if_icmp .ne 7, 3) := by decide +kernel
theorem dX13_next_82 : decode cX13_next 82 = .ok (.iconst 1, 1) := by decide +kernel
theorem dX13_next_83 : decode cX13_next 83 = .ok (.goto 4, 3) := by decide +kernel
theorem dX13_next_86 : decode cX13_next 86 = .ok (.iconst 0, 1) := by decide +kernel
theorem dX13_next_87 : decode cX13_next 87 = .ok (.iadd, 1) := by decide +kernel
theorem dX13_next_88 : decode cX13_next 88 = .ok (.istore 7, 2) := by decide +kernel
theorem dX13_next_90 : decode cX13_next 90 = .ok (.iinc 8 1, 3) := by decide +kernel
theorem dX13_next_93 : decode cX13_next 93 = .ok (.goto (-48), 3) := by decide +kernel
theorem dX13_next_96 : decode cX13_next 96 = .ok (.iload 5, 2) := by decide +kernel
theorem dX13_next_98 : decode cX13_next 98 = .ok (.iload 7, 2) := by decide +kernel
theorem dX13_next_100 : decode cX13_next 100 = .ok (.invokestatic 152, 3) := by decide +kernel
theorem dX13_next_103 : decode cX13_next 103 = .ok (.istore 5, 2) := by decide +kernel
theorem dX13_next_105 : decode cX13_next 105 = .ok (.iinc 6 1, 3) := by decide +kernel
theorem dX13_next_108 : decode cX13_next 108 = .ok (.goto (-75), 3) := by decide +kernel
theorem dX13_next_111 : decode cX13_next 111 = .ok (.iload 5, 2) := by decide +kernel
theorem dX13_next_113 : decode cX13_next 113 = .ok (.iload_n 3, 1) := by decide +kernel
theorem dX13_next_114 : decode cX13_next 114 = .ok (.if_icmp .lt 6, 3) := by decide +kernel
theorem dX13_next_117 : decode cX13_next 117 = .ok (.goto 9, 3) := by decide +kernel
theorem dX13_next_120 : decode cX13_next 120 = .ok (.iload 5, 2) := by decide +kernel
theorem dX13_next_122 : decode cX13_next 122 = .ok (.istore_n 3, 1) := by decide +kernel
theorem dX13_next_123 : decode cX13_next 123 = .ok (.iload 4, 2) := by decide +kernel
theorem dX13_next_125 : decode cX13_next 125 = .ok (.istore_n 2, 1) := by decide +kernel
theorem dX13_next_126 : decode cX13_next 126 = .ok (.iinc 4 1, 3) := by decide +kernel
theorem dX13_next_129 : decode cX13_next 129 = .ok (.goto (-111), 3) := by decide +kernel
theorem dX13_next_132 : decode cX13_next 132 = .ok (.iload_n 2, 1) := by decide +kernel
theorem dX13_next_133 : decode cX13_next 133 = .ok (.ireturn, 1) := by decide +kernel
set_option maxRecDepth 20000 in
theorem ggX13_next_X13_bits : GoodIn wsX13_next wsX13_bits := goodIn_r _ [110] rfl (by decide +kernel)
set_option maxRecDepth 20000 in
theorem gX13_next_X13_bits : GoodIn wsX13_next (va_wsS RX13 490 yX13_bits wsX13_bits) := goodIn_app (goodIn_of _ (by decide +kernel)) ggX13_next_X13_bits
set_option maxRecDepth 20000 in
theorem ggX13_next_X13_fitOf : GoodIn wsX13_next wsX13_fitOf := goodIn_r _ [11, 12, 2, 13, 14, 15, 16, 10, 17, 1, 18, 19, 20, 21, 22, 23, 24, 25, 26, 27, 28, 29, 30, 31, 32, 33, 34, 35, 36, 37, 38, 39, 40, 41, 42, 43, 44, 45, 5, 46, 3, 4, 6, 47, 48, 49, 50, 51, 52, 53, 54, 55, 56, 57, 58, 59, 60, 61, 62, 63, 64, 65, 66, 67, 68, 69, 70, 71, 72, 73, 74, 75, 76, 77, 78, 79, 80, 81, 82, 83, 84, 85, 86, 87, 88, 89, 90, 91, 92, 93, 94, 95, 96, 97, 98, 99, 100, 101, 102, 103, 104, 105, 106, 107, 111, 112, 113, 114, 115, 116, 117, 118, 119, 120, 121, 122, 123, 124, 125, 126, 127, 128, 129, 130, 131, 132, 133, 134, 135, 136, 137, 138, 139, 140, 141, 142, 143, 144, 145, 146, 147, 148, 149, 150, 151, 152, 153, 154, 155, 156, 157, 158, 159, 160, 161, 162, 163, 164, 165, 166, 167, 168, 169, 170, 171, 172, 173, 174, 175, 176, 177, 178, 179, 180, 181, 182, 183] rfl (by decide +kernel)
set_option maxRecDepth 20000 in
theorem gX13_next_X13_fitOf : GoodIn wsX13_next (wsV RX13 511 RX13 yX13_fitOf wsX13_fitOf) := goodIn_app (goodIn_of _ (by decide +kernel)) ggX13_next_X13_fitOf
set_option maxHeartbeats 4000000 in
set_option maxRecDepth 100000 in
theorem K_X13_next (l : Launch) (D : va_G) (m0 : Nat) (m_stop : Nat) (m_tape : Nat) (m_rule : Nat) (m_readRule : Nat) (m_teeth : Nat) (m_readTeeth : Nat) (m_sway : Nat) (m_readSway : Nat) (m_isTold : Nat) (m_markKind : Nat) (m_markValue : Nat) (m_marks : Nat) (m_pile : Nat) (m_height : Nat) (m_leftPass : Nat) (m_leftTurn : Nat) (m_leftTooth : Nat) (m_leftX : Nat) (m_kept : Nat) (m_keptWear : Nat) (m_now : Nat) (m_passed : Nat) (m_planTime : Nat) (m_planMany : Nat) (m_planned : Nat) (m_isQuiet : Nat) (m_keptTeeth : Nat) (m_jobRing : Nat) (m_jobSpeed : Nat) (m_jobFeed : Nat) (m_jobTurns : Nat) (m_orderRow : Nat) (m_bestRow : Nat) (m_orderTold : Nat) (m_offerRing : Nat) (m_offerSpeed : Nat) (m_offerFeed : Nat) (m_offerTurns : Nat) (m_heardOffer : Nat) (m_heardVerdict : Nat) (m_heardAt : Nat) (m_rightOf : Nat) (m_rightVerdict : Nat) (m_rightAt : Nat) (m_verdictOf : Nat) (m_sound : Nat) (m_readSound : Nat) (cI : ClassId) (sz : Nat) : Ki l yX13_next wsX13_next 4 109 0 0 D [.ref m0] [(m0, .inr (12, [.ref m_stop, .ref m_tape, .int 0, .int 0, .int 0, .int 0, .int 0, .int 0, .int 0, .int (-1), .ref m_rule, .ref m_readRule, .ref m_teeth, .ref m_readTeeth, .ref m_sway, .ref m_readSway, .ref m_isTold, .ref m_markKind, .ref m_markValue, .ref m_marks, .int 5, .int 0, .ref m_pile, .ref m_height, .ref m_leftPass, .ref m_leftTurn, .ref m_leftTooth, .ref m_leftX, .int 0, .int 0, .ref m_kept, .ref m_keptWear, .int 0, .ref m_now, .ref m_passed, .int 0, .int 0, .int 0, .ref m_planTime, .ref m_planMany, .ref m_planned, .ref m_isQuiet, .int 0, .int 0, .ref m_keptTeeth, .int 0, .int 0, .ref m_jobRing, .ref m_jobSpeed, .ref m_jobFeed, .ref m_jobTurns, .ref m_orderRow, .ref m_bestRow, .int 0, .ref m_orderTold, .int 0, .int 0, .int 0, .int 0, .ref m_offerRing, .ref m_offerSpeed, .ref m_offerFeed, .ref m_offerTurns, .ref m_heardOffer, .ref m_heardVerdict, .ref m_heardAt, .ref m_rightOf, .ref m_rightVerdict, .ref m_rightAt, .ref m_verdictOf, .ref m_sound, .ref m_readSound, .int 0])), (m_kept, .inl (cI, 672, .inl (fun _ => 0))), (m_height, .inl (cI, 96, .inl (fun _ => 1000))), (m_keptWear, .inl (cI, 7, .inl (fun _ => 0))), (m_rule, .inl (cI, 12, .inl gz_untold))] [(cI, .int)] sz (fun (r : Int32) (_ : Unit) => r = (-1)) (fun (_ : Unit) => []) (fun (_ : Unit) => [(cI, .int)]) := by
  unfold Ki
  refine g_ofW (cc := cX13_next) (lv := [(0, .ref m0)]) (by decide) rfl (Nat.le_of_ble_eq_true rfl) rfl ?_
  intro p e s m args below meth c A Q hA hQ F hr hnm
  have hts := F.2.2.2.2.1
  have w_0 : (Cond.fieldLink RX13 338 "QuietCutModel" "offers" "I").before args s = true := hts _ (List.mem_of_getElem? (i := 1) rfl)
  have i_X13 : ∀ w ∈ u_ws RX13 TX13 73, w ∈ wsX13_next := fun _ h => List.mem_cons_of_mem _ (List.mem_append_right _ h)
  refine g_aload_n F 0 dX13_next_0 rfl rfl ?_
  refine g_sipush F 999 dX13_next_1 (by decide) ?_
  refine g_callVi (k := 0) (n := 0) (b := m0) (As := [.int 999]) (st := []) (wc := [(m0, .inr (12, [.ref m_stop, .ref m_tape, .int 0, .int 0, .int 0, .int 0, .int 0, .int 0, .int 0, .int (-1), .ref m_rule, .ref m_readRule, .ref m_teeth, .ref m_readTeeth, .ref m_sway, .ref m_readSway, .ref m_isTold, .ref m_markKind, .ref m_markValue, .ref m_marks, .int 5, .int 0, .ref m_pile, .ref m_height, .ref m_leftPass, .ref m_leftTurn, .ref m_leftTooth, .ref m_leftX, .int 0, .int 0, .ref m_kept, .ref m_keptWear, .int 0, .ref m_now, .ref m_passed, .int 0, .int 0, .int 0, .ref m_planTime, .ref m_planMany, .ref m_planned, .ref m_isQuiet, .int 0, .int 0, .ref m_keptTeeth, .int 0, .int 0, .ref m_jobRing, .ref m_jobSpeed, .ref m_jobFeed, .ref m_jobTurns, .ref m_orderRow, .ref m_bestRow, .int 0, .ref m_orderTold, .int 0, .int 0, .int 0, .int 0, .ref m_offerRing, .ref m_offerSpeed, .ref m_offerFeed, .ref m_offerTurns, .ref m_heardOffer, .ref m_heardVerdict, .ref m_heardAt, .ref m_rightOf, .ref m_rightVerdict, .ref m_rightAt, .ref m_verdictOf, .ref m_sound, .ref m_readSound, .int 0])), (m_kept, .inl (cI, 672, .inl (fun _ => 0))), (m_height, .inl (cI, 96, .inl (fun _ => 1000))), (m_keptWear, .inl (cI, 7, .inl (fun _ => 0))), (m_rule, .inl (cI, 12, .inl gz_untold))]) (wr := []) F [0, 1, 2, 3, 4] [] [0] rfl rfl (by decide) rfl (by decide) (by decide) rfl (fun sz => K_X13_fitOf l D m0 m_stop m_tape m_rule m_readRule m_teeth m_readTeeth m_sway m_readSway m_isTold m_markKind m_markValue m_marks m_pile m_height m_leftPass m_leftTurn m_leftTooth m_leftX m_kept m_keptWear m_now m_passed m_planTime m_planMany m_planned m_isQuiet m_keptTeeth m_jobRing m_jobSpeed m_jobFeed m_jobTurns m_orderRow m_bestRow m_orderTold m_offerRing m_offerSpeed m_offerFeed m_offerTurns m_heardOffer m_heardVerdict m_heardAt m_rightOf m_rightVerdict m_rightAt m_verdictOf m_sound m_readSound cI 999  sz) (cwV 1 hts gX13_next_X13_fitOf rfl rfl rfl (by decide +kernel) ⟨Nat.le_of_ble_eq_true rfl, Nat.le_of_ble_eq_true rfl⟩) rfl 0 rfl rfl (Nat.le_of_ble_eq_true rfl) ⟨Nat.le_of_ble_eq_true rfl, Nat.le_of_ble_eq_true rfl⟩ dX13_next_4 (fun r_1 u_0 hw_2 => ?_)
  obtain ⟨g1_3, g2_3, g3_3, w_3⟩ := u_0
  have hw_2 : r_1 = 1 := hw_2
  have e_r_1 := hw_2
  show gG p l e (gR 4 0 0 109) s m args below meth c D A 9 Q 0 0 [(m0, .inr (12, [.ref m_stop, .ref m_tape, .int 0, .int 0, .int 0, .int 0, .int 0, .int 0, .int 0, .int (-1), .ref m_rule, .ref m_readRule, .ref m_teeth, .ref m_readTeeth, .ref m_sway, .ref m_readSway, .ref m_isTold, .ref m_markKind, .ref m_markValue, .ref m_marks, .int 5, .int 0, .ref m_pile, .ref m_height, .ref m_leftPass, .ref m_leftTurn, .ref m_leftTooth, .ref m_leftX, .int w_3, .int 0, .ref m_kept, .ref m_keptWear, .int 0, .ref m_now, .ref m_passed, .int 0, .int 0, .int 0, .ref m_planTime, .ref m_planMany, .ref m_planned, .ref m_isQuiet, .int 0, .int 0, .ref m_keptTeeth, .int 0, .int 0, .ref m_jobRing, .ref m_jobSpeed, .ref m_jobFeed, .ref m_jobTurns, .ref m_orderRow, .ref m_bestRow, .int 0, .ref m_orderTold, .int 0, .int 0, .int 0, .int 0, .ref m_offerRing, .ref m_offerSpeed, .ref m_offerFeed, .ref m_offerTurns, .ref m_heardOffer, .ref m_heardVerdict, .ref m_heardAt, .ref m_rightOf, .ref m_rightVerdict, .ref m_rightAt, .ref m_verdictOf, .ref m_sound, .ref m_readSound, .int 0])), (m_kept, .inl (cI, 672, .inl g1_3)), (m_height, .inl (cI, 96, .inl g2_3)), (m_keptWear, .inl (cI, 7, .inl g3_3)), (m_rule, .inl (cI, 12, .inl gz_untold))] [(cI, .int)] [(0, .ref m0)] 7 [.int r_1]
  refine g_fold 1 e_r_1 ?_
  refine g_istore_n F [(1, .int 1), (0, .ref m0)] dX13_next_7 rfl (by decide) rfl ?_
  refine g_iconst F (-1) dX13_next_8 (by decide) ?_
  refine g_istore_n F [(2, .int (-1)), (1, .int 1), (0, .ref m0)] dX13_next_9 rfl (by decide) rfl ?_
  refine g_iload_n F 1 dX13_next_10 rfl rfl ?_
  refine g_callSi (k := 0) (n := 0) (As := [.int 1]) (st := []) (wc := []) (wr := [(m0, .inr (12, [.ref m_stop, .ref m_tape, .int 0, .int 0, .int 0, .int 0, .int 0, .int 0, .int 0, .int (-1), .ref m_rule, .ref m_readRule, .ref m_teeth, .ref m_readTeeth, .ref m_sway, .ref m_readSway, .ref m_isTold, .ref m_markKind, .ref m_markValue, .ref m_marks, .int 5, .int 0, .ref m_pile, .ref m_height, .ref m_leftPass, .ref m_leftTurn, .ref m_leftTooth, .ref m_leftX, .int w_3, .int 0, .ref m_kept, .ref m_keptWear, .int 0, .ref m_now, .ref m_passed, .int 0, .int 0, .int 0, .ref m_planTime, .ref m_planMany, .ref m_planned, .ref m_isQuiet, .int 0, .int 0, .ref m_keptTeeth, .int 0, .int 0, .ref m_jobRing, .ref m_jobSpeed, .ref m_jobFeed, .ref m_jobTurns, .ref m_orderRow, .ref m_bestRow, .int 0, .ref m_orderTold, .int 0, .int 0, .int 0, .int 0, .ref m_offerRing, .ref m_offerSpeed, .ref m_offerFeed, .ref m_offerTurns, .ref m_heardOffer, .ref m_heardVerdict, .ref m_heardAt, .ref m_rightOf, .ref m_rightVerdict, .ref m_rightAt, .ref m_verdictOf, .ref m_sound, .ref m_readSound, .int 0])), (m_kept, .inl (cI, 672, .inl g1_3)), (m_height, .inl (cI, 96, .inl g2_3)), (m_keptWear, .inl (cI, 7, .inl g3_3)), (m_rule, .inl (cI, 12, .inl gz_untold))]) F [] [0, 1, 2, 3, 4] [] rfl rfl (by decide) rfl (by decide) (by decide) rfl (fun sz => K_X13_bits1 l D   sz) (va_cwS 1 hts gX13_next_X13_bits rfl rfl rfl (by decide +kernel) ⟨Nat.le_of_ble_eq_true rfl, Nat.le_of_ble_eq_true rfl⟩) rfl (Nat.le_of_ble_eq_true rfl) ⟨Nat.le_of_ble_eq_true rfl, Nat.le_of_ble_eq_true rfl⟩ dX13_next_11 (fun r_6 _ hw_7 => ?_)
  have hw_7 : r_6 = 1 := hw_7
  have e_r_6 := hw_7
  show gG p l e (gR 4 0 0 109) s m args below meth c D A 9 Q 0 0 [(m0, .inr (12, [.ref m_stop, .ref m_tape, .int 0, .int 0, .int 0, .int 0, .int 0, .int 0, .int 0, .int (-1), .ref m_rule, .ref m_readRule, .ref m_teeth, .ref m_readTeeth, .ref m_sway, .ref m_readSway, .ref m_isTold, .ref m_markKind, .ref m_markValue, .ref m_marks, .int 5, .int 0, .ref m_pile, .ref m_height, .ref m_leftPass, .ref m_leftTurn, .ref m_leftTooth, .ref m_leftX, .int w_3, .int 0, .ref m_kept, .ref m_keptWear, .int 0, .ref m_now, .ref m_passed, .int 0, .int 0, .int 0, .ref m_planTime, .ref m_planMany, .ref m_planned, .ref m_isQuiet, .int 0, .int 0, .ref m_keptTeeth, .int 0, .int 0, .ref m_jobRing, .ref m_jobSpeed, .ref m_jobFeed, .ref m_jobTurns, .ref m_orderRow, .ref m_bestRow, .int 0, .ref m_orderTold, .int 0, .int 0, .int 0, .int 0, .ref m_offerRing, .ref m_offerSpeed, .ref m_offerFeed, .ref m_offerTurns, .ref m_heardOffer, .ref m_heardVerdict, .ref m_heardAt, .ref m_rightOf, .ref m_rightVerdict, .ref m_rightAt, .ref m_verdictOf, .ref m_sound, .ref m_readSound, .int 0])), (m_kept, .inl (cI, 672, .inl g1_3)), (m_height, .inl (cI, 96, .inl g2_3)), (m_keptWear, .inl (cI, 7, .inl g3_3)), (m_rule, .inl (cI, 12, .inl gz_untold))] [(cI, .int)] [(2, .int (-1)), (1, .int 1), (0, .ref m0)] 14 [.int r_6]
  refine g_fold 1 e_r_6 ?_
  refine g_istore_n F [(3, .int 1), (2, .int (-1)), (1, .int 1), (0, .ref m0)] dX13_next_14 rfl (by decide) rfl ?_
  refine g_iconst F 0 dX13_next_15 (by decide) ?_
  refine g_istore F [(4, .int 0), (3, .int 1), (2, .int (-1)), (1, .int 1), (0, .ref m0)] dX13_next_16 (by decide) rfl ?_
  refine g_iload F 0 dX13_next_18 rfl ?_
  refine g_aload_n F 4 dX13_next_20 rfl rfl ?_
  refine g_get (C := RX13) (T := TX13) (N := 73) (v := .int 0) F i_X13 0 rfl rfl 55 (by decide) w_0 rfl rfl dX13_next_21 ?_
  refine g_icmp_ge F 132 dX13_next_24 (by decide) (fun c_24 => ?_) (fun h9 => absurd (by decide) h9) 
  refine g_iload_n F 2 dX13_next_132 rfl rfl ?_
  exact g_iret F hA hQ hr () (rfl) [] [0] rfl (by decide) rfl rfl dX13_next_133

theorem dX13_ringsOut_0 : decode cX13_ringsOut 0 = .ok (.iload_n 1, 1) := by decide +kernel
theorem dX13_ringsOut_1 : decode cX13_ringsOut 1 = .ok (.i2l, 1) := by decide +kernel
theorem dX13_ringsOut_2 : decode cX13_ringsOut 2 = .ok (.lconst 1, 1) := by decide +kernel
theorem dX13_ringsOut_3 : decode cX13_ringsOut 3 = .ok (.ldc2_w 520, 3) := by decide +kernel
theorem dX13_ringsOut_6 : decode cX13_ringsOut 6 = .ok (.invokestatic 61, 3) := by decide +kernel
theorem dX13_ringsOut_9 : decode cX13_ringsOut 9 = .ok (.ifCond .eq 39, 3) := by decide +kernel
theorem dX13_ringsOut_12 : decode cX13_ringsOut 12 = .ok (.iload_n 2, 1) := by decide +kernel
theorem dX13_ringsOut_13 : decode cX13_ringsOut 13 = .ok (.i2l, 1) := by decide +kernel
theorem dX13_ringsOut_14 : decode cX13_ringsOut 14 = .ok (.lconst 1, 1) := by decide +kernel
theorem dX13_ringsOut_15 : decode cX13_ringsOut 15 = .ok (.ldc2_w 520, 3) := by decide +kernel
theorem dX13_ringsOut_18 : decode cX13_ringsOut 18 = .ok (.invokestatic 61, 3) := by decide +kernel
theorem dX13_ringsOut_21 : decode cX13_ringsOut 21 = .ok (.ifCond .eq 27, 3) := by decide +kernel
theorem dX13_ringsOut_24 : decode cX13_ringsOut 24 = .ok (.iload_n 3, 1) := by decide +kernel
theorem dX13_ringsOut_25 : decode cX13_ringsOut 25 = .ok (.i2l, 1) := by decide +kernel
theorem dX13_ringsOut_26 : decode cX13_ringsOut 26 = .ok (.lconst 1, 1) := by decide +kernel
theorem dX13_ringsOut_27 : decode cX13_ringsOut 27 = .ok (.iload_n 2, 1) := by decide +kernel
theorem dX13_ringsOut_28 : decode cX13_ringsOut 28 = .ok (.i2l, 1) := by decide +kernel
theorem dX13_ringsOut_29 : decode cX13_ringsOut 29 = .ok (.invokestatic 61, 3) := by decide +kernel
theorem dX13_ringsOut_32 : decode cX13_ringsOut 32 = .ok (.ifCond .eq 16, 3) := by decide +kernel
theorem dX13_ringsOut_35 : decode cX13_ringsOut 35 = .ok (.iload 4, 2) := by decide +kernel
theorem dX13_ringsOut_37 : decode cX13_ringsOut 37 = .ok (.i2l, 1) := by decide +kernel
theorem dX13_ringsOut_38 : decode cX13_ringsOut 38 = .ok (.lconst 0, 1) := by decide +kernel
theorem dX13_ringsOut_39 : decode cX13_ringsOut 39 = .ok (.ldc2_w 522, 3) := by decide +kernel
theorem dX13_ringsOut_42 : decode cX13_ringsOut 42 = .ok (.invokestatic 61, 3) := by decide +kernel
theorem dX13_ringsOut_45 : decode cX13_ringsOut 45 = .ok (.ifCond .ne 6, 3) := by decide +kernel
theorem dX13_ringsOut_48 : decode cX13_ringsOut 48 = .ok (.bipush (-2), 2) := by decide +kernel
theorem dX13_ringsOut_50 : decode cX13_ringsOut 50 = .ok (.ireturn, 1) := by decide +kernel
theorem dX13_ringsOut_51 : decode cX13_ringsOut 51 = .ok (.iload_n 1, 1) := by decide +kernel
theorem dX13_ringsOut_52 : decode cX13_ringsOut 52 = .ok (.istore 5, 2) := by decide +kernel
theorem dX13_ringsOut_54 : decode cX13_ringsOut 54 = .ok (.iload 5, 2) := by decide +kernel
theorem dX13_ringsOut_56 : decode cX13_ringsOut 56 = .ok (.aload_n 0, 1) := by decide +kernel
theorem dX13_ringsOut_57 : decode cX13_ringsOut 57 = .ok (.getfield 517, 3) := by decide +kernel
theorem dX13_ringsOut_60 : decode cX13_ringsOut 60 = .ok (.if_icmp .ge 68, 3) := by decide +kernel
theorem dX13_ringsOut_63 : decode cX13_ringsOut 63 = .ok (.iconst 0, 1) := by decide +kernel
theorem dX13_ringsOut_64 : decode cX13_ringsOut 64 = .ok (.istore 6, 2) := by decide +kernel
theorem dX13_ringsOut_66 : decode cX13_ringsOut 66 = .ok (.iload_n 1, 1) := by decide +kernel
theorem dX13_ringsOut_67 : decode cX13_ringsOut 67 = .ok (.iload 5, 2) := by decide +kernel
theorem dX13_ringsOut_69 : decode cX13_ringsOut 69 = .ok (.iload_n 2, 1) := by decide +kernel
theorem dX13_ringsOut_70 : decode cX13_ringsOut 70 = .ok (.isub, 1) := by decide +kernel
theorem dX13_ringsOut_71 : decode cX13_ringsOut 71 = .ok (.iconst 1, 1) := by decide +kernel
theorem dX13_ringsOut_72 : decode cX13_ringsOut 72 = .ok (.iadd, 1) := by decide +kernel
theorem dX13_ringsOut_73 : decode cX13_ringsOut 73 = .ok (.invokestatic 152, 3) := by decide +kernel
theorem dX13_ringsOut_76 : decode cX13_ringsOut 76 = .ok (.istore 7, 2) := by decide +kernel
theorem dX13_ringsOut_78 : decode cX13_ringsOut 78 = .ok (.iload 7, 2) := by decide +kernel
theorem dX13_ringsOut_80 : decode cX13_ringsOut 80 = .ok (.iload 5, 2) := by decide +kernel
theorem dX13_ringsOut_82 : decode cX13_ringsOut 82 = .ok (.if_icmp .gt 31, 3) := by decide +kernel
theorem dX13_ringsOut_85 : decode cX13_ringsOut 85 = .ok (.iload 6, 2) := by decide +kernel
theorem dX13_ringsOut_87 : decode cX13_ringsOut 87 = .ok (.aload_n 0, 1) := by decide +kernel
theorem dX13_ringsOut_88 : decode cX13_ringsOut 88 = .ok (.iload 7, 2) := by decide +kernel
theorem dX13_ringsOut_90 : decode cX13_ringsOut 90 = .ok (.iload_n 1, 1) := by decide +kernel
theorem dX13_ringsOut_91 : decode cX13_ringsOut 91 = .ok (.invokevirtual 524, 3) := by decide +kernel
theorem dX13_ringsOut_94 : decode cX13_ringsOut 94 = .ok (.iload 4, 2) := by decide +kernel
theorem dX13_ringsOut_96 : decode cX13_ringsOut 96 = .ok (.if_icmp .le 7, 3) := by decide +kernel
theorem dX13_ringsOut_99 : decode cX13_ringsOut 99 = .ok (.iconst 1, 1) := by decide +kernel
theorem dX13_ringsOut_100 : decode cX13_ringsOut 100 = .ok (.goto 4, 3) := by decide +kernel
theorem dX13_ringsOut_103 : decode cX13_ringsOut 103 = .ok (.iconst 0, 1) := by decide +kernel
theorem dX13_ringsOut_104 : decode cX13_ringsOut 104 = .ok (.iadd, 1) := by decide +kernel
theorem dX13_ringsOut_105 : decode cX13_ringsOut 105 = .ok (.istore 6, 2) := by decide +kernel
theorem dX13_ringsOut_107 : decode cX13_ringsOut 107 = .ok (.iinc 7 1, 3) := by decide +kernel
theorem dX13_ringsOut_110 : decode cX13_ringsOut 110 = .ok (.goto (-32), 3) := by decide +kernel
theorem dX13_ringsOut_113 : decode cX13_ringsOut 113 = .ok (.iload 6, 2) := by decide +kernel
theorem dX13_ringsOut_115 : decode cX13_ringsOut 115 = .ok (.iload_n 3, 1) := by decide +kernel
theorem dX13_ringsOut_116 : decode cX13_ringsOut 116 = .ok (.if_icmp .lt 6, 3) := by decide +kernel
theorem dX13_ringsOut_119 : decode cX13_ringsOut 119 = .ok (.iload 5, 2) := by decide +kernel
theorem dX13_ringsOut_121 : decode cX13_ringsOut 121 = .ok (.ireturn, 1) := by decide +kernel
theorem dX13_ringsOut_122 : decode cX13_ringsOut 122 = .ok (.iinc 5 1, 3) := by decide +kernel
theorem dX13_ringsOut_125 : decode cX13_ringsOut 125 = .ok (.goto (-71), 3) := by decide +kernel
theorem dX13_ringsOut_128 : decode cX13_ringsOut 128 = .ok (.iconst (-1), 1) := by decide +kernel
theorem dX13_ringsOut_129 : decode cX13_ringsOut 129 = .ok (.ireturn, 1) := by decide +kernel
set_option maxRecDepth 20000 in
theorem ggX13_ringsOut_X13_in : GoodIn wsX13_ringsOut wsX13_in := goodIn_r _ [11] rfl (by decide +kernel)
set_option maxRecDepth 20000 in
theorem gX13_ringsOut_X13_in : GoodIn wsX13_ringsOut (va_wsS RX13 61 yX13_in wsX13_in) := goodIn_app (goodIn_of _ (by decide +kernel)) ggX13_ringsOut_X13_in
set_option maxHeartbeats 4000000 in
set_option maxRecDepth 100000 in
theorem K_X13_ringsOut (l : Launch) (D : va_G) (m0 : Nat) (m_stop : Nat) (m_tape : Nat) (m_rule : Nat) (m_readRule : Nat) (m_teeth : Nat) (m_readTeeth : Nat) (m_sway : Nat) (m_readSway : Nat) (m_isTold : Nat) (m_markKind : Nat) (m_markValue : Nat) (m_marks : Nat) (m_pile : Nat) (m_height : Nat) (m_leftPass : Nat) (m_leftTurn : Nat) (m_leftTooth : Nat) (m_leftX : Nat) (m_kept : Nat) (m_keptWear : Nat) (m_now : Nat) (m_passed : Nat) (m_planTime : Nat) (m_planMany : Nat) (m_planned : Nat) (m_isQuiet : Nat) (m_keptTeeth : Nat) (m_jobRing : Nat) (m_jobSpeed : Nat) (m_jobFeed : Nat) (m_jobTurns : Nat) (m_orderRow : Nat) (m_bestRow : Nat) (m_orderTold : Nat) (m_offerRing : Nat) (m_offerSpeed : Nat) (m_offerFeed : Nat) (m_offerTurns : Nat) (m_heardOffer : Nat) (m_heardVerdict : Nat) (m_heardAt : Nat) (m_rightOf : Nat) (m_rightVerdict : Nat) (m_rightAt : Nat) (m_verdictOf : Nat) (m_sound : Nat) (m_readSound : Nat) (a : Int32) (b : Int32) (d : Int32) (h : Int32) (sz : Nat) : Ki l yX13_ringsOut wsX13_ringsOut 2 55 0 0 D [.ref m0, .int a, .int b, .int d, .int h] [(m0, .inr (12, [.ref m_stop, .ref m_tape, .int 0, .int 0, .int 0, .int 0, .int 0, .int 0, .int 0, .int (-1), .ref m_rule, .ref m_readRule, .ref m_teeth, .ref m_readTeeth, .ref m_sway, .ref m_readSway, .ref m_isTold, .ref m_markKind, .ref m_markValue, .ref m_marks, .int 5, .int 0, .ref m_pile, .ref m_height, .ref m_leftPass, .ref m_leftTurn, .ref m_leftTooth, .ref m_leftX, .int 0, .int 0, .ref m_kept, .ref m_keptWear, .int 0, .ref m_now, .ref m_passed, .int 0, .int 0, .int 0, .ref m_planTime, .ref m_planMany, .ref m_planned, .ref m_isQuiet, .int 0, .int 0, .ref m_keptTeeth, .int 0, .int 0, .ref m_jobRing, .ref m_jobSpeed, .ref m_jobFeed, .ref m_jobTurns, .ref m_orderRow, .ref m_bestRow, .int 0, .ref m_orderTold, .int 0, .int 0, .int 0, .int 0, .ref m_offerRing, .ref m_offerSpeed, .ref m_offerFeed, .ref m_offerTurns, .ref m_heardOffer, .ref m_heardVerdict, .ref m_heardAt, .ref m_rightOf, .ref m_rightVerdict, .ref m_rightAt, .ref m_verdictOf, .ref m_sound, .ref m_readSound, .int 0]))] [] sz (fun (r : Int32) (_ : Unit) => r = (if 1 ≤ a ∧ a ≤ 60 ∧ 1 ≤ b ∧ b ≤ 60 ∧ 1 ≤ d ∧ d ≤ b ∧ 0 ≤ h ∧ h ≤ 9999 then (-1) else (-2))) (fun (_ : Unit) => [(m0, .inr (12, [.ref m_stop, .ref m_tape, .int 0, .int 0, .int 0, .int 0, .int 0, .int 0, .int 0, .int (-1), .ref m_rule, .ref m_readRule, .ref m_teeth, .ref m_readTeeth, .ref m_sway, .ref m_readSway, .ref m_isTold, .ref m_markKind, .ref m_markValue, .ref m_marks, .int 5, .int 0, .ref m_pile, .ref m_height, .ref m_leftPass, .ref m_leftTurn, .ref m_leftTooth, .ref m_leftX, .int 0, .int 0, .ref m_kept, .ref m_keptWear, .int 0, .ref m_now, .ref m_passed, .int 0, .int 0, .int 0, .ref m_planTime, .ref m_planMany, .ref m_planned, .ref m_isQuiet, .int 0, .int 0, .ref m_keptTeeth, .int 0, .int 0, .ref m_jobRing, .ref m_jobSpeed, .ref m_jobFeed, .ref m_jobTurns, .ref m_orderRow, .ref m_bestRow, .int 0, .ref m_orderTold, .int 0, .int 0, .int 0, .int 0, .ref m_offerRing, .ref m_offerSpeed, .ref m_offerFeed, .ref m_offerTurns, .ref m_heardOffer, .ref m_heardVerdict, .ref m_heardAt, .ref m_rightOf, .ref m_rightVerdict, .ref m_rightAt, .ref m_verdictOf, .ref m_sound, .ref m_readSound, .int 0]))]) (fun (_ : Unit) => []) := by
  unfold Ki
  refine g_ofW (cc := cX13_ringsOut) (lv := [(0, .ref m0), (1, .int a), (2, .int b), (3, .int d), (4, .int h)]) (by decide) rfl (Nat.le_of_ble_eq_true rfl) rfl ?_
  intro p e s m args below meth c A Q hA hQ F hr hnm
  have hts := F.2.2.2.2.1
  have w_0 : (Cond.constantLong RX13 520 (60)).before args s = true := hts _ (List.mem_of_getElem? (i := 1) rfl)
  have w_1 : (Cond.constantLong RX13 522 (9999)).before args s = true := hts _ (List.mem_of_getElem? (i := 2) rfl)
  have w_2 : (Cond.fieldLink RX13 517 "QuietCutModel" "sounds" "I").before args s = true := hts _ (List.mem_of_getElem? (i := 3) rfl)
  have i_X13 : ∀ w ∈ u_ws RX13 TX13 73, w ∈ wsX13_ringsOut := fun _ h => List.mem_cons_of_mem _ (List.mem_append_right _ h)
  refine g_iload_n F 1 dX13_ringsOut_0 rfl rfl ?_
  refine g_i2l F dX13_ringsOut_1 ?_
  refine g_lconst F 1 dX13_ringsOut_2 (by decide) ?_
  refine g_ldc2 F w_0 dX13_ringsOut_3 ?_
  refine g_callSi (k := 0) (n := 0) (As := [.long a.toInt64, .long 1, .long 60]) (st := []) (wc := []) (wr := [(m0, .inr (12, [.ref m_stop, .ref m_tape, .int 0, .int 0, .int 0, .int 0, .int 0, .int 0, .int 0, .int (-1), .ref m_rule, .ref m_readRule, .ref m_teeth, .ref m_readTeeth, .ref m_sway, .ref m_readSway, .ref m_isTold, .ref m_markKind, .ref m_markValue, .ref m_marks, .int 5, .int 0, .ref m_pile, .ref m_height, .ref m_leftPass, .ref m_leftTurn, .ref m_leftTooth, .ref m_leftX, .int 0, .int 0, .ref m_kept, .ref m_keptWear, .int 0, .ref m_now, .ref m_passed, .int 0, .int 0, .int 0, .ref m_planTime, .ref m_planMany, .ref m_planned, .ref m_isQuiet, .int 0, .int 0, .ref m_keptTeeth, .int 0, .int 0, .ref m_jobRing, .ref m_jobSpeed, .ref m_jobFeed, .ref m_jobTurns, .ref m_orderRow, .ref m_bestRow, .int 0, .ref m_orderTold, .int 0, .int 0, .int 0, .int 0, .ref m_offerRing, .ref m_offerSpeed, .ref m_offerFeed, .ref m_offerTurns, .ref m_heardOffer, .ref m_heardVerdict, .ref m_heardAt, .ref m_rightOf, .ref m_rightVerdict, .ref m_rightAt, .ref m_verdictOf, .ref m_sound, .ref m_readSound, .int 0]))]) F [] [0] [] rfl rfl (by decide) rfl (by decide) (by decide) rfl (fun sz => K_X13_in l D a.toInt64 1 60  sz) (va_cwS 3 hts gX13_ringsOut_X13_in rfl rfl rfl (by decide +kernel) ⟨Nat.le_of_ble_eq_true rfl, Nat.le_of_ble_eq_true rfl⟩) rfl (Nat.le_of_ble_eq_true rfl) ⟨Nat.le_of_ble_eq_true rfl, Nat.le_of_ble_eq_true rfl⟩ dX13_ringsOut_6 (fun r_1 _ hw_2 => ?_)
  have hw_2 : r_1 = (if 1 ≤ a.toInt64 ∧ a.toInt64 ≤ 60 then 1 else 0) := hw_2
  have e_r_1 := hw_2
  show gG p l e (gR 2 0 0 55) s m args below meth c D A 8 Q 0 0 [(m0, .inr (12, [.ref m_stop, .ref m_tape, .int 0, .int 0, .int 0, .int 0, .int 0, .int 0, .int 0, .int (-1), .ref m_rule, .ref m_readRule, .ref m_teeth, .ref m_readTeeth, .ref m_sway, .ref m_readSway, .ref m_isTold, .ref m_markKind, .ref m_markValue, .ref m_marks, .int 5, .int 0, .ref m_pile, .ref m_height, .ref m_leftPass, .ref m_leftTurn, .ref m_leftTooth, .ref m_leftX, .int 0, .int 0, .ref m_kept, .ref m_keptWear, .int 0, .ref m_now, .ref m_passed, .int 0, .int 0, .int 0, .ref m_planTime, .ref m_planMany, .ref m_planned, .ref m_isQuiet, .int 0, .int 0, .ref m_keptTeeth, .int 0, .int 0, .ref m_jobRing, .ref m_jobSpeed, .ref m_jobFeed, .ref m_jobTurns, .ref m_orderRow, .ref m_bestRow, .int 0, .ref m_orderTold, .int 0, .int 0, .int 0, .int 0, .ref m_offerRing, .ref m_offerSpeed, .ref m_offerFeed, .ref m_offerTurns, .ref m_heardOffer, .ref m_heardVerdict, .ref m_heardAt, .ref m_rightOf, .ref m_rightVerdict, .ref m_rightAt, .ref m_verdictOf, .ref m_sound, .ref m_readSound, .int 0]))] [] [(0, .ref m0), (1, .int a), (2, .int b), (3, .int d), (4, .int h)] 9 [.int r_1]
  refine g_fold (if 1 ≤ a.toInt64 ∧ a.toInt64 ≤ 60 then 1 else 0) e_r_1 ?_
  refine g_fold (if 1 ≤ a ∧ a ≤ 60 then 1 else 0) (gl_in a 1 60 _ _ (by decide) (by decide)) ?_
  refine g_if_eq F 48 dX13_ringsOut_9 (by decide) (fun c_9 => ?_) (fun c_9 => ?_)
  · have c_9 := gb_0 c_9
    refine g_bipush F (-2) dX13_ringsOut_48 (by decide) ?_
    exact g_iret F hA hQ hr () (by first | exact (gi_e (by (simp only [Int32.lt_iff_toInt_lt, Int32.le_iff_toInt_le, ← Int32.toInt_inj, Int32.reduceToInt] at c_9 ⊢; omega)) rfl)) [0] [] rfl (by decide) rfl rfl dX13_ringsOut_50
  · have c_9 := gb_n0 c_9
    refine g_iload_n F 2 dX13_ringsOut_12 rfl rfl ?_
    refine g_i2l F dX13_ringsOut_13 ?_
    refine g_lconst F 1 dX13_ringsOut_14 (by decide) ?_
    refine g_ldc2 F w_0 dX13_ringsOut_15 ?_
    refine g_callSi (k := 0) (n := 0) (As := [.long b.toInt64, .long 1, .long 60]) (st := []) (wc := []) (wr := [(m0, .inr (12, [.ref m_stop, .ref m_tape, .int 0, .int 0, .int 0, .int 0, .int 0, .int 0, .int 0, .int (-1), .ref m_rule, .ref m_readRule, .ref m_teeth, .ref m_readTeeth, .ref m_sway, .ref m_readSway, .ref m_isTold, .ref m_markKind, .ref m_markValue, .ref m_marks, .int 5, .int 0, .ref m_pile, .ref m_height, .ref m_leftPass, .ref m_leftTurn, .ref m_leftTooth, .ref m_leftX, .int 0, .int 0, .ref m_kept, .ref m_keptWear, .int 0, .ref m_now, .ref m_passed, .int 0, .int 0, .int 0, .ref m_planTime, .ref m_planMany, .ref m_planned, .ref m_isQuiet, .int 0, .int 0, .ref m_keptTeeth, .int 0, .int 0, .ref m_jobRing, .ref m_jobSpeed, .ref m_jobFeed, .ref m_jobTurns, .ref m_orderRow, .ref m_bestRow, .int 0, .ref m_orderTold, .int 0, .int 0, .int 0, .int 0, .ref m_offerRing, .ref m_offerSpeed, .ref m_offerFeed, .ref m_offerTurns, .ref m_heardOffer, .ref m_heardVerdict, .ref m_heardAt, .ref m_rightOf, .ref m_rightVerdict, .ref m_rightAt, .ref m_verdictOf, .ref m_sound, .ref m_readSound, .int 0]))]) F [] [0] [] rfl rfl (by decide) rfl (by decide) (by decide) rfl (fun sz => K_X13_in l D b.toInt64 1 60  sz) (va_cwS 3 hts gX13_ringsOut_X13_in rfl rfl rfl (by decide +kernel) ⟨Nat.le_of_ble_eq_true rfl, Nat.le_of_ble_eq_true rfl⟩) rfl (Nat.le_of_ble_eq_true rfl) ⟨Nat.le_of_ble_eq_true rfl, Nat.le_of_ble_eq_true rfl⟩ dX13_ringsOut_18 (fun r_6 _ hw_7 => ?_)
    have hw_7 : r_6 = (if 1 ≤ b.toInt64 ∧ b.toInt64 ≤ 60 then 1 else 0) := hw_7
    have e_r_6 := hw_7
    show gG p l e (gR 2 0 0 55) s m args below meth c D A 8 Q 0 0 [(m0, .inr (12, [.ref m_stop, .ref m_tape, .int 0, .int 0, .int 0, .int 0, .int 0, .int 0, .int 0, .int (-1), .ref m_rule, .ref m_readRule, .ref m_teeth, .ref m_readTeeth, .ref m_sway, .ref m_readSway, .ref m_isTold, .ref m_markKind, .ref m_markValue, .ref m_marks, .int 5, .int 0, .ref m_pile, .ref m_height, .ref m_leftPass, .ref m_leftTurn, .ref m_leftTooth, .ref m_leftX, .int 0, .int 0, .ref m_kept, .ref m_keptWear, .int 0, .ref m_now, .ref m_passed, .int 0, .int 0, .int 0, .ref m_planTime, .ref m_planMany, .ref m_planned, .ref m_isQuiet, .int 0, .int 0, .ref m_keptTeeth, .int 0, .int 0, .ref m_jobRing, .ref m_jobSpeed, .ref m_jobFeed, .ref m_jobTurns, .ref m_orderRow, .ref m_bestRow, .int 0, .ref m_orderTold, .int 0, .int 0, .int 0, .int 0, .ref m_offerRing, .ref m_offerSpeed, .ref m_offerFeed, .ref m_offerTurns, .ref m_heardOffer, .ref m_heardVerdict, .ref m_heardAt, .ref m_rightOf, .ref m_rightVerdict, .ref m_rightAt, .ref m_verdictOf, .ref m_sound, .ref m_readSound, .int 0]))] [] [(0, .ref m0), (1, .int a), (2, .int b), (3, .int d), (4, .int h)] 21 [.int r_6]
    refine g_fold (if 1 ≤ b.toInt64 ∧ b.toInt64 ≤ 60 then 1 else 0) e_r_6 ?_
    refine g_fold (if 1 ≤ b ∧ b ≤ 60 then 1 else 0) (gl_in b 1 60 _ _ (by decide) (by decide)) ?_
    refine g_if_eq F 48 dX13_ringsOut_21 (by decide) (fun c_21 => ?_) (fun c_21 => ?_)
    · have c_21 := gb_0 c_21
      refine g_bipush F (-2) dX13_ringsOut_48 (by decide) ?_
      exact g_iret F hA hQ hr () (by first | exact (gi_e (by (simp only [Int32.lt_iff_toInt_lt, Int32.le_iff_toInt_le, ← Int32.toInt_inj, Int32.reduceToInt] at c_9 c_21 ⊢; omega)) rfl)) [0] [] rfl (by decide) rfl rfl dX13_ringsOut_50
    · have c_21 := gb_n0 c_21
      refine g_iload_n F 3 dX13_ringsOut_24 rfl rfl ?_
      refine g_i2l F dX13_ringsOut_25 ?_
      refine g_lconst F 1 dX13_ringsOut_26 (by decide) ?_
      refine g_iload_n F 2 dX13_ringsOut_27 rfl rfl ?_
      refine g_i2l F dX13_ringsOut_28 ?_
      refine g_callSi (k := 0) (n := 0) (As := [.long d.toInt64, .long 1, .long b.toInt64]) (st := []) (wc := []) (wr := [(m0, .inr (12, [.ref m_stop, .ref m_tape, .int 0, .int 0, .int 0, .int 0, .int 0, .int 0, .int 0, .int (-1), .ref m_rule, .ref m_readRule, .ref m_teeth, .ref m_readTeeth, .ref m_sway, .ref m_readSway, .ref m_isTold, .ref m_markKind, .ref m_markValue, .ref m_marks, .int 5, .int 0, .ref m_pile, .ref m_height, .ref m_leftPass, .ref m_leftTurn, .ref m_leftTooth, .ref m_leftX, .int 0, .int 0, .ref m_kept, .ref m_keptWear, .int 0, .ref m_now, .ref m_passed, .int 0, .int 0, .int 0, .ref m_planTime, .ref m_planMany, .ref m_planned, .ref m_isQuiet, .int 0, .int 0, .ref m_keptTeeth, .int 0, .int 0, .ref m_jobRing, .ref m_jobSpeed, .ref m_jobFeed, .ref m_jobTurns, .ref m_orderRow, .ref m_bestRow, .int 0, .ref m_orderTold, .int 0, .int 0, .int 0, .int 0, .ref m_offerRing, .ref m_offerSpeed, .ref m_offerFeed, .ref m_offerTurns, .ref m_heardOffer, .ref m_heardVerdict, .ref m_heardAt, .ref m_rightOf, .ref m_rightVerdict, .ref m_rightAt, .ref m_verdictOf, .ref m_sound, .ref m_readSound, .int 0]))]) F [] [0] [] rfl rfl (by decide) rfl (by decide) (by decide) rfl (fun sz => K_X13_in l D d.toInt64 1 b.toInt64  sz) (va_cwS 3 hts gX13_ringsOut_X13_in rfl rfl rfl (by decide +kernel) ⟨Nat.le_of_ble_eq_true rfl, Nat.le_of_ble_eq_true rfl⟩) rfl (Nat.le_of_ble_eq_true rfl) ⟨Nat.le_of_ble_eq_true rfl, Nat.le_of_ble_eq_true rfl⟩ dX13_ringsOut_29 (fun r_11 _ hw_12 => ?_)
      have hw_12 : r_11 = (if 1 ≤ d.toInt64 ∧ d.toInt64 ≤ b.toInt64 then 1 else 0) := hw_12
      have e_r_11 := hw_12
      show gG p l e (gR 2 0 0 55) s m args below meth c D A 8 Q 0 0 [(m0, .inr (12, [.ref m_stop, .ref m_tape, .int 0, .int 0, .int 0, .int 0, .int 0, .int 0, .int 0, .int (-1), .ref m_rule, .ref m_readRule, .ref m_teeth, .ref m_readTeeth, .ref m_sway, .ref m_readSway, .ref m_isTold, .ref m_markKind, .ref m_markValue, .ref m_marks, .int 5, .int 0, .ref m_pile, .ref m_height, .ref m_leftPass, .ref m_leftTurn, .ref m_leftTooth, .ref m_leftX, .int 0, .int 0, .ref m_kept, .ref m_keptWear, .int 0, .ref m_now, .ref m_passed, .int 0, .int 0, .int 0, .ref m_planTime, .ref m_planMany, .ref m_planned, .ref m_isQuiet, .int 0, .int 0, .ref m_keptTeeth, .int 0, .int 0, .ref m_jobRing, .ref m_jobSpeed, .ref m_jobFeed, .ref m_jobTurns, .ref m_orderRow, .ref m_bestRow, .int 0, .ref m_orderTold, .int 0, .int 0, .int 0, .int 0, .ref m_offerRing, .ref m_offerSpeed, .ref m_offerFeed, .ref m_offerTurns, .ref m_heardOffer, .ref m_heardVerdict, .ref m_heardAt, .ref m_rightOf, .ref m_rightVerdict, .ref m_rightAt, .ref m_verdictOf, .ref m_sound, .ref m_readSound, .int 0]))] [] [(0, .ref m0), (1, .int a), (2, .int b), (3, .int d), (4, .int h)] 32 [.int r_11]
      refine g_fold (if 1 ≤ d.toInt64 ∧ d.toInt64 ≤ b.toInt64 then 1 else 0) e_r_11 ?_
      refine g_fold (if 1 ≤ d ∧ d ≤ b then 1 else 0) (gl_in d 1 b _ _ (by decide) (Int32.toInt_toInt64 _)) ?_
      refine g_if_eq F 48 dX13_ringsOut_32 (by decide) (fun c_32 => ?_) (fun c_32 => ?_)
      · have c_32 := gb_0 c_32
        refine g_bipush F (-2) dX13_ringsOut_48 (by decide) ?_
        exact g_iret F hA hQ hr () (by first | exact (gi_e (by (simp only [Int32.lt_iff_toInt_lt, Int32.le_iff_toInt_le, ← Int32.toInt_inj, Int32.reduceToInt] at c_9 c_21 c_32 ⊢; omega)) rfl)) [0] [] rfl (by decide) rfl rfl dX13_ringsOut_50
      · have c_32 := gb_n0 c_32
        refine g_iload F 4 dX13_ringsOut_35 rfl ?_
        refine g_i2l F dX13_ringsOut_37 ?_
        refine g_lconst F 0 dX13_ringsOut_38 (by decide) ?_
        refine g_ldc2 F w_1 dX13_ringsOut_39 ?_
        refine g_callSi (k := 0) (n := 0) (As := [.long h.toInt64, .long 0, .long 9999]) (st := []) (wc := []) (wr := [(m0, .inr (12, [.ref m_stop, .ref m_tape, .int 0, .int 0, .int 0, .int 0, .int 0, .int 0, .int 0, .int (-1), .ref m_rule, .ref m_readRule, .ref m_teeth, .ref m_readTeeth, .ref m_sway, .ref m_readSway, .ref m_isTold, .ref m_markKind, .ref m_markValue, .ref m_marks, .int 5, .int 0, .ref m_pile, .ref m_height, .ref m_leftPass, .ref m_leftTurn, .ref m_leftTooth, .ref m_leftX, .int 0, .int 0, .ref m_kept, .ref m_keptWear, .int 0, .ref m_now, .ref m_passed, .int 0, .int 0, .int 0, .ref m_planTime, .ref m_planMany, .ref m_planned, .ref m_isQuiet, .int 0, .int 0, .ref m_keptTeeth, .int 0, .int 0, .ref m_jobRing, .ref m_jobSpeed, .ref m_jobFeed, .ref m_jobTurns, .ref m_orderRow, .ref m_bestRow, .int 0, .ref m_orderTold, .int 0, .int 0, .int 0, .int 0, .ref m_offerRing, .ref m_offerSpeed, .ref m_offerFeed, .ref m_offerTurns, .ref m_heardOffer, .ref m_heardVerdict, .ref m_heardAt, .ref m_rightOf, .ref m_rightVerdict, .ref m_rightAt, .ref m_verdictOf, .ref m_sound, .ref m_readSound, .int 0]))]) F [] [0] [] rfl rfl (by decide) rfl (by decide) (by decide) rfl (fun sz => K_X13_in l D h.toInt64 0 9999  sz) (va_cwS 3 hts gX13_ringsOut_X13_in rfl rfl rfl (by decide +kernel) ⟨Nat.le_of_ble_eq_true rfl, Nat.le_of_ble_eq_true rfl⟩) rfl (Nat.le_of_ble_eq_true rfl) ⟨Nat.le_of_ble_eq_true rfl, Nat.le_of_ble_eq_true rfl⟩ dX13_ringsOut_42 (fun r_16 _ hw_17 => ?_)
        have hw_17 : r_16 = (if 0 ≤ h.toInt64 ∧ h.toInt64 ≤ 9999 then 1 else 0) := hw_17
        have e_r_16 := hw_17
        show gG p l e (gR 2 0 0 55) s m args below meth c D A 8 Q 0 0 [(m0, .inr (12, [.ref m_stop, .ref m_tape, .int 0, .int 0, .int 0, .int 0, .int 0, .int 0, .int 0, .int (-1), .ref m_rule, .ref m_readRule, .ref m_teeth, .ref m_readTeeth, .ref m_sway, .ref m_readSway, .ref m_isTold, .ref m_markKind, .ref m_markValue, .ref m_marks, .int 5, .int 0, .ref m_pile, .ref m_height, .ref m_leftPass, .ref m_leftTurn, .ref m_leftTooth, .ref m_leftX, .int 0, .int 0, .ref m_kept, .ref m_keptWear, .int 0, .ref m_now, .ref m_passed, .int 0, .int 0, .int 0, .ref m_planTime, .ref m_planMany, .ref m_planned, .ref m_isQuiet, .int 0, .int 0, .ref m_keptTeeth, .int 0, .int 0, .ref m_jobRing, .ref m_jobSpeed, .ref m_jobFeed, .ref m_jobTurns, .ref m_orderRow, .ref m_bestRow, .int 0, .ref m_orderTold, .int 0, .int 0, .int 0, .int 0, .ref m_offerRing, .ref m_offerSpeed, .ref m_offerFeed, .ref m_offerTurns, .ref m_heardOffer, .ref m_heardVerdict, .ref m_heardAt, .ref m_rightOf, .ref m_rightVerdict, .ref m_rightAt, .ref m_verdictOf, .ref m_sound, .ref m_readSound, .int 0]))] [] [(0, .ref m0), (1, .int a), (2, .int b), (3, .int d), (4, .int h)] 45 [.int r_16]
        refine g_fold (if 0 ≤ h.toInt64 ∧ h.toInt64 ≤ 9999 then 1 else 0) e_r_16 ?_
        refine g_fold (if 0 ≤ h ∧ h ≤ 9999 then 1 else 0) (gl_in h 0 9999 _ _ (by decide) (by decide)) ?_
        refine g_if_ne F 51 dX13_ringsOut_45 (by decide) (fun c_45 => ?_) (fun c_45 => ?_)
        · have c_45 := gb_n0 c_45
          refine g_iload_n F 1 dX13_ringsOut_51 rfl rfl ?_
          refine g_istore F [(5, .int a), (0, .ref m0), (1, .int a), (2, .int b), (3, .int d), (4, .int h)] dX13_ringsOut_52 (by decide) rfl ?_
          refine g_iload F 0 dX13_ringsOut_54 rfl ?_
          refine g_aload_n F 1 dX13_ringsOut_56 rfl rfl ?_
          refine g_get (C := RX13) (T := TX13) (N := 73) (v := .int 0) F i_X13 0 rfl rfl 72 (by decide) w_2 rfl rfl dX13_ringsOut_57 ?_
          refine g_icmp_ge F 128 dX13_ringsOut_60 (by decide) (fun c_60 => ?_) (fun h9 => absurd (by (simp only [Int32.lt_iff_toInt_lt, Int32.le_iff_toInt_le, ← Int32.toInt_inj, Int32.reduceToInt] at c_9 ⊢; omega)) h9) 
          refine g_iconst F (-1) dX13_ringsOut_128 (by decide) ?_
          exact g_iret F hA hQ hr () (by first | exact (gi_p (by (simp only [Int32.lt_iff_toInt_lt, Int32.le_iff_toInt_le, ← Int32.toInt_inj, Int32.reduceToInt] at c_9 c_21 c_32 c_45 c_60 ⊢; omega)) rfl)) [0] [] rfl (by decide) rfl rfl dX13_ringsOut_129
        · have c_45 := gb_0 c_45
          refine g_bipush F (-2) dX13_ringsOut_48 (by decide) ?_
          exact g_iret F hA hQ hr () (by first | exact (gi_e (by (simp only [Int32.lt_iff_toInt_lt, Int32.le_iff_toInt_le, ← Int32.toInt_inj, Int32.reduceToInt] at c_9 c_21 c_32 c_45 ⊢; omega)) rfl)) [0] [] rfl (by decide) rfl rfl dX13_ringsOut_50

theorem dX13_forced_0 : decode cX13_forced 0 = .ok (.iload_n 1, 1) := by decide +kernel
theorem dX13_forced_1 : decode cX13_forced 1 = .ok (.i2l, 1) := by decide +kernel
theorem dX13_forced_2 : decode cX13_forced 2 = .ok (.lconst 1, 1) := by decide +kernel
theorem dX13_forced_3 : decode cX13_forced 3 = .ok (.ldc2_w 520, 3) := by decide +kernel
theorem dX13_forced_6 : decode cX13_forced 6 = .ok (.invokestatic 61, 3) := by decide +kernel
theorem dX13_forced_9 : decode cX13_forced 9 = .ok (.ifCond .ne 6, 3) := by decide +kernel
theorem dX13_forced_12 : decode cX13_forced 12 = .ok (.bipush (-2), 2) := by decide +kernel
theorem dX13_forced_14 : decode cX13_forced 14 = .ok (.ireturn, 1) := by decide +kernel
theorem dX13_forced_15 : decode cX13_forced 15 = .ok (.aload_n 0, 1) := by decide +kernel
theorem dX13_forced_16 : decode cX13_forced 16 = .ok (.getfield 517, 3) := by decide +kernel
theorem dX13_forced_19 : decode cX13_forced 19 = .ok (.iload_n 1, 1) := by decide +kernel
theorem dX13_forced_20 : decode cX13_forced 20 = .ok (.if_icmp .gt 5, 3) := by decide +kernel
theorem dX13_forced_23 : decode cX13_forced 23 = .ok (.iconst (-1), 1) := by decide +kernel
theorem dX13_forced_24 : decode cX13_forced 24 = .ok (.ireturn, 1) := by decide +kernel
theorem dX13_forced_25 : decode cX13_forced 25 = .ok (.iconst 0, 1) := by decide +kernel
theorem dX13_forced_26 : decode cX13_forced 26 = .ok (.istore_n 2, 1) := by decide +kernel
theorem dX13_forced_27 : decode cX13_forced 27 = .ok (.iconst 0, 1) := by decide +kernel
theorem dX13_forced_28 : decode cX13_forced 28 = .ok (.istore_n 3, 1) := by decide +kernel
theorem dX13_forced_29 : decode cX13_forced 29 = .ok (.iload_n 1, 1) := by decide +kernel
theorem dX13_forced_30 : decode cX13_forced 30 = .ok (.istore 4, 2) := by decide +kernel
theorem dX13_forced_32 : decode cX13_forced 32 = .ok (.iload 4, 2) := by decide +kernel
theorem dX13_forced_34 : decode cX13_forced 34 = .ok (.aload_n 0, 1) := by decide +kernel
theorem dX13_forced_35 : decode cX13_forced 35 = .ok (.getfield 517, 3) := by decide +kernel
theorem dX13_forced_38 : decode cX13_forced 38 = .ok (.if_icmp .ge 32, 3) := by decide +kernel
theorem dX13_forced_41 : decode cX13_forced 41 = .ok (.iload_n 2, 1) := by decide +kernel
theorem dX13_forced_42 : decode cX13_forced 42 = .ok (.aload_n 0, 1) := by decide +kernel
theorem dX13_forced_43 : decode cX13_forced 43 = .ok (.iload 4, 2) := by decide +kernel
theorem dX13_forced_45 : decode cX13_forced 45 = .ok (.iload_n 1, 1) := by decide +kernel
theorem dX13_forced_46 : decode cX13_forced 46 = .ok (.invokevirtual 524, 3) := by decide +kernel
theorem dX13_forced_49 : decode cX13_forced 49 = .ok (.iadd, 1) := by decide +kernel
theorem dX13_forced_50 : decode cX13_forced 50 = .ok (.istore_n 2, 1) := by decide +kernel
theorem dX13_forced_51 : decode cX13_forced 51 = .ok (.iload_n 3, 1) := by decide +kernel
theorem dX13_forced_52 : decode cX13_forced 52 = .ok (.aload_n 0, 1) := by decide +kernel
theorem dX13_forced_53 : decode cX13_forced 53 = .ok (.getfield 310, 3) := by decide +kernel
theorem dX13_forced_56 : decode cX13_forced 56 = .ok (.iload 4, 2) := by decide +kernel
theorem dX13_forced_58 : decode cX13_forced 58 = .ok (.iaload, 1) := by decide +kernel
theorem dX13_forced_59 : decode cX13_forced 59 = .ok (.invokestatic 409, 3) := by decide +kernel
theorem dX13_forced_62 : decode cX13_forced 62 = .ok (.iadd, 1) := by decide +kernel
theorem dX13_forced_63 : decode cX13_forced 63 = .ok (.istore_n 3, 1) := by decide +kernel
theorem dX13_forced_64 : decode cX13_forced 64 = .ok (.iinc 4 1, 3) := by decide +kernel
theorem dX13_forced_67 : decode cX13_forced 67 = .ok (.goto (-35), 3) := by decide +kernel
theorem dX13_forced_70 : decode cX13_forced 70 = .ok (.iconst 2, 1) := by decide +kernel
theorem dX13_forced_71 : decode cX13_forced 71 = .ok (.iload_n 2, 1) := by decide +kernel
theorem dX13_forced_72 : decode cX13_forced 72 = .ok (.imul, 1) := by decide +kernel
theorem dX13_forced_73 : decode cX13_forced 73 = .ok (.iload_n 3, 1) := by decide +kernel
theorem dX13_forced_74 : decode cX13_forced 74 = .ok (.if_icmp .gt 7, 3) := by decide +kernel
theorem dX13_forced_77 : decode cX13_forced 77 = .ok (.iconst 1, 1) := by decide +kernel
theorem dX13_forced_78 : decode cX13_forced 78 = .ok (.goto 4, 3) := by decide +kernel
theorem dX13_forced_81 : decode cX13_forced 81 = .ok (.iconst 0, 1) := by decide +kernel
theorem dX13_forced_82 : decode cX13_forced 82 = .ok (.ireturn, 1) := by decide +kernel
set_option maxRecDepth 20000 in
theorem ggX13_forced_X13_in : GoodIn wsX13_forced wsX13_in := goodIn_r _ [11] rfl (by decide +kernel)
set_option maxRecDepth 20000 in
theorem gX13_forced_X13_in : GoodIn wsX13_forced (va_wsS RX13 61 yX13_in wsX13_in) := goodIn_app (goodIn_of _ (by decide +kernel)) ggX13_forced_X13_in
set_option maxHeartbeats 4000000 in
set_option maxRecDepth 100000 in
theorem K_X13_forced (l : Launch) (D : va_G) (m0 : Nat) (m_stop : Nat) (m_tape : Nat) (m_rule : Nat) (m_readRule : Nat) (m_teeth : Nat) (m_readTeeth : Nat) (m_sway : Nat) (m_readSway : Nat) (m_isTold : Nat) (m_markKind : Nat) (m_markValue : Nat) (m_marks : Nat) (m_pile : Nat) (m_height : Nat) (m_leftPass : Nat) (m_leftTurn : Nat) (m_leftTooth : Nat) (m_leftX : Nat) (m_kept : Nat) (m_keptWear : Nat) (m_now : Nat) (m_passed : Nat) (m_planTime : Nat) (m_planMany : Nat) (m_planned : Nat) (m_isQuiet : Nat) (m_keptTeeth : Nat) (m_jobRing : Nat) (m_jobSpeed : Nat) (m_jobFeed : Nat) (m_jobTurns : Nat) (m_orderRow : Nat) (m_bestRow : Nat) (m_orderTold : Nat) (m_offerRing : Nat) (m_offerSpeed : Nat) (m_offerFeed : Nat) (m_offerTurns : Nat) (m_heardOffer : Nat) (m_heardVerdict : Nat) (m_heardAt : Nat) (m_rightOf : Nat) (m_rightVerdict : Nat) (m_rightAt : Nat) (m_verdictOf : Nat) (m_sound : Nat) (m_readSound : Nat) (a : Int32) (sz : Nat) : Ki l yX13_forced wsX13_forced 2 55 0 0 D [.ref m0, .int a] [(m0, .inr (12, [.ref m_stop, .ref m_tape, .int 0, .int 0, .int 0, .int 0, .int 0, .int 0, .int 0, .int (-1), .ref m_rule, .ref m_readRule, .ref m_teeth, .ref m_readTeeth, .ref m_sway, .ref m_readSway, .ref m_isTold, .ref m_markKind, .ref m_markValue, .ref m_marks, .int 5, .int 0, .ref m_pile, .ref m_height, .ref m_leftPass, .ref m_leftTurn, .ref m_leftTooth, .ref m_leftX, .int 0, .int 0, .ref m_kept, .ref m_keptWear, .int 0, .ref m_now, .ref m_passed, .int 0, .int 0, .int 0, .ref m_planTime, .ref m_planMany, .ref m_planned, .ref m_isQuiet, .int 0, .int 0, .ref m_keptTeeth, .int 0, .int 0, .ref m_jobRing, .ref m_jobSpeed, .ref m_jobFeed, .ref m_jobTurns, .ref m_orderRow, .ref m_bestRow, .int 0, .ref m_orderTold, .int 0, .int 0, .int 0, .int 0, .ref m_offerRing, .ref m_offerSpeed, .ref m_offerFeed, .ref m_offerTurns, .ref m_heardOffer, .ref m_heardVerdict, .ref m_heardAt, .ref m_rightOf, .ref m_rightVerdict, .ref m_rightAt, .ref m_verdictOf, .ref m_sound, .ref m_readSound, .int 0]))] [] sz (fun (r : Int32) (_ : Unit) => r = (if 1 ≤ a ∧ a ≤ 60 then (-1) else (-2))) (fun (_ : Unit) => [(m0, .inr (12, [.ref m_stop, .ref m_tape, .int 0, .int 0, .int 0, .int 0, .int 0, .int 0, .int 0, .int (-1), .ref m_rule, .ref m_readRule, .ref m_teeth, .ref m_readTeeth, .ref m_sway, .ref m_readSway, .ref m_isTold, .ref m_markKind, .ref m_markValue, .ref m_marks, .int 5, .int 0, .ref m_pile, .ref m_height, .ref m_leftPass, .ref m_leftTurn, .ref m_leftTooth, .ref m_leftX, .int 0, .int 0, .ref m_kept, .ref m_keptWear, .int 0, .ref m_now, .ref m_passed, .int 0, .int 0, .int 0, .ref m_planTime, .ref m_planMany, .ref m_planned, .ref m_isQuiet, .int 0, .int 0, .ref m_keptTeeth, .int 0, .int 0, .ref m_jobRing, .ref m_jobSpeed, .ref m_jobFeed, .ref m_jobTurns, .ref m_orderRow, .ref m_bestRow, .int 0, .ref m_orderTold, .int 0, .int 0, .int 0, .int 0, .ref m_offerRing, .ref m_offerSpeed, .ref m_offerFeed, .ref m_offerTurns, .ref m_heardOffer, .ref m_heardVerdict, .ref m_heardAt, .ref m_rightOf, .ref m_rightVerdict, .ref m_rightAt, .ref m_verdictOf, .ref m_sound, .ref m_readSound, .int 0]))]) (fun (_ : Unit) => []) := by
  unfold Ki
  refine g_ofW (cc := cX13_forced) (lv := [(0, .ref m0), (1, .int a)]) (by decide) rfl (Nat.le_of_ble_eq_true rfl) rfl ?_
  intro p e s m args below meth c A Q hA hQ F hr hnm
  have hts := F.2.2.2.2.1
  have w_0 : (Cond.constantLong RX13 520 (60)).before args s = true := hts _ (List.mem_of_getElem? (i := 1) rfl)
  have w_1 : (Cond.fieldLink RX13 517 "QuietCutModel" "sounds" "I").before args s = true := hts _ (List.mem_of_getElem? (i := 2) rfl)
  have i_X13 : ∀ w ∈ u_ws RX13 TX13 73, w ∈ wsX13_forced := fun _ h => List.mem_cons_of_mem _ (List.mem_append_right _ h)
  refine g_iload_n F 1 dX13_forced_0 rfl rfl ?_
  refine g_i2l F dX13_forced_1 ?_
  refine g_lconst F 1 dX13_forced_2 (by decide) ?_
  refine g_ldc2 F w_0 dX13_forced_3 ?_
  refine g_callSi (k := 0) (n := 0) (As := [.long a.toInt64, .long 1, .long 60]) (st := []) (wc := []) (wr := [(m0, .inr (12, [.ref m_stop, .ref m_tape, .int 0, .int 0, .int 0, .int 0, .int 0, .int 0, .int 0, .int (-1), .ref m_rule, .ref m_readRule, .ref m_teeth, .ref m_readTeeth, .ref m_sway, .ref m_readSway, .ref m_isTold, .ref m_markKind, .ref m_markValue, .ref m_marks, .int 5, .int 0, .ref m_pile, .ref m_height, .ref m_leftPass, .ref m_leftTurn, .ref m_leftTooth, .ref m_leftX, .int 0, .int 0, .ref m_kept, .ref m_keptWear, .int 0, .ref m_now, .ref m_passed, .int 0, .int 0, .int 0, .ref m_planTime, .ref m_planMany, .ref m_planned, .ref m_isQuiet, .int 0, .int 0, .ref m_keptTeeth, .int 0, .int 0, .ref m_jobRing, .ref m_jobSpeed, .ref m_jobFeed, .ref m_jobTurns, .ref m_orderRow, .ref m_bestRow, .int 0, .ref m_orderTold, .int 0, .int 0, .int 0, .int 0, .ref m_offerRing, .ref m_offerSpeed, .ref m_offerFeed, .ref m_offerTurns, .ref m_heardOffer, .ref m_heardVerdict, .ref m_heardAt, .ref m_rightOf, .ref m_rightVerdict, .ref m_rightAt, .ref m_verdictOf, .ref m_sound, .ref m_readSound, .int 0]))]) F [] [0] [] rfl rfl (by decide) rfl (by decide) (by decide) rfl (fun sz => K_X13_in l D a.toInt64 1 60  sz) (va_cwS 3 hts gX13_forced_X13_in rfl rfl rfl (by decide +kernel) ⟨Nat.le_of_ble_eq_true rfl, Nat.le_of_ble_eq_true rfl⟩) rfl (Nat.le_of_ble_eq_true rfl) ⟨Nat.le_of_ble_eq_true rfl, Nat.le_of_ble_eq_true rfl⟩ dX13_forced_6 (fun r_1 _ hw_2 => ?_)
  have hw_2 : r_1 = (if 1 ≤ a.toInt64 ∧ a.toInt64 ≤ 60 then 1 else 0) := hw_2
  have e_r_1 := hw_2
  show gG p l e (gR 2 0 0 55) s m args below meth c D A 5 Q 0 0 [(m0, .inr (12, [.ref m_stop, .ref m_tape, .int 0, .int 0, .int 0, .int 0, .int 0, .int 0, .int 0, .int (-1), .ref m_rule, .ref m_readRule, .ref m_teeth, .ref m_readTeeth, .ref m_sway, .ref m_readSway, .ref m_isTold, .ref m_markKind, .ref m_markValue, .ref m_marks, .int 5, .int 0, .ref m_pile, .ref m_height, .ref m_leftPass, .ref m_leftTurn, .ref m_leftTooth, .ref m_leftX, .int 0, .int 0, .ref m_kept, .ref m_keptWear, .int 0, .ref m_now, .ref m_passed, .int 0, .int 0, .int 0, .ref m_planTime, .ref m_planMany, .ref m_planned, .ref m_isQuiet, .int 0, .int 0, .ref m_keptTeeth, .int 0, .int 0, .ref m_jobRing, .ref m_jobSpeed, .ref m_jobFeed, .ref m_jobTurns, .ref m_orderRow, .ref m_bestRow, .int 0, .ref m_orderTold, .int 0, .int 0, .int 0, .int 0, .ref m_offerRing, .ref m_offerSpeed, .ref m_offerFeed, .ref m_offerTurns, .ref m_heardOffer, .ref m_heardVerdict, .ref m_heardAt, .ref m_rightOf, .ref m_rightVerdict, .ref m_rightAt, .ref m_verdictOf, .ref m_sound, .ref m_readSound, .int 0]))] [] [(0, .ref m0), (1, .int a)] 9 [.int r_1]
  refine g_fold (if 1 ≤ a.toInt64 ∧ a.toInt64 ≤ 60 then 1 else 0) e_r_1 ?_
  refine g_fold (if 1 ≤ a ∧ a ≤ 60 then 1 else 0) (gl_in a 1 60 _ _ (by decide) (by decide)) ?_
  refine g_if_ne F 15 dX13_forced_9 (by decide) (fun c_9 => ?_) (fun c_9 => ?_)
  · have c_9 := gb_n0 c_9
    refine g_aload_n F 0 dX13_forced_15 rfl rfl ?_
    refine g_get (C := RX13) (T := TX13) (N := 73) (v := .int 0) F i_X13 0 rfl rfl 72 (by decide) w_1 rfl rfl dX13_forced_16 ?_
    refine g_iload_n F 1 dX13_forced_19 rfl rfl ?_
    refine g_icmp_gt F 25 dX13_forced_20 (by decide) (fun h9 => absurd h9 (by (simp only [Int32.lt_iff_toInt_lt, Int32.le_iff_toInt_le, ← Int32.toInt_inj, Int32.reduceToInt] at c_9 ⊢; omega))) (fun c_20 => ?_)
    refine g_iconst F (-1) dX13_forced_23 (by decide) ?_
    exact g_iret F hA hQ hr () (by first | exact (gi_p (by (simp only [Int32.lt_iff_toInt_lt, Int32.le_iff_toInt_le, ← Int32.toInt_inj, Int32.reduceToInt] at c_9 c_20 ⊢; omega)) rfl)) [0] [] rfl (by decide) rfl rfl dX13_forced_24
  · have c_9 := gb_0 c_9
    refine g_bipush F (-2) dX13_forced_12 (by decide) ?_
    exact g_iret F hA hQ hr () (by first | exact (gi_e (by (simp only [Int32.lt_iff_toInt_lt, Int32.le_iff_toInt_le, ← Int32.toInt_inj, Int32.reduceToInt] at c_9 ⊢; omega)) rfl)) [0] [] rfl (by decide) rfl rfl dX13_forced_14
